theorem dX8_week_0 : decode cX8_week 0 = .ok (.aload_n 0, 1) := by decide +kernel
theorem dX8_week_1 : decode cX8_week 1 = .ok (.bipush 9, 2) := by decide +kernel
theorem dX8_week_3 : decode cX8_week 3 = .ok (.iconst 0, 1) := by decide +kernel
theorem dX8_week_4 : decode cX8_week 4 = .ok (.iastore, 1) := by decide +kernel
theorem dX8_week_5 : decode cX8_week 5 = .ok (.iconst 0, 1) := by decide +kernel
theorem dX8_week_6 : decode cX8_week 6 = .ok (.istore_n 1, 1) := by decide +kernel
theorem dX8_week_7 : decode cX8_week 7 = .ok (.iload_n 1, 1) := by decide +kernel
theorem dX8_week_8 : decode cX8_week 8 = .ok (.aload_n 0, 1) := by decide +kernel
theorem dX8_week_9 : decode cX8_week 9 = .ok (.iconst 4, 1) := by decide +kernel
theorem dX8_week_10 : decode cX8_week 10 = .ok (.iaload, 1) := by decide +kernel
theorem dX8_week_11 : decode cX8_week 11 = .ok (.if_icmp .ge 29, 3) := by decide +kernel
theorem dX8_week_14 : decode cX8_week 14 = .ok (.aload_n 0, 1) := by decide +kernel
theorem dX8_week_15 : decode cX8_week 15 = .ok (.bipush 8, 2) := by decide +kernel
theorem dX8_week_17 : decode cX8_week 17 = .ok (.iaload, 1) := by decide +kernel
theorem dX8_week_18 : decode cX8_week 18 = .ok (.ifCond .ne 22, 3) := by decide +kernel
theorem dX8_week_21 : decode cX8_week 21 = .ok (.aload_n 0, 1) := by decide +kernel
theorem dX8_week_22 : decode cX8_week 22 = .ok (.iload_n 1, 1) := by decide +kernel
theorem dX8_week_23 : decode cX8_week 23 = .ok (.invokestatic 157, 3) := by decide +kernel
theorem dX8_week_26 : decode cX8_week 26 = .ok (.ifCond .ne 8, 3) := by decide +kernel
theorem dX8_week_29 : decode cX8_week 29 = .ok (.aload_n 0, 1) := by decide +kernel
theorem dX8_week_30 : decode cX8_week 30 = .ok (.iload_n 1, 1) := by decide +kernel
theorem dX8_week_31 : decode cX8_week 31 = .ok (.invokestatic 161, 3) := by decide +kernel
theorem dX8_week_34 : decode cX8_week 34 = .ok (.iinc 1 1, 3) := by decide +kernel
theorem dX8_week_37 : decode cX8_week 37 = .ok (.goto (-30), 3) := by decide +kernel
theorem dX8_week_40 : decode cX8_week 40 = .ok (.iconst 0, 1) := by decide +kernel
theorem dX8_week_41 : decode cX8_week 41 = .ok (.istore_n 1, 1) := by decide +kernel
theorem dX8_week_42 : decode cX8_week 42 = .ok (.iload_n 1, 1) := by decide +kernel
theorem dX8_week_43 : decode cX8_week 43 = .ok (.aload_n 0, 1) := by decide +kernel
theorem dX8_week_44 : decode cX8_week 44 = .ok (.iconst 4, 1) := by decide +kernel
theorem dX8_week_45 : decode cX8_week 45 = .ok (.iaload, 1) := by decide +kernel
theorem dX8_week_46 : decode cX8_week 46 = .ok (.if_icmp .ge 29, 3) := by decide +kernel
theorem dX8_week_49 : decode cX8_week 49 = .ok (.aload_n 0, 1) := by decide +kernel
theorem dX8_week_50 : decode cX8_week 50 = .ok (.bipush 7, 2) := by decide +kernel
theorem dX8_week_52 : decode cX8_week 52 = .ok (.iaload, 1) := by decide +kernel
theorem dX8_week_53 : decode cX8_week 53 = .ok (.ifCond .ne 22, 3) := by decide +kernel
theorem dX8_week_56 : decode cX8_week 56 = .ok (.aload_n 0, 1) := by decide +kernel
theorem dX8_week_57 : decode cX8_week 57 = .ok (.iload_n 1, 1) := by decide +kernel
theorem dX8_week_58 : decode cX8_week 58 = .ok (.invokestatic 157, 3) := by decide +kernel
theorem dX8_week_61 : decode cX8_week 61 = .ok (.ifCond .ne 8, 3) := by decide +kernel
theorem dX8_week_64 : decode cX8_week 64 = .ok (.aload_n 0, 1) := by decide +kernel
theorem dX8_week_65 : decode cX8_week 65 = .ok (.iload_n 1, 1) := by decide +kernel
theorem dX8_week_66 : decode cX8_week 66 = .ok (.invokestatic 165, 3) := by decide +kernel
theorem dX8_week_69 : decode cX8_week 69 = .ok (.iinc 1 1, 3) := by decide +kernel
theorem dX8_week_72 : decode cX8_week 72 = .ok (.goto (-30), 3) := by decide +kernel
theorem dX8_week_75 : decode cX8_week 75 = .ok (.aload_n 0, 1) := by decide +kernel
theorem dX8_week_76 : decode cX8_week 76 = .ok (.bipush 7, 2) := by decide +kernel
theorem dX8_week_78 : decode cX8_week 78 = .ok (.dup2, 1) := by decide +kernel
theorem dX8_week_79 : decode cX8_week 79 = .ok (.iaload, 1) := by decide +kernel
theorem dX8_week_80 : decode cX8_week 80 = .ok (.aload_n 0, 1) := by decide +kernel
theorem dX8_week_81 : decode cX8_week 81 = .ok (.bipush 7, 2) := by decide +kernel
theorem dX8_week_83 : decode cX8_week 83 = .ok (.iaload, 1) := by decide +kernel
theorem dX8_week_84 : decode cX8_week 84 = .ok (.ifCond .le 7, 3) := by decide +kernel
theorem dX8_week_87 : decode cX8_week 87 = .ok (.iconst 1, 1) := by decide +kernel
theorem dX8_week_88 : decode cX8_week 88 = .ok (.goto 4, 3) := by decide +kernel
theorem dX8_week_91 : decode cX8_week 91 = .ok (.iconst 0, 1) := by decide +kernel
theorem dX8_week_92 : decode cX8_week 92 = .ok (.isub, 1) := by decide +kernel
theorem dX8_week_93 : decode cX8_week 93 = .ok (.iastore, 1) := by decide +kernel
theorem dX8_week_94 : decode cX8_week 94 = .ok (.aload_n 0, 1) := by decide +kernel
theorem dX8_week_95 : decode cX8_week 95 = .ok (.iconst 5, 1) := by decide +kernel
theorem dX8_week_96 : decode cX8_week 96 = .ok (.dup2, 1) := by decide +kernel
theorem dX8_week_97 : decode cX8_week 97 = .ok (.iaload, 1) := by decide +kernel
theorem dX8_week_98 : decode cX8_week 98 = .ok (.iconst 1, 1) := by decide +kernel
theorem dX8_week_99 : decode cX8_week 99 = .ok (.iadd, 1) := by decide +kernel
theorem dX8_week_100 : decode cX8_week 100 = .ok (.iastore, 1) := by decide +kernel
theorem dX8_week_101 : decode cX8_week 101 = .ok (.aload_n 0, 1) := by decide +kernel
theorem dX8_week_102 : decode cX8_week 102 = .ok (.iconst 5, 1) := by decide +kernel
theorem dX8_week_103 : decode cX8_week 103 = .ok (.iaload, 1) := by decide +kernel
theorem dX8_week_104 : decode cX8_week 104 = .ok (.aload_n 0, 1) := by decide +kernel
theorem dX8_week_105 : decode cX8_week 105 = .ok (.iconst 3, 1) := by decide +kernel
theorem dX8_week_106 : decode cX8_week 106 = .ok (.iaload, 1) := by decide +kernel
theorem dX8_week_107 : decode cX8_week 107 = .ok (.irem, 1) := by decide +kernel
theorem dX8_week_108 : decode cX8_week 108 = .ok (.ifCond .ne 36, 3) := by decide +kernel
theorem dX8_week_111 : decode cX8_week 111 = .ok (.aload_n 0, 1) := by decide +kernel
theorem dX8_week_112 : decode cX8_week 112 = .ok (.iconst 1, 1) := by decide +kernel
theorem dX8_week_113 : decode cX8_week 113 = .ok (.dup2, 1) := by decide +kernel
theorem dX8_week_114 : decode cX8_week 114 = .ok (.iaload, 1) := by decide +kernel
theorem dX8_week_115 : decode cX8_week 115 = .ok (.aload_n 0, 1) := by decide +kernel
theorem dX8_week_116 : decode cX8_week 116 = .ok (.bipush 6, 2) := by decide +kernel
theorem dX8_week_118 : decode cX8_week 118 = .ok (.iaload, 1) := by decide +kernel
theorem dX8_week_119 : decode cX8_week 119 = .ok (.isub, 1) := by decide +kernel
theorem dX8_week_120 : decode cX8_week 120 = .ok (.iastore, 1) := by decide +kernel
theorem dX8_week_121 : decode cX8_week 121 = .ok (.aload_n 0, 1) := by decide +kernel
theorem dX8_week_122 : decode cX8_week 122 = .ok (.bipush 6, 2) := by decide +kernel
theorem dX8_week_124 : decode cX8_week 124 = .ok (.iconst 0, 1) := by decide +kernel
theorem dX8_week_125 : decode cX8_week 125 = .ok (.iastore, 1) := by decide +kernel
theorem dX8_week_126 : decode cX8_week 126 = .ok (.aload_n 0, 1) := by decide +kernel
theorem dX8_week_127 : decode cX8_week 127 = .ok (.bipush 8, 2) := by decide +kernel
theorem dX8_week_129 : decode cX8_week 129 = .ok (.aload_n 0, 1) := by decide +kernel
theorem dX8_week_130 : decode cX8_week 130 = .ok (.iconst 1, 1) := by decide +kernel
theorem dX8_week_131 : decode cX8_week 131 = .ok (.iaload, 1) := by decide +kernel
theorem dX8_week_132 : decode cX8_week 132 = .ok (.ifCond .ge 7, 3) := by decide +kernel
theorem dX8_week_135 : decode cX8_week 135 = .ok (.iconst 1, 1) := by decide +kernel
theorem dX8_week_136 : decode cX8_week 136 = .ok (.goto 7, 3) := by decide +kernel
theorem dX8_week_139 : decode cX8_week 139 = .ok (.aload_n 0, 1) := by decide +kernel
theorem dX8_week_140 : decode cX8_week 140 = .ok (.bipush 8, 2) := by decide +kernel
theorem dX8_week_142 : decode cX8_week 142 = .ok (.iaload, 1) := by decide +kernel
theorem dX8_week_143 : decode cX8_week 143 = .ok (.iastore, 1) := by decide +kernel
theorem dX8_week_144 : decode cX8_week 144 = .ok (.return_, 1) := by decide +kernel
def bX8_week_0 : List sx_S := [si_al 0, si_const (nI 9), si_const 0, si_iast, si_const 0, si_is 1, si_go 7 [true, true]]
def bX8_week_7 : List sx_S := [si_il 1, si_al 0, si_const (nI 4), si_iald, si_if2 (fun x y => y ≤ x) 40 [true, false], si_al 0, si_const (nI 8), si_iald, si_if1 (fun x => ¬ x = 0) 40 [true, false], si_al 0, si_il 1, si_cs 148 2 0 0 0 0, si_if1 (fun x => ¬ x = 0) 34 [true, true], si_al 0, si_il 1, si_cs 150 2 0 0 0 0, si_go 34 [true, true]]
def bX8_week_34 : List sx_S := [si_inc 1 1, si_go 7 [true, true]]
def bX8_week_40 : List sx_S := [si_const 0, si_is 1, si_go 42 [true, true]]
def bX8_week_42 : List sx_S := [si_il 1, si_al 0, si_const (nI 4), si_iald, si_if2 (fun x y => y ≤ x) 75 [true, false], si_al 0, si_const (nI 7), si_iald, si_if1 (fun x => ¬ x = 0) 75 [true, false], si_al 0, si_il 1, si_cs 148 2 0 0 0 0, si_if1 (fun x => ¬ x = 0) 69 [true, true], si_al 0, si_il 1, si_cs 152 2 0 0 0 0, si_go 69 [true, true]]
def bX8_week_69 : List sx_S := [si_inc 1 1, si_go 42 [true, true]]
def bX8_week_75 : List sx_S := [si_al 0, si_const (nI 7), si_dup2, si_iald, si_al 0, si_const (nI 7), si_iald, si_if1 (fun x => x ≤ 0) 91 [true, false], si_const 1, si_go 92 [true, false]]
def bX8_week_91 : List sx_S := [si_const 0, si_go 92 [true, false]]
def bX8_week_92 : List sx_S := [si_bin (fun x y => x - y), si_iast, si_al 0, si_const (nI 5), si_dup2, si_iald, si_const 1, si_bin (fun x y => x + y), si_iast, si_al 0, si_const (nI 5), si_iald, si_al 0, si_const (nI 3), si_iald, si_div (fun x y => x - x / y * y), si_if1 (fun x => ¬ x = 0) 144 [false, false], si_al 0, si_const 1, si_dup2, si_iald, si_al 0, si_const (nI 6), si_iald, si_bin (fun x y => x - y), si_iast, si_al 0, si_const (nI 6), si_const 0, si_iast, si_al 0, si_const (nI 8), si_al 0, si_const 1, si_iald, si_if1 (fun x => 0 ≤ x) 139 [true, false], si_const 1, si_go 143 [false, false]]
def bX8_week_139 : List sx_S := [si_al 0, si_const (nI 8), si_iald, si_go 143 [false, false]]
def bX8_week_143 : List sx_S := [si_iast, si_go 144 [false, false]]
def bX8_week_144 : List sx_S := [si_rv]
def BX8_week : Nat → List sx_S := fun pc => if pc = 0 then bX8_week_0 else if pc = 7 then bX8_week_7 else if pc = 34 then bX8_week_34 else if pc = 40 then bX8_week_40 else if pc = 42 then bX8_week_42 else if pc = 69 then bX8_week_69 else if pc = 75 then bX8_week_75 else if pc = 91 then bX8_week_91 else if pc = 92 then bX8_week_92 else if pc = 139 then bX8_week_139 else if pc = 143 then bX8_week_143 else if pc = 144 then bX8_week_144 else []
set_option maxRecDepth 20000 in
theorem kX8_week_0 : sx_BK sx_tb yX8_week.cls cX8_week 2 (none) ({ frames := 3, cells := 0, slots := 0, locals := 68 } : Room) false false 0 (fun _ => 0) 0 (bX8_week_0) := ⟨_, ⟨sn_aload_n dX8_week_0 rfl, sm_al _⟩, ⟨_, ⟨sn_bipush dX8_week_1 (by decide +kernel), sm_const _⟩, ⟨_, ⟨sn_iconst dX8_week_3 (by decide +kernel), sm_const _⟩, ⟨_, ⟨sn_iast dX8_week_4, sm_iast⟩, ⟨_, ⟨sn_iconst dX8_week_5 (by decide +kernel), sm_const _⟩, ⟨_, ⟨sn_istore_n dX8_week_6 rfl (Nat.le_of_ble_eq_true rfl), sm_is _⟩, ⟨_, ⟨sn_fall (len := 0) rfl rfl, sm_go _ _⟩, trivial⟩⟩⟩⟩⟩⟩⟩
set_option maxRecDepth 20000 in
theorem kX8_week_7 : sx_BK sx_tb yX8_week.cls cX8_week 2 (none) ({ frames := 3, cells := 0, slots := 0, locals := 68 } : Room) false false 0 (fun _ => 0) 7 (bX8_week_7) := ⟨_, ⟨sn_iload_n dX8_week_7 rfl, sm_il _⟩, ⟨_, ⟨sn_aload_n dX8_week_8 rfl, sm_al _⟩, ⟨_, ⟨sn_iconst dX8_week_9 (by decide +kernel), sm_const _⟩, ⟨_, ⟨sn_iald dX8_week_10, sm_iald⟩, ⟨_, ⟨sn_ic_ge dX8_week_11 (by decide +kernel) rfl, sm_if2 _ _ _⟩, ⟨_, ⟨sn_aload_n dX8_week_14 rfl, sm_al _⟩, ⟨_, ⟨sn_bipush dX8_week_15 (by decide +kernel), sm_const _⟩, ⟨_, ⟨sn_iald dX8_week_17, sm_iald⟩, ⟨_, ⟨sn_if_ne dX8_week_18 (by decide +kernel) rfl, sm_if1 _ _ _⟩, ⟨_, ⟨sn_aload_n dX8_week_21 rfl, sm_al _⟩, ⟨_, ⟨sn_iload_n dX8_week_22 rfl, sm_il _⟩, ⟨_, ⟨sn_cs_z ztb_X8_isOut dX8_week_23 zw_4_123 zw_4_124 zw_1_8 zw_4_125 zmh_X8 zpd_X8_isOut (Nat.le_of_ble_eq_true rfl) (Nat.le_of_ble_eq_true rfl) rfl rfl, sm_cs _ _ _ _ _ _⟩, ⟨_, ⟨sn_if_ne dX8_week_26 (by decide +kernel) rfl, sm_if1 _ _ _⟩, ⟨_, ⟨sn_aload_n dX8_week_29 rfl, sm_al _⟩, ⟨_, ⟨sn_iload_n dX8_week_30 rfl, sm_il _⟩, ⟨_, ⟨sn_cs_v ztb_X8_takes dX8_week_31 zw_4_129 zw_4_130 zw_1_8 zw_4_131 zmh_X8 zpd_X8_takes (Nat.le_of_ble_eq_true rfl) (Nat.le_of_ble_eq_true rfl) rfl rfl, sm_cs _ _ _ _ _ _⟩, ⟨_, ⟨sn_fall (len := 0) rfl rfl, sm_go _ _⟩, trivial⟩⟩⟩⟩⟩⟩⟩⟩⟩⟩⟩⟩⟩⟩⟩⟩⟩
set_option maxRecDepth 20000 in
theorem kX8_week_34 : sx_BK sx_tb yX8_week.cls cX8_week 2 (none) ({ frames := 3, cells := 0, slots := 0, locals := 68 } : Room) false false 0 (fun _ => 0) 34 (bX8_week_34) := ⟨_, ⟨sn_iinc dX8_week_34 (by decide +kernel) (Nat.le_of_ble_eq_true rfl), sm_inc _ _⟩, ⟨_, ⟨sn_goto (len := 3) dX8_week_37 (by decide +kernel) rfl, sm_go _ _⟩, trivial⟩⟩
set_option maxRecDepth 20000 in
theorem kX8_week_40 : sx_BK sx_tb yX8_week.cls cX8_week 2 (none) ({ frames := 3, cells := 0, slots := 0, locals := 68 } : Room) false false 0 (fun _ => 0) 40 (bX8_week_40) := ⟨_, ⟨sn_iconst dX8_week_40 (by decide +kernel), sm_const _⟩, ⟨_, ⟨sn_istore_n dX8_week_41 rfl (Nat.le_of_ble_eq_true rfl), sm_is _⟩, ⟨_, ⟨sn_fall (len := 0) rfl rfl, sm_go _ _⟩, trivial⟩⟩⟩
set_option maxRecDepth 20000 in
theorem kX8_week_42 : sx_BK sx_tb yX8_week.cls cX8_week 2 (none) ({ frames := 3, cells := 0, slots := 0, locals := 68 } : Room) false false 0 (fun _ => 0) 42 (bX8_week_42) := ⟨_, ⟨sn_iload_n dX8_week_42 rfl, sm_il _⟩, ⟨_, ⟨sn_aload_n dX8_week_43 rfl, sm_al _⟩, ⟨_, ⟨sn_iconst dX8_week_44 (by decide +kernel), sm_const _⟩, ⟨_, ⟨sn_iald dX8_week_45, sm_iald⟩, ⟨_, ⟨sn_ic_ge dX8_week_46 (by decide +kernel) rfl, sm_if2 _ _ _⟩, ⟨_, ⟨sn_aload_n dX8_week_49 rfl, sm_al _⟩, ⟨_, ⟨sn_bipush dX8_week_50 (by decide +kernel), sm_const _⟩, ⟨_, ⟨sn_iald dX8_week_52, sm_iald⟩, ⟨_, ⟨sn_if_ne dX8_week_53 (by decide +kernel) rfl, sm_if1 _ _ _⟩, ⟨_, ⟨sn_aload_n dX8_week_56 rfl, sm_al _⟩, ⟨_, ⟨sn_iload_n dX8_week_57 rfl, sm_il _⟩, ⟨_, ⟨sn_cs_z ztb_X8_isOut dX8_week_58 zw_4_123 zw_4_124 zw_1_8 zw_4_125 zmh_X8 zpd_X8_isOut (Nat.le_of_ble_eq_true rfl) (Nat.le_of_ble_eq_true rfl) rfl rfl, sm_cs _ _ _ _ _ _⟩, ⟨_, ⟨sn_if_ne dX8_week_61 (by decide +kernel) rfl, sm_if1 _ _ _⟩, ⟨_, ⟨sn_aload_n dX8_week_64 rfl, sm_al _⟩, ⟨_, ⟨sn_iload_n dX8_week_65 rfl, sm_il _⟩, ⟨_, ⟨sn_cs_v ztb_X8_payOne dX8_week_66 zw_4_135 zw_4_136 zw_1_8 zw_4_137 zmh_X8 zpd_X8_payOne (Nat.le_of_ble_eq_true rfl) (Nat.le_of_ble_eq_true rfl) rfl rfl, sm_cs _ _ _ _ _ _⟩, ⟨_, ⟨sn_fall (len := 0) rfl rfl, sm_go _ _⟩, trivial⟩⟩⟩⟩⟩⟩⟩⟩⟩⟩⟩⟩⟩⟩⟩⟩⟩
set_option maxRecDepth 20000 in
theorem kX8_week_69 : sx_BK sx_tb yX8_week.cls cX8_week 2 (none) ({ frames := 3, cells := 0, slots := 0, locals := 68 } : Room) false false 0 (fun _ => 0) 69 (bX8_week_69) := ⟨_, ⟨sn_iinc dX8_week_69 (by decide +kernel) (Nat.le_of_ble_eq_true rfl), sm_inc _ _⟩, ⟨_, ⟨sn_goto (len := 3) dX8_week_72 (by decide +kernel) rfl, sm_go _ _⟩, trivial⟩⟩
set_option maxRecDepth 20000 in
theorem kX8_week_75 : sx_BK sx_tb yX8_week.cls cX8_week 2 (none) ({ frames := 3, cells := 0, slots := 0, locals := 68 } : Room) false false 0 (fun _ => 0) 75 (bX8_week_75) := ⟨_, ⟨sn_aload_n dX8_week_75 rfl, sm_al _⟩, ⟨_, ⟨sn_bipush dX8_week_76 (by decide +kernel), sm_const _⟩, ⟨_, ⟨sn_dup2 dX8_week_78, sm_dup2⟩, ⟨_, ⟨sn_iald dX8_week_79, sm_iald⟩, ⟨_, ⟨sn_aload_n dX8_week_80 rfl, sm_al _⟩, ⟨_, ⟨sn_bipush dX8_week_81 (by decide +kernel), sm_const _⟩, ⟨_, ⟨sn_iald dX8_week_83, sm_iald⟩, ⟨_, ⟨sn_if_le dX8_week_84 (by decide +kernel) rfl, sm_if1 _ _ _⟩, ⟨_, ⟨sn_iconst dX8_week_87 (by decide +kernel), sm_const _⟩, ⟨_, ⟨sn_goto (len := 3) dX8_week_88 (by decide +kernel) rfl, sm_go _ _⟩, trivial⟩⟩⟩⟩⟩⟩⟩⟩⟩⟩
set_option maxRecDepth 20000 in
theorem kX8_week_91 : sx_BK sx_tb yX8_week.cls cX8_week 2 (none) ({ frames := 3, cells := 0, slots := 0, locals := 68 } : Room) false false 0 (fun _ => 0) 91 (bX8_week_91) := ⟨_, ⟨sn_iconst dX8_week_91 (by decide +kernel), sm_const _⟩, ⟨_, ⟨sn_fall (len := 0) rfl rfl, sm_go _ _⟩, trivial⟩⟩
set_option maxRecDepth 20000 in
theorem kX8_week_92 : sx_BK sx_tb yX8_week.cls cX8_week 2 (none) ({ frames := 3, cells := 0, slots := 0, locals := 68 } : Room) false false 0 (fun _ => 0) 92 (bX8_week_92) := ⟨_, ⟨sn_isub dX8_week_92, sm_bin _⟩, ⟨_, ⟨sn_iast dX8_week_93, sm_iast⟩, ⟨_, ⟨sn_aload_n dX8_week_94 rfl, sm_al _⟩, ⟨_, ⟨sn_iconst dX8_week_95 (by decide +kernel), sm_const _⟩, ⟨_, ⟨sn_dup2 dX8_week_96, sm_dup2⟩, ⟨_, ⟨sn_iald dX8_week_97, sm_iald⟩, ⟨_, ⟨sn_iconst dX8_week_98 (by decide +kernel), sm_const _⟩, ⟨_, ⟨sn_iadd dX8_week_99, sm_bin _⟩, ⟨_, ⟨sn_iast dX8_week_100, sm_iast⟩, ⟨_, ⟨sn_aload_n dX8_week_101 rfl, sm_al _⟩, ⟨_, ⟨sn_iconst dX8_week_102 (by decide +kernel), sm_const _⟩, ⟨_, ⟨sn_iald dX8_week_103, sm_iald⟩, ⟨_, ⟨sn_aload_n dX8_week_104 rfl, sm_al _⟩, ⟨_, ⟨sn_iconst dX8_week_105 (by decide +kernel), sm_const _⟩, ⟨_, ⟨sn_iald dX8_week_106, sm_iald⟩, ⟨_, ⟨sn_irem dX8_week_107, sm_div _⟩, ⟨_, ⟨sn_if_ne dX8_week_108 (by decide +kernel) rfl, sm_if1 _ _ _⟩, ⟨_, ⟨sn_aload_n dX8_week_111 rfl, sm_al _⟩, ⟨_, ⟨sn_iconst dX8_week_112 (by decide +kernel), sm_const _⟩, ⟨_, ⟨sn_dup2 dX8_week_113, sm_dup2⟩, ⟨_, ⟨sn_iald dX8_week_114, sm_iald⟩, ⟨_, ⟨sn_aload_n dX8_week_115 rfl, sm_al _⟩, ⟨_, ⟨sn_bipush dX8_week_116 (by decide +kernel), sm_const _⟩, ⟨_, ⟨sn_iald dX8_week_118, sm_iald⟩, ⟨_, ⟨sn_isub dX8_week_119, sm_bin _⟩, ⟨_, ⟨sn_iast dX8_week_120, sm_iast⟩, ⟨_, ⟨sn_aload_n dX8_week_121 rfl, sm_al _⟩, ⟨_, ⟨sn_bipush dX8_week_122 (by decide +kernel), sm_const _⟩, ⟨_, ⟨sn_iconst dX8_week_124 (by decide +kernel), sm_const _⟩, ⟨_, ⟨sn_iast dX8_week_125, sm_iast⟩, ⟨_, ⟨sn_aload_n dX8_week_126 rfl, sm_al _⟩, ⟨_, ⟨sn_bipush dX8_week_127 (by decide +kernel), sm_const _⟩, ⟨_, ⟨sn_aload_n dX8_week_129 rfl, sm_al _⟩, ⟨_, ⟨sn_iconst dX8_week_130 (by decide +kernel), sm_const _⟩, ⟨_, ⟨sn_iald dX8_week_131, sm_iald⟩, ⟨_, ⟨sn_if_ge dX8_week_132 (by decide +kernel) rfl, sm_if1 _ _ _⟩, ⟨_, ⟨sn_iconst dX8_week_135 (by decide +kernel), sm_const _⟩, ⟨_, ⟨sn_goto (len := 3) dX8_week_136 (by decide +kernel) rfl, sm_go _ _⟩, trivial⟩⟩⟩⟩⟩⟩⟩⟩⟩⟩⟩⟩⟩⟩⟩⟩⟩⟩⟩⟩⟩⟩⟩⟩⟩⟩⟩⟩⟩⟩⟩⟩⟩⟩⟩⟩⟩⟩
set_option maxRecDepth 20000 in
theorem kX8_week_139 : sx_BK sx_tb yX8_week.cls cX8_week 2 (none) ({ frames := 3, cells := 0, slots := 0, locals := 68 } : Room) false false 0 (fun _ => 0) 139 (bX8_week_139) := ⟨_, ⟨sn_aload_n dX8_week_139 rfl, sm_al _⟩, ⟨_, ⟨sn_bipush dX8_week_140 (by decide +kernel), sm_const _⟩, ⟨_, ⟨sn_iald dX8_week_142, sm_iald⟩, ⟨_, ⟨sn_fall (len := 0) rfl rfl, sm_go _ _⟩, trivial⟩⟩⟩⟩
set_option maxRecDepth 20000 in
theorem kX8_week_143 : sx_BK sx_tb yX8_week.cls cX8_week 2 (none) ({ frames := 3, cells := 0, slots := 0, locals := 68 } : Room) false false 0 (fun _ => 0) 143 (bX8_week_143) := ⟨_, ⟨sn_iast dX8_week_143, sm_iast⟩, ⟨_, ⟨sn_fall (len := 0) rfl rfl, sm_go _ _⟩, trivial⟩⟩
set_option maxRecDepth 20000 in
theorem kX8_week_144 : sx_BK sx_tb yX8_week.cls cX8_week 2 (none) ({ frames := 3, cells := 0, slots := 0, locals := 68 } : Room) false false 0 (fun _ => 0) 144 (bX8_week_144) := ⟨_, ⟨sn_rv (len := 1) dX8_week_144 rfl, sm_rv⟩, trivial⟩
theorem kX8_week : ∀ pc, sx_BK sx_tb yX8_week.cls cX8_week 2 (none) ({ frames := 3, cells := 0, slots := 0, locals := 68 } : Room) false false 0 (fun _ => 0) pc (BX8_week pc) := fun pc => sx_bk_if (kX8_week_0) (sx_bk_if (kX8_week_7) (sx_bk_if (kX8_week_34) (sx_bk_if (kX8_week_40) (sx_bk_if (kX8_week_42) (sx_bk_if (kX8_week_69) (sx_bk_if (kX8_week_75) (sx_bk_if (kX8_week_91) (sx_bk_if (kX8_week_92) (sx_bk_if (kX8_week_139) (sx_bk_if (kX8_week_143) (sx_bk_if (kX8_week_144) (trivial))))))))))))
theorem okX8_week : sx_ok sx_tb BX8_week (yX8_week, cX8_week, 2, none, { frames := 3, cells := 0, slots := 0, locals := 68 }) := ⟨by decide, by decide +kernel, false, (fun h => by cases h), kX8_week⟩
theorem dX8_weeksOf_0 : decode cX8_weeksOf 0 = .ok (.iconst 0, 1) := by decide +kernel
theorem dX8_weeksOf_1 : decode cX8_weeksOf 1 = .ok (.istore_n 2, 1) := by decide +kernel
theorem dX8_weeksOf_2 : decode cX8_weeksOf 2 = .ok (.iload_n 2, 1) := by decide +kernel
theorem dX8_weeksOf_3 : decode cX8_weeksOf 3 = .ok (.iload_n 1, 1) := by decide +kernel
theorem dX8_weeksOf_4 : decode cX8_weeksOf 4 = .ok (.if_icmp .ge 13, 3) := by decide +kernel
theorem dX8_weeksOf_7 : decode cX8_weeksOf 7 = .ok (.aload_n 0, 1) := by decide +kernel
theorem dX8_weeksOf_8 : decode cX8_weeksOf 8 = .ok (.invokestatic 168, 3) := by decide +kernel
theorem dX8_weeksOf_11 : decode cX8_weeksOf 11 = .ok (.iinc 2 1, 3) := by decide +kernel
theorem dX8_weeksOf_14 : decode cX8_weeksOf 14 = .ok (.goto (-12), 3) := by decide +kernel
theorem dX8_weeksOf_17 : decode cX8_weeksOf 17 = .ok (.return_, 1) := by decide +kernel
def bX8_weeksOf_0 : List sx_S := [si_const 0, si_is 2, si_go 2 [true, true, true]]
def bX8_weeksOf_2 : List sx_S := [si_il 2, si_il 1, si_if2 (fun x y => y ≤ x) 17 [false, false, false], si_al 0, si_cs 153 1 0 0 0 0, si_inc 2 1, si_go 2 [true, true, true]]
def bX8_weeksOf_17 : List sx_S := [si_rv]
def BX8_weeksOf : Nat → List sx_S := fun pc => if pc = 0 then bX8_weeksOf_0 else if pc = 2 then bX8_weeksOf_2 else if pc = 17 then bX8_weeksOf_17 else []
set_option maxRecDepth 20000 in
theorem kX8_weeksOf_0 : sx_BK sx_tb yX8_weeksOf.cls cX8_weeksOf 3 (none) ({ frames := 4, cells := 0, slots := 0, locals := 89 } : Room) false false 0 (fun _ => 0) 0 (bX8_weeksOf_0) := ⟨_, ⟨sn_iconst dX8_weeksOf_0 (by decide +kernel), sm_const _⟩, ⟨_, ⟨sn_istore_n dX8_weeksOf_1 rfl (Nat.le_of_ble_eq_true rfl), sm_is _⟩, ⟨_, ⟨sn_fall (len := 0) rfl rfl, sm_go _ _⟩, trivial⟩⟩⟩
set_option maxRecDepth 20000 in
theorem kX8_weeksOf_2 : sx_BK sx_tb yX8_weeksOf.cls cX8_weeksOf 3 (none) ({ frames := 4, cells := 0, slots := 0, locals := 89 } : Room) false false 0 (fun _ => 0) 2 (bX8_weeksOf_2) := ⟨_, ⟨sn_iload_n dX8_weeksOf_2 rfl, sm_il _⟩, ⟨_, ⟨sn_iload_n dX8_weeksOf_3 rfl, sm_il _⟩, ⟨_, ⟨sn_ic_ge dX8_weeksOf_4 (by decide +kernel) rfl, sm_if2 _ _ _⟩, ⟨_, ⟨sn_aload_n dX8_weeksOf_7 rfl, sm_al _⟩, ⟨_, ⟨sn_cs_v ztb_X8_week dX8_weeksOf_8 zw_4_120 zw_4_121 zw_1_8 zw_4_122 zmh_X8 zpd_X8_week (Nat.le_of_ble_eq_true rfl) (Nat.le_of_ble_eq_true rfl) rfl rfl, sm_cs _ _ _ _ _ _⟩, ⟨_, ⟨sn_iinc dX8_weeksOf_11 (by decide +kernel) (Nat.le_of_ble_eq_true rfl), sm_inc _ _⟩, ⟨_, ⟨sn_goto (len := 3) dX8_weeksOf_14 (by decide +kernel) rfl, sm_go _ _⟩, trivial⟩⟩⟩⟩⟩⟩⟩
set_option maxRecDepth 20000 in
theorem kX8_weeksOf_17 : sx_BK sx_tb yX8_weeksOf.cls cX8_weeksOf 3 (none) ({ frames := 4, cells := 0, slots := 0, locals := 89 } : Room) false false 0 (fun _ => 0) 17 (bX8_weeksOf_17) := ⟨_, ⟨sn_rv (len := 1) dX8_weeksOf_17 rfl, sm_rv⟩, trivial⟩
theorem kX8_weeksOf : ∀ pc, sx_BK sx_tb yX8_weeksOf.cls cX8_weeksOf 3 (none) ({ frames := 4, cells := 0, slots := 0, locals := 89 } : Room) false false 0 (fun _ => 0) pc (BX8_weeksOf pc) := fun pc => sx_bk_if (kX8_weeksOf_0) (sx_bk_if (kX8_weeksOf_2) (sx_bk_if (kX8_weeksOf_17) (trivial)))
theorem okX8_weeksOf : sx_ok sx_tb BX8_weeksOf (yX8_weeksOf, cX8_weeksOf, 3, none, { frames := 4, cells := 0, slots := 0, locals := 89 }) := ⟨by decide, by decide +kernel, false, (fun h => by cases h), kX8_weeksOf⟩
theorem dX8_layThen_0 : decode cX8_layThen 0 = .ok (.iconst 0, 1) := by decide +kernel
theorem dX8_layThen_1 : decode cX8_layThen 1 = .ok (.istore_n 1, 1) := by decide +kernel
theorem dX8_layThen_2 : decode cX8_layThen 2 = .ok (.iload_n 1, 1) := by decide +kernel
theorem dX8_layThen_3 : decode cX8_layThen 3 = .ok (.bipush 64, 2) := by decide +kernel
theorem dX8_layThen_5 : decode cX8_layThen 5 = .ok (.if_icmp .ge 21, 3) := by decide +kernel
theorem dX8_layThen_8 : decode cX8_layThen 8 = .ok (.aload_n 0, 1) := by decide +kernel
theorem dX8_layThen_9 : decode cX8_layThen 9 = .ok (.getfield 25, 3) := by decide +kernel
theorem dX8_layThen_12 : decode cX8_layThen 12 = .ok (.iload_n 1, 1) := by decide +kernel
theorem dX8_layThen_13 : decode cX8_layThen 13 = .ok (.aload_n 0, 1) := by decide +kernel
theorem dX8_layThen_14 : decode cX8_layThen 14 = .ok (.getfield 19, 3) := by decide +kernel
theorem dX8_layThen_17 : decode cX8_layThen 17 = .ok (.iload_n 1, 1) := by decide +kernel
theorem dX8_layThen_18 : decode cX8_layThen 18 = .ok (.iaload, 1) := by decide +kernel
theorem dX8_layThen_19 : decode cX8_layThen 19 = .ok (.iastore, 1) := by decide +kernel
theorem dX8_layThen_20 : decode cX8_layThen 20 = .ok (.iinc 1 1, 3) := by decide +kernel
theorem dX8_layThen_23 : decode cX8_layThen 23 = .ok (.goto (-21), 3) := by decide +kernel
theorem dX8_layThen_26 : decode cX8_layThen 26 = .ok (.return_, 1) := by decide +kernel
def bX8_layThen_0 : List sx_S := [si_const 0, si_is 1, si_go 2 [true, true]]
def bX8_layThen_2 : List sx_S := [si_il 1, si_const (nI 64), si_if2 (fun x y => y ≤ x) 26 [false, false], si_al 0, si_get 7 7, si_il 1, si_al 0, si_get 7 5, si_il 1, si_iald, si_iast, si_inc 1 1, si_go 2 [true, true]]
def bX8_layThen_26 : List sx_S := [si_rv]
def BX8_layThen : Nat → List sx_S := fun pc => if pc = 0 then bX8_layThen_0 else if pc = 2 then bX8_layThen_2 else if pc = 26 then bX8_layThen_26 else []
set_option maxRecDepth 20000 in
theorem kX8_layThen_0 : sx_BK sx_tb yX8_layThen.cls cX8_layThen 2 (none) ({ frames := 0, cells := 0, slots := 0, locals := 0 } : Room) false false 0 (fun _ => 0) 0 (bX8_layThen_0) := ⟨_, ⟨sn_iconst dX8_layThen_0 (by decide +kernel), sm_const _⟩, ⟨_, ⟨sn_istore_n dX8_layThen_1 rfl (Nat.le_of_ble_eq_true rfl), sm_is _⟩, ⟨_, ⟨sn_fall (len := 0) rfl rfl, sm_go _ _⟩, trivial⟩⟩⟩
set_option maxRecDepth 20000 in
theorem kX8_layThen_2 : sx_BK sx_tb yX8_layThen.cls cX8_layThen 2 (none) ({ frames := 0, cells := 0, slots := 0, locals := 0 } : Room) false false 0 (fun _ => 0) 2 (bX8_layThen_2) := ⟨_, ⟨sn_iload_n dX8_layThen_2 rfl, sm_il _⟩, ⟨_, ⟨sn_bipush dX8_layThen_3 (by decide +kernel), sm_const _⟩, ⟨_, ⟨sn_ic_ge dX8_layThen_5 (by decide +kernel) rfl, sm_if2 _ _ _⟩, ⟨_, ⟨sn_aload_n dX8_layThen_8 rfl, sm_al _⟩, ⟨_, ⟨sn_get (C := RX8) (T := TX8) (N := 23) dX8_layThen_9 rfl zinX8 (Nat.le_of_ble_eq_true rfl) zw_3_189, sm_get _ _⟩, ⟨_, ⟨sn_iload_n dX8_layThen_12 rfl, sm_il _⟩, ⟨_, ⟨sn_aload_n dX8_layThen_13 rfl, sm_al _⟩, ⟨_, ⟨sn_get (C := RX8) (T := TX8) (N := 23) dX8_layThen_14 rfl zinX8 (Nat.le_of_ble_eq_true rfl) zw_3_187, sm_get _ _⟩, ⟨_, ⟨sn_iload_n dX8_layThen_17 rfl, sm_il _⟩, ⟨_, ⟨sn_iald dX8_layThen_18, sm_iald⟩, ⟨_, ⟨sn_iast dX8_layThen_19, sm_iast⟩, ⟨_, ⟨sn_iinc dX8_layThen_20 (by decide +kernel) (Nat.le_of_ble_eq_true rfl), sm_inc _ _⟩, ⟨_, ⟨sn_goto (len := 3) dX8_layThen_23 (by decide +kernel) rfl, sm_go _ _⟩, trivial⟩⟩⟩⟩⟩⟩⟩⟩⟩⟩⟩⟩⟩
set_option maxRecDepth 20000 in
theorem kX8_layThen_26 : sx_BK sx_tb yX8_layThen.cls cX8_layThen 2 (none) ({ frames := 0, cells := 0, slots := 0, locals := 0 } : Room) false false 0 (fun _ => 0) 26 (bX8_layThen_26) := ⟨_, ⟨sn_rv (len := 1) dX8_layThen_26 rfl, sm_rv⟩, trivial⟩
theorem kX8_layThen : ∀ pc, sx_BK sx_tb yX8_layThen.cls cX8_layThen 2 (none) ({ frames := 0, cells := 0, slots := 0, locals := 0 } : Room) false false 0 (fun _ => 0) pc (BX8_layThen pc) := fun pc => sx_bk_if (kX8_layThen_0) (sx_bk_if (kX8_layThen_2) (sx_bk_if (kX8_layThen_26) (trivial)))
theorem okX8_layThen : sx_ok sx_tb BX8_layThen (yX8_layThen, cX8_layThen, 2, none, { frames := 0, cells := 0, slots := 0, locals := 0 }) := ⟨by decide, by decide +kernel, false, (fun h => by cases h), kX8_layThen⟩
theorem dX8_lostOf_0 : decode cX8_lostOf 0 = .ok (.iconst 0, 1) := by decide +kernel
theorem dX8_lostOf_1 : decode cX8_lostOf 1 = .ok (.istore_n 1, 1) := by decide +kernel
theorem dX8_lostOf_2 : decode cX8_lostOf 2 = .ok (.iconst 0, 1) := by decide +kernel
theorem dX8_lostOf_3 : decode cX8_lostOf 3 = .ok (.istore_n 2, 1) := by decide +kernel
theorem dX8_lostOf_4 : decode cX8_lostOf 4 = .ok (.iload_n 2, 1) := by decide +kernel
theorem dX8_lostOf_5 : decode cX8_lostOf 5 = .ok (.aload_n 0, 1) := by decide +kernel
theorem dX8_lostOf_6 : decode cX8_lostOf 6 = .ok (.iconst 4, 1) := by decide +kernel
theorem dX8_lostOf_7 : decode cX8_lostOf 7 = .ok (.iaload, 1) := by decide +kernel
theorem dX8_lostOf_8 : decode cX8_lostOf 8 = .ok (.if_icmp .ge 30, 3) := by decide +kernel
theorem dX8_lostOf_11 : decode cX8_lostOf 11 = .ok (.iload_n 1, 1) := by decide +kernel
theorem dX8_lostOf_12 : decode cX8_lostOf 12 = .ok (.aload_n 0, 1) := by decide +kernel
theorem dX8_lostOf_13 : decode cX8_lostOf 13 = .ok (.iload_n 2, 1) := by decide +kernel
theorem dX8_lostOf_14 : decode cX8_lostOf 14 = .ok (.invokestatic 157, 3) := by decide +kernel
theorem dX8_lostOf_17 : decode cX8_lostOf 17 = .ok (.ifCond .eq 12, 3) := by decide +kernel
theorem dX8_lostOf_20 : decode cX8_lostOf 20 = .ok (.aload_n 0, 1) := by decide +kernel
theorem dX8_lostOf_21 : decode cX8_lostOf 21 = .ok (.iload_n 2, 1) := by decide +kernel
theorem dX8_lostOf_22 : decode cX8_lostOf 22 = .ok (.iconst 4, 1) := by decide +kernel
theorem dX8_lostOf_23 : decode cX8_lostOf 23 = .ok (.invokestatic 146, 3) := by decide +kernel
theorem dX8_lostOf_26 : decode cX8_lostOf 26 = .ok (.goto 4, 3) := by decide +kernel
theorem dX8_lostOf_29 : decode cX8_lostOf 29 = .ok (.iconst 0, 1) := by decide +kernel
theorem dX8_lostOf_30 : decode cX8_lostOf 30 = .ok (.iadd, 1) := by decide +kernel
theorem dX8_lostOf_31 : decode cX8_lostOf 31 = .ok (.istore_n 1, 1) := by decide +kernel
theorem dX8_lostOf_32 : decode cX8_lostOf 32 = .ok (.iinc 2 1, 3) := by decide +kernel
theorem dX8_lostOf_35 : decode cX8_lostOf 35 = .ok (.goto (-31), 3) := by decide +kernel
theorem dX8_lostOf_38 : decode cX8_lostOf 38 = .ok (.iload_n 1, 1) := by decide +kernel
theorem dX8_lostOf_39 : decode cX8_lostOf 39 = .ok (.ireturn, 1) := by decide +kernel
def bX8_lostOf_0 : List sx_S := [si_const 0, si_is 1, si_const 0, si_is 2, si_go 4 [true, true, true]]
def bX8_lostOf_4 : List sx_S := [si_il 2, si_al 0, si_const (nI 4), si_iald, si_if2 (fun x y => y ≤ x) 38 [false, true, false], si_il 1, si_al 0, si_il 2, si_cs 148 2 0 0 0 0, si_if1 (fun x => x = 0) 29 [true, false, true], si_al 0, si_il 2, si_const (nI 4), si_cs 147 3 0 0 0 0, si_go 30 [true, false, true]]
def bX8_lostOf_29 : List sx_S := [si_const 0, si_go 30 [true, false, true]]
def bX8_lostOf_30 : List sx_S := [si_bin (fun x y => x + y), si_is 1, si_inc 2 1, si_go 4 [true, true, true]]
def bX8_lostOf_38 : List sx_S := [si_il 1, si_ri]
def BX8_lostOf : Nat → List sx_S := fun pc => if pc = 0 then bX8_lostOf_0 else if pc = 4 then bX8_lostOf_4 else if pc = 29 then bX8_lostOf_29 else if pc = 30 then bX8_lostOf_30 else if pc = 38 then bX8_lostOf_38 else []
set_option maxRecDepth 20000 in
theorem kX8_lostOf_0 : sx_BK sx_tb yX8_lostOf.cls cX8_lostOf 3 (some .int) ({ frames := 2, cells := 0, slots := 0, locals := 43 } : Room) false false 0 (fun _ => 0) 0 (bX8_lostOf_0) := ⟨_, ⟨sn_iconst dX8_lostOf_0 (by decide +kernel), sm_const _⟩, ⟨_, ⟨sn_istore_n dX8_lostOf_1 rfl (Nat.le_of_ble_eq_true rfl), sm_is _⟩, ⟨_, ⟨sn_iconst dX8_lostOf_2 (by decide +kernel), sm_const _⟩, ⟨_, ⟨sn_istore_n dX8_lostOf_3 rfl (Nat.le_of_ble_eq_true rfl), sm_is _⟩, ⟨_, ⟨sn_fall (len := 0) rfl rfl, sm_go _ _⟩, trivial⟩⟩⟩⟩⟩
set_option maxRecDepth 20000 in
theorem kX8_lostOf_4 : sx_BK sx_tb yX8_lostOf.cls cX8_lostOf 3 (some .int) ({ frames := 2, cells := 0, slots := 0, locals := 43 } : Room) false false 0 (fun _ => 0) 4 (bX8_lostOf_4) := ⟨_, ⟨sn_iload_n dX8_lostOf_4 rfl, sm_il _⟩, ⟨_, ⟨sn_aload_n dX8_lostOf_5 rfl, sm_al _⟩, ⟨_, ⟨sn_iconst dX8_lostOf_6 (by decide +kernel), sm_const _⟩, ⟨_, ⟨sn_iald dX8_lostOf_7, sm_iald⟩, ⟨_, ⟨sn_ic_ge dX8_lostOf_8 (by decide +kernel) rfl, sm_if2 _ _ _⟩, ⟨_, ⟨sn_iload_n dX8_lostOf_11 rfl, sm_il _⟩, ⟨_, ⟨sn_aload_n dX8_lostOf_12 rfl, sm_al _⟩, ⟨_, ⟨sn_iload_n dX8_lostOf_13 rfl, sm_il _⟩, ⟨_, ⟨sn_cs_z ztb_X8_isOut dX8_lostOf_14 zw_4_123 zw_4_124 zw_1_8 zw_4_125 zmh_X8 zpd_X8_isOut (Nat.le_of_ble_eq_true rfl) (Nat.le_of_ble_eq_true rfl) rfl rfl, sm_cs _ _ _ _ _ _⟩, ⟨_, ⟨sn_if_eq dX8_lostOf_17 (by decide +kernel) rfl, sm_if1 _ _ _⟩, ⟨_, ⟨sn_aload_n dX8_lostOf_20 rfl, sm_al _⟩, ⟨_, ⟨sn_iload_n dX8_lostOf_21 rfl, sm_il _⟩, ⟨_, ⟨sn_iconst dX8_lostOf_22 (by decide +kernel), sm_const _⟩, ⟨_, ⟨sn_cs_i ztb_X8_of dX8_lostOf_23 zw_4_126 zw_4_127 zw_1_8 zw_4_128 zmh_X8 zpd_X8_of (Nat.le_of_ble_eq_true rfl) (Nat.le_of_ble_eq_true rfl) rfl rfl, sm_cs _ _ _ _ _ _⟩, ⟨_, ⟨sn_goto (len := 3) dX8_lostOf_26 (by decide +kernel) rfl, sm_go _ _⟩, trivial⟩⟩⟩⟩⟩⟩⟩⟩⟩⟩⟩⟩⟩⟩⟩
set_option maxRecDepth 20000 in
theorem kX8_lostOf_29 : sx_BK sx_tb yX8_lostOf.cls cX8_lostOf 3 (some .int) ({ frames := 2, cells := 0, slots := 0, locals := 43 } : Room) false false 0 (fun _ => 0) 29 (bX8_lostOf_29) := ⟨_, ⟨sn_iconst dX8_lostOf_29 (by decide +kernel), sm_const _⟩, ⟨_, ⟨sn_fall (len := 0) rfl rfl, sm_go _ _⟩, trivial⟩⟩
set_option maxRecDepth 20000 in
theorem kX8_lostOf_30 : sx_BK sx_tb yX8_lostOf.cls cX8_lostOf 3 (some .int) ({ frames := 2, cells := 0, slots := 0, locals := 43 } : Room) false false 0 (fun _ => 0) 30 (bX8_lostOf_30) := ⟨_, ⟨sn_iadd dX8_lostOf_30, sm_bin _⟩, ⟨_, ⟨sn_istore_n dX8_lostOf_31 rfl (Nat.le_of_ble_eq_true rfl), sm_is _⟩, ⟨_, ⟨sn_iinc dX8_lostOf_32 (by decide +kernel) (Nat.le_of_ble_eq_true rfl), sm_inc _ _⟩, ⟨_, ⟨sn_goto (len := 3) dX8_lostOf_35 (by decide +kernel) rfl, sm_go _ _⟩, trivial⟩⟩⟩⟩
set_option maxRecDepth 20000 in
theorem kX8_lostOf_38 : sx_BK sx_tb yX8_lostOf.cls cX8_lostOf 3 (some .int) ({ frames := 2, cells := 0, slots := 0, locals := 43 } : Room) false false 0 (fun _ => 0) 38 (bX8_lostOf_38) := ⟨_, ⟨sn_iload_n dX8_lostOf_38 rfl, sm_il _⟩, ⟨_, ⟨sn_ri (len := 1) dX8_lostOf_39 rfl, sm_ri⟩, trivial⟩⟩
theorem kX8_lostOf : ∀ pc, sx_BK sx_tb yX8_lostOf.cls cX8_lostOf 3 (some .int) ({ frames := 2, cells := 0, slots := 0, locals := 43 } : Room) false false 0 (fun _ => 0) pc (BX8_lostOf pc) := fun pc => sx_bk_if (kX8_lostOf_0) (sx_bk_if (kX8_lostOf_4) (sx_bk_if (kX8_lostOf_29) (sx_bk_if (kX8_lostOf_30) (sx_bk_if (kX8_lostOf_38) (trivial)))))
theorem okX8_lostOf : sx_ok sx_tb BX8_lostOf (yX8_lostOf, cX8_lostOf, 3, some .int, { frames := 2, cells := 0, slots := 0, locals := 43 }) := ⟨by decide, by decide +kernel, false, (fun h => by cases h), kX8_lostOf⟩
theorem dX8_debtsOf_0 : decode cX8_debtsOf 0 = .ok (.iconst 0, 1) := by decide +kernel
theorem dX8_debtsOf_1 : decode cX8_debtsOf 1 = .ok (.istore_n 1, 1) := by decide +kernel
theorem dX8_debtsOf_2 : decode cX8_debtsOf 2 = .ok (.iconst 0, 1) := by decide +kernel
theorem dX8_debtsOf_3 : decode cX8_debtsOf 3 = .ok (.istore_n 2, 1) := by decide +kernel
theorem dX8_debtsOf_4 : decode cX8_debtsOf 4 = .ok (.iload_n 2, 1) := by decide +kernel
theorem dX8_debtsOf_5 : decode cX8_debtsOf 5 = .ok (.aload_n 0, 1) := by decide +kernel
theorem dX8_debtsOf_6 : decode cX8_debtsOf 6 = .ok (.iconst 4, 1) := by decide +kernel
theorem dX8_debtsOf_7 : decode cX8_debtsOf 7 = .ok (.iaload, 1) := by decide +kernel
theorem dX8_debtsOf_8 : decode cX8_debtsOf 8 = .ok (.if_icmp .ge 33, 3) := by decide +kernel
theorem dX8_debtsOf_11 : decode cX8_debtsOf 11 = .ok (.iload_n 1, 1) := by decide +kernel
theorem dX8_debtsOf_12 : decode cX8_debtsOf 12 = .ok (.aload_n 0, 1) := by decide +kernel
theorem dX8_debtsOf_13 : decode cX8_debtsOf 13 = .ok (.iload_n 2, 1) := by decide +kernel
theorem dX8_debtsOf_14 : decode cX8_debtsOf 14 = .ok (.bipush 6, 2) := by decide +kernel
theorem dX8_debtsOf_16 : decode cX8_debtsOf 16 = .ok (.invokestatic 146, 3) := by decide +kernel
theorem dX8_debtsOf_19 : decode cX8_debtsOf 19 = .ok (.iconst 1, 1) := by decide +kernel
theorem dX8_debtsOf_20 : decode cX8_debtsOf 20 = .ok (.if_icmp .ne 7, 3) := by decide +kernel
theorem dX8_debtsOf_23 : decode cX8_debtsOf 23 = .ok (.iconst 0, 1) := by decide +kernel
theorem dX8_debtsOf_24 : decode cX8_debtsOf 24 = .ok (.goto 9, 3) := by decide +kernel
theorem dX8_debtsOf_27 : decode cX8_debtsOf 27 = .ok (.aload_n 0, 1) := by decide +kernel
theorem dX8_debtsOf_28 : decode cX8_debtsOf 28 = .ok (.iload_n 2, 1) := by decide +kernel
theorem dX8_debtsOf_29 : decode cX8_debtsOf 29 = .ok (.iconst 4, 1) := by decide +kernel
theorem dX8_debtsOf_30 : decode cX8_debtsOf 30 = .ok (.invokestatic 146, 3) := by decide +kernel
theorem dX8_debtsOf_33 : decode cX8_debtsOf 33 = .ok (.iadd, 1) := by decide +kernel
theorem dX8_debtsOf_34 : decode cX8_debtsOf 34 = .ok (.istore_n 1, 1) := by decide +kernel
theorem dX8_debtsOf_35 : decode cX8_debtsOf 35 = .ok (.iinc 2 1, 3) := by decide +kernel
theorem dX8_debtsOf_38 : decode cX8_debtsOf 38 = .ok (.goto (-34), 3) := by decide +kernel
theorem dX8_debtsOf_41 : decode cX8_debtsOf 41 = .ok (.iload_n 1, 1) := by decide +kernel
theorem dX8_debtsOf_42 : decode cX8_debtsOf 42 = .ok (.ireturn, 1) := by decide +kernel
def bX8_debtsOf_0 : List sx_S := [si_const 0, si_is 1, si_const 0, si_is 2, si_go 4 [true, true, true]]
def bX8_debtsOf_4 : List sx_S := [si_il 2, si_al 0, si_const (nI 4), si_iald, si_if2 (fun x y => y ≤ x) 41 [false, true, false], si_il 1, si_al 0, si_il 2, si_const (nI 6), si_cs 147 3 0 0 0 0, si_const 1, si_if2 (fun x y => ¬ x = y) 27 [true, false, true], si_const 0, si_go 33 [true, false, true]]
def bX8_debtsOf_27 : List sx_S := [si_al 0, si_il 2, si_const (nI 4), si_cs 147 3 0 0 0 0, si_go 33 [true, false, true]]
def bX8_debtsOf_33 : List sx_S := [si_bin (fun x y => x + y), si_is 1, si_inc 2 1, si_go 4 [true, true, true]]
def bX8_debtsOf_41 : List sx_S := [si_il 1, si_ri]
def BX8_debtsOf : Nat → List sx_S := fun pc => if pc = 0 then bX8_debtsOf_0 else if pc = 4 then bX8_debtsOf_4 else if pc = 27 then bX8_debtsOf_27 else if pc = 33 then bX8_debtsOf_33 else if pc = 41 then bX8_debtsOf_41 else []
set_option maxRecDepth 20000 in
theorem kX8_debtsOf_0 : sx_BK sx_tb yX8_debtsOf.cls cX8_debtsOf 3 (some .int) ({ frames := 1, cells := 0, slots := 0, locals := 22 } : Room) false false 0 (fun _ => 0) 0 (bX8_debtsOf_0) := ⟨_, ⟨sn_iconst dX8_debtsOf_0 (by decide +kernel), sm_const _⟩, ⟨_, ⟨sn_istore_n dX8_debtsOf_1 rfl (Nat.le_of_ble_eq_true rfl), sm_is _⟩, ⟨_, ⟨sn_iconst dX8_debtsOf_2 (by decide +kernel), sm_const _⟩, ⟨_, ⟨sn_istore_n dX8_debtsOf_3 rfl (Nat.le_of_ble_eq_true rfl), sm_is _⟩, ⟨_, ⟨sn_fall (len := 0) rfl rfl, sm_go _ _⟩, trivial⟩⟩⟩⟩⟩
set_option maxRecDepth 20000 in
theorem kX8_debtsOf_4 : sx_BK sx_tb yX8_debtsOf.cls cX8_debtsOf 3 (some .int) ({ frames := 1, cells := 0, slots := 0, locals := 22 } : Room) false false 0 (fun _ => 0) 4 (bX8_debtsOf_4) := ⟨_, ⟨sn_iload_n dX8_debtsOf_4 rfl, sm_il _⟩, ⟨_, ⟨sn_aload_n dX8_debtsOf_5 rfl, sm_al _⟩, ⟨_, ⟨sn_iconst dX8_debtsOf_6 (by decide +kernel), sm_const _⟩, ⟨_, ⟨sn_iald dX8_debtsOf_7, sm_iald⟩, ⟨_, ⟨sn_ic_ge dX8_debtsOf_8 (by decide +kernel) rfl, sm_if2 _ _ _⟩, ⟨_, ⟨sn_iload_n dX8_debtsOf_11 rfl, sm_il _⟩, ⟨_, ⟨sn_aload_n dX8_debtsOf_12 rfl, sm_al _⟩, ⟨_, ⟨sn_iload_n dX8_debtsOf_13 rfl, sm_il _⟩, ⟨_, ⟨sn_bipush dX8_debtsOf_14 (by decide +kernel), sm_const _⟩, ⟨_, ⟨sn_cs_i ztb_X8_of dX8_debtsOf_16 zw_4_126 zw_4_127 zw_1_8 zw_4_128 zmh_X8 zpd_X8_of (Nat.le_of_ble_eq_true rfl) (Nat.le_of_ble_eq_true rfl) rfl rfl, sm_cs _ _ _ _ _ _⟩, ⟨_, ⟨sn_iconst dX8_debtsOf_19 (by decide +kernel), sm_const _⟩, ⟨_, ⟨sn_ic_ne dX8_debtsOf_20 (by decide +kernel) rfl, sm_if2 _ _ _⟩, ⟨_, ⟨sn_iconst dX8_debtsOf_23 (by decide +kernel), sm_const _⟩, ⟨_, ⟨sn_goto (len := 3) dX8_debtsOf_24 (by decide +kernel) rfl, sm_go _ _⟩, trivial⟩⟩⟩⟩⟩⟩⟩⟩⟩⟩⟩⟩⟩⟩
set_option maxRecDepth 20000 in
theorem kX8_debtsOf_27 : sx_BK sx_tb yX8_debtsOf.cls cX8_debtsOf 3 (some .int) ({ frames := 1, cells := 0, slots := 0, locals := 22 } : Room) false false 0 (fun _ => 0) 27 (bX8_debtsOf_27) := ⟨_, ⟨sn_aload_n dX8_debtsOf_27 rfl, sm_al _⟩, ⟨_, ⟨sn_iload_n dX8_debtsOf_28 rfl, sm_il _⟩, ⟨_, ⟨sn_iconst dX8_debtsOf_29 (by decide +kernel), sm_const _⟩, ⟨_, ⟨sn_cs_i ztb_X8_of dX8_debtsOf_30 zw_4_126 zw_4_127 zw_1_8 zw_4_128 zmh_X8 zpd_X8_of (Nat.le_of_ble_eq_true rfl) (Nat.le_of_ble_eq_true rfl) rfl rfl, sm_cs _ _ _ _ _ _⟩, ⟨_, ⟨sn_fall (len := 0) rfl rfl, sm_go _ _⟩, trivial⟩⟩⟩⟩⟩
set_option maxRecDepth 20000 in
theorem kX8_debtsOf_33 : sx_BK sx_tb yX8_debtsOf.cls cX8_debtsOf 3 (some .int) ({ frames := 1, cells := 0, slots := 0, locals := 22 } : Room) false false 0 (fun _ => 0) 33 (bX8_debtsOf_33) := ⟨_, ⟨sn_iadd dX8_debtsOf_33, sm_bin _⟩, ⟨_, ⟨sn_istore_n dX8_debtsOf_34 rfl (Nat.le_of_ble_eq_true rfl), sm_is _⟩, ⟨_, ⟨sn_iinc dX8_debtsOf_35 (by decide +kernel) (Nat.le_of_ble_eq_true rfl), sm_inc _ _⟩, ⟨_, ⟨sn_goto (len := 3) dX8_debtsOf_38 (by decide +kernel) rfl, sm_go _ _⟩, trivial⟩⟩⟩⟩
set_option maxRecDepth 20000 in
theorem kX8_debtsOf_41 : sx_BK sx_tb yX8_debtsOf.cls cX8_debtsOf 3 (some .int) ({ frames := 1, cells := 0, slots := 0, locals := 22 } : Room) false false 0 (fun _ => 0) 41 (bX8_debtsOf_41) := ⟨_, ⟨sn_iload_n dX8_debtsOf_41 rfl, sm_il _⟩, ⟨_, ⟨sn_ri (len := 1) dX8_debtsOf_42 rfl, sm_ri⟩, trivial⟩⟩
theorem kX8_debtsOf : ∀ pc, sx_BK sx_tb yX8_debtsOf.cls cX8_debtsOf 3 (some .int) ({ frames := 1, cells := 0, slots := 0, locals := 22 } : Room) false false 0 (fun _ => 0) pc (BX8_debtsOf pc) := fun pc => sx_bk_if (kX8_debtsOf_0) (sx_bk_if (kX8_debtsOf_4) (sx_bk_if (kX8_debtsOf_27) (sx_bk_if (kX8_debtsOf_33) (sx_bk_if (kX8_debtsOf_41) (trivial)))))
theorem okX8_debtsOf : sx_ok sx_tb BX8_debtsOf (yX8_debtsOf, cX8_debtsOf, 3, some .int, { frames := 1, cells := 0, slots := 0, locals := 22 }) := ⟨by decide, by decide +kernel, false, (fun h => by cases h), kX8_debtsOf⟩
theorem dX8_keep_0 : decode cX8_keep 0 = .ok (.aload_n 0, 1) := by decide +kernel
theorem dX8_keep_1 : decode cX8_keep 1 = .ok (.getfield 143, 3) := by decide +kernel
theorem dX8_keep_4 : decode cX8_keep 4 = .ok (.bipush 24, 2) := by decide +kernel
theorem dX8_keep_6 : decode cX8_keep 6 = .ok (.if_icmp .ne 43, 3) := by decide +kernel
theorem dX8_keep_9 : decode cX8_keep 9 = .ok (.iconst 0, 1) := by decide +kernel
theorem dX8_keep_10 : decode cX8_keep 10 = .ok (.istore_n 1, 1) := by decide +kernel
theorem dX8_keep_11 : decode cX8_keep 11 = .ok (.iload_n 1, 1) := by decide +kernel
theorem dX8_keep_12 : decode cX8_keep 12 = .ok (.sipush 1472, 3) := by decide +kernel
theorem dX8_keep_15 : decode cX8_keep 15 = .ok (.if_icmp .ge 24, 3) := by decide +kernel
theorem dX8_keep_18 : decode cX8_keep 18 = .ok (.aload_n 0, 1) := by decide +kernel
theorem dX8_keep_19 : decode cX8_keep 19 = .ok (.getfield 28, 3) := by decide +kernel
theorem dX8_keep_22 : decode cX8_keep 22 = .ok (.iload_n 1, 1) := by decide +kernel
theorem dX8_keep_23 : decode cX8_keep 23 = .ok (.aload_n 0, 1) := by decide +kernel
theorem dX8_keep_24 : decode cX8_keep 24 = .ok (.getfield 28, 3) := by decide +kernel
theorem dX8_keep_27 : decode cX8_keep 27 = .ok (.iload_n 1, 1) := by decide +kernel
theorem dX8_keep_28 : decode cX8_keep 28 = .ok (.bipush 64, 2) := by decide +kernel
theorem dX8_keep_30 : decode cX8_keep 30 = .ok (.iadd, 1) := by decide +kernel
theorem dX8_keep_31 : decode cX8_keep 31 = .ok (.iaload, 1) := by decide +kernel
theorem dX8_keep_32 : decode cX8_keep 32 = .ok (.iastore, 1) := by decide +kernel
theorem dX8_keep_33 : decode cX8_keep 33 = .ok (.iinc 1 1, 3) := by decide +kernel
theorem dX8_keep_36 : decode cX8_keep 36 = .ok (.goto (-25), 3) := by decide +kernel
theorem dX8_keep_39 : decode cX8_keep 39 = .ok (.aload_n 0, 1) := by decide +kernel
theorem dX8_keep_40 : decode cX8_keep 40 = .ok (.dup, 1) := by decide +kernel
theorem dX8_keep_41 : decode cX8_keep 41 = .ok (.getfield 143, 3) := by decide +kernel
theorem dX8_keep_44 : decode cX8_keep 44 = .ok (.iconst 1, 1) := by decide +kernel
theorem dX8_keep_45 : decode cX8_keep 45 = .ok (.isub, 1) := by decide +kernel
theorem dX8_keep_46 : decode cX8_keep 46 = .ok (.putfield 143, 3) := by decide +kernel
theorem dX8_keep_49 : decode cX8_keep 49 = .ok (.iconst 0, 1) := by decide +kernel
theorem dX8_keep_50 : decode cX8_keep 50 = .ok (.istore_n 1, 1) := by decide +kernel
theorem dX8_keep_51 : decode cX8_keep 51 = .ok (.iload_n 1, 1) := by decide +kernel
theorem dX8_keep_52 : decode cX8_keep 52 = .ok (.bipush 64, 2) := by decide +kernel
theorem dX8_keep_54 : decode cX8_keep 54 = .ok (.if_icmp .ge 29, 3) := by decide +kernel
theorem dX8_keep_57 : decode cX8_keep 57 = .ok (.aload_n 0, 1) := by decide +kernel
theorem dX8_keep_58 : decode cX8_keep 58 = .ok (.getfield 28, 3) := by decide +kernel
theorem dX8_keep_61 : decode cX8_keep 61 = .ok (.bipush 64, 2) := by decide +kernel
theorem dX8_keep_63 : decode cX8_keep 63 = .ok (.aload_n 0, 1) := by decide +kernel
theorem dX8_keep_64 : decode cX8_keep 64 = .ok (.getfield 143, 3) := by decide +kernel
theorem dX8_keep_67 : decode cX8_keep 67 = .ok (.imul, 1) := by decide +kernel
theorem dX8_keep_68 : decode cX8_keep 68 = .ok (.iload_n 1, 1) := by decide +kernel
theorem dX8_keep_69 : decode cX8_keep 69 = .ok (.iadd, 1) := by decide +kernel
theorem dX8_keep_70 : decode cX8_keep 70 = .ok (.aload_n 0, 1) := by decide +kernel
theorem dX8_keep_71 : decode cX8_keep 71 = .ok (.getfield 19, 3) := by decide +kernel
theorem dX8_keep_74 : decode cX8_keep 74 = .ok (.iload_n 1, 1) := by decide +kernel
theorem dX8_keep_75 : decode cX8_keep 75 = .ok (.iaload, 1) := by decide +kernel
theorem dX8_keep_76 : decode cX8_keep 76 = .ok (.iastore, 1) := by decide +kernel
theorem dX8_keep_77 : decode cX8_keep 77 = .ok (.iinc 1 1, 3) := by decide +kernel
theorem dX8_keep_80 : decode cX8_keep 80 = .ok (.goto (-29), 3) := by decide +kernel
theorem dX8_keep_83 : decode cX8_keep 83 = .ok (.aload_n 0, 1) := by decide +kernel
theorem dX8_keep_84 : decode cX8_keep 84 = .ok (.dup, 1) := by decide +kernel
theorem dX8_keep_85 : decode cX8_keep 85 = .ok (.getfield 143, 3) := by decide +kernel
theorem dX8_keep_88 : decode cX8_keep 88 = .ok (.iconst 1, 1) := by decide +kernel
theorem dX8_keep_89 : decode cX8_keep 89 = .ok (.iadd, 1) := by decide +kernel
theorem dX8_keep_90 : decode cX8_keep 90 = .ok (.putfield 143, 3) := by decide +kernel
theorem dX8_keep_93 : decode cX8_keep 93 = .ok (.return_, 1) := by decide +kernel
def bX8_keep_0 : List sx_S := [si_al 0, si_get 7 9, si_const (nI 24), si_if2 (fun x y => ¬ x = y) 49 [true, false], si_const 0, si_is 1, si_go 11 [true, true]]
def bX8_keep_11 : List sx_S := [si_il 1, si_const (nI 1472), si_if2 (fun x y => y ≤ x) 39 [true, false], si_al 0, si_get 7 8, si_il 1, si_al 0, si_get 7 8, si_il 1, si_const (nI 64), si_bin (fun x y => x + y), si_iald, si_iast, si_inc 1 1, si_go 11 [true, true]]
def bX8_keep_39 : List sx_S := [si_al 0, si_dup, si_get 7 9, si_const 1, si_bin (fun x y => x - y), si_put 7 9 0, si_go 49 [true, false]]
def bX8_keep_49 : List sx_S := [si_const 0, si_is 1, si_go 51 [true, true]]
def bX8_keep_51 : List sx_S := [si_il 1, si_const (nI 64), si_if2 (fun x y => y ≤ x) 83 [true, false], si_al 0, si_get 7 8, si_const (nI 64), si_al 0, si_get 7 9, si_bin (fun x y => x * y), si_il 1, si_bin (fun x y => x + y), si_al 0, si_get 7 5, si_il 1, si_iald, si_iast, si_inc 1 1, si_go 51 [true, true]]
def bX8_keep_83 : List sx_S := [si_al 0, si_dup, si_get 7 9, si_const 1, si_bin (fun x y => x + y), si_put 7 9 0, si_rv]
def BX8_keep : Nat → List sx_S := fun pc => if pc = 0 then bX8_keep_0 else if pc = 11 then bX8_keep_11 else if pc = 39 then bX8_keep_39 else if pc = 49 then bX8_keep_49 else if pc = 51 then bX8_keep_51 else if pc = 83 then bX8_keep_83 else []
set_option maxRecDepth 20000 in
theorem kX8_keep_0 : sx_BK sx_tb yX8_keep.cls cX8_keep 2 (none) ({ frames := 0, cells := 0, slots := 0, locals := 0 } : Room) false false 0 (fun _ => 0) 0 (bX8_keep_0) := ⟨_, ⟨sn_aload_n dX8_keep_0 rfl, sm_al _⟩, ⟨_, ⟨sn_get (C := RX8) (T := TX8) (N := 23) dX8_keep_1 rfl zinX8 (Nat.le_of_ble_eq_true rfl) zw_3_191, sm_get _ _⟩, ⟨_, ⟨sn_bipush dX8_keep_4 (by decide +kernel), sm_const _⟩, ⟨_, ⟨sn_ic_ne dX8_keep_6 (by decide +kernel) rfl, sm_if2 _ _ _⟩, ⟨_, ⟨sn_iconst dX8_keep_9 (by decide +kernel), sm_const _⟩, ⟨_, ⟨sn_istore_n dX8_keep_10 rfl (Nat.le_of_ble_eq_true rfl), sm_is _⟩, ⟨_, ⟨sn_fall (len := 0) rfl rfl, sm_go _ _⟩, trivial⟩⟩⟩⟩⟩⟩⟩
set_option maxRecDepth 20000 in
theorem kX8_keep_11 : sx_BK sx_tb yX8_keep.cls cX8_keep 2 (none) ({ frames := 0, cells := 0, slots := 0, locals := 0 } : Room) false false 0 (fun _ => 0) 11 (bX8_keep_11) := ⟨_, ⟨sn_iload_n dX8_keep_11 rfl, sm_il _⟩, ⟨_, ⟨sn_sipush dX8_keep_12 (by decide +kernel), sm_const _⟩, ⟨_, ⟨sn_ic_ge dX8_keep_15 (by decide +kernel) rfl, sm_if2 _ _ _⟩, ⟨_, ⟨sn_aload_n dX8_keep_18 rfl, sm_al _⟩, ⟨_, ⟨sn_get (C := RX8) (T := TX8) (N := 23) dX8_keep_19 rfl zinX8 (Nat.le_of_ble_eq_true rfl) zw_3_190, sm_get _ _⟩, ⟨_, ⟨sn_iload_n dX8_keep_22 rfl, sm_il _⟩, ⟨_, ⟨sn_aload_n dX8_keep_23 rfl, sm_al _⟩, ⟨_, ⟨sn_get (C := RX8) (T := TX8) (N := 23) dX8_keep_24 rfl zinX8 (Nat.le_of_ble_eq_true rfl) zw_3_190, sm_get _ _⟩, ⟨_, ⟨sn_iload_n dX8_keep_27 rfl, sm_il _⟩, ⟨_, ⟨sn_bipush dX8_keep_28 (by decide +kernel), sm_const _⟩, ⟨_, ⟨sn_iadd dX8_keep_30, sm_bin _⟩, ⟨_, ⟨sn_iald dX8_keep_31, sm_iald⟩, ⟨_, ⟨sn_iast dX8_keep_32, sm_iast⟩, ⟨_, ⟨sn_iinc dX8_keep_33 (by decide +kernel) (Nat.le_of_ble_eq_true rfl), sm_inc _ _⟩, ⟨_, ⟨sn_goto (len := 3) dX8_keep_36 (by decide +kernel) rfl, sm_go _ _⟩, trivial⟩⟩⟩⟩⟩⟩⟩⟩⟩⟩⟩⟩⟩⟩⟩
set_option maxRecDepth 20000 in
theorem kX8_keep_39 : sx_BK sx_tb yX8_keep.cls cX8_keep 2 (none) ({ frames := 0, cells := 0, slots := 0, locals := 0 } : Room) false false 0 (fun _ => 0) 39 (bX8_keep_39) := ⟨_, ⟨sn_aload_n dX8_keep_39 rfl, sm_al _⟩, ⟨_, ⟨sn_dup dX8_keep_40, sm_dup⟩, ⟨_, ⟨sn_get (C := RX8) (T := TX8) (N := 23) dX8_keep_41 rfl zinX8 (Nat.le_of_ble_eq_true rfl) zw_3_191, sm_get _ _⟩, ⟨_, ⟨sn_iconst dX8_keep_44 (by decide +kernel), sm_const _⟩, ⟨_, ⟨sn_isub dX8_keep_45, sm_bin _⟩, ⟨_, ⟨sn_put (C := RX8) (T := TX8) (N := 23) dX8_keep_46 rfl zinX8 tyX8_ok nmX8 (Nat.le_of_ble_eq_true rfl) zw_3_191 rfl (tyX8_ok 9 (Nat.le_of_ble_eq_true rfl)) trivial, sm_put _ _ _⟩, ⟨_, ⟨sn_fall (len := 0) rfl rfl, sm_go _ _⟩, trivial⟩⟩⟩⟩⟩⟩⟩
set_option maxRecDepth 20000 in
theorem kX8_keep_49 : sx_BK sx_tb yX8_keep.cls cX8_keep 2 (none) ({ frames := 0, cells := 0, slots := 0, locals := 0 } : Room) false false 0 (fun _ => 0) 49 (bX8_keep_49) := ⟨_, ⟨sn_iconst dX8_keep_49 (by decide +kernel), sm_const _⟩, ⟨_, ⟨sn_istore_n dX8_keep_50 rfl (Nat.le_of_ble_eq_true rfl), sm_is _⟩, ⟨_, ⟨sn_fall (len := 0) rfl rfl, sm_go _ _⟩, trivial⟩⟩⟩
set_option maxRecDepth 20000 in
theorem kX8_keep_51 : sx_BK sx_tb yX8_keep.cls cX8_keep 2 (none) ({ frames := 0, cells := 0, slots := 0, locals := 0 } : Room) false false 0 (fun _ => 0) 51 (bX8_keep_51) := ⟨_, ⟨sn_iload_n dX8_keep_51 rfl, sm_il _⟩, ⟨_, ⟨sn_bipush dX8_keep_52 (by decide +kernel), sm_const _⟩, ⟨_, ⟨sn_ic_ge dX8_keep_54 (by decide +kernel) rfl, sm_if2 _ _ _⟩, ⟨_, ⟨sn_aload_n dX8_keep_57 rfl, sm_al _⟩, ⟨_, ⟨sn_get (C := RX8) (T := TX8) (N := 23) dX8_keep_58 rfl zinX8 (Nat.le_of_ble_eq_true rfl) zw_3_190, sm_get _ _⟩, ⟨_, ⟨sn_bipush dX8_keep_61 (by decide +kernel), sm_const _⟩, ⟨_, ⟨sn_aload_n dX8_keep_63 rfl, sm_al _⟩, ⟨_, ⟨sn_get (C := RX8) (T := TX8) (N := 23) dX8_keep_64 rfl zinX8 (Nat.le_of_ble_eq_true rfl) zw_3_191, sm_get _ _⟩, ⟨_, ⟨sn_imul dX8_keep_67, sm_bin _⟩, ⟨_, ⟨sn_iload_n dX8_keep_68 rfl, sm_il _⟩, ⟨_, ⟨sn_iadd dX8_keep_69, sm_bin _⟩, ⟨_, ⟨sn_aload_n dX8_keep_70 rfl, sm_al _⟩, ⟨_, ⟨sn_get (C := RX8) (T := TX8) (N := 23) dX8_keep_71 rfl zinX8 (Nat.le_of_ble_eq_true rfl) zw_3_187, sm_get _ _⟩, ⟨_, ⟨sn_iload_n dX8_keep_74 rfl, sm_il _⟩, ⟨_, ⟨sn_iald dX8_keep_75, sm_iald⟩, ⟨_, ⟨sn_iast dX8_keep_76, sm_iast⟩, ⟨_, ⟨sn_iinc dX8_keep_77 (by decide +kernel) (Nat.le_of_ble_eq_true rfl), sm_inc _ _⟩, ⟨_, ⟨sn_goto (len := 3) dX8_keep_80 (by decide +kernel) rfl, sm_go _ _⟩, trivial⟩⟩⟩⟩⟩⟩⟩⟩⟩⟩⟩⟩⟩⟩⟩⟩⟩⟩
set_option maxRecDepth 20000 in
theorem kX8_keep_83 : sx_BK sx_tb yX8_keep.cls cX8_keep 2 (none) ({ frames := 0, cells := 0, slots := 0, locals := 0 } : Room) false false 0 (fun _ => 0) 83 (bX8_keep_83) := ⟨_, ⟨sn_aload_n dX8_keep_83 rfl, sm_al _⟩, ⟨_, ⟨sn_dup dX8_keep_84, sm_dup⟩, ⟨_, ⟨sn_get (C := RX8) (T := TX8) (N := 23) dX8_keep_85 rfl zinX8 (Nat.le_of_ble_eq_true rfl) zw_3_191, sm_get _ _⟩, ⟨_, ⟨sn_iconst dX8_keep_88 (by decide +kernel), sm_const _⟩, ⟨_, ⟨sn_iadd dX8_keep_89, sm_bin _⟩, ⟨_, ⟨sn_put (C := RX8) (T := TX8) (N := 23) dX8_keep_90 rfl zinX8 tyX8_ok nmX8 (Nat.le_of_ble_eq_true rfl) zw_3_191 rfl (tyX8_ok 9 (Nat.le_of_ble_eq_true rfl)) trivial, sm_put _ _ _⟩, ⟨_, ⟨sn_rv (len := 1) dX8_keep_93 rfl, sm_rv⟩, trivial⟩⟩⟩⟩⟩⟩⟩
theorem kX8_keep : ∀ pc, sx_BK sx_tb yX8_keep.cls cX8_keep 2 (none) ({ frames := 0, cells := 0, slots := 0, locals := 0 } : Room) false false 0 (fun _ => 0) pc (BX8_keep pc) := fun pc => sx_bk_if (kX8_keep_0) (sx_bk_if (kX8_keep_11) (sx_bk_if (kX8_keep_39) (sx_bk_if (kX8_keep_49) (sx_bk_if (kX8_keep_51) (sx_bk_if (kX8_keep_83) (trivial))))))
theorem okX8_keep : sx_ok sx_tb BX8_keep (yX8_keep, cX8_keep, 2, none, { frames := 0, cells := 0, slots := 0, locals := 0 }) := ⟨by decide, by decide +kernel, false, (fun h => by cases h), kX8_keep⟩
theorem dX8_weeks_0 : decode cX8_weeks 0 = .ok (.aload_n 0, 1) := by decide +kernel
theorem dX8_weeks_1 : decode cX8_weeks 1 = .ok (.iconst 0, 1) := by decide +kernel
theorem dX8_weeks_2 : decode cX8_weeks 2 = .ok (.putfield 44, 3) := by decide +kernel
theorem dX8_weeks_5 : decode cX8_weeks 5 = .ok (.aload_n 0, 1) := by decide +kernel
theorem dX8_weeks_6 : decode cX8_weeks 6 = .ok (.invokevirtual 172, 3) := by decide +kernel
theorem dX8_weeks_9 : decode cX8_weeks 9 = .ok (.ifCond .ne 6, 3) := by decide +kernel
theorem dX8_weeks_12 : decode cX8_weeks 12 = .ok (.ldc 175, 2) := by decide +kernel
theorem dX8_weeks_14 : decode cX8_weeks 14 = .ok (.ireturn, 1) := by decide +kernel
theorem dX8_weeks_15 : decode cX8_weeks 15 = .ok (.iload_n 1, 1) := by decide +kernel
theorem dX8_weeks_16 : decode cX8_weeks 16 = .ok (.i2l, 1) := by decide +kernel
theorem dX8_weeks_17 : decode cX8_weeks 17 = .ok (.lconst 1, 1) := by decide +kernel
theorem dX8_weeks_18 : decode cX8_weeks 18 = .ok (.ldc2_w 176, 3) := by decide +kernel
theorem dX8_weeks_21 : decode cX8_weeks 21 = .ok (.invokestatic 54, 3) := by decide +kernel
theorem dX8_weeks_24 : decode cX8_weeks 24 = .ok (.ifCond .ne 6, 3) := by decide +kernel
theorem dX8_weeks_27 : decode cX8_weeks 27 = .ok (.ldc 64, 2) := by decide +kernel
theorem dX8_weeks_29 : decode cX8_weeks 29 = .ok (.ireturn, 1) := by decide +kernel
theorem dX8_weeks_30 : decode cX8_weeks 30 = .ok (.aload_n 0, 1) := by decide +kernel
theorem dX8_weeks_31 : decode cX8_weeks 31 = .ok (.getfield 19, 3) := by decide +kernel
theorem dX8_weeks_34 : decode cX8_weeks 34 = .ok (.iconst 5, 1) := by decide +kernel
theorem dX8_weeks_35 : decode cX8_weeks 35 = .ok (.iaload, 1) := by decide +kernel
theorem dX8_weeks_36 : decode cX8_weeks 36 = .ok (.iload_n 1, 1) := by decide +kernel
theorem dX8_weeks_37 : decode cX8_weeks 37 = .ok (.iadd, 1) := by decide +kernel
theorem dX8_weeks_38 : decode cX8_weeks 38 = .ok (.sipush 999, 3) := by decide +kernel
theorem dX8_weeks_41 : decode cX8_weeks 41 = .ok (.if_icmp .le 6, 3) := by decide +kernel
theorem dX8_weeks_44 : decode cX8_weeks 44 = .ok (.ldc 74, 2) := by decide +kernel
theorem dX8_weeks_46 : decode cX8_weeks 46 = .ok (.ireturn, 1) := by decide +kernel
theorem dX8_weeks_47 : decode cX8_weeks 47 = .ok (.iconst 0, 1) := by decide +kernel
theorem dX8_weeks_48 : decode cX8_weeks 48 = .ok (.istore_n 2, 1) := by decide +kernel
theorem dX8_weeks_49 : decode cX8_weeks 49 = .ok (.iload_n 2, 1) := by decide +kernel
theorem dX8_weeks_50 : decode cX8_weeks 50 = .ok (.iload_n 1, 1) := by decide +kernel
theorem dX8_weeks_51 : decode cX8_weeks 51 = .ok (.if_icmp .ge 20, 3) := by decide +kernel
theorem dX8_weeks_54 : decode cX8_weeks 54 = .ok (.aload_n 0, 1) := by decide +kernel
theorem dX8_weeks_55 : decode cX8_weeks 55 = .ok (.invokevirtual 178, 3) := by decide +kernel
theorem dX8_weeks_58 : decode cX8_weeks 58 = .ok (.aload_n 0, 1) := by decide +kernel
theorem dX8_weeks_59 : decode cX8_weeks 59 = .ok (.getfield 19, 3) := by decide +kernel
theorem dX8_weeks_62 : decode cX8_weeks 62 = .ok (.invokestatic 168, 3) := by decide +kernel
theorem dX8_weeks_65 : decode cX8_weeks 65 = .ok (.iinc 2 1, 3) := by decide +kernel
theorem dX8_weeks_68 : decode cX8_weeks 68 = .ok (.goto (-19), 3) := by decide +kernel
theorem dX8_weeks_71 : decode cX8_weeks 71 = .ok (.aload_n 0, 1) := by decide +kernel
theorem dX8_weeks_72 : decode cX8_weeks 72 = .ok (.getfield 19, 3) := by decide +kernel
theorem dX8_weeks_75 : decode cX8_weeks 75 = .ok (.iconst 1, 1) := by decide +kernel
theorem dX8_weeks_76 : decode cX8_weeks 76 = .ok (.iaload, 1) := by decide +kernel
theorem dX8_weeks_77 : decode cX8_weeks 77 = .ok (.ireturn, 1) := by decide +kernel
def bX8_weeks_0 : List sx_S := [si_al 0, si_const 0, si_put 7 0 0, si_al 0, si_cv 7 145 0 0 0 0 0, si_if1 (fun x => ¬ x = 0) 15 [true, true, false], si_const (-1000002), si_ri]
def bX8_weeks_15 : List sx_S := [si_il 1, si_i2l, si_lconst 1, si_lconst (lN 24), si_cs 124 3 0 0 0 0, si_if1 (fun x => ¬ x = 0) 30 [true, true, false], si_const (-1000001), si_ri]
def bX8_weeks_30 : List sx_S := [si_al 0, si_get 7 5, si_const (nI 5), si_iald, si_il 1, si_bin (fun x y => x + y), si_const (nI 999), si_if2 (fun x y => x ≤ y) 47 [true, true, false], si_const (-1000003), si_ri]
def bX8_weeks_47 : List sx_S := [si_const 0, si_is 2, si_go 49 [true, true, true]]
def bX8_weeks_49 : List sx_S := [si_il 2, si_il 1, si_if2 (fun x y => y ≤ x) 71 [true, false, false], si_al 0, si_cv 7 158 0 0 0 0 0, si_al 0, si_get 7 5, si_cs 153 1 0 0 0 0, si_inc 2 1, si_go 49 [true, true, true]]
def bX8_weeks_71 : List sx_S := [si_al 0, si_get 7 5, si_const 1, si_iald, si_ri]
def BX8_weeks : Nat → List sx_S := fun pc => if pc = 0 then bX8_weeks_0 else if pc = 15 then bX8_weeks_15 else if pc = 30 then bX8_weeks_30 else if pc = 47 then bX8_weeks_47 else if pc = 49 then bX8_weeks_49 else if pc = 71 then bX8_weeks_71 else []
set_option maxRecDepth 20000 in
theorem kX8_weeks_0 : sx_BK sx_tb yX8_weeks.cls cX8_weeks 3 (some .int) ({ frames := 4, cells := 0, slots := 0, locals := 89 } : Room) false false 0 (fun _ => 0) 0 (bX8_weeks_0) := ⟨_, ⟨sn_aload_n dX8_weeks_0 rfl, sm_al _⟩, ⟨_, ⟨sn_iconst dX8_weeks_1 (by decide +kernel), sm_const _⟩, ⟨_, ⟨sn_put (C := RX8) (T := TX8) (N := 23) dX8_weeks_2 rfl zinX8 tyX8_ok nmX8 (Nat.le_of_ble_eq_true rfl) zw_3_182 rfl (tyX8_ok 0 (Nat.le_of_ble_eq_true rfl)) trivial, sm_put _ _ _⟩, ⟨_, ⟨sn_aload_n dX8_weeks_5 rfl, sm_al _⟩, ⟨_, ⟨sn_cv_z (N := 23) (T := TX8) ztb_X8_isThere dX8_weeks_6 rfl rfl zw_4_110 zw_4_112 zw_0_45 zw_1_8 zw_4_113 zmh_X8 zpd_X8_isThere (Nat.le_of_ble_eq_true rfl) (Nat.le_of_ble_eq_true rfl) rfl rfl, sm_cv _ _ _ _ _ _ _⟩, ⟨_, ⟨sn_if_ne dX8_weeks_9 (by decide +kernel) rfl, sm_if1 _ _ _⟩, ⟨_, ⟨sn_ldc dX8_weeks_12 zw_4_114, sm_const _⟩, ⟨_, ⟨sn_ri (len := 1) dX8_weeks_14 rfl, sm_ri⟩, trivial⟩⟩⟩⟩⟩⟩⟩⟩
set_option maxRecDepth 20000 in
theorem kX8_weeks_15 : sx_BK sx_tb yX8_weeks.cls cX8_weeks 3 (some .int) ({ frames := 4, cells := 0, slots := 0, locals := 89 } : Room) false false 0 (fun _ => 0) 15 (bX8_weeks_15) := ⟨_, ⟨sn_iload_n dX8_weeks_15 rfl, sm_il _⟩, ⟨_, ⟨sn_i2l dX8_weeks_16, sm_i2l⟩, ⟨_, ⟨sn_lconst dX8_weeks_17 (by decide +kernel), sm_lconst _⟩, ⟨_, ⟨sn_ldc2 dX8_weeks_18 zw_4_115, sm_lconst _⟩, ⟨_, ⟨sn_cs_z ztb_X8_in dX8_weeks_21 zw_4_21 zw_4_22 zw_1_8 zw_4_23 zmh_X8 zpd_X8_in (Nat.le_of_ble_eq_true rfl) (Nat.le_of_ble_eq_true rfl) rfl rfl, sm_cs _ _ _ _ _ _⟩, ⟨_, ⟨sn_if_ne dX8_weeks_24 (by decide +kernel) rfl, sm_if1 _ _ _⟩, ⟨_, ⟨sn_ldc dX8_weeks_27 zw_4_25, sm_const _⟩, ⟨_, ⟨sn_ri (len := 1) dX8_weeks_29 rfl, sm_ri⟩, trivial⟩⟩⟩⟩⟩⟩⟩⟩
set_option maxRecDepth 20000 in
theorem kX8_weeks_30 : sx_BK sx_tb yX8_weeks.cls cX8_weeks 3 (some .int) ({ frames := 4, cells := 0, slots := 0, locals := 89 } : Room) false false 0 (fun _ => 0) 30 (bX8_weeks_30) := ⟨_, ⟨sn_aload_n dX8_weeks_30 rfl, sm_al _⟩, ⟨_, ⟨sn_get (C := RX8) (T := TX8) (N := 23) dX8_weeks_31 rfl zinX8 (Nat.le_of_ble_eq_true rfl) zw_3_187, sm_get _ _⟩, ⟨_, ⟨sn_iconst dX8_weeks_34 (by decide +kernel), sm_const _⟩, ⟨_, ⟨sn_iald dX8_weeks_35, sm_iald⟩, ⟨_, ⟨sn_iload_n dX8_weeks_36 rfl, sm_il _⟩, ⟨_, ⟨sn_iadd dX8_weeks_37, sm_bin _⟩, ⟨_, ⟨sn_sipush dX8_weeks_38 (by decide +kernel), sm_const _⟩, ⟨_, ⟨sn_ic_le dX8_weeks_41 (by decide +kernel) rfl, sm_if2 _ _ _⟩, ⟨_, ⟨sn_ldc dX8_weeks_44 zw_4_48, sm_const _⟩, ⟨_, ⟨sn_ri (len := 1) dX8_weeks_46 rfl, sm_ri⟩, trivial⟩⟩⟩⟩⟩⟩⟩⟩⟩⟩
set_option maxRecDepth 20000 in
theorem kX8_weeks_47 : sx_BK sx_tb yX8_weeks.cls cX8_weeks 3 (some .int) ({ frames := 4, cells := 0, slots := 0, locals := 89 } : Room) false false 0 (fun _ => 0) 47 (bX8_weeks_47) := ⟨_, ⟨sn_iconst dX8_weeks_47 (by decide +kernel), sm_const _⟩, ⟨_, ⟨sn_istore_n dX8_weeks_48 rfl (Nat.le_of_ble_eq_true rfl), sm_is _⟩, ⟨_, ⟨sn_fall (len := 0) rfl rfl, sm_go _ _⟩, trivial⟩⟩⟩
set_option maxRecDepth 20000 in
theorem kX8_weeks_49 : sx_BK sx_tb yX8_weeks.cls cX8_weeks 3 (some .int) ({ frames := 4, cells := 0, slots := 0, locals := 89 } : Room) false false 0 (fun _ => 0) 49 (bX8_weeks_49) := ⟨_, ⟨sn_iload_n dX8_weeks_49 rfl, sm_il _⟩, ⟨_, ⟨sn_iload_n dX8_weeks_50 rfl, sm_il _⟩, ⟨_, ⟨sn_ic_ge dX8_weeks_51 (by decide +kernel) rfl, sm_if2 _ _ _⟩, ⟨_, ⟨sn_aload_n dX8_weeks_54 rfl, sm_al _⟩, ⟨_, ⟨sn_cv_v (N := 23) (T := TX8) ztb_X8_keep dX8_weeks_55 rfl rfl zw_4_116 zw_4_118 zw_0_46 zw_1_8 zw_4_119 zmh_X8 zpd_X8_keep (Nat.le_of_ble_eq_true rfl) (Nat.le_of_ble_eq_true rfl) rfl rfl, sm_cv _ _ _ _ _ _ _⟩, ⟨_, ⟨sn_aload_n dX8_weeks_58 rfl, sm_al _⟩, ⟨_, ⟨sn_get (C := RX8) (T := TX8) (N := 23) dX8_weeks_59 rfl zinX8 (Nat.le_of_ble_eq_true rfl) zw_3_187, sm_get _ _⟩, ⟨_, ⟨sn_cs_v ztb_X8_week dX8_weeks_62 zw_4_120 zw_4_121 zw_1_8 zw_4_122 zmh_X8 zpd_X8_week (Nat.le_of_ble_eq_true rfl) (Nat.le_of_ble_eq_true rfl) rfl rfl, sm_cs _ _ _ _ _ _⟩, ⟨_, ⟨sn_iinc dX8_weeks_65 (by decide +kernel) (Nat.le_of_ble_eq_true rfl), sm_inc _ _⟩, ⟨_, ⟨sn_goto (len := 3) dX8_weeks_68 (by decide +kernel) rfl, sm_go _ _⟩, trivial⟩⟩⟩⟩⟩⟩⟩⟩⟩⟩
set_option maxRecDepth 20000 in
theorem kX8_weeks_71 : sx_BK sx_tb yX8_weeks.cls cX8_weeks 3 (some .int) ({ frames := 4, cells := 0, slots := 0, locals := 89 } : Room) false false 0 (fun _ => 0) 71 (bX8_weeks_71) := ⟨_, ⟨sn_aload_n dX8_weeks_71 rfl, sm_al _⟩, ⟨_, ⟨sn_get (C := RX8) (T := TX8) (N := 23) dX8_weeks_72 rfl zinX8 (Nat.le_of_ble_eq_true rfl) zw_3_187, sm_get _ _⟩, ⟨_, ⟨sn_iconst dX8_weeks_75 (by decide +kernel), sm_const _⟩, ⟨_, ⟨sn_iald dX8_weeks_76, sm_iald⟩, ⟨_, ⟨sn_ri (len := 1) dX8_weeks_77 rfl, sm_ri⟩, trivial⟩⟩⟩⟩⟩
theorem kX8_weeks : ∀ pc, sx_BK sx_tb yX8_weeks.cls cX8_weeks 3 (some .int) ({ frames := 4, cells := 0, slots := 0, locals := 89 } : Room) false false 0 (fun _ => 0) pc (BX8_weeks pc) := fun pc => sx_bk_if (kX8_weeks_0) (sx_bk_if (kX8_weeks_15) (sx_bk_if (kX8_weeks_30) (sx_bk_if (kX8_weeks_47) (sx_bk_if (kX8_weeks_49) (sx_bk_if (kX8_weeks_71) (trivial))))))
theorem okX8_weeks : sx_ok sx_tb BX8_weeks (yX8_weeks, cX8_weeks, 3, some .int, { frames := 4, cells := 0, slots := 0, locals := 89 }) := ⟨by decide, by decide +kernel, false, (fun h => by cases h), kX8_weeks⟩
theorem dX8_stop_0 : decode cX8_stop 0 = .ok (.aload_n 0, 1) := by decide +kernel
theorem dX8_stop_1 : decode cX8_stop 1 = .ok (.iconst 0, 1) := by decide +kernel
theorem dX8_stop_2 : decode cX8_stop 2 = .ok (.putfield 44, 3) := by decide +kernel
theorem dX8_stop_5 : decode cX8_stop 5 = .ok (.aload_n 0, 1) := by decide +kernel
theorem dX8_stop_6 : decode cX8_stop 6 = .ok (.iload_n 1, 1) := by decide +kernel
theorem dX8_stop_7 : decode cX8_stop 7 = .ok (.invokevirtual 181, 3) := by decide +kernel
theorem dX8_stop_10 : decode cX8_stop 10 = .ok (.ifCond .eq 15, 3) := by decide +kernel
theorem dX8_stop_13 : decode cX8_stop 13 = .ok (.iload_n 2, 1) := by decide +kernel
theorem dX8_stop_14 : decode cX8_stop 14 = .ok (.i2l, 1) := by decide +kernel
theorem dX8_stop_15 : decode cX8_stop 15 = .ok (.lconst 0, 1) := by decide +kernel
theorem dX8_stop_16 : decode cX8_stop 16 = .ok (.ldc2_w 184, 3) := by decide +kernel
theorem dX8_stop_19 : decode cX8_stop 19 = .ok (.invokestatic 54, 3) := by decide +kernel
theorem dX8_stop_22 : decode cX8_stop 22 = .ok (.ifCond .ne 6, 3) := by decide +kernel
theorem dX8_stop_25 : decode cX8_stop 25 = .ok (.ldc 64, 2) := by decide +kernel
theorem dX8_stop_27 : decode cX8_stop 27 = .ok (.ireturn, 1) := by decide +kernel
theorem dX8_stop_28 : decode cX8_stop 28 = .ok (.aload_n 0, 1) := by decide +kernel
theorem dX8_stop_29 : decode cX8_stop 29 = .ok (.invokevirtual 178, 3) := by decide +kernel
theorem dX8_stop_32 : decode cX8_stop 32 = .ok (.aload_n 0, 1) := by decide +kernel
theorem dX8_stop_33 : decode cX8_stop 33 = .ok (.getfield 19, 3) := by decide +kernel
theorem dX8_stop_36 : decode cX8_stop 36 = .ok (.iload_n 1, 1) := by decide +kernel
theorem dX8_stop_37 : decode cX8_stop 37 = .ok (.iconst 3, 1) := by decide +kernel
theorem dX8_stop_38 : decode cX8_stop 38 = .ok (.invokestatic 146, 3) := by decide +kernel
theorem dX8_stop_41 : decode cX8_stop 41 = .ok (.istore_n 3, 1) := by decide +kernel
theorem dX8_stop_42 : decode cX8_stop 42 = .ok (.aload_n 0, 1) := by decide +kernel
theorem dX8_stop_43 : decode cX8_stop 43 = .ok (.getfield 19, 3) := by decide +kernel
theorem dX8_stop_46 : decode cX8_stop 46 = .ok (.bipush 10, 2) := by decide +kernel
theorem dX8_stop_48 : decode cX8_stop 48 = .ok (.bipush 9, 2) := by decide +kernel
theorem dX8_stop_50 : decode cX8_stop 50 = .ok (.iload_n 1, 1) := by decide +kernel
theorem dX8_stop_51 : decode cX8_stop 51 = .ok (.imul, 1) := by decide +kernel
theorem dX8_stop_52 : decode cX8_stop 52 = .ok (.iadd, 1) := by decide +kernel
theorem dX8_stop_53 : decode cX8_stop 53 = .ok (.iconst 3, 1) := by decide +kernel
theorem dX8_stop_54 : decode cX8_stop 54 = .ok (.iadd, 1) := by decide +kernel
theorem dX8_stop_55 : decode cX8_stop 55 = .ok (.iload_n 2, 1) := by decide +kernel
theorem dX8_stop_56 : decode cX8_stop 56 = .ok (.iastore, 1) := by decide +kernel
theorem dX8_stop_57 : decode cX8_stop 57 = .ok (.iload_n 3, 1) := by decide +kernel
theorem dX8_stop_58 : decode cX8_stop 58 = .ok (.ireturn, 1) := by decide +kernel
def bX8_stop_0 : List sx_S := [si_al 0, si_const 0, si_put 7 0 0, si_al 0, si_il 1, si_cv 7 146 1 0 0 0 0, si_if1 (fun x => x = 0) 25 [false, false, false, false], si_il 2, si_i2l, si_lconst 0, si_lconst (lN 99), si_cs 124 3 0 0 0 0, si_if1 (fun x => ¬ x = 0) 28 [true, true, true, false], si_go 25 [false, false, false, false]]
def bX8_stop_25 : List sx_S := [si_const (-1000001), si_ri]
def bX8_stop_28 : List sx_S := [si_al 0, si_cv 7 158 0 0 0 0 0, si_al 0, si_get 7 5, si_il 1, si_const (nI 3), si_cs 147 3 0 0 0 0, si_is 3, si_al 0, si_get 7 5, si_const (nI 10), si_const (nI 9), si_il 1, si_bin (fun x y => x * y), si_bin (fun x y => x + y), si_const (nI 3), si_bin (fun x y => x + y), si_il 2, si_iast, si_il 3, si_ri]
def BX8_stop : Nat → List sx_S := fun pc => if pc = 0 then bX8_stop_0 else if pc = 25 then bX8_stop_25 else if pc = 28 then bX8_stop_28 else []
set_option maxRecDepth 20000 in
theorem kX8_stop_0 : sx_BK sx_tb yX8_stop.cls cX8_stop 4 (some .int) ({ frames := 2, cells := 0, slots := 0, locals := 46 } : Room) false false 0 (fun _ => 0) 0 (bX8_stop_0) := ⟨_, ⟨sn_aload_n dX8_stop_0 rfl, sm_al _⟩, ⟨_, ⟨sn_iconst dX8_stop_1 (by decide +kernel), sm_const _⟩, ⟨_, ⟨sn_put (C := RX8) (T := TX8) (N := 23) dX8_stop_2 rfl zinX8 tyX8_ok nmX8 (Nat.le_of_ble_eq_true rfl) zw_3_182 rfl (tyX8_ok 0 (Nat.le_of_ble_eq_true rfl)) trivial, sm_put _ _ _⟩, ⟨_, ⟨sn_aload_n dX8_stop_5 rfl, sm_al _⟩, ⟨_, ⟨sn_iload_n dX8_stop_6 rfl, sm_il _⟩, ⟨_, ⟨sn_cv_z (N := 23) (T := TX8) ztb_X8_isDebtor dX8_stop_7 rfl rfl zw_4_145 zw_4_147 zw_0_47 zw_1_8 zw_4_148 zmh_X8 zpd_X8_isDebtor (Nat.le_of_ble_eq_true rfl) (Nat.le_of_ble_eq_true rfl) rfl rfl, sm_cv _ _ _ _ _ _ _⟩, ⟨_, ⟨sn_if_eq dX8_stop_10 (by decide +kernel) rfl, sm_if1 _ _ _⟩, ⟨_, ⟨sn_iload_n dX8_stop_13 rfl, sm_il _⟩, ⟨_, ⟨sn_i2l dX8_stop_14, sm_i2l⟩, ⟨_, ⟨sn_lconst dX8_stop_15 (by decide +kernel), sm_lconst _⟩, ⟨_, ⟨sn_ldc2 dX8_stop_16 zw_4_149, sm_lconst _⟩, ⟨_, ⟨sn_cs_z ztb_X8_in dX8_stop_19 zw_4_21 zw_4_22 zw_1_8 zw_4_23 zmh_X8 zpd_X8_in (Nat.le_of_ble_eq_true rfl) (Nat.le_of_ble_eq_true rfl) rfl rfl, sm_cs _ _ _ _ _ _⟩, ⟨_, ⟨sn_if_ne dX8_stop_22 (by decide +kernel) rfl, sm_if1 _ _ _⟩, ⟨_, ⟨sn_fall (len := 0) rfl rfl, sm_go _ _⟩, trivial⟩⟩⟩⟩⟩⟩⟩⟩⟩⟩⟩⟩⟩⟩
set_option maxRecDepth 20000 in
theorem kX8_stop_25 : sx_BK sx_tb yX8_stop.cls cX8_stop 4 (some .int) ({ frames := 2, cells := 0, slots := 0, locals := 46 } : Room) false false 0 (fun _ => 0) 25 (bX8_stop_25) := ⟨_, ⟨sn_ldc dX8_stop_25 zw_4_25, sm_const _⟩, ⟨_, ⟨sn_ri (len := 1) dX8_stop_27 rfl, sm_ri⟩, trivial⟩⟩
set_option maxRecDepth 20000 in
theorem kX8_stop_28 : sx_BK sx_tb yX8_stop.cls cX8_stop 4 (some .int) ({ frames := 2, cells := 0, slots := 0, locals := 46 } : Room) false false 0 (fun _ => 0) 28 (bX8_stop_28) := ⟨_, ⟨sn_aload_n dX8_stop_28 rfl, sm_al _⟩, ⟨_, ⟨sn_cv_v (N := 23) (T := TX8) ztb_X8_keep dX8_stop_29 rfl rfl zw_4_116 zw_4_118 zw_0_46 zw_1_8 zw_4_119 zmh_X8 zpd_X8_keep (Nat.le_of_ble_eq_true rfl) (Nat.le_of_ble_eq_true rfl) rfl rfl, sm_cv _ _ _ _ _ _ _⟩, ⟨_, ⟨sn_aload_n dX8_stop_32 rfl, sm_al _⟩, ⟨_, ⟨sn_get (C := RX8) (T := TX8) (N := 23) dX8_stop_33 rfl zinX8 (Nat.le_of_ble_eq_true rfl) zw_3_187, sm_get _ _⟩, ⟨_, ⟨sn_iload_n dX8_stop_36 rfl, sm_il _⟩, ⟨_, ⟨sn_iconst dX8_stop_37 (by decide +kernel), sm_const _⟩, ⟨_, ⟨sn_cs_i ztb_X8_of dX8_stop_38 zw_4_126 zw_4_127 zw_1_8 zw_4_128 zmh_X8 zpd_X8_of (Nat.le_of_ble_eq_true rfl) (Nat.le_of_ble_eq_true rfl) rfl rfl, sm_cs _ _ _ _ _ _⟩, ⟨_, ⟨sn_istore_n dX8_stop_41 rfl (Nat.le_of_ble_eq_true rfl), sm_is _⟩, ⟨_, ⟨sn_aload_n dX8_stop_42 rfl, sm_al _⟩, ⟨_, ⟨sn_get (C := RX8) (T := TX8) (N := 23) dX8_stop_43 rfl zinX8 (Nat.le_of_ble_eq_true rfl) zw_3_187, sm_get _ _⟩, ⟨_, ⟨sn_bipush dX8_stop_46 (by decide +kernel), sm_const _⟩, ⟨_, ⟨sn_bipush dX8_stop_48 (by decide +kernel), sm_const _⟩, ⟨_, ⟨sn_iload_n dX8_stop_50 rfl, sm_il _⟩, ⟨_, ⟨sn_imul dX8_stop_51, sm_bin _⟩, ⟨_, ⟨sn_iadd dX8_stop_52, sm_bin _⟩, ⟨_, ⟨sn_iconst dX8_stop_53 (by decide +kernel), sm_const _⟩, ⟨_, ⟨sn_iadd dX8_stop_54, sm_bin _⟩, ⟨_, ⟨sn_iload_n dX8_stop_55 rfl, sm_il _⟩, ⟨_, ⟨sn_iast dX8_stop_56, sm_iast⟩, ⟨_, ⟨sn_iload_n dX8_stop_57 rfl, sm_il _⟩, ⟨_, ⟨sn_ri (len := 1) dX8_stop_58 rfl, sm_ri⟩, trivial⟩⟩⟩⟩⟩⟩⟩⟩⟩⟩⟩⟩⟩⟩⟩⟩⟩⟩⟩⟩⟩
theorem kX8_stop : ∀ pc, sx_BK sx_tb yX8_stop.cls cX8_stop 4 (some .int) ({ frames := 2, cells := 0, slots := 0, locals := 46 } : Room) false false 0 (fun _ => 0) pc (BX8_stop pc) := fun pc => sx_bk_if (kX8_stop_0) (sx_bk_if (kX8_stop_25) (sx_bk_if (kX8_stop_28) (trivial)))
theorem okX8_stop : sx_ok sx_tb BX8_stop (yX8_stop, cX8_stop, 4, some .int, { frames := 2, cells := 0, slots := 0, locals := 46 }) := ⟨by decide, by decide +kernel, false, (fun h => by cases h), kX8_stop⟩
theorem dX8_strike_0 : decode cX8_strike 0 = .ok (.aload_n 0, 1) := by decide +kernel
theorem dX8_strike_1 : decode cX8_strike 1 = .ok (.iconst 0, 1) := by decide +kernel
theorem dX8_strike_2 : decode cX8_strike 2 = .ok (.putfield 44, 3) := by decide +kernel
theorem dX8_strike_5 : decode cX8_strike 5 = .ok (.aload_n 0, 1) := by decide +kernel
theorem dX8_strike_6 : decode cX8_strike 6 = .ok (.invokevirtual 172, 3) := by decide +kernel
theorem dX8_strike_9 : decode cX8_strike 9 = .ok (.ifCond .ne 6, 3) := by decide +kernel
theorem dX8_strike_12 : decode cX8_strike 12 = .ok (.ldc 175, 2) := by decide +kernel
theorem dX8_strike_14 : decode cX8_strike 14 = .ok (.ireturn, 1) := by decide +kernel
theorem dX8_strike_15 : decode cX8_strike 15 = .ok (.iload_n 1, 1) := by decide +kernel
theorem dX8_strike_16 : decode cX8_strike 16 = .ok (.i2l, 1) := by decide +kernel
theorem dX8_strike_17 : decode cX8_strike 17 = .ok (.lconst 0, 1) := by decide +kernel
theorem dX8_strike_18 : decode cX8_strike 18 = .ok (.ldc2_w 186, 3) := by decide +kernel
theorem dX8_strike_21 : decode cX8_strike 21 = .ok (.invokestatic 54, 3) := by decide +kernel
theorem dX8_strike_24 : decode cX8_strike 24 = .ok (.ifCond .ne 6, 3) := by decide +kernel
theorem dX8_strike_27 : decode cX8_strike 27 = .ok (.ldc 64, 2) := by decide +kernel
theorem dX8_strike_29 : decode cX8_strike 29 = .ok (.ireturn, 1) := by decide +kernel
theorem dX8_strike_30 : decode cX8_strike 30 = .ok (.aload_n 0, 1) := by decide +kernel
theorem dX8_strike_31 : decode cX8_strike 31 = .ok (.invokevirtual 178, 3) := by decide +kernel
theorem dX8_strike_34 : decode cX8_strike 34 = .ok (.aload_n 0, 1) := by decide +kernel
theorem dX8_strike_35 : decode cX8_strike 35 = .ok (.getfield 19, 3) := by decide +kernel
theorem dX8_strike_38 : decode cX8_strike 38 = .ok (.bipush 7, 2) := by decide +kernel
theorem dX8_strike_40 : decode cX8_strike 40 = .ok (.iaload, 1) := by decide +kernel
theorem dX8_strike_41 : decode cX8_strike 41 = .ok (.istore_n 2, 1) := by decide +kernel
theorem dX8_strike_42 : decode cX8_strike 42 = .ok (.aload_n 0, 1) := by decide +kernel
theorem dX8_strike_43 : decode cX8_strike 43 = .ok (.getfield 19, 3) := by decide +kernel
theorem dX8_strike_46 : decode cX8_strike 46 = .ok (.bipush 7, 2) := by decide +kernel
theorem dX8_strike_48 : decode cX8_strike 48 = .ok (.iload_n 1, 1) := by decide +kernel
theorem dX8_strike_49 : decode cX8_strike 49 = .ok (.iastore, 1) := by decide +kernel
theorem dX8_strike_50 : decode cX8_strike 50 = .ok (.iload_n 2, 1) := by decide +kernel
theorem dX8_strike_51 : decode cX8_strike 51 = .ok (.ireturn, 1) := by decide +kernel
def bX8_strike_0 : List sx_S := [si_al 0, si_const 0, si_put 7 0 0, si_al 0, si_cv 7 145 0 0 0 0 0, si_if1 (fun x => ¬ x = 0) 15 [true, true, false], si_const (-1000002), si_ri]
def bX8_strike_15 : List sx_S := [si_il 1, si_i2l, si_lconst 0, si_lconst (lN 20), si_cs 124 3 0 0 0 0, si_if1 (fun x => ¬ x = 0) 30 [true, true, false], si_const (-1000001), si_ri]
def bX8_strike_30 : List sx_S := [si_al 0, si_cv 7 158 0 0 0 0 0, si_al 0, si_get 7 5, si_const (nI 7), si_iald, si_is 2, si_al 0, si_get 7 5, si_const (nI 7), si_il 1, si_iast, si_il 2, si_ri]
def BX8_strike : Nat → List sx_S := fun pc => if pc = 0 then bX8_strike_0 else if pc = 15 then bX8_strike_15 else if pc = 30 then bX8_strike_30 else []
set_option maxRecDepth 20000 in
theorem kX8_strike_0 : sx_BK sx_tb yX8_strike.cls cX8_strike 3 (some .int) ({ frames := 1, cells := 0, slots := 0, locals := 25 } : Room) false false 0 (fun _ => 0) 0 (bX8_strike_0) := ⟨_, ⟨sn_aload_n dX8_strike_0 rfl, sm_al _⟩, ⟨_, ⟨sn_iconst dX8_strike_1 (by decide +kernel), sm_const _⟩, ⟨_, ⟨sn_put (C := RX8) (T := TX8) (N := 23) dX8_strike_2 rfl zinX8 tyX8_ok nmX8 (Nat.le_of_ble_eq_true rfl) zw_3_182 rfl (tyX8_ok 0 (Nat.le_of_ble_eq_true rfl)) trivial, sm_put _ _ _⟩, ⟨_, ⟨sn_aload_n dX8_strike_5 rfl, sm_al _⟩, ⟨_, ⟨sn_cv_z (N := 23) (T := TX8) ztb_X8_isThere dX8_strike_6 rfl rfl zw_4_110 zw_4_112 zw_0_45 zw_1_8 zw_4_113 zmh_X8 zpd_X8_isThere (Nat.le_of_ble_eq_true rfl) (Nat.le_of_ble_eq_true rfl) rfl rfl, sm_cv _ _ _ _ _ _ _⟩, ⟨_, ⟨sn_if_ne dX8_strike_9 (by decide +kernel) rfl, sm_if1 _ _ _⟩, ⟨_, ⟨sn_ldc dX8_strike_12 zw_4_114, sm_const _⟩, ⟨_, ⟨sn_ri (len := 1) dX8_strike_14 rfl, sm_ri⟩, trivial⟩⟩⟩⟩⟩⟩⟩⟩
set_option maxRecDepth 20000 in
theorem kX8_strike_15 : sx_BK sx_tb yX8_strike.cls cX8_strike 3 (some .int) ({ frames := 1, cells := 0, slots := 0, locals := 25 } : Room) false false 0 (fun _ => 0) 15 (bX8_strike_15) := ⟨_, ⟨sn_iload_n dX8_strike_15 rfl, sm_il _⟩, ⟨_, ⟨sn_i2l dX8_strike_16, sm_i2l⟩, ⟨_, ⟨sn_lconst dX8_strike_17 (by decide +kernel), sm_lconst _⟩, ⟨_, ⟨sn_ldc2 dX8_strike_18 zw_4_154, sm_lconst _⟩, ⟨_, ⟨sn_cs_z ztb_X8_in dX8_strike_21 zw_4_21 zw_4_22 zw_1_8 zw_4_23 zmh_X8 zpd_X8_in (Nat.le_of_ble_eq_true rfl) (Nat.le_of_ble_eq_true rfl) rfl rfl, sm_cs _ _ _ _ _ _⟩, ⟨_, ⟨sn_if_ne dX8_strike_24 (by decide +kernel) rfl, sm_if1 _ _ _⟩, ⟨_, ⟨sn_ldc dX8_strike_27 zw_4_25, sm_const _⟩, ⟨_, ⟨sn_ri (len := 1) dX8_strike_29 rfl, sm_ri⟩, trivial⟩⟩⟩⟩⟩⟩⟩⟩
set_option maxRecDepth 20000 in
theorem kX8_strike_30 : sx_BK sx_tb yX8_strike.cls cX8_strike 3 (some .int) ({ frames := 1, cells := 0, slots := 0, locals := 25 } : Room) false false 0 (fun _ => 0) 30 (bX8_strike_30) := ⟨_, ⟨sn_aload_n dX8_strike_30 rfl, sm_al _⟩, ⟨_, ⟨sn_cv_v (N := 23) (T := TX8) ztb_X8_keep dX8_strike_31 rfl rfl zw_4_116 zw_4_118 zw_0_46 zw_1_8 zw_4_119 zmh_X8 zpd_X8_keep (Nat.le_of_ble_eq_true rfl) (Nat.le_of_ble_eq_true rfl) rfl rfl, sm_cv _ _ _ _ _ _ _⟩, ⟨_, ⟨sn_aload_n dX8_strike_34 rfl, sm_al _⟩, ⟨_, ⟨sn_get (C := RX8) (T := TX8) (N := 23) dX8_strike_35 rfl zinX8 (Nat.le_of_ble_eq_true rfl) zw_3_187, sm_get _ _⟩, ⟨_, ⟨sn_bipush dX8_strike_38 (by decide +kernel), sm_const _⟩, ⟨_, ⟨sn_iald dX8_strike_40, sm_iald⟩, ⟨_, ⟨sn_istore_n dX8_strike_41 rfl (Nat.le_of_ble_eq_true rfl), sm_is _⟩, ⟨_, ⟨sn_aload_n dX8_strike_42 rfl, sm_al _⟩, ⟨_, ⟨sn_get (C := RX8) (T := TX8) (N := 23) dX8_strike_43 rfl zinX8 (Nat.le_of_ble_eq_true rfl) zw_3_187, sm_get _ _⟩, ⟨_, ⟨sn_bipush dX8_strike_46 (by decide +kernel), sm_const _⟩, ⟨_, ⟨sn_iload_n dX8_strike_48 rfl, sm_il _⟩, ⟨_, ⟨sn_iast dX8_strike_49, sm_iast⟩, ⟨_, ⟨sn_iload_n dX8_strike_50 rfl, sm_il _⟩, ⟨_, ⟨sn_ri (len := 1) dX8_strike_51 rfl, sm_ri⟩, trivial⟩⟩⟩⟩⟩⟩⟩⟩⟩⟩⟩⟩⟩⟩
theorem kX8_strike : ∀ pc, sx_BK sx_tb yX8_strike.cls cX8_strike 3 (some .int) ({ frames := 1, cells := 0, slots := 0, locals := 25 } : Room) false false 0 (fun _ => 0) pc (BX8_strike pc) := fun pc => sx_bk_if (kX8_strike_0) (sx_bk_if (kX8_strike_15) (sx_bk_if (kX8_strike_30) (trivial)))
theorem okX8_strike : sx_ok sx_tb BX8_strike (yX8_strike, cX8_strike, 3, some .int, { frames := 1, cells := 0, slots := 0, locals := 25 }) := ⟨by decide, by decide +kernel, false, (fun h => by cases h), kX8_strike⟩
theorem dX8_cross_0 : decode cX8_cross 0 = .ok (.aload_n 0, 1) := by decide +kernel
theorem dX8_cross_1 : decode cX8_cross 1 = .ok (.iconst 0, 1) := by decide +kernel
theorem dX8_cross_2 : decode cX8_cross 2 = .ok (.putfield 44, 3) := by decide +kernel
theorem dX8_cross_5 : decode cX8_cross 5 = .ok (.aload_n 0, 1) := by decide +kernel
theorem dX8_cross_6 : decode cX8_cross 6 = .ok (.iload_n 1, 1) := by decide +kernel
theorem dX8_cross_7 : decode cX8_cross 7 = .ok (.invokevirtual 181, 3) := by decide +kernel
theorem dX8_cross_10 : decode cX8_cross 10 = .ok (.ifCond .eq 13, 3) := by decide +kernel
theorem dX8_cross_13 : decode cX8_cross 13 = .ok (.iload_n 2, 1) := by decide +kernel
theorem dX8_cross_14 : decode cX8_cross 14 = .ok (.i2l, 1) := by decide +kernel
theorem dX8_cross_15 : decode cX8_cross 15 = .ok (.lconst 0, 1) := by decide +kernel
theorem dX8_cross_16 : decode cX8_cross 16 = .ok (.lconst 1, 1) := by decide +kernel
theorem dX8_cross_17 : decode cX8_cross 17 = .ok (.invokestatic 54, 3) := by decide +kernel
theorem dX8_cross_20 : decode cX8_cross 20 = .ok (.ifCond .ne 6, 3) := by decide +kernel
theorem dX8_cross_23 : decode cX8_cross 23 = .ok (.ldc 64, 2) := by decide +kernel
theorem dX8_cross_25 : decode cX8_cross 25 = .ok (.ireturn, 1) := by decide +kernel
theorem dX8_cross_26 : decode cX8_cross 26 = .ok (.aload_n 0, 1) := by decide +kernel
theorem dX8_cross_27 : decode cX8_cross 27 = .ok (.getfield 19, 3) := by decide +kernel
theorem dX8_cross_30 : decode cX8_cross 30 = .ok (.iload_n 1, 1) := by decide +kernel
theorem dX8_cross_31 : decode cX8_cross 31 = .ok (.bipush 6, 2) := by decide +kernel
theorem dX8_cross_33 : decode cX8_cross 33 = .ok (.invokestatic 146, 3) := by decide +kernel
theorem dX8_cross_36 : decode cX8_cross 36 = .ok (.iload_n 2, 1) := by decide +kernel
theorem dX8_cross_37 : decode cX8_cross 37 = .ok (.if_icmp .ne 6, 3) := by decide +kernel
theorem dX8_cross_40 : decode cX8_cross 40 = .ok (.ldc 175, 2) := by decide +kernel
theorem dX8_cross_42 : decode cX8_cross 42 = .ok (.ireturn, 1) := by decide +kernel
theorem dX8_cross_43 : decode cX8_cross 43 = .ok (.aload_n 0, 1) := by decide +kernel
theorem dX8_cross_44 : decode cX8_cross 44 = .ok (.invokevirtual 178, 3) := by decide +kernel
theorem dX8_cross_47 : decode cX8_cross 47 = .ok (.bipush 10, 2) := by decide +kernel
theorem dX8_cross_49 : decode cX8_cross 49 = .ok (.bipush 9, 2) := by decide +kernel
theorem dX8_cross_51 : decode cX8_cross 51 = .ok (.iload_n 1, 1) := by decide +kernel
theorem dX8_cross_52 : decode cX8_cross 52 = .ok (.imul, 1) := by decide +kernel
theorem dX8_cross_53 : decode cX8_cross 53 = .ok (.iadd, 1) := by decide +kernel
theorem dX8_cross_54 : decode cX8_cross 54 = .ok (.istore_n 3, 1) := by decide +kernel
theorem dX8_cross_55 : decode cX8_cross 55 = .ok (.aload_n 0, 1) := by decide +kernel
theorem dX8_cross_56 : decode cX8_cross 56 = .ok (.getfield 19, 3) := by decide +kernel
theorem dX8_cross_59 : decode cX8_cross 59 = .ok (.iload_n 3, 1) := by decide +kernel
theorem dX8_cross_60 : decode cX8_cross 60 = .ok (.bipush 6, 2) := by decide +kernel
theorem dX8_cross_62 : decode cX8_cross 62 = .ok (.iadd, 1) := by decide +kernel
theorem dX8_cross_63 : decode cX8_cross 63 = .ok (.iload_n 2, 1) := by decide +kernel
theorem dX8_cross_64 : decode cX8_cross 64 = .ok (.iastore, 1) := by decide +kernel
theorem dX8_cross_65 : decode cX8_cross 65 = .ok (.aload_n 0, 1) := by decide +kernel
theorem dX8_cross_66 : decode cX8_cross 66 = .ok (.getfield 19, 3) := by decide +kernel
theorem dX8_cross_69 : decode cX8_cross 69 = .ok (.iload_n 3, 1) := by decide +kernel
theorem dX8_cross_70 : decode cX8_cross 70 = .ok (.iconst 4, 1) := by decide +kernel
theorem dX8_cross_71 : decode cX8_cross 71 = .ok (.iadd, 1) := by decide +kernel
theorem dX8_cross_72 : decode cX8_cross 72 = .ok (.iload_n 2, 1) := by decide +kernel
theorem dX8_cross_73 : decode cX8_cross 73 = .ok (.iconst 1, 1) := by decide +kernel
theorem dX8_cross_74 : decode cX8_cross 74 = .ok (.if_icmp .ne 14, 3) := by decide +kernel
theorem dX8_cross_77 : decode cX8_cross 77 = .ok (.aload_n 0, 1) := by decide +kernel
theorem dX8_cross_78 : decode cX8_cross 78 = .ok (.getfield 19, 3) := by decide +kernel
theorem dX8_cross_81 : decode cX8_cross 81 = .ok (.iload_n 3, 1) := by decide +kernel
theorem dX8_cross_82 : decode cX8_cross 82 = .ok (.iconst 4, 1) := by decide +kernel
theorem dX8_cross_83 : decode cX8_cross 83 = .ok (.iadd, 1) := by decide +kernel
theorem dX8_cross_84 : decode cX8_cross 84 = .ok (.iaload, 1) := by decide +kernel
theorem dX8_cross_85 : decode cX8_cross 85 = .ok (.goto 4, 3) := by decide +kernel
theorem dX8_cross_88 : decode cX8_cross 88 = .ok (.iconst 0, 1) := by decide +kernel
theorem dX8_cross_89 : decode cX8_cross 89 = .ok (.iastore, 1) := by decide +kernel
theorem dX8_cross_90 : decode cX8_cross 90 = .ok (.aload_n 0, 1) := by decide +kernel
theorem dX8_cross_91 : decode cX8_cross 91 = .ok (.getfield 19, 3) := by decide +kernel
theorem dX8_cross_94 : decode cX8_cross 94 = .ok (.invokestatic 188, 3) := by decide +kernel
theorem dX8_cross_97 : decode cX8_cross 97 = .ok (.ireturn, 1) := by decide +kernel
def bX8_cross_0 : List sx_S := [si_al 0, si_const 0, si_put 7 0 0, si_al 0, si_il 1, si_cv 7 146 1 0 0 0 0, si_if1 (fun x => x = 0) 23 [false, false, false, false], si_il 2, si_i2l, si_lconst 0, si_lconst 1, si_cs 124 3 0 0 0 0, si_if1 (fun x => ¬ x = 0) 26 [true, true, true, false], si_go 23 [false, false, false, false]]
def bX8_cross_23 : List sx_S := [si_const (-1000001), si_ri]
def bX8_cross_26 : List sx_S := [si_al 0, si_get 7 5, si_il 1, si_const (nI 6), si_cs 147 3 0 0 0 0, si_il 2, si_if2 (fun x y => ¬ x = y) 43 [true, true, true, false], si_const (-1000002), si_ri]
def bX8_cross_43 : List sx_S := [si_al 0, si_cv 7 158 0 0 0 0 0, si_const (nI 10), si_const (nI 9), si_il 1, si_bin (fun x y => x * y), si_bin (fun x y => x + y), si_is 3, si_al 0, si_get 7 5, si_il 3, si_const (nI 6), si_bin (fun x y => x + y), si_il 2, si_iast, si_al 0, si_get 7 5, si_il 3, si_const (nI 4), si_bin (fun x y => x + y), si_il 2, si_const 1, si_if2 (fun x y => ¬ x = y) 88 [true, false, false, false], si_al 0, si_get 7 5, si_il 3, si_const (nI 4), si_bin (fun x y => x + y), si_iald, si_go 89 [true, false, false, false]]
def bX8_cross_88 : List sx_S := [si_const 0, si_go 89 [true, false, false, false]]
def bX8_cross_89 : List sx_S := [si_iast, si_al 0, si_get 7 5, si_cs 156 1 0 0 0 0, si_ri]
def BX8_cross : Nat → List sx_S := fun pc => if pc = 0 then bX8_cross_0 else if pc = 23 then bX8_cross_23 else if pc = 26 then bX8_cross_26 else if pc = 43 then bX8_cross_43 else if pc = 88 then bX8_cross_88 else if pc = 89 then bX8_cross_89 else []
set_option maxRecDepth 20000 in
theorem kX8_cross_0 : sx_BK sx_tb yX8_cross.cls cX8_cross 4 (some .int) ({ frames := 3, cells := 0, slots := 0, locals := 65 } : Room) false false 0 (fun _ => 0) 0 (bX8_cross_0) := ⟨_, ⟨sn_aload_n dX8_cross_0 rfl, sm_al _⟩, ⟨_, ⟨sn_iconst dX8_cross_1 (by decide +kernel), sm_const _⟩, ⟨_, ⟨sn_put (C := RX8) (T := TX8) (N := 23) dX8_cross_2 rfl zinX8 tyX8_ok nmX8 (Nat.le_of_ble_eq_true rfl) zw_3_182 rfl (tyX8_ok 0 (Nat.le_of_ble_eq_true rfl)) trivial, sm_put _ _ _⟩, ⟨_, ⟨sn_aload_n dX8_cross_5 rfl, sm_al _⟩, ⟨_, ⟨sn_iload_n dX8_cross_6 rfl, sm_il _⟩, ⟨_, ⟨sn_cv_z (N := 23) (T := TX8) ztb_X8_isDebtor dX8_cross_7 rfl rfl zw_4_145 zw_4_147 zw_0_47 zw_1_8 zw_4_148 zmh_X8 zpd_X8_isDebtor (Nat.le_of_ble_eq_true rfl) (Nat.le_of_ble_eq_true rfl) rfl rfl, sm_cv _ _ _ _ _ _ _⟩, ⟨_, ⟨sn_if_eq dX8_cross_10 (by decide +kernel) rfl, sm_if1 _ _ _⟩, ⟨_, ⟨sn_iload_n dX8_cross_13 rfl, sm_il _⟩, ⟨_, ⟨sn_i2l dX8_cross_14, sm_i2l⟩, ⟨_, ⟨sn_lconst dX8_cross_15 (by decide +kernel), sm_lconst _⟩, ⟨_, ⟨sn_lconst dX8_cross_16 (by decide +kernel), sm_lconst _⟩, ⟨_, ⟨sn_cs_z ztb_X8_in dX8_cross_17 zw_4_21 zw_4_22 zw_1_8 zw_4_23 zmh_X8 zpd_X8_in (Nat.le_of_ble_eq_true rfl) (Nat.le_of_ble_eq_true rfl) rfl rfl, sm_cs _ _ _ _ _ _⟩, ⟨_, ⟨sn_if_ne dX8_cross_20 (by decide +kernel) rfl, sm_if1 _ _ _⟩, ⟨_, ⟨sn_fall (len := 0) rfl rfl, sm_go _ _⟩, trivial⟩⟩⟩⟩⟩⟩⟩⟩⟩⟩⟩⟩⟩⟩
set_option maxRecDepth 20000 in
theorem kX8_cross_23 : sx_BK sx_tb yX8_cross.cls cX8_cross 4 (some .int) ({ frames := 3, cells := 0, slots := 0, locals := 65 } : Room) false false 0 (fun _ => 0) 23 (bX8_cross_23) := ⟨_, ⟨sn_ldc dX8_cross_23 zw_4_25, sm_const _⟩, ⟨_, ⟨sn_ri (len := 1) dX8_cross_25 rfl, sm_ri⟩, trivial⟩⟩
set_option maxRecDepth 20000 in
theorem kX8_cross_26 : sx_BK sx_tb yX8_cross.cls cX8_cross 4 (some .int) ({ frames := 3, cells := 0, slots := 0, locals := 65 } : Room) false false 0 (fun _ => 0) 26 (bX8_cross_26) := ⟨_, ⟨sn_aload_n dX8_cross_26 rfl, sm_al _⟩, ⟨_, ⟨sn_get (C := RX8) (T := TX8) (N := 23) dX8_cross_27 rfl zinX8 (Nat.le_of_ble_eq_true rfl) zw_3_187, sm_get _ _⟩, ⟨_, ⟨sn_iload_n dX8_cross_30 rfl, sm_il _⟩, ⟨_, ⟨sn_bipush dX8_cross_31 (by decide +kernel), sm_const _⟩, ⟨_, ⟨sn_cs_i ztb_X8_of dX8_cross_33 zw_4_126 zw_4_127 zw_1_8 zw_4_128 zmh_X8 zpd_X8_of (Nat.le_of_ble_eq_true rfl) (Nat.le_of_ble_eq_true rfl) rfl rfl, sm_cs _ _ _ _ _ _⟩, ⟨_, ⟨sn_iload_n dX8_cross_36 rfl, sm_il _⟩, ⟨_, ⟨sn_ic_ne dX8_cross_37 (by decide +kernel) rfl, sm_if2 _ _ _⟩, ⟨_, ⟨sn_ldc dX8_cross_40 zw_4_114, sm_const _⟩, ⟨_, ⟨sn_ri (len := 1) dX8_cross_42 rfl, sm_ri⟩, trivial⟩⟩⟩⟩⟩⟩⟩⟩⟩
set_option maxRecDepth 20000 in
theorem kX8_cross_43 : sx_BK sx_tb yX8_cross.cls cX8_cross 4 (some .int) ({ frames := 3, cells := 0, slots := 0, locals := 65 } : Room) false false 0 (fun _ => 0) 43 (bX8_cross_43) := ⟨_, ⟨sn_aload_n dX8_cross_43 rfl, sm_al _⟩, ⟨_, ⟨sn_cv_v (N := 23) (T := TX8) ztb_X8_keep dX8_cross_44 rfl rfl zw_4_116 zw_4_118 zw_0_46 zw_1_8 zw_4_119 zmh_X8 zpd_X8_keep (Nat.le_of_ble_eq_true rfl) (Nat.le_of_ble_eq_true rfl) rfl rfl, sm_cv _ _ _ _ _ _ _⟩, ⟨_, ⟨sn_bipush dX8_cross_47 (by decide +kernel), sm_const _⟩, ⟨_, ⟨sn_bipush dX8_cross_49 (by decide +kernel), sm_const _⟩, ⟨_, ⟨sn_iload_n dX8_cross_51 rfl, sm_il _⟩, ⟨_, ⟨sn_imul dX8_cross_52, sm_bin _⟩, ⟨_, ⟨sn_iadd dX8_cross_53, sm_bin _⟩, ⟨_, ⟨sn_istore_n dX8_cross_54 rfl (Nat.le_of_ble_eq_true rfl), sm_is _⟩, ⟨_, ⟨sn_aload_n dX8_cross_55 rfl, sm_al _⟩, ⟨_, ⟨sn_get (C := RX8) (T := TX8) (N := 23) dX8_cross_56 rfl zinX8 (Nat.le_of_ble_eq_true rfl) zw_3_187, sm_get _ _⟩, ⟨_, ⟨sn_iload_n dX8_cross_59 rfl, sm_il _⟩, ⟨_, ⟨sn_bipush dX8_cross_60 (by decide +kernel), sm_const _⟩, ⟨_, ⟨sn_iadd dX8_cross_62, sm_bin _⟩, ⟨_, ⟨sn_iload_n dX8_cross_63 rfl, sm_il _⟩, ⟨_, ⟨sn_iast dX8_cross_64, sm_iast⟩, ⟨_, ⟨sn_aload_n dX8_cross_65 rfl, sm_al _⟩, ⟨_, ⟨sn_get (C := RX8) (T := TX8) (N := 23) dX8_cross_66 rfl zinX8 (Nat.le_of_ble_eq_true rfl) zw_3_187, sm_get _ _⟩, ⟨_, ⟨sn_iload_n dX8_cross_69 rfl, sm_il _⟩, ⟨_, ⟨sn_iconst dX8_cross_70 (by decide +kernel), sm_const _⟩, ⟨_, ⟨sn_iadd dX8_cross_71, sm_bin _⟩, ⟨_, ⟨sn_iload_n dX8_cross_72 rfl, sm_il _⟩, ⟨_, ⟨sn_iconst dX8_cross_73 (by decide +kernel), sm_const _⟩, ⟨_, ⟨sn_ic_ne dX8_cross_74 (by decide +kernel) rfl, sm_if2 _ _ _⟩, ⟨_, ⟨sn_aload_n dX8_cross_77 rfl, sm_al _⟩, ⟨_, ⟨sn_get (C := RX8) (T := TX8) (N := 23) dX8_cross_78 rfl zinX8 (Nat.le_of_ble_eq_true rfl) zw_3_187, sm_get _ _⟩, ⟨_, ⟨sn_iload_n dX8_cross_81 rfl, sm_il _⟩, ⟨_, ⟨sn_iconst dX8_cross_82 (by decide +kernel), sm_const _⟩, ⟨_, ⟨sn_iadd dX8_cross_83, sm_bin _⟩, ⟨_, ⟨sn_iald dX8_cross_84, sm_iald⟩, ⟨_, ⟨sn_goto (len := 3) dX8_cross_85 (by decide +kernel) rfl, sm_go _ _⟩, trivial⟩⟩⟩⟩⟩⟩⟩⟩⟩⟩⟩⟩⟩⟩⟩⟩⟩⟩⟩⟩⟩⟩⟩⟩⟩⟩⟩⟩⟩⟩
set_option maxRecDepth 20000 in
theorem kX8_cross_88 : sx_BK sx_tb yX8_cross.cls cX8_cross 4 (some .int) ({ frames := 3, cells := 0, slots := 0, locals := 65 } : Room) false false 0 (fun _ => 0) 88 (bX8_cross_88) := ⟨_, ⟨sn_iconst dX8_cross_88 (by decide +kernel), sm_const _⟩, ⟨_, ⟨sn_fall (len := 0) rfl rfl, sm_go _ _⟩, trivial⟩⟩
set_option maxRecDepth 20000 in
theorem kX8_cross_89 : sx_BK sx_tb yX8_cross.cls cX8_cross 4 (some .int) ({ frames := 3, cells := 0, slots := 0, locals := 65 } : Room) false false 0 (fun _ => 0) 89 (bX8_cross_89) := ⟨_, ⟨sn_iast dX8_cross_89, sm_iast⟩, ⟨_, ⟨sn_aload_n dX8_cross_90 rfl, sm_al _⟩, ⟨_, ⟨sn_get (C := RX8) (T := TX8) (N := 23) dX8_cross_91 rfl zinX8 (Nat.le_of_ble_eq_true rfl) zw_3_187, sm_get _ _⟩, ⟨_, ⟨sn_cs_i ztb_X8_lostOf dX8_cross_94 zw_4_159 zw_4_160 zw_1_8 zw_4_161 zmh_X8 zpd_X8_lostOf (Nat.le_of_ble_eq_true rfl) (Nat.le_of_ble_eq_true rfl) rfl rfl, sm_cs _ _ _ _ _ _⟩, ⟨_, ⟨sn_ri (len := 1) dX8_cross_97 rfl, sm_ri⟩, trivial⟩⟩⟩⟩⟩
theorem kX8_cross : ∀ pc, sx_BK sx_tb yX8_cross.cls cX8_cross 4 (some .int) ({ frames := 3, cells := 0, slots := 0, locals := 65 } : Room) false false 0 (fun _ => 0) pc (BX8_cross pc) := fun pc => sx_bk_if (kX8_cross_0) (sx_bk_if (kX8_cross_23) (sx_bk_if (kX8_cross_26) (sx_bk_if (kX8_cross_43) (sx_bk_if (kX8_cross_88) (sx_bk_if (kX8_cross_89) (trivial))))))
theorem okX8_cross : sx_ok sx_tb BX8_cross (yX8_cross, cX8_cross, 4, some .int, { frames := 3, cells := 0, slots := 0, locals := 65 }) := ⟨by decide, by decide +kernel, false, (fun h => by cases h), kX8_cross⟩
theorem dX8_dearer_0 : decode cX8_dearer 0 = .ok (.aload_n 0, 1) := by decide +kernel
theorem dX8_dearer_1 : decode cX8_dearer 1 = .ok (.iconst 0, 1) := by decide +kernel
theorem dX8_dearer_2 : decode cX8_dearer 2 = .ok (.putfield 44, 3) := by decide +kernel
theorem dX8_dearer_5 : decode cX8_dearer 5 = .ok (.aload_n 0, 1) := by decide +kernel
theorem dX8_dearer_6 : decode cX8_dearer 6 = .ok (.invokevirtual 172, 3) := by decide +kernel
theorem dX8_dearer_9 : decode cX8_dearer 9 = .ok (.ifCond .ne 6, 3) := by decide +kernel
theorem dX8_dearer_12 : decode cX8_dearer 12 = .ok (.ldc 175, 2) := by decide +kernel
theorem dX8_dearer_14 : decode cX8_dearer 14 = .ok (.ireturn, 1) := by decide +kernel
theorem dX8_dearer_15 : decode cX8_dearer 15 = .ok (.iload_n 1, 1) := by decide +kernel
theorem dX8_dearer_16 : decode cX8_dearer 16 = .ok (.i2l, 1) := by decide +kernel
theorem dX8_dearer_17 : decode cX8_dearer 17 = .ok (.lconst 0, 1) := by decide +kernel
theorem dX8_dearer_18 : decode cX8_dearer 18 = .ok (.ldc2_w 186, 3) := by decide +kernel
theorem dX8_dearer_21 : decode cX8_dearer 21 = .ok (.invokestatic 54, 3) := by decide +kernel
theorem dX8_dearer_24 : decode cX8_dearer 24 = .ok (.ifCond .ne 6, 3) := by decide +kernel
theorem dX8_dearer_27 : decode cX8_dearer 27 = .ok (.ldc 64, 2) := by decide +kernel
theorem dX8_dearer_29 : decode cX8_dearer 29 = .ok (.ireturn, 1) := by decide +kernel
theorem dX8_dearer_30 : decode cX8_dearer 30 = .ok (.aload_n 0, 1) := by decide +kernel
theorem dX8_dearer_31 : decode cX8_dearer 31 = .ok (.invokevirtual 178, 3) := by decide +kernel
theorem dX8_dearer_34 : decode cX8_dearer 34 = .ok (.aload_n 0, 1) := by decide +kernel
theorem dX8_dearer_35 : decode cX8_dearer 35 = .ok (.getfield 19, 3) := by decide +kernel
theorem dX8_dearer_38 : decode cX8_dearer 38 = .ok (.iconst 2, 1) := by decide +kernel
theorem dX8_dearer_39 : decode cX8_dearer 39 = .ok (.iaload, 1) := by decide +kernel
theorem dX8_dearer_40 : decode cX8_dearer 40 = .ok (.istore_n 2, 1) := by decide +kernel
theorem dX8_dearer_41 : decode cX8_dearer 41 = .ok (.aload_n 0, 1) := by decide +kernel
theorem dX8_dearer_42 : decode cX8_dearer 42 = .ok (.getfield 19, 3) := by decide +kernel
theorem dX8_dearer_45 : decode cX8_dearer 45 = .ok (.iconst 2, 1) := by decide +kernel
theorem dX8_dearer_46 : decode cX8_dearer 46 = .ok (.iload_n 1, 1) := by decide +kernel
theorem dX8_dearer_47 : decode cX8_dearer 47 = .ok (.iastore, 1) := by decide +kernel
theorem dX8_dearer_48 : decode cX8_dearer 48 = .ok (.iload_n 2, 1) := by decide +kernel
theorem dX8_dearer_49 : decode cX8_dearer 49 = .ok (.ireturn, 1) := by decide +kernel
def bX8_dearer_0 : List sx_S := [si_al 0, si_const 0, si_put 7 0 0, si_al 0, si_cv 7 145 0 0 0 0 0, si_if1 (fun x => ¬ x = 0) 15 [true, true, false], si_const (-1000002), si_ri]
def bX8_dearer_15 : List sx_S := [si_il 1, si_i2l, si_lconst 0, si_lconst (lN 20), si_cs 124 3 0 0 0 0, si_if1 (fun x => ¬ x = 0) 30 [true, true, false], si_const (-1000001), si_ri]
def bX8_dearer_30 : List sx_S := [si_al 0, si_cv 7 158 0 0 0 0 0, si_al 0, si_get 7 5, si_const (nI 2), si_iald, si_is 2, si_al 0, si_get 7 5, si_const (nI 2), si_il 1, si_iast, si_il 2, si_ri]
def BX8_dearer : Nat → List sx_S := fun pc => if pc = 0 then bX8_dearer_0 else if pc = 15 then bX8_dearer_15 else if pc = 30 then bX8_dearer_30 else []
set_option maxRecDepth 20000 in
theorem kX8_dearer_0 : sx_BK sx_tb yX8_dearer.cls cX8_dearer 3 (some .int) ({ frames := 1, cells := 0, slots := 0, locals := 25 } : Room) false false 0 (fun _ => 0) 0 (bX8_dearer_0) := ⟨_, ⟨sn_aload_n dX8_dearer_0 rfl, sm_al _⟩, ⟨_, ⟨sn_iconst dX8_dearer_1 (by decide +kernel), sm_const _⟩, ⟨_, ⟨sn_put (C := RX8) (T := TX8) (N := 23) dX8_dearer_2 rfl zinX8 tyX8_ok nmX8 (Nat.le_of_ble_eq_true rfl) zw_3_182 rfl (tyX8_ok 0 (Nat.le_of_ble_eq_true rfl)) trivial, sm_put _ _ _⟩, ⟨_, ⟨sn_aload_n dX8_dearer_5 rfl, sm_al _⟩, ⟨_, ⟨sn_cv_z (N := 23) (T := TX8) ztb_X8_isThere dX8_dearer_6 rfl rfl zw_4_110 zw_4_112 zw_0_45 zw_1_8 zw_4_113 zmh_X8 zpd_X8_isThere (Nat.le_of_ble_eq_true rfl) (Nat.le_of_ble_eq_true rfl) rfl rfl, sm_cv _ _ _ _ _ _ _⟩, ⟨_, ⟨sn_if_ne dX8_dearer_9 (by decide +kernel) rfl, sm_if1 _ _ _⟩, ⟨_, ⟨sn_ldc dX8_dearer_12 zw_4_114, sm_const _⟩, ⟨_, ⟨sn_ri (len := 1) dX8_dearer_14 rfl, sm_ri⟩, trivial⟩⟩⟩⟩⟩⟩⟩⟩
set_option maxRecDepth 20000 in
theorem kX8_dearer_15 : sx_BK sx_tb yX8_dearer.cls cX8_dearer 3 (some .int) ({ frames := 1, cells := 0, slots := 0, locals := 25 } : Room) false false 0 (fun _ => 0) 15 (bX8_dearer_15) := ⟨_, ⟨sn_iload_n dX8_dearer_15 rfl, sm_il _⟩, ⟨_, ⟨sn_i2l dX8_dearer_16, sm_i2l⟩, ⟨_, ⟨sn_lconst dX8_dearer_17 (by decide +kernel), sm_lconst _⟩, ⟨_, ⟨sn_ldc2 dX8_dearer_18 zw_4_154, sm_lconst _⟩, ⟨_, ⟨sn_cs_z ztb_X8_in dX8_dearer_21 zw_4_21 zw_4_22 zw_1_8 zw_4_23 zmh_X8 zpd_X8_in (Nat.le_of_ble_eq_true rfl) (Nat.le_of_ble_eq_true rfl) rfl rfl, sm_cs _ _ _ _ _ _⟩, ⟨_, ⟨sn_if_ne dX8_dearer_24 (by decide +kernel) rfl, sm_if1 _ _ _⟩, ⟨_, ⟨sn_ldc dX8_dearer_27 zw_4_25, sm_const _⟩, ⟨_, ⟨sn_ri (len := 1) dX8_dearer_29 rfl, sm_ri⟩, trivial⟩⟩⟩⟩⟩⟩⟩⟩
set_option maxRecDepth 20000 in
theorem kX8_dearer_30 : sx_BK sx_tb yX8_dearer.cls cX8_dearer 3 (some .int) ({ frames := 1, cells := 0, slots := 0, locals := 25 } : Room) false false 0 (fun _ => 0) 30 (bX8_dearer_30) := ⟨_, ⟨sn_aload_n dX8_dearer_30 rfl, sm_al _⟩, ⟨_, ⟨sn_cv_v (N := 23) (T := TX8) ztb_X8_keep dX8_dearer_31 rfl rfl zw_4_116 zw_4_118 zw_0_46 zw_1_8 zw_4_119 zmh_X8 zpd_X8_keep (Nat.le_of_ble_eq_true rfl) (Nat.le_of_ble_eq_true rfl) rfl rfl, sm_cv _ _ _ _ _ _ _⟩, ⟨_, ⟨sn_aload_n dX8_dearer_34 rfl, sm_al _⟩, ⟨_, ⟨sn_get (C := RX8) (T := TX8) (N := 23) dX8_dearer_35 rfl zinX8 (Nat.le_of_ble_eq_true rfl) zw_3_187, sm_get _ _⟩, ⟨_, ⟨sn_iconst dX8_dearer_38 (by decide +kernel), sm_const _⟩, ⟨_, ⟨sn_iald dX8_dearer_39, sm_iald⟩, ⟨_, ⟨sn_istore_n dX8_dearer_40 rfl (Nat.le_of_ble_eq_true rfl), sm_is _⟩, ⟨_, ⟨sn_aload_n dX8_dearer_41 rfl, sm_al _⟩, ⟨_, ⟨sn_get (C := RX8) (T := TX8) (N := 23) dX8_dearer_42 rfl zinX8 (Nat.le_of_ble_eq_true rfl) zw_3_187, sm_get _ _⟩, ⟨_, ⟨sn_iconst dX8_dearer_45 (by decide +kernel), sm_const _⟩, ⟨_, ⟨sn_iload_n dX8_dearer_46 rfl, sm_il _⟩, ⟨_, ⟨sn_iast dX8_dearer_47, sm_iast⟩, ⟨_, ⟨sn_iload_n dX8_dearer_48 rfl, sm_il _⟩, ⟨_, ⟨sn_ri (len := 1) dX8_dearer_49 rfl, sm_ri⟩, trivial⟩⟩⟩⟩⟩⟩⟩⟩⟩⟩⟩⟩⟩⟩
theorem kX8_dearer : ∀ pc, sx_BK sx_tb yX8_dearer.cls cX8_dearer 3 (some .int) ({ frames := 1, cells := 0, slots := 0, locals := 25 } : Room) false false 0 (fun _ => 0) pc (BX8_dearer pc) := fun pc => sx_bk_if (kX8_dearer_0) (sx_bk_if (kX8_dearer_15) (sx_bk_if (kX8_dearer_30) (trivial)))
theorem okX8_dearer : sx_ok sx_tb BX8_dearer (yX8_dearer, cX8_dearer, 3, some .int, { frames := 1, cells := 0, slots := 0, locals := 25 }) := ⟨by decide, by decide +kernel, false, (fun h => by cases h), kX8_dearer⟩
theorem dX8_undo_0 : decode cX8_undo 0 = .ok (.aload_n 0, 1) := by decide +kernel
theorem dX8_undo_1 : decode cX8_undo 1 = .ok (.iconst 0, 1) := by decide +kernel
theorem dX8_undo_2 : decode cX8_undo 2 = .ok (.putfield 44, 3) := by decide +kernel
theorem dX8_undo_5 : decode cX8_undo 5 = .ok (.aload_n 0, 1) := by decide +kernel
theorem dX8_undo_6 : decode cX8_undo 6 = .ok (.getfield 143, 3) := by decide +kernel
theorem dX8_undo_9 : decode cX8_undo 9 = .ok (.ifCond .ne 6, 3) := by decide +kernel
theorem dX8_undo_12 : decode cX8_undo 12 = .ok (.ldc 175, 2) := by decide +kernel
theorem dX8_undo_14 : decode cX8_undo 14 = .ok (.ireturn, 1) := by decide +kernel
theorem dX8_undo_15 : decode cX8_undo 15 = .ok (.aload_n 0, 1) := by decide +kernel
theorem dX8_undo_16 : decode cX8_undo 16 = .ok (.dup, 1) := by decide +kernel
theorem dX8_undo_17 : decode cX8_undo 17 = .ok (.getfield 143, 3) := by decide +kernel
theorem dX8_undo_20 : decode cX8_undo 20 = .ok (.iconst 1, 1) := by decide +kernel
theorem dX8_undo_21 : decode cX8_undo 21 = .ok (.isub, 1) := by decide +kernel
theorem dX8_undo_22 : decode cX8_undo 22 = .ok (.putfield 143, 3) := by decide +kernel
theorem dX8_undo_25 : decode cX8_undo 25 = .ok (.iconst 0, 1) := by decide +kernel
theorem dX8_undo_26 : decode cX8_undo 26 = .ok (.istore_n 1, 1) := by decide +kernel
theorem dX8_undo_27 : decode cX8_undo 27 = .ok (.iload_n 1, 1) := by decide +kernel
theorem dX8_undo_28 : decode cX8_undo 28 = .ok (.bipush 64, 2) := by decide +kernel
theorem dX8_undo_30 : decode cX8_undo 30 = .ok (.if_icmp .ge 29, 3) := by decide +kernel
theorem dX8_undo_33 : decode cX8_undo 33 = .ok (.aload_n 0, 1) := by decide +kernel
theorem dX8_undo_34 : decode cX8_undo 34 = .ok (.getfield 19, 3) := by decide +kernel
theorem dX8_undo_37 : decode cX8_undo 37 = .ok (.iload_n 1, 1) := by decide +kernel
theorem dX8_undo_38 : decode cX8_undo 38 = .ok (.aload_n 0, 1) := by decide +kernel
theorem dX8_undo_39 : decode cX8_undo 39 = .ok (.getfield 28, 3) := by decide +kernel
theorem dX8_undo_42 : decode cX8_undo 42 = .ok (.bipush 64, 2) := by decide +kernel
theorem dX8_undo_44 : decode cX8_undo 44 = .ok (.aload_n 0, 1) := by decide +kernel
theorem dX8_undo_45 : decode cX8_undo 45 = .ok (.getfield 143, 3) := by decide +kernel
theorem dX8_undo_48 : decode cX8_undo 48 = .ok (.imul, 1) := by decide +kernel
theorem dX8_undo_49 : decode cX8_undo 49 = .ok (.iload_n 1, 1) := by decide +kernel
theorem dX8_undo_50 : decode cX8_undo 50 = .ok (.iadd, 1) := by decide +kernel
theorem dX8_undo_51 : decode cX8_undo 51 = .ok (.iaload, 1) := by decide +kernel
theorem dX8_undo_52 : decode cX8_undo 52 = .ok (.iastore, 1) := by decide +kernel
theorem dX8_undo_53 : decode cX8_undo 53 = .ok (.iinc 1 1, 3) := by decide +kernel
theorem dX8_undo_56 : decode cX8_undo 56 = .ok (.goto (-29), 3) := by decide +kernel
theorem dX8_undo_59 : decode cX8_undo 59 = .ok (.aload_n 0, 1) := by decide +kernel
theorem dX8_undo_60 : decode cX8_undo 60 = .ok (.getfield 143, 3) := by decide +kernel
theorem dX8_undo_63 : decode cX8_undo 63 = .ok (.ireturn, 1) := by decide +kernel
def bX8_undo_0 : List sx_S := [si_al 0, si_const 0, si_put 7 0 0, si_al 0, si_get 7 9, si_if1 (fun x => ¬ x = 0) 15 [true, false], si_const (-1000002), si_ri]
def bX8_undo_15 : List sx_S := [si_al 0, si_dup, si_get 7 9, si_const 1, si_bin (fun x y => x - y), si_put 7 9 0, si_const 0, si_is 1, si_go 27 [true, true]]
def bX8_undo_27 : List sx_S := [si_il 1, si_const (nI 64), si_if2 (fun x y => y ≤ x) 59 [true, false], si_al 0, si_get 7 5, si_il 1, si_al 0, si_get 7 8, si_const (nI 64), si_al 0, si_get 7 9, si_bin (fun x y => x * y), si_il 1, si_bin (fun x y => x + y), si_iald, si_iast, si_inc 1 1, si_go 27 [true, true]]
def bX8_undo_59 : List sx_S := [si_al 0, si_get 7 9, si_ri]
def BX8_undo : Nat → List sx_S := fun pc => if pc = 0 then bX8_undo_0 else if pc = 15 then bX8_undo_15 else if pc = 27 then bX8_undo_27 else if pc = 59 then bX8_undo_59 else []
set_option maxRecDepth 20000 in
theorem kX8_undo_0 : sx_BK sx_tb yX8_undo.cls cX8_undo 2 (some .int) ({ frames := 0, cells := 0, slots := 0, locals := 0 } : Room) false false 0 (fun _ => 0) 0 (bX8_undo_0) := ⟨_, ⟨sn_aload_n dX8_undo_0 rfl, sm_al _⟩, ⟨_, ⟨sn_iconst dX8_undo_1 (by decide +kernel), sm_const _⟩, ⟨_, ⟨sn_put (C := RX8) (T := TX8) (N := 23) dX8_undo_2 rfl zinX8 tyX8_ok nmX8 (Nat.le_of_ble_eq_true rfl) zw_3_182 rfl (tyX8_ok 0 (Nat.le_of_ble_eq_true rfl)) trivial, sm_put _ _ _⟩, ⟨_, ⟨sn_aload_n dX8_undo_5 rfl, sm_al _⟩, ⟨_, ⟨sn_get (C := RX8) (T := TX8) (N := 23) dX8_undo_6 rfl zinX8 (Nat.le_of_ble_eq_true rfl) zw_3_191, sm_get _ _⟩, ⟨_, ⟨sn_if_ne dX8_undo_9 (by decide +kernel) rfl, sm_if1 _ _ _⟩, ⟨_, ⟨sn_ldc dX8_undo_12 zw_4_114, sm_const _⟩, ⟨_, ⟨sn_ri (len := 1) dX8_undo_14 rfl, sm_ri⟩, trivial⟩⟩⟩⟩⟩⟩⟩⟩
set_option maxRecDepth 20000 in
theorem kX8_undo_15 : sx_BK sx_tb yX8_undo.cls cX8_undo 2 (some .int) ({ frames := 0, cells := 0, slots := 0, locals := 0 } : Room) false false 0 (fun _ => 0) 15 (bX8_undo_15) := ⟨_, ⟨sn_aload_n dX8_undo_15 rfl, sm_al _⟩, ⟨_, ⟨sn_dup dX8_undo_16, sm_dup⟩, ⟨_, ⟨sn_get (C := RX8) (T := TX8) (N := 23) dX8_undo_17 rfl zinX8 (Nat.le_of_ble_eq_true rfl) zw_3_191, sm_get _ _⟩, ⟨_, ⟨sn_iconst dX8_undo_20 (by decide +kernel), sm_const _⟩, ⟨_, ⟨sn_isub dX8_undo_21, sm_bin _⟩, ⟨_, ⟨sn_put (C := RX8) (T := TX8) (N := 23) dX8_undo_22 rfl zinX8 tyX8_ok nmX8 (Nat.le_of_ble_eq_true rfl) zw_3_191 rfl (tyX8_ok 9 (Nat.le_of_ble_eq_true rfl)) trivial, sm_put _ _ _⟩, ⟨_, ⟨sn_iconst dX8_undo_25 (by decide +kernel), sm_const _⟩, ⟨_, ⟨sn_istore_n dX8_undo_26 rfl (Nat.le_of_ble_eq_true rfl), sm_is _⟩, ⟨_, ⟨sn_fall (len := 0) rfl rfl, sm_go _ _⟩, trivial⟩⟩⟩⟩⟩⟩⟩⟩⟩
set_option maxRecDepth 20000 in
theorem kX8_undo_27 : sx_BK sx_tb yX8_undo.cls cX8_undo 2 (some .int) ({ frames := 0, cells := 0, slots := 0, locals := 0 } : Room) false false 0 (fun _ => 0) 27 (bX8_undo_27) := ⟨_, ⟨sn_iload_n dX8_undo_27 rfl, sm_il _⟩, ⟨_, ⟨sn_bipush dX8_undo_28 (by decide +kernel), sm_const _⟩, ⟨_, ⟨sn_ic_ge dX8_undo_30 (by decide +kernel) rfl, sm_if2 _ _ _⟩, ⟨_, ⟨sn_aload_n dX8_undo_33 rfl, sm_al _⟩, ⟨_, ⟨sn_get (C := RX8) (T := TX8) (N := 23) dX8_undo_34 rfl zinX8 (Nat.le_of_ble_eq_true rfl) zw_3_187, sm_get _ _⟩, ⟨_, ⟨sn_iload_n dX8_undo_37 rfl, sm_il _⟩, ⟨_, ⟨sn_aload_n dX8_undo_38 rfl, sm_al _⟩, ⟨_, ⟨sn_get (C := RX8) (T := TX8) (N := 23) dX8_undo_39 rfl zinX8 (Nat.le_of_ble_eq_true rfl) zw_3_190, sm_get _ _⟩, ⟨_, ⟨sn_bipush dX8_undo_42 (by decide +kernel), sm_const _⟩, ⟨_, ⟨sn_aload_n dX8_undo_44 rfl, sm_al _⟩, ⟨_, ⟨sn_get (C := RX8) (T := TX8) (N := 23) dX8_undo_45 rfl zinX8 (Nat.le_of_ble_eq_true rfl) zw_3_191, sm_get _ _⟩, ⟨_, ⟨sn_imul dX8_undo_48, sm_bin _⟩, ⟨_, ⟨sn_iload_n dX8_undo_49 rfl, sm_il _⟩, ⟨_, ⟨sn_iadd dX8_undo_50, sm_bin _⟩, ⟨_, ⟨sn_iald dX8_undo_51, sm_iald⟩, ⟨_, ⟨sn_iast dX8_undo_52, sm_iast⟩, ⟨_, ⟨sn_iinc dX8_undo_53 (by decide +kernel) (Nat.le_of_ble_eq_true rfl), sm_inc _ _⟩, ⟨_, ⟨sn_goto (len := 3) dX8_undo_56 (by decide +kernel) rfl, sm_go _ _⟩, trivial⟩⟩⟩⟩⟩⟩⟩⟩⟩⟩⟩⟩⟩⟩⟩⟩⟩⟩
set_option maxRecDepth 20000 in
theorem kX8_undo_59 : sx_BK sx_tb yX8_undo.cls cX8_undo 2 (some .int) ({ frames := 0, cells := 0, slots := 0, locals := 0 } : Room) false false 0 (fun _ => 0) 59 (bX8_undo_59) := ⟨_, ⟨sn_aload_n dX8_undo_59 rfl, sm_al _⟩, ⟨_, ⟨sn_get (C := RX8) (T := TX8) (N := 23) dX8_undo_60 rfl zinX8 (Nat.le_of_ble_eq_true rfl) zw_3_191, sm_get _ _⟩, ⟨_, ⟨sn_ri (len := 1) dX8_undo_63 rfl, sm_ri⟩, trivial⟩⟩⟩
theorem kX8_undo : ∀ pc, sx_BK sx_tb yX8_undo.cls cX8_undo 2 (some .int) ({ frames := 0, cells := 0, slots := 0, locals := 0 } : Room) false false 0 (fun _ => 0) pc (BX8_undo pc) := fun pc => sx_bk_if (kX8_undo_0) (sx_bk_if (kX8_undo_15) (sx_bk_if (kX8_undo_27) (sx_bk_if (kX8_undo_59) (trivial))))
theorem okX8_undo : sx_ok sx_tb BX8_undo (yX8_undo, cX8_undo, 2, some .int, { frames := 0, cells := 0, slots := 0, locals := 0 }) := ⟨by decide, by decide +kernel, false, (fun h => by cases h), kX8_undo⟩
theorem dX8_debtor_0 : decode cX8_debtor 0 = .ok (.aload_n 0, 1) := by decide +kernel
theorem dX8_debtor_1 : decode cX8_debtor 1 = .ok (.iconst 0, 1) := by decide +kernel
theorem dX8_debtor_2 : decode cX8_debtor 2 = .ok (.putfield 44, 3) := by decide +kernel
theorem dX8_debtor_5 : decode cX8_debtor 5 = .ok (.aload_n 0, 1) := by decide +kernel
theorem dX8_debtor_6 : decode cX8_debtor 6 = .ok (.iload_n 1, 1) := by decide +kernel
theorem dX8_debtor_7 : decode cX8_debtor 7 = .ok (.invokevirtual 181, 3) := by decide +kernel
theorem dX8_debtor_10 : decode cX8_debtor 10 = .ok (.ifCond .eq 15, 3) := by decide +kernel
theorem dX8_debtor_13 : decode cX8_debtor 13 = .ok (.iload_n 2, 1) := by decide +kernel
theorem dX8_debtor_14 : decode cX8_debtor 14 = .ok (.i2l, 1) := by decide +kernel
theorem dX8_debtor_15 : decode cX8_debtor 15 = .ok (.lconst 0, 1) := by decide +kernel
theorem dX8_debtor_16 : decode cX8_debtor 16 = .ok (.ldc2_w 52, 3) := by decide +kernel
theorem dX8_debtor_19 : decode cX8_debtor 19 = .ok (.invokestatic 54, 3) := by decide +kernel
theorem dX8_debtor_22 : decode cX8_debtor 22 = .ok (.ifCond .ne 6, 3) := by decide +kernel
theorem dX8_debtor_25 : decode cX8_debtor 25 = .ok (.ldc 64, 2) := by decide +kernel
theorem dX8_debtor_27 : decode cX8_debtor 27 = .ok (.ireturn, 1) := by decide +kernel
theorem dX8_debtor_28 : decode cX8_debtor 28 = .ok (.iload_n 2, 1) := by decide +kernel
theorem dX8_debtor_29 : decode cX8_debtor 29 = .ok (.ifCond .ne 7, 3) := by decide +kernel
theorem dX8_debtor_32 : decode cX8_debtor 32 = .ok (.iconst 4, 1) := by decide +kernel
theorem dX8_debtor_33 : decode cX8_debtor 33 = .ok (.goto 15, 3) := by decide +kernel
theorem dX8_debtor_36 : decode cX8_debtor 36 = .ok (.iload_n 2, 1) := by decide +kernel
theorem dX8_debtor_37 : decode cX8_debtor 37 = .ok (.iconst 4, 1) := by decide +kernel
theorem dX8_debtor_38 : decode cX8_debtor 38 = .ok (.if_icmp .ge 7, 3) := by decide +kernel
theorem dX8_debtor_41 : decode cX8_debtor 41 = .ok (.iload_n 2, 1) := by decide +kernel
theorem dX8_debtor_42 : decode cX8_debtor 42 = .ok (.goto 6, 3) := by decide +kernel
theorem dX8_debtor_45 : decode cX8_debtor 45 = .ok (.iload_n 2, 1) := by decide +kernel
theorem dX8_debtor_46 : decode cX8_debtor 46 = .ok (.iconst 1, 1) := by decide +kernel
theorem dX8_debtor_47 : decode cX8_debtor 47 = .ok (.iadd, 1) := by decide +kernel
theorem dX8_debtor_48 : decode cX8_debtor 48 = .ok (.istore_n 3, 1) := by decide +kernel
theorem dX8_debtor_49 : decode cX8_debtor 49 = .ok (.aload_n 0, 1) := by decide +kernel
theorem dX8_debtor_50 : decode cX8_debtor 50 = .ok (.getfield 19, 3) := by decide +kernel
theorem dX8_debtor_53 : decode cX8_debtor 53 = .ok (.iload_n 1, 1) := by decide +kernel
theorem dX8_debtor_54 : decode cX8_debtor 54 = .ok (.iload_n 3, 1) := by decide +kernel
theorem dX8_debtor_55 : decode cX8_debtor 55 = .ok (.invokestatic 146, 3) := by decide +kernel
theorem dX8_debtor_58 : decode cX8_debtor 58 = .ok (.ireturn, 1) := by decide +kernel
def bX8_debtor_0 : List sx_S := [si_al 0, si_const 0, si_put 7 0 0, si_al 0, si_il 1, si_cv 7 146 1 0 0 0 0, si_if1 (fun x => x = 0) 25 [false, false, false, false], si_il 2, si_i2l, si_lconst 0, si_lconst (lN 7), si_cs 124 3 0 0 0 0, si_if1 (fun x => ¬ x = 0) 28 [true, true, true, false], si_go 25 [false, false, false, false]]
def bX8_debtor_25 : List sx_S := [si_const (-1000001), si_ri]
def bX8_debtor_28 : List sx_S := [si_il 2, si_if1 (fun x => ¬ x = 0) 36 [true, true, true, false], si_const (nI 4), si_go 48 [true, true, false, false]]
def bX8_debtor_36 : List sx_S := [si_il 2, si_const (nI 4), si_if2 (fun x y => y ≤ x) 45 [true, true, true, false], si_il 2, si_go 48 [true, true, false, false]]
def bX8_debtor_45 : List sx_S := [si_il 2, si_const 1, si_bin (fun x y => x + y), si_go 48 [true, true, false, false]]
def bX8_debtor_48 : List sx_S := [si_is 3, si_al 0, si_get 7 5, si_il 1, si_il 3, si_cs 147 3 0 0 0 0, si_ri]
def BX8_debtor : Nat → List sx_S := fun pc => if pc = 0 then bX8_debtor_0 else if pc = 25 then bX8_debtor_25 else if pc = 28 then bX8_debtor_28 else if pc = 36 then bX8_debtor_36 else if pc = 45 then bX8_debtor_45 else if pc = 48 then bX8_debtor_48 else []
set_option maxRecDepth 20000 in
theorem kX8_debtor_0 : sx_BK sx_tb yX8_debtor.cls cX8_debtor 4 (some .int) ({ frames := 2, cells := 0, slots := 0, locals := 46 } : Room) false false 0 (fun _ => 0) 0 (bX8_debtor_0) := ⟨_, ⟨sn_aload_n dX8_debtor_0 rfl, sm_al _⟩, ⟨_, ⟨sn_iconst dX8_debtor_1 (by decide +kernel), sm_const _⟩, ⟨_, ⟨sn_put (C := RX8) (T := TX8) (N := 23) dX8_debtor_2 rfl zinX8 tyX8_ok nmX8 (Nat.le_of_ble_eq_true rfl) zw_3_182 rfl (tyX8_ok 0 (Nat.le_of_ble_eq_true rfl)) trivial, sm_put _ _ _⟩, ⟨_, ⟨sn_aload_n dX8_debtor_5 rfl, sm_al _⟩, ⟨_, ⟨sn_iload_n dX8_debtor_6 rfl, sm_il _⟩, ⟨_, ⟨sn_cv_z (N := 23) (T := TX8) ztb_X8_isDebtor dX8_debtor_7 rfl rfl zw_4_145 zw_4_147 zw_0_47 zw_1_8 zw_4_148 zmh_X8 zpd_X8_isDebtor (Nat.le_of_ble_eq_true rfl) (Nat.le_of_ble_eq_true rfl) rfl rfl, sm_cv _ _ _ _ _ _ _⟩, ⟨_, ⟨sn_if_eq dX8_debtor_10 (by decide +kernel) rfl, sm_if1 _ _ _⟩, ⟨_, ⟨sn_iload_n dX8_debtor_13 rfl, sm_il _⟩, ⟨_, ⟨sn_i2l dX8_debtor_14, sm_i2l⟩, ⟨_, ⟨sn_lconst dX8_debtor_15 (by decide +kernel), sm_lconst _⟩, ⟨_, ⟨sn_ldc2 dX8_debtor_16 zw_4_20, sm_lconst _⟩, ⟨_, ⟨sn_cs_z ztb_X8_in dX8_debtor_19 zw_4_21 zw_4_22 zw_1_8 zw_4_23 zmh_X8 zpd_X8_in (Nat.le_of_ble_eq_true rfl) (Nat.le_of_ble_eq_true rfl) rfl rfl, sm_cs _ _ _ _ _ _⟩, ⟨_, ⟨sn_if_ne dX8_debtor_22 (by decide +kernel) rfl, sm_if1 _ _ _⟩, ⟨_, ⟨sn_fall (len := 0) rfl rfl, sm_go _ _⟩, trivial⟩⟩⟩⟩⟩⟩⟩⟩⟩⟩⟩⟩⟩⟩
set_option maxRecDepth 20000 in
theorem kX8_debtor_25 : sx_BK sx_tb yX8_debtor.cls cX8_debtor 4 (some .int) ({ frames := 2, cells := 0, slots := 0, locals := 46 } : Room) false false 0 (fun _ => 0) 25 (bX8_debtor_25) := ⟨_, ⟨sn_ldc dX8_debtor_25 zw_4_25, sm_const _⟩, ⟨_, ⟨sn_ri (len := 1) dX8_debtor_27 rfl, sm_ri⟩, trivial⟩⟩
set_option maxRecDepth 20000 in
theorem kX8_debtor_28 : sx_BK sx_tb yX8_debtor.cls cX8_debtor 4 (some .int) ({ frames := 2, cells := 0, slots := 0, locals := 46 } : Room) false false 0 (fun _ => 0) 28 (bX8_debtor_28) := ⟨_, ⟨sn_iload_n dX8_debtor_28 rfl, sm_il _⟩, ⟨_, ⟨sn_if_ne dX8_debtor_29 (by decide +kernel) rfl, sm_if1 _ _ _⟩, ⟨_, ⟨sn_iconst dX8_debtor_32 (by decide +kernel), sm_const _⟩, ⟨_, ⟨sn_goto (len := 3) dX8_debtor_33 (by decide +kernel) rfl, sm_go _ _⟩, trivial⟩⟩⟩⟩
set_option maxRecDepth 20000 in
theorem kX8_debtor_36 : sx_BK sx_tb yX8_debtor.cls cX8_debtor 4 (some .int) ({ frames := 2, cells := 0, slots := 0, locals := 46 } : Room) false false 0 (fun _ => 0) 36 (bX8_debtor_36) := ⟨_, ⟨sn_iload_n dX8_debtor_36 rfl, sm_il _⟩, ⟨_, ⟨sn_iconst dX8_debtor_37 (by decide +kernel), sm_const _⟩, ⟨_, ⟨sn_ic_ge dX8_debtor_38 (by decide +kernel) rfl, sm_if2 _ _ _⟩, ⟨_, ⟨sn_iload_n dX8_debtor_41 rfl, sm_il _⟩, ⟨_, ⟨sn_goto (len := 3) dX8_debtor_42 (by decide +kernel) rfl, sm_go _ _⟩, trivial⟩⟩⟩⟩⟩
set_option maxRecDepth 20000 in
theorem kX8_debtor_45 : sx_BK sx_tb yX8_debtor.cls cX8_debtor 4 (some .int) ({ frames := 2, cells := 0, slots := 0, locals := 46 } : Room) false false 0 (fun _ => 0) 45 (bX8_debtor_45) := ⟨_, ⟨sn_iload_n dX8_debtor_45 rfl, sm_il _⟩, ⟨_, ⟨sn_iconst dX8_debtor_46 (by decide +kernel), sm_const _⟩, ⟨_, ⟨sn_iadd dX8_debtor_47, sm_bin _⟩, ⟨_, ⟨sn_fall (len := 0) rfl rfl, sm_go _ _⟩, trivial⟩⟩⟩⟩
set_option maxRecDepth 20000 in
theorem kX8_debtor_48 : sx_BK sx_tb yX8_debtor.cls cX8_debtor 4 (some .int) ({ frames := 2, cells := 0, slots := 0, locals := 46 } : Room) false false 0 (fun _ => 0) 48 (bX8_debtor_48) := ⟨_, ⟨sn_istore_n dX8_debtor_48 rfl (Nat.le_of_ble_eq_true rfl), sm_is _⟩, ⟨_, ⟨sn_aload_n dX8_debtor_49 rfl, sm_al _⟩, ⟨_, ⟨sn_get (C := RX8) (T := TX8) (N := 23) dX8_debtor_50 rfl zinX8 (Nat.le_of_ble_eq_true rfl) zw_3_187, sm_get _ _⟩, ⟨_, ⟨sn_iload_n dX8_debtor_53 rfl, sm_il _⟩, ⟨_, ⟨sn_iload_n dX8_debtor_54 rfl, sm_il _⟩, ⟨_, ⟨sn_cs_i ztb_X8_of dX8_debtor_55 zw_4_126 zw_4_127 zw_1_8 zw_4_128 zmh_X8 zpd_X8_of (Nat.le_of_ble_eq_true rfl) (Nat.le_of_ble_eq_true rfl) rfl rfl, sm_cs _ _ _ _ _ _⟩, ⟨_, ⟨sn_ri (len := 1) dX8_debtor_58 rfl, sm_ri⟩, trivial⟩⟩⟩⟩⟩⟩⟩
theorem kX8_debtor : ∀ pc, sx_BK sx_tb yX8_debtor.cls cX8_debtor 4 (some .int) ({ frames := 2, cells := 0, slots := 0, locals := 46 } : Room) false false 0 (fun _ => 0) pc (BX8_debtor pc) := fun pc => sx_bk_if (kX8_debtor_0) (sx_bk_if (kX8_debtor_25) (sx_bk_if (kX8_debtor_28) (sx_bk_if (kX8_debtor_36) (sx_bk_if (kX8_debtor_45) (sx_bk_if (kX8_debtor_48) (trivial))))))
theorem okX8_debtor : sx_ok sx_tb BX8_debtor (yX8_debtor, cX8_debtor, 4, some .int, { frames := 2, cells := 0, slots := 0, locals := 46 }) := ⟨by decide, by decide +kernel, false, (fun h => by cases h), kX8_debtor⟩
theorem dX8_shopHas_0 : decode cX8_shopHas 0 = .ok (.aload_n 0, 1) := by decide +kernel
theorem dX8_shopHas_1 : decode cX8_shopHas 1 = .ok (.iconst 0, 1) := by decide +kernel
theorem dX8_shopHas_2 : decode cX8_shopHas 2 = .ok (.putfield 44, 3) := by decide +kernel
theorem dX8_shopHas_5 : decode cX8_shopHas 5 = .ok (.aload_n 0, 1) := by decide +kernel
theorem dX8_shopHas_6 : decode cX8_shopHas 6 = .ok (.invokevirtual 172, 3) := by decide +kernel
theorem dX8_shopHas_9 : decode cX8_shopHas 9 = .ok (.ifCond .ne 6, 3) := by decide +kernel
theorem dX8_shopHas_12 : decode cX8_shopHas 12 = .ok (.ldc 175, 2) := by decide +kernel
theorem dX8_shopHas_14 : decode cX8_shopHas 14 = .ok (.ireturn, 1) := by decide +kernel
theorem dX8_shopHas_15 : decode cX8_shopHas 15 = .ok (.iload_n 1, 1) := by decide +kernel
theorem dX8_shopHas_16 : decode cX8_shopHas 16 = .ok (.tableswitch 87 0 5 #[40, 47, 55, 63, 71, 79], 40) := by decide +kernel
theorem dX8_shopHas_56 : decode cX8_shopHas 56 = .ok (.aload_n 0, 1) := by decide +kernel
theorem dX8_shopHas_57 : decode cX8_shopHas 57 = .ok (.getfield 19, 3) := by decide +kernel
theorem dX8_shopHas_60 : decode cX8_shopHas 60 = .ok (.iconst 1, 1) := by decide +kernel
theorem dX8_shopHas_61 : decode cX8_shopHas 61 = .ok (.iaload, 1) := by decide +kernel
theorem dX8_shopHas_62 : decode cX8_shopHas 62 = .ok (.ireturn, 1) := by decide +kernel
theorem dX8_shopHas_63 : decode cX8_shopHas 63 = .ok (.aload_n 0, 1) := by decide +kernel
theorem dX8_shopHas_64 : decode cX8_shopHas 64 = .ok (.getfield 19, 3) := by decide +kernel
theorem dX8_shopHas_67 : decode cX8_shopHas 67 = .ok (.bipush 6, 2) := by decide +kernel
theorem dX8_shopHas_69 : decode cX8_shopHas 69 = .ok (.iaload, 1) := by decide +kernel
theorem dX8_shopHas_70 : decode cX8_shopHas 70 = .ok (.ireturn, 1) := by decide +kernel
theorem dX8_shopHas_71 : decode cX8_shopHas 71 = .ok (.aload_n 0, 1) := by decide +kernel
theorem dX8_shopHas_72 : decode cX8_shopHas 72 = .ok (.getfield 19, 3) := by decide +kernel
theorem dX8_shopHas_75 : decode cX8_shopHas 75 = .ok (.bipush 7, 2) := by decide +kernel
theorem dX8_shopHas_77 : decode cX8_shopHas 77 = .ok (.iaload, 1) := by decide +kernel
theorem dX8_shopHas_78 : decode cX8_shopHas 78 = .ok (.ireturn, 1) := by decide +kernel
theorem dX8_shopHas_79 : decode cX8_shopHas 79 = .ok (.aload_n 0, 1) := by decide +kernel
theorem dX8_shopHas_80 : decode cX8_shopHas 80 = .ok (.getfield 19, 3) := by decide +kernel
theorem dX8_shopHas_83 : decode cX8_shopHas 83 = .ok (.bipush 8, 2) := by decide +kernel
theorem dX8_shopHas_85 : decode cX8_shopHas 85 = .ok (.iaload, 1) := by decide +kernel
theorem dX8_shopHas_86 : decode cX8_shopHas 86 = .ok (.ireturn, 1) := by decide +kernel
theorem dX8_shopHas_87 : decode cX8_shopHas 87 = .ok (.aload_n 0, 1) := by decide +kernel
theorem dX8_shopHas_88 : decode cX8_shopHas 88 = .ok (.getfield 19, 3) := by decide +kernel
theorem dX8_shopHas_91 : decode cX8_shopHas 91 = .ok (.invokestatic 192, 3) := by decide +kernel
theorem dX8_shopHas_94 : decode cX8_shopHas 94 = .ok (.ireturn, 1) := by decide +kernel
theorem dX8_shopHas_95 : decode cX8_shopHas 95 = .ok (.aload_n 0, 1) := by decide +kernel
theorem dX8_shopHas_96 : decode cX8_shopHas 96 = .ok (.getfield 19, 3) := by decide +kernel
theorem dX8_shopHas_99 : decode cX8_shopHas 99 = .ok (.invokestatic 188, 3) := by decide +kernel
theorem dX8_shopHas_102 : decode cX8_shopHas 102 = .ok (.ireturn, 1) := by decide +kernel
theorem dX8_shopHas_103 : decode cX8_shopHas 103 = .ok (.ldc 64, 2) := by decide +kernel
theorem dX8_shopHas_105 : decode cX8_shopHas 105 = .ok (.ireturn, 1) := by decide +kernel
def bX8_shopHas_0 : List sx_S := [si_al 0, si_const 0, si_put 7 0 0, si_al 0, si_cv 7 145 0 0 0 0 0, si_if1 (fun x => ¬ x = 0) 15 [true, true], si_const (-1000002), si_ri]
def bX8_shopHas_15 : List sx_S := [si_il 1, si_sw [(0, 56, [true, false]), (1, 63, [true, false]), ((nI 2), 71, [true, false]), ((nI 3), 79, [true, false]), ((nI 4), 87, [true, false]), ((nI 5), 95, [true, false])] 103 [false, false]]
def bX8_shopHas_56 : List sx_S := [si_al 0, si_get 7 5, si_const 1, si_iald, si_ri]
def bX8_shopHas_63 : List sx_S := [si_al 0, si_get 7 5, si_const (nI 6), si_iald, si_ri]
def bX8_shopHas_71 : List sx_S := [si_al 0, si_get 7 5, si_const (nI 7), si_iald, si_ri]
def bX8_shopHas_79 : List sx_S := [si_al 0, si_get 7 5, si_const (nI 8), si_iald, si_ri]
def bX8_shopHas_87 : List sx_S := [si_al 0, si_get 7 5, si_cs 157 1 0 0 0 0, si_ri]
def bX8_shopHas_95 : List sx_S := [si_al 0, si_get 7 5, si_cs 156 1 0 0 0 0, si_ri]
def bX8_shopHas_103 : List sx_S := [si_const (-1000001), si_ri]
def BX8_shopHas : Nat → List sx_S := fun pc => if pc = 0 then bX8_shopHas_0 else if pc = 15 then bX8_shopHas_15 else if pc = 56 then bX8_shopHas_56 else if pc = 63 then bX8_shopHas_63 else if pc = 71 then bX8_shopHas_71 else if pc = 79 then bX8_shopHas_79 else if pc = 87 then bX8_shopHas_87 else if pc = 95 then bX8_shopHas_95 else if pc = 103 then bX8_shopHas_103 else []
set_option maxRecDepth 20000 in
theorem kX8_shopHas_0 : sx_BK sx_tb yX8_shopHas.cls cX8_shopHas 2 (some .int) ({ frames := 3, cells := 0, slots := 0, locals := 65 } : Room) false false 0 (fun _ => 0) 0 (bX8_shopHas_0) := ⟨_, ⟨sn_aload_n dX8_shopHas_0 rfl, sm_al _⟩, ⟨_, ⟨sn_iconst dX8_shopHas_1 (by decide +kernel), sm_const _⟩, ⟨_, ⟨sn_put (C := RX8) (T := TX8) (N := 23) dX8_shopHas_2 rfl zinX8 tyX8_ok nmX8 (Nat.le_of_ble_eq_true rfl) zw_3_182 rfl (tyX8_ok 0 (Nat.le_of_ble_eq_true rfl)) trivial, sm_put _ _ _⟩, ⟨_, ⟨sn_aload_n dX8_shopHas_5 rfl, sm_al _⟩, ⟨_, ⟨sn_cv_z (N := 23) (T := TX8) ztb_X8_isThere dX8_shopHas_6 rfl rfl zw_4_110 zw_4_112 zw_0_45 zw_1_8 zw_4_113 zmh_X8 zpd_X8_isThere (Nat.le_of_ble_eq_true rfl) (Nat.le_of_ble_eq_true rfl) rfl rfl, sm_cv _ _ _ _ _ _ _⟩, ⟨_, ⟨sn_if_ne dX8_shopHas_9 (by decide +kernel) rfl, sm_if1 _ _ _⟩, ⟨_, ⟨sn_ldc dX8_shopHas_12 zw_4_114, sm_const _⟩, ⟨_, ⟨sn_ri (len := 1) dX8_shopHas_14 rfl, sm_ri⟩, trivial⟩⟩⟩⟩⟩⟩⟩⟩
set_option maxRecDepth 20000 in
theorem kX8_shopHas_15 : sx_BK sx_tb yX8_shopHas.cls cX8_shopHas 2 (some .int) ({ frames := 3, cells := 0, slots := 0, locals := 65 } : Room) false false 0 (fun _ => 0) 15 (bX8_shopHas_15) := ⟨_, ⟨sn_iload_n dX8_shopHas_15 rfl, sm_il _⟩, ⟨_, ⟨sn_tsw (len := 3) dX8_shopHas_16 (by decide +kernel) (by decide +kernel) (by decide +kernel) rfl, sm_sw _ _ _⟩, trivial⟩⟩
set_option maxRecDepth 20000 in
theorem kX8_shopHas_56 : sx_BK sx_tb yX8_shopHas.cls cX8_shopHas 2 (some .int) ({ frames := 3, cells := 0, slots := 0, locals := 65 } : Room) false false 0 (fun _ => 0) 56 (bX8_shopHas_56) := ⟨_, ⟨sn_aload_n dX8_shopHas_56 rfl, sm_al _⟩, ⟨_, ⟨sn_get (C := RX8) (T := TX8) (N := 23) dX8_shopHas_57 rfl zinX8 (Nat.le_of_ble_eq_true rfl) zw_3_187, sm_get _ _⟩, ⟨_, ⟨sn_iconst dX8_shopHas_60 (by decide +kernel), sm_const _⟩, ⟨_, ⟨sn_iald dX8_shopHas_61, sm_iald⟩, ⟨_, ⟨sn_ri (len := 1) dX8_shopHas_62 rfl, sm_ri⟩, trivial⟩⟩⟩⟩⟩
set_option maxRecDepth 20000 in
theorem kX8_shopHas_63 : sx_BK sx_tb yX8_shopHas.cls cX8_shopHas 2 (some .int) ({ frames := 3, cells := 0, slots := 0, locals := 65 } : Room) false false 0 (fun _ => 0) 63 (bX8_shopHas_63) := ⟨_, ⟨sn_aload_n dX8_shopHas_63 rfl, sm_al _⟩, ⟨_, ⟨sn_get (C := RX8) (T := TX8) (N := 23) dX8_shopHas_64 rfl zinX8 (Nat.le_of_ble_eq_true rfl) zw_3_187, sm_get _ _⟩, ⟨_, ⟨sn_bipush dX8_shopHas_67 (by decide +kernel), sm_const _⟩, ⟨_, ⟨sn_iald dX8_shopHas_69, sm_iald⟩, ⟨_, ⟨sn_ri (len := 1) dX8_shopHas_70 rfl, sm_ri⟩, trivial⟩⟩⟩⟩⟩
set_option maxRecDepth 20000 in
theorem kX8_shopHas_71 : sx_BK sx_tb yX8_shopHas.cls cX8_shopHas 2 (some .int) ({ frames := 3, cells := 0, slots := 0, locals := 65 } : Room) false false 0 (fun _ => 0) 71 (bX8_shopHas_71) := ⟨_, ⟨sn_aload_n dX8_shopHas_71 rfl, sm_al _⟩, ⟨_, ⟨sn_get (C := RX8) (T := TX8) (N := 23) dX8_shopHas_72 rfl zinX8 (Nat.le_of_ble_eq_true rfl) zw_3_187, sm_get _ _⟩, ⟨_, ⟨sn_bipush dX8_shopHas_75 (by decide +kernel), sm_const _⟩, ⟨_, ⟨sn_iald dX8_shopHas_77, sm_iald⟩, ⟨_, ⟨sn_ri (len := 1) dX8_shopHas_78 rfl, sm_ri⟩, trivial⟩⟩⟩⟩⟩
set_option maxRecDepth 20000 in
theorem kX8_shopHas_79 : sx_BK sx_tb yX8_shopHas.cls cX8_shopHas 2 (some .int) ({ frames := 3, cells := 0, slots := 0, locals := 65 } : Room) false false 0 (fun _ => 0) 79 (bX8_shopHas_79) := ⟨_, ⟨sn_aload_n dX8_shopHas_79 rfl, sm_al _⟩, ⟨_, ⟨sn_get (C := RX8) (T := TX8) (N := 23) dX8_shopHas_80 rfl zinX8 (Nat.le_of_ble_eq_true rfl) zw_3_187, sm_get _ _⟩, ⟨_, ⟨sn_bipush dX8_shopHas_83 (by decide +kernel), sm_const _⟩, ⟨_, ⟨sn_iald dX8_shopHas_85, sm_iald⟩, ⟨_, ⟨sn_ri (len := 1) dX8_shopHas_86 rfl, sm_ri⟩, trivial⟩⟩⟩⟩⟩
set_option maxRecDepth 20000 in
theorem kX8_shopHas_87 : sx_BK sx_tb yX8_shopHas.cls cX8_shopHas 2 (some .int) ({ frames := 3, cells := 0, slots := 0, locals := 65 } : Room) false false 0 (fun _ => 0) 87 (bX8_shopHas_87) := ⟨_, ⟨sn_aload_n dX8_shopHas_87 rfl, sm_al _⟩, ⟨_, ⟨sn_get (C := RX8) (T := TX8) (N := 23) dX8_shopHas_88 rfl zinX8 (Nat.le_of_ble_eq_true rfl) zw_3_187, sm_get _ _⟩, ⟨_, ⟨sn_cs_i ztb_X8_debtsOf dX8_shopHas_91 zw_4_178 zw_4_179 zw_1_8 zw_4_180 zmh_X8 zpd_X8_debtsOf (Nat.le_of_ble_eq_true rfl) (Nat.le_of_ble_eq_true rfl) rfl rfl, sm_cs _ _ _ _ _ _⟩, ⟨_, ⟨sn_ri (len := 1) dX8_shopHas_94 rfl, sm_ri⟩, trivial⟩⟩⟩⟩
set_option maxRecDepth 20000 in
theorem kX8_shopHas_95 : sx_BK sx_tb yX8_shopHas.cls cX8_shopHas 2 (some .int) ({ frames := 3, cells := 0, slots := 0, locals := 65 } : Room) false false 0 (fun _ => 0) 95 (bX8_shopHas_95) := ⟨_, ⟨sn_aload_n dX8_shopHas_95 rfl, sm_al _⟩, ⟨_, ⟨sn_get (C := RX8) (T := TX8) (N := 23) dX8_shopHas_96 rfl zinX8 (Nat.le_of_ble_eq_true rfl) zw_3_187, sm_get _ _⟩, ⟨_, ⟨sn_cs_i ztb_X8_lostOf dX8_shopHas_99 zw_4_159 zw_4_160 zw_1_8 zw_4_161 zmh_X8 zpd_X8_lostOf (Nat.le_of_ble_eq_true rfl) (Nat.le_of_ble_eq_true rfl) rfl rfl, sm_cs _ _ _ _ _ _⟩, ⟨_, ⟨sn_ri (len := 1) dX8_shopHas_102 rfl, sm_ri⟩, trivial⟩⟩⟩⟩
set_option maxRecDepth 20000 in
theorem kX8_shopHas_103 : sx_BK sx_tb yX8_shopHas.cls cX8_shopHas 2 (some .int) ({ frames := 3, cells := 0, slots := 0, locals := 65 } : Room) false false 0 (fun _ => 0) 103 (bX8_shopHas_103) := ⟨_, ⟨sn_ldc dX8_shopHas_103 zw_4_25, sm_const _⟩, ⟨_, ⟨sn_ri (len := 1) dX8_shopHas_105 rfl, sm_ri⟩, trivial⟩⟩
theorem kX8_shopHas : ∀ pc, sx_BK sx_tb yX8_shopHas.cls cX8_shopHas 2 (some .int) ({ frames := 3, cells := 0, slots := 0, locals := 65 } : Room) false false 0 (fun _ => 0) pc (BX8_shopHas pc) := fun pc => sx_bk_if (kX8_shopHas_0) (sx_bk_if (kX8_shopHas_15) (sx_bk_if (kX8_shopHas_56) (sx_bk_if (kX8_shopHas_63) (sx_bk_if (kX8_shopHas_71) (sx_bk_if (kX8_shopHas_79) (sx_bk_if (kX8_shopHas_87) (sx_bk_if (kX8_shopHas_95) (sx_bk_if (kX8_shopHas_103) (trivial)))))))))
theorem okX8_shopHas : sx_ok sx_tb BX8_shopHas (yX8_shopHas, cX8_shopHas, 2, some .int, { frames := 3, cells := 0, slots := 0, locals := 65 }) := ⟨by decide, by decide +kernel, false, (fun h => by cases h), kX8_shopHas⟩
theorem dX8_ahead_0 : decode cX8_ahead 0 = .ok (.aload_n 0, 1) := by decide +kernel
theorem dX8_ahead_1 : decode cX8_ahead 1 = .ok (.iconst 0, 1) := by decide +kernel
theorem dX8_ahead_2 : decode cX8_ahead 2 = .ok (.putfield 44, 3) := by decide +kernel
theorem dX8_ahead_5 : decode cX8_ahead 5 = .ok (.aload_n 0, 1) := by decide +kernel
theorem dX8_ahead_6 : decode cX8_ahead 6 = .ok (.invokevirtual 172, 3) := by decide +kernel
theorem dX8_ahead_9 : decode cX8_ahead 9 = .ok (.ifCond .ne 6, 3) := by decide +kernel
theorem dX8_ahead_12 : decode cX8_ahead 12 = .ok (.ldc 175, 2) := by decide +kernel
theorem dX8_ahead_14 : decode cX8_ahead 14 = .ok (.ireturn, 1) := by decide +kernel
theorem dX8_ahead_15 : decode cX8_ahead 15 = .ok (.iload_n 1, 1) := by decide +kernel
theorem dX8_ahead_16 : decode cX8_ahead 16 = .ok (.i2l, 1) := by decide +kernel
theorem dX8_ahead_17 : decode cX8_ahead 17 = .ok (.lconst 0, 1) := by decide +kernel
theorem dX8_ahead_18 : decode cX8_ahead 18 = .ok (.ldc2_w 195, 3) := by decide +kernel
theorem dX8_ahead_21 : decode cX8_ahead 21 = .ok (.invokestatic 54, 3) := by decide +kernel
theorem dX8_ahead_24 : decode cX8_ahead 24 = .ok (.ifCond .eq 15, 3) := by decide +kernel
theorem dX8_ahead_27 : decode cX8_ahead 27 = .ok (.iload_n 2, 1) := by decide +kernel
theorem dX8_ahead_28 : decode cX8_ahead 28 = .ok (.i2l, 1) := by decide +kernel
theorem dX8_ahead_29 : decode cX8_ahead 29 = .ok (.lconst 0, 1) := by decide +kernel
theorem dX8_ahead_30 : decode cX8_ahead 30 = .ok (.ldc2_w 62, 3) := by decide +kernel
theorem dX8_ahead_33 : decode cX8_ahead 33 = .ok (.invokestatic 54, 3) := by decide +kernel
theorem dX8_ahead_36 : decode cX8_ahead 36 = .ok (.ifCond .ne 6, 3) := by decide +kernel
theorem dX8_ahead_39 : decode cX8_ahead 39 = .ok (.ldc 64, 2) := by decide +kernel
theorem dX8_ahead_41 : decode cX8_ahead 41 = .ok (.ireturn, 1) := by decide +kernel
theorem dX8_ahead_42 : decode cX8_ahead 42 = .ok (.aload_n 0, 1) := by decide +kernel
theorem dX8_ahead_43 : decode cX8_ahead 43 = .ok (.invokevirtual 197, 3) := by decide +kernel
theorem dX8_ahead_46 : decode cX8_ahead 46 = .ok (.aload_n 0, 1) := by decide +kernel
theorem dX8_ahead_47 : decode cX8_ahead 47 = .ok (.getfield 25, 3) := by decide +kernel
theorem dX8_ahead_50 : decode cX8_ahead 50 = .ok (.iload_n 1, 1) := by decide +kernel
theorem dX8_ahead_51 : decode cX8_ahead 51 = .ok (.invokestatic 200, 3) := by decide +kernel
theorem dX8_ahead_54 : decode cX8_ahead 54 = .ok (.iload_n 2, 1) := by decide +kernel
theorem dX8_ahead_55 : decode cX8_ahead 55 = .ok (.ifCond .ne 12, 3) := by decide +kernel
theorem dX8_ahead_58 : decode cX8_ahead 58 = .ok (.aload_n 0, 1) := by decide +kernel
theorem dX8_ahead_59 : decode cX8_ahead 59 = .ok (.getfield 25, 3) := by decide +kernel
theorem dX8_ahead_62 : decode cX8_ahead 62 = .ok (.iconst 1, 1) := by decide +kernel
theorem dX8_ahead_63 : decode cX8_ahead 63 = .ok (.iaload, 1) := by decide +kernel
theorem dX8_ahead_64 : decode cX8_ahead 64 = .ok (.goto 25, 3) := by decide +kernel
theorem dX8_ahead_67 : decode cX8_ahead 67 = .ok (.iload_n 2, 1) := by decide +kernel
theorem dX8_ahead_68 : decode cX8_ahead 68 = .ok (.iconst 1, 1) := by decide +kernel
theorem dX8_ahead_69 : decode cX8_ahead 69 = .ok (.if_icmp .ne 13, 3) := by decide +kernel
theorem dX8_ahead_72 : decode cX8_ahead 72 = .ok (.aload_n 0, 1) := by decide +kernel
theorem dX8_ahead_73 : decode cX8_ahead 73 = .ok (.getfield 25, 3) := by decide +kernel
theorem dX8_ahead_76 : decode cX8_ahead 76 = .ok (.bipush 6, 2) := by decide +kernel
theorem dX8_ahead_78 : decode cX8_ahead 78 = .ok (.iaload, 1) := by decide +kernel
theorem dX8_ahead_79 : decode cX8_ahead 79 = .ok (.goto 10, 3) := by decide +kernel
theorem dX8_ahead_82 : decode cX8_ahead 82 = .ok (.aload_n 0, 1) := by decide +kernel
theorem dX8_ahead_83 : decode cX8_ahead 83 = .ok (.getfield 25, 3) := by decide +kernel
theorem dX8_ahead_86 : decode cX8_ahead 86 = .ok (.invokestatic 192, 3) := by decide +kernel
theorem dX8_ahead_89 : decode cX8_ahead 89 = .ok (.ireturn, 1) := by decide +kernel
def bX8_ahead_0 : List sx_S := [si_al 0, si_const 0, si_put 7 0 0, si_al 0, si_cv 7 145 0 0 0 0 0, si_if1 (fun x => ¬ x = 0) 15 [true, true, true], si_const (-1000002), si_ri]
def bX8_ahead_15 : List sx_S := [si_il 1, si_i2l, si_lconst 0, si_lconst (lN 60), si_cs 124 3 0 0 0 0, si_if1 (fun x => x = 0) 39 [false, false, false], si_il 2, si_i2l, si_lconst 0, si_lconst (lN 2), si_cs 124 3 0 0 0 0, si_if1 (fun x => ¬ x = 0) 42 [true, true, true], si_go 39 [false, false, false]]
def bX8_ahead_39 : List sx_S := [si_const (-1000001), si_ri]
def bX8_ahead_42 : List sx_S := [si_al 0, si_cv 7 155 0 0 0 0 0, si_al 0, si_get 7 7, si_il 1, si_cs 154 2 0 0 0 0, si_il 2, si_if1 (fun x => ¬ x = 0) 67 [true, false, true], si_al 0, si_get 7 7, si_const 1, si_iald, si_go 89 [false, false, false]]
def bX8_ahead_67 : List sx_S := [si_il 2, si_const 1, si_if2 (fun x y => ¬ x = y) 82 [true, false, false], si_al 0, si_get 7 7, si_const (nI 6), si_iald, si_go 89 [false, false, false]]
def bX8_ahead_82 : List sx_S := [si_al 0, si_get 7 7, si_cs 157 1 0 0 0 0, si_go 89 [false, false, false]]
def bX8_ahead_89 : List sx_S := [si_ri]
def BX8_ahead : Nat → List sx_S := fun pc => if pc = 0 then bX8_ahead_0 else if pc = 15 then bX8_ahead_15 else if pc = 39 then bX8_ahead_39 else if pc = 42 then bX8_ahead_42 else if pc = 67 then bX8_ahead_67 else if pc = 82 then bX8_ahead_82 else if pc = 89 then bX8_ahead_89 else []
set_option maxRecDepth 20000 in
theorem kX8_ahead_0 : sx_BK sx_tb yX8_ahead.cls cX8_ahead 3 (some .int) ({ frames := 5, cells := 0, slots := 0, locals := 111 } : Room) false false 0 (fun _ => 0) 0 (bX8_ahead_0) := ⟨_, ⟨sn_aload_n dX8_ahead_0 rfl, sm_al _⟩, ⟨_, ⟨sn_iconst dX8_ahead_1 (by decide +kernel), sm_const _⟩, ⟨_, ⟨sn_put (C := RX8) (T := TX8) (N := 23) dX8_ahead_2 rfl zinX8 tyX8_ok nmX8 (Nat.le_of_ble_eq_true rfl) zw_3_182 rfl (tyX8_ok 0 (Nat.le_of_ble_eq_true rfl)) trivial, sm_put _ _ _⟩, ⟨_, ⟨sn_aload_n dX8_ahead_5 rfl, sm_al _⟩, ⟨_, ⟨sn_cv_z (N := 23) (T := TX8) ztb_X8_isThere dX8_ahead_6 rfl rfl zw_4_110 zw_4_112 zw_0_45 zw_1_8 zw_4_113 zmh_X8 zpd_X8_isThere (Nat.le_of_ble_eq_true rfl) (Nat.le_of_ble_eq_true rfl) rfl rfl, sm_cv _ _ _ _ _ _ _⟩, ⟨_, ⟨sn_if_ne dX8_ahead_9 (by decide +kernel) rfl, sm_if1 _ _ _⟩, ⟨_, ⟨sn_ldc dX8_ahead_12 zw_4_114, sm_const _⟩, ⟨_, ⟨sn_ri (len := 1) dX8_ahead_14 rfl, sm_ri⟩, trivial⟩⟩⟩⟩⟩⟩⟩⟩
set_option maxRecDepth 20000 in
theorem kX8_ahead_15 : sx_BK sx_tb yX8_ahead.cls cX8_ahead 3 (some .int) ({ frames := 5, cells := 0, slots := 0, locals := 111 } : Room) false false 0 (fun _ => 0) 15 (bX8_ahead_15) := ⟨_, ⟨sn_iload_n dX8_ahead_15 rfl, sm_il _⟩, ⟨_, ⟨sn_i2l dX8_ahead_16, sm_i2l⟩, ⟨_, ⟨sn_lconst dX8_ahead_17 (by decide +kernel), sm_lconst _⟩, ⟨_, ⟨sn_ldc2 dX8_ahead_18 zw_4_185, sm_lconst _⟩, ⟨_, ⟨sn_cs_z ztb_X8_in dX8_ahead_21 zw_4_21 zw_4_22 zw_1_8 zw_4_23 zmh_X8 zpd_X8_in (Nat.le_of_ble_eq_true rfl) (Nat.le_of_ble_eq_true rfl) rfl rfl, sm_cs _ _ _ _ _ _⟩, ⟨_, ⟨sn_if_eq dX8_ahead_24 (by decide +kernel) rfl, sm_if1 _ _ _⟩, ⟨_, ⟨sn_iload_n dX8_ahead_27 rfl, sm_il _⟩, ⟨_, ⟨sn_i2l dX8_ahead_28, sm_i2l⟩, ⟨_, ⟨sn_lconst dX8_ahead_29 (by decide +kernel), sm_lconst _⟩, ⟨_, ⟨sn_ldc2 dX8_ahead_30 zw_4_24, sm_lconst _⟩, ⟨_, ⟨sn_cs_z ztb_X8_in dX8_ahead_33 zw_4_21 zw_4_22 zw_1_8 zw_4_23 zmh_X8 zpd_X8_in (Nat.le_of_ble_eq_true rfl) (Nat.le_of_ble_eq_true rfl) rfl rfl, sm_cs _ _ _ _ _ _⟩, ⟨_, ⟨sn_if_ne dX8_ahead_36 (by decide +kernel) rfl, sm_if1 _ _ _⟩, ⟨_, ⟨sn_fall (len := 0) rfl rfl, sm_go _ _⟩, trivial⟩⟩⟩⟩⟩⟩⟩⟩⟩⟩⟩⟩⟩
set_option maxRecDepth 20000 in
theorem kX8_ahead_39 : sx_BK sx_tb yX8_ahead.cls cX8_ahead 3 (some .int) ({ frames := 5, cells := 0, slots := 0, locals := 111 } : Room) false false 0 (fun _ => 0) 39 (bX8_ahead_39) := ⟨_, ⟨sn_ldc dX8_ahead_39 zw_4_25, sm_const _⟩, ⟨_, ⟨sn_ri (len := 1) dX8_ahead_41 rfl, sm_ri⟩, trivial⟩⟩
set_option maxRecDepth 20000 in
theorem kX8_ahead_42 : sx_BK sx_tb yX8_ahead.cls cX8_ahead 3 (some .int) ({ frames := 5, cells := 0, slots := 0, locals := 111 } : Room) false false 0 (fun _ => 0) 42 (bX8_ahead_42) := ⟨_, ⟨sn_aload_n dX8_ahead_42 rfl, sm_al _⟩, ⟨_, ⟨sn_cv_v (N := 23) (T := TX8) ztb_X8_layThen dX8_ahead_43 rfl rfl zw_4_186 zw_4_188 zw_0_48 zw_1_8 zw_4_189 zmh_X8 zpd_X8_layThen (Nat.le_of_ble_eq_true rfl) (Nat.le_of_ble_eq_true rfl) rfl rfl, sm_cv _ _ _ _ _ _ _⟩, ⟨_, ⟨sn_aload_n dX8_ahead_46 rfl, sm_al _⟩, ⟨_, ⟨sn_get (C := RX8) (T := TX8) (N := 23) dX8_ahead_47 rfl zinX8 (Nat.le_of_ble_eq_true rfl) zw_3_189, sm_get _ _⟩, ⟨_, ⟨sn_iload_n dX8_ahead_50 rfl, sm_il _⟩, ⟨_, ⟨sn_cs_v ztb_X8_weeksOf dX8_ahead_51 zw_4_190 zw_4_191 zw_1_8 zw_4_192 zmh_X8 zpd_X8_weeksOf (Nat.le_of_ble_eq_true rfl) (Nat.le_of_ble_eq_true rfl) rfl rfl, sm_cs _ _ _ _ _ _⟩, ⟨_, ⟨sn_iload_n dX8_ahead_54 rfl, sm_il _⟩, ⟨_, ⟨sn_if_ne dX8_ahead_55 (by decide +kernel) rfl, sm_if1 _ _ _⟩, ⟨_, ⟨sn_aload_n dX8_ahead_58 rfl, sm_al _⟩, ⟨_, ⟨sn_get (C := RX8) (T := TX8) (N := 23) dX8_ahead_59 rfl zinX8 (Nat.le_of_ble_eq_true rfl) zw_3_189, sm_get _ _⟩, ⟨_, ⟨sn_iconst dX8_ahead_62 (by decide +kernel), sm_const _⟩, ⟨_, ⟨sn_iald dX8_ahead_63, sm_iald⟩, ⟨_, ⟨sn_goto (len := 3) dX8_ahead_64 (by decide +kernel) rfl, sm_go _ _⟩, trivial⟩⟩⟩⟩⟩⟩⟩⟩⟩⟩⟩⟩⟩
set_option maxRecDepth 20000 in
theorem kX8_ahead_67 : sx_BK sx_tb yX8_ahead.cls cX8_ahead 3 (some .int) ({ frames := 5, cells := 0, slots := 0, locals := 111 } : Room) false false 0 (fun _ => 0) 67 (bX8_ahead_67) := ⟨_, ⟨sn_iload_n dX8_ahead_67 rfl, sm_il _⟩, ⟨_, ⟨sn_iconst dX8_ahead_68 (by decide +kernel), sm_const _⟩, ⟨_, ⟨sn_ic_ne dX8_ahead_69 (by decide +kernel) rfl, sm_if2 _ _ _⟩, ⟨_, ⟨sn_aload_n dX8_ahead_72 rfl, sm_al _⟩, ⟨_, ⟨sn_get (C := RX8) (T := TX8) (N := 23) dX8_ahead_73 rfl zinX8 (Nat.le_of_ble_eq_true rfl) zw_3_189, sm_get _ _⟩, ⟨_, ⟨sn_bipush dX8_ahead_76 (by decide +kernel), sm_const _⟩, ⟨_, ⟨sn_iald dX8_ahead_78, sm_iald⟩, ⟨_, ⟨sn_goto (len := 3) dX8_ahead_79 (by decide +kernel) rfl, sm_go _ _⟩, trivial⟩⟩⟩⟩⟩⟩⟩⟩
set_option maxRecDepth 20000 in
theorem kX8_ahead_82 : sx_BK sx_tb yX8_ahead.cls cX8_ahead 3 (some .int) ({ frames := 5, cells := 0, slots := 0, locals := 111 } : Room) false false 0 (fun _ => 0) 82 (bX8_ahead_82) := ⟨_, ⟨sn_aload_n dX8_ahead_82 rfl, sm_al _⟩, ⟨_, ⟨sn_get (C := RX8) (T := TX8) (N := 23) dX8_ahead_83 rfl zinX8 (Nat.le_of_ble_eq_true rfl) zw_3_189, sm_get _ _⟩, ⟨_, ⟨sn_cs_i ztb_X8_debtsOf dX8_ahead_86 zw_4_178 zw_4_179 zw_1_8 zw_4_180 zmh_X8 zpd_X8_debtsOf (Nat.le_of_ble_eq_true rfl) (Nat.le_of_ble_eq_true rfl) rfl rfl, sm_cs _ _ _ _ _ _⟩, ⟨_, ⟨sn_fall (len := 0) rfl rfl, sm_go _ _⟩, trivial⟩⟩⟩⟩
set_option maxRecDepth 20000 in
theorem kX8_ahead_89 : sx_BK sx_tb yX8_ahead.cls cX8_ahead 3 (some .int) ({ frames := 5, cells := 0, slots := 0, locals := 111 } : Room) false false 0 (fun _ => 0) 89 (bX8_ahead_89) := ⟨_, ⟨sn_ri (len := 1) dX8_ahead_89 rfl, sm_ri⟩, trivial⟩
theorem kX8_ahead : ∀ pc, sx_BK sx_tb yX8_ahead.cls cX8_ahead 3 (some .int) ({ frames := 5, cells := 0, slots := 0, locals := 111 } : Room) false false 0 (fun _ => 0) pc (BX8_ahead pc) := fun pc => sx_bk_if (kX8_ahead_0) (sx_bk_if (kX8_ahead_15) (sx_bk_if (kX8_ahead_39) (sx_bk_if (kX8_ahead_42) (sx_bk_if (kX8_ahead_67) (sx_bk_if (kX8_ahead_82) (sx_bk_if (kX8_ahead_89) (trivial)))))))
theorem okX8_ahead : sx_ok sx_tb BX8_ahead (yX8_ahead, cX8_ahead, 3, some .int, { frames := 5, cells := 0, slots := 0, locals := 111 }) := ⟨by decide, by decide +kernel, false, (fun h => by cases h), kX8_ahead⟩
theorem dX8_debt_0 : decode cX8_debt 0 = .ok (.aload_n 0, 1) := by decide +kernel
theorem dX8_debt_1 : decode cX8_debt 1 = .ok (.iconst 0, 1) := by decide +kernel
theorem dX8_debt_2 : decode cX8_debt 2 = .ok (.putfield 44, 3) := by decide +kernel
theorem dX8_debt_5 : decode cX8_debt 5 = .ok (.aload_n 0, 1) := by decide +kernel
theorem dX8_debt_6 : decode cX8_debt 6 = .ok (.iload_n 1, 1) := by decide +kernel
theorem dX8_debt_7 : decode cX8_debt 7 = .ok (.invokevirtual 181, 3) := by decide +kernel
theorem dX8_debt_10 : decode cX8_debt 10 = .ok (.ifCond .eq 15, 3) := by decide +kernel
theorem dX8_debt_13 : decode cX8_debt 13 = .ok (.iload_n 2, 1) := by decide +kernel
theorem dX8_debt_14 : decode cX8_debt 14 = .ok (.i2l, 1) := by decide +kernel
theorem dX8_debt_15 : decode cX8_debt 15 = .ok (.lconst 0, 1) := by decide +kernel
theorem dX8_debt_16 : decode cX8_debt 16 = .ok (.ldc2_w 195, 3) := by decide +kernel
theorem dX8_debt_19 : decode cX8_debt 19 = .ok (.invokestatic 54, 3) := by decide +kernel
theorem dX8_debt_22 : decode cX8_debt 22 = .ok (.ifCond .ne 6, 3) := by decide +kernel
theorem dX8_debt_25 : decode cX8_debt 25 = .ok (.ldc 64, 2) := by decide +kernel
theorem dX8_debt_27 : decode cX8_debt 27 = .ok (.ireturn, 1) := by decide +kernel
theorem dX8_debt_28 : decode cX8_debt 28 = .ok (.aload_n 0, 1) := by decide +kernel
theorem dX8_debt_29 : decode cX8_debt 29 = .ok (.invokevirtual 197, 3) := by decide +kernel
theorem dX8_debt_32 : decode cX8_debt 32 = .ok (.aload_n 0, 1) := by decide +kernel
theorem dX8_debt_33 : decode cX8_debt 33 = .ok (.getfield 25, 3) := by decide +kernel
theorem dX8_debt_36 : decode cX8_debt 36 = .ok (.iload_n 2, 1) := by decide +kernel
theorem dX8_debt_37 : decode cX8_debt 37 = .ok (.invokestatic 200, 3) := by decide +kernel
theorem dX8_debt_40 : decode cX8_debt 40 = .ok (.aload_n 0, 1) := by decide +kernel
theorem dX8_debt_41 : decode cX8_debt 41 = .ok (.getfield 25, 3) := by decide +kernel
theorem dX8_debt_44 : decode cX8_debt 44 = .ok (.iload_n 1, 1) := by decide +kernel
theorem dX8_debt_45 : decode cX8_debt 45 = .ok (.iconst 4, 1) := by decide +kernel
theorem dX8_debt_46 : decode cX8_debt 46 = .ok (.invokestatic 146, 3) := by decide +kernel
theorem dX8_debt_49 : decode cX8_debt 49 = .ok (.ireturn, 1) := by decide +kernel
def bX8_debt_0 : List sx_S := [si_al 0, si_const 0, si_put 7 0 0, si_al 0, si_il 1, si_cv 7 146 1 0 0 0 0, si_if1 (fun x => x = 0) 25 [false, false, false], si_il 2, si_i2l, si_lconst 0, si_lconst (lN 60), si_cs 124 3 0 0 0 0, si_if1 (fun x => ¬ x = 0) 28 [true, true, true], si_go 25 [false, false, false]]
def bX8_debt_25 : List sx_S := [si_const (-1000001), si_ri]
def bX8_debt_28 : List sx_S := [si_al 0, si_cv 7 155 0 0 0 0 0, si_al 0, si_get 7 7, si_il 2, si_cs 154 2 0 0 0 0, si_al 0, si_get 7 7, si_il 1, si_const (nI 4), si_cs 147 3 0 0 0 0, si_ri]
def BX8_debt : Nat → List sx_S := fun pc => if pc = 0 then bX8_debt_0 else if pc = 25 then bX8_debt_25 else if pc = 28 then bX8_debt_28 else []
set_option maxRecDepth 20000 in
theorem kX8_debt_0 : sx_BK sx_tb yX8_debt.cls cX8_debt 3 (some .int) ({ frames := 5, cells := 0, slots := 0, locals := 111 } : Room) false false 0 (fun _ => 0) 0 (bX8_debt_0) := ⟨_, ⟨sn_aload_n dX8_debt_0 rfl, sm_al _⟩, ⟨_, ⟨sn_iconst dX8_debt_1 (by decide +kernel), sm_const _⟩, ⟨_, ⟨sn_put (C := RX8) (T := TX8) (N := 23) dX8_debt_2 rfl zinX8 tyX8_ok nmX8 (Nat.le_of_ble_eq_true rfl) zw_3_182 rfl (tyX8_ok 0 (Nat.le_of_ble_eq_true rfl)) trivial, sm_put _ _ _⟩, ⟨_, ⟨sn_aload_n dX8_debt_5 rfl, sm_al _⟩, ⟨_, ⟨sn_iload_n dX8_debt_6 rfl, sm_il _⟩, ⟨_, ⟨sn_cv_z (N := 23) (T := TX8) ztb_X8_isDebtor dX8_debt_7 rfl rfl zw_4_145 zw_4_147 zw_0_47 zw_1_8 zw_4_148 zmh_X8 zpd_X8_isDebtor (Nat.le_of_ble_eq_true rfl) (Nat.le_of_ble_eq_true rfl) rfl rfl, sm_cv _ _ _ _ _ _ _⟩, ⟨_, ⟨sn_if_eq dX8_debt_10 (by decide +kernel) rfl, sm_if1 _ _ _⟩, ⟨_, ⟨sn_iload_n dX8_debt_13 rfl, sm_il _⟩, ⟨_, ⟨sn_i2l dX8_debt_14, sm_i2l⟩, ⟨_, ⟨sn_lconst dX8_debt_15 (by decide +kernel), sm_lconst _⟩, ⟨_, ⟨sn_ldc2 dX8_debt_16 zw_4_185, sm_lconst _⟩, ⟨_, ⟨sn_cs_z ztb_X8_in dX8_debt_19 zw_4_21 zw_4_22 zw_1_8 zw_4_23 zmh_X8 zpd_X8_in (Nat.le_of_ble_eq_true rfl) (Nat.le_of_ble_eq_true rfl) rfl rfl, sm_cs _ _ _ _ _ _⟩, ⟨_, ⟨sn_if_ne dX8_debt_22 (by decide +kernel) rfl, sm_if1 _ _ _⟩, ⟨_, ⟨sn_fall (len := 0) rfl rfl, sm_go _ _⟩, trivial⟩⟩⟩⟩⟩⟩⟩⟩⟩⟩⟩⟩⟩⟩
set_option maxRecDepth 20000 in
theorem kX8_debt_25 : sx_BK sx_tb yX8_debt.cls cX8_debt 3 (some .int) ({ frames := 5, cells := 0, slots := 0, locals := 111 } : Room) false false 0 (fun _ => 0) 25 (bX8_debt_25) := ⟨_, ⟨sn_ldc dX8_debt_25 zw_4_25, sm_const _⟩, ⟨_, ⟨sn_ri (len := 1) dX8_debt_27 rfl, sm_ri⟩, trivial⟩⟩
set_option maxRecDepth 20000 in
theorem kX8_debt_28 : sx_BK sx_tb yX8_debt.cls cX8_debt 3 (some .int) ({ frames := 5, cells := 0, slots := 0, locals := 111 } : Room) false false 0 (fun _ => 0) 28 (bX8_debt_28) := ⟨_, ⟨sn_aload_n dX8_debt_28 rfl, sm_al _⟩, ⟨_, ⟨sn_cv_v (N := 23) (T := TX8) ztb_X8_layThen dX8_debt_29 rfl rfl zw_4_186 zw_4_188 zw_0_48 zw_1_8 zw_4_189 zmh_X8 zpd_X8_layThen (Nat.le_of_ble_eq_true rfl) (Nat.le_of_ble_eq_true rfl) rfl rfl, sm_cv _ _ _ _ _ _ _⟩, ⟨_, ⟨sn_aload_n dX8_debt_32 rfl, sm_al _⟩, ⟨_, ⟨sn_get (C := RX8) (T := TX8) (N := 23) dX8_debt_33 rfl zinX8 (Nat.le_of_ble_eq_true rfl) zw_3_189, sm_get _ _⟩, ⟨_, ⟨sn_iload_n dX8_debt_36 rfl, sm_il _⟩, ⟨_, ⟨sn_cs_v ztb_X8_weeksOf dX8_debt_37 zw_4_190 zw_4_191 zw_1_8 zw_4_192 zmh_X8 zpd_X8_weeksOf (Nat.le_of_ble_eq_true rfl) (Nat.le_of_ble_eq_true rfl) rfl rfl, sm_cs _ _ _ _ _ _⟩, ⟨_, ⟨sn_aload_n dX8_debt_40 rfl, sm_al _⟩, ⟨_, ⟨sn_get (C := RX8) (T := TX8) (N := 23) dX8_debt_41 rfl zinX8 (Nat.le_of_ble_eq_true rfl) zw_3_189, sm_get _ _⟩, ⟨_, ⟨sn_iload_n dX8_debt_44 rfl, sm_il _⟩, ⟨_, ⟨sn_iconst dX8_debt_45 (by decide +kernel), sm_const _⟩, ⟨_, ⟨sn_cs_i ztb_X8_of dX8_debt_46 zw_4_126 zw_4_127 zw_1_8 zw_4_128 zmh_X8 zpd_X8_of (Nat.le_of_ble_eq_true rfl) (Nat.le_of_ble_eq_true rfl) rfl rfl, sm_cs _ _ _ _ _ _⟩, ⟨_, ⟨sn_ri (len := 1) dX8_debt_49 rfl, sm_ri⟩, trivial⟩⟩⟩⟩⟩⟩⟩⟩⟩⟩⟩⟩
theorem kX8_debt : ∀ pc, sx_BK sx_tb yX8_debt.cls cX8_debt 3 (some .int) ({ frames := 5, cells := 0, slots := 0, locals := 111 } : Room) false false 0 (fun _ => 0) pc (BX8_debt pc) := fun pc => sx_bk_if (kX8_debt_0) (sx_bk_if (kX8_debt_25) (sx_bk_if (kX8_debt_28) (trivial)))
theorem okX8_debt : sx_ok sx_tb BX8_debt (yX8_debt, cX8_debt, 3, some .int, { frames := 5, cells := 0, slots := 0, locals := 111 }) := ⟨by decide, by decide +kernel, false, (fun h => by cases h), kX8_debt⟩
theorem dX8_shuts_0 : decode cX8_shuts 0 = .ok (.aload_n 0, 1) := by decide +kernel
theorem dX8_shuts_1 : decode cX8_shuts 1 = .ok (.iconst 0, 1) := by decide +kernel
theorem dX8_shuts_2 : decode cX8_shuts 2 = .ok (.putfield 44, 3) := by decide +kernel
theorem dX8_shuts_5 : decode cX8_shuts 5 = .ok (.aload_n 0, 1) := by decide +kernel
theorem dX8_shuts_6 : decode cX8_shuts 6 = .ok (.invokevirtual 172, 3) := by decide +kernel
theorem dX8_shuts_9 : decode cX8_shuts 9 = .ok (.ifCond .ne 6, 3) := by decide +kernel
theorem dX8_shuts_12 : decode cX8_shuts 12 = .ok (.ldc 175, 2) := by decide +kernel
theorem dX8_shuts_14 : decode cX8_shuts 14 = .ok (.ireturn, 1) := by decide +kernel
theorem dX8_shuts_15 : decode cX8_shuts 15 = .ok (.aload_n 0, 1) := by decide +kernel
theorem dX8_shuts_16 : decode cX8_shuts 16 = .ok (.invokevirtual 197, 3) := by decide +kernel
theorem dX8_shuts_19 : decode cX8_shuts 19 = .ok (.iconst 0, 1) := by decide +kernel
theorem dX8_shuts_20 : decode cX8_shuts 20 = .ok (.istore_n 1, 1) := by decide +kernel
theorem dX8_shuts_21 : decode cX8_shuts 21 = .ok (.iload_n 1, 1) := by decide +kernel
theorem dX8_shuts_22 : decode cX8_shuts 22 = .ok (.bipush 61, 2) := by decide +kernel
theorem dX8_shuts_24 : decode cX8_shuts 24 = .ok (.if_icmp .ge 29, 3) := by decide +kernel
theorem dX8_shuts_27 : decode cX8_shuts 27 = .ok (.aload_n 0, 1) := by decide +kernel
theorem dX8_shuts_28 : decode cX8_shuts 28 = .ok (.getfield 25, 3) := by decide +kernel
theorem dX8_shuts_31 : decode cX8_shuts 31 = .ok (.bipush 8, 2) := by decide +kernel
theorem dX8_shuts_33 : decode cX8_shuts 33 = .ok (.iaload, 1) := by decide +kernel
theorem dX8_shuts_34 : decode cX8_shuts 34 = .ok (.iconst 1, 1) := by decide +kernel
theorem dX8_shuts_35 : decode cX8_shuts 35 = .ok (.if_icmp .ne 5, 3) := by decide +kernel
theorem dX8_shuts_38 : decode cX8_shuts 38 = .ok (.iload_n 1, 1) := by decide +kernel
theorem dX8_shuts_39 : decode cX8_shuts 39 = .ok (.ireturn, 1) := by decide +kernel
theorem dX8_shuts_40 : decode cX8_shuts 40 = .ok (.aload_n 0, 1) := by decide +kernel
theorem dX8_shuts_41 : decode cX8_shuts 41 = .ok (.getfield 25, 3) := by decide +kernel
theorem dX8_shuts_44 : decode cX8_shuts 44 = .ok (.invokestatic 168, 3) := by decide +kernel
theorem dX8_shuts_47 : decode cX8_shuts 47 = .ok (.iinc 1 1, 3) := by decide +kernel
theorem dX8_shuts_50 : decode cX8_shuts 50 = .ok (.goto (-29), 3) := by decide +kernel
theorem dX8_shuts_53 : decode cX8_shuts 53 = .ok (.ldc 87, 2) := by decide +kernel
theorem dX8_shuts_55 : decode cX8_shuts 55 = .ok (.ireturn, 1) := by decide +kernel
def bX8_shuts_0 : List sx_S := [si_al 0, si_const 0, si_put 7 0 0, si_al 0, si_cv 7 145 0 0 0 0 0, si_if1 (fun x => ¬ x = 0) 15 [true, false], si_const (-1000002), si_ri]
def bX8_shuts_15 : List sx_S := [si_al 0, si_cv 7 155 0 0 0 0 0, si_const 0, si_is 1, si_go 21 [true, true]]
def bX8_shuts_21 : List sx_S := [si_il 1, si_const (nI 61), si_if2 (fun x y => y ≤ x) 53 [false, false], si_al 0, si_get 7 7, si_const (nI 8), si_iald, si_const 1, si_if2 (fun x y => ¬ x = y) 40 [true, true], si_il 1, si_ri]
def bX8_shuts_40 : List sx_S := [si_al 0, si_get 7 7, si_cs 153 1 0 0 0 0, si_inc 1 1, si_go 21 [true, true]]
def bX8_shuts_53 : List sx_S := [si_const (-1000000), si_ri]
def BX8_shuts : Nat → List sx_S := fun pc => if pc = 0 then bX8_shuts_0 else if pc = 15 then bX8_shuts_15 else if pc = 21 then bX8_shuts_21 else if pc = 40 then bX8_shuts_40 else if pc = 53 then bX8_shuts_53 else []
set_option maxRecDepth 20000 in
theorem kX8_shuts_0 : sx_BK sx_tb yX8_shuts.cls cX8_shuts 2 (some .int) ({ frames := 4, cells := 0, slots := 0, locals := 89 } : Room) false false 0 (fun _ => 0) 0 (bX8_shuts_0) := ⟨_, ⟨sn_aload_n dX8_shuts_0 rfl, sm_al _⟩, ⟨_, ⟨sn_iconst dX8_shuts_1 (by decide +kernel), sm_const _⟩, ⟨_, ⟨sn_put (C := RX8) (T := TX8) (N := 23) dX8_shuts_2 rfl zinX8 tyX8_ok nmX8 (Nat.le_of_ble_eq_true rfl) zw_3_182 rfl (tyX8_ok 0 (Nat.le_of_ble_eq_true rfl)) trivial, sm_put _ _ _⟩, ⟨_, ⟨sn_aload_n dX8_shuts_5 rfl, sm_al _⟩, ⟨_, ⟨sn_cv_z (N := 23) (T := TX8) ztb_X8_isThere dX8_shuts_6 rfl rfl zw_4_110 zw_4_112 zw_0_45 zw_1_8 zw_4_113 zmh_X8 zpd_X8_isThere (Nat.le_of_ble_eq_true rfl) (Nat.le_of_ble_eq_true rfl) rfl rfl, sm_cv _ _ _ _ _ _ _⟩, ⟨_, ⟨sn_if_ne dX8_shuts_9 (by decide +kernel) rfl, sm_if1 _ _ _⟩, ⟨_, ⟨sn_ldc dX8_shuts_12 zw_4_114, sm_const _⟩, ⟨_, ⟨sn_ri (len := 1) dX8_shuts_14 rfl, sm_ri⟩, trivial⟩⟩⟩⟩⟩⟩⟩⟩
set_option maxRecDepth 20000 in
theorem kX8_shuts_15 : sx_BK sx_tb yX8_shuts.cls cX8_shuts 2 (some .int) ({ frames := 4, cells := 0, slots := 0, locals := 89 } : Room) false false 0 (fun _ => 0) 15 (bX8_shuts_15) := ⟨_, ⟨sn_aload_n dX8_shuts_15 rfl, sm_al _⟩, ⟨_, ⟨sn_cv_v (N := 23) (T := TX8) ztb_X8_layThen dX8_shuts_16 rfl rfl zw_4_186 zw_4_188 zw_0_48 zw_1_8 zw_4_189 zmh_X8 zpd_X8_layThen (Nat.le_of_ble_eq_true rfl) (Nat.le_of_ble_eq_true rfl) rfl rfl, sm_cv _ _ _ _ _ _ _⟩, ⟨_, ⟨sn_iconst dX8_shuts_19 (by decide +kernel), sm_const _⟩, ⟨_, ⟨sn_istore_n dX8_shuts_20 rfl (Nat.le_of_ble_eq_true rfl), sm_is _⟩, ⟨_, ⟨sn_fall (len := 0) rfl rfl, sm_go _ _⟩, trivial⟩⟩⟩⟩⟩
set_option maxRecDepth 20000 in
theorem kX8_shuts_21 : sx_BK sx_tb yX8_shuts.cls cX8_shuts 2 (some .int) ({ frames := 4, cells := 0, slots := 0, locals := 89 } : Room) false false 0 (fun _ => 0) 21 (bX8_shuts_21) := ⟨_, ⟨sn_iload_n dX8_shuts_21 rfl, sm_il _⟩, ⟨_, ⟨sn_bipush dX8_shuts_22 (by decide +kernel), sm_const _⟩, ⟨_, ⟨sn_ic_ge dX8_shuts_24 (by decide +kernel) rfl, sm_if2 _ _ _⟩, ⟨_, ⟨sn_aload_n dX8_shuts_27 rfl, sm_al _⟩, ⟨_, ⟨sn_get (C := RX8) (T := TX8) (N := 23) dX8_shuts_28 rfl zinX8 (Nat.le_of_ble_eq_true rfl) zw_3_189, sm_get _ _⟩, ⟨_, ⟨sn_bipush dX8_shuts_31 (by decide +kernel), sm_const _⟩, ⟨_, ⟨sn_iald dX8_shuts_33, sm_iald⟩, ⟨_, ⟨sn_iconst dX8_shuts_34 (by decide +kernel), sm_const _⟩, ⟨_, ⟨sn_ic_ne dX8_shuts_35 (by decide +kernel) rfl, sm_if2 _ _ _⟩, ⟨_, ⟨sn_iload_n dX8_shuts_38 rfl, sm_il _⟩, ⟨_, ⟨sn_ri (len := 1) dX8_shuts_39 rfl, sm_ri⟩, trivial⟩⟩⟩⟩⟩⟩⟩⟩⟩⟩⟩
set_option maxRecDepth 20000 in
theorem kX8_shuts_40 : sx_BK sx_tb yX8_shuts.cls cX8_shuts 2 (some .int) ({ frames := 4, cells := 0, slots := 0, locals := 89 } : Room) false false 0 (fun _ => 0) 40 (bX8_shuts_40) := ⟨_, ⟨sn_aload_n dX8_shuts_40 rfl, sm_al _⟩, ⟨_, ⟨sn_get (C := RX8) (T := TX8) (N := 23) dX8_shuts_41 rfl zinX8 (Nat.le_of_ble_eq_true rfl) zw_3_189, sm_get _ _⟩, ⟨_, ⟨sn_cs_v ztb_X8_week dX8_shuts_44 zw_4_120 zw_4_121 zw_1_8 zw_4_122 zmh_X8 zpd_X8_week (Nat.le_of_ble_eq_true rfl) (Nat.le_of_ble_eq_true rfl) rfl rfl, sm_cs _ _ _ _ _ _⟩, ⟨_, ⟨sn_iinc dX8_shuts_47 (by decide +kernel) (Nat.le_of_ble_eq_true rfl), sm_inc _ _⟩, ⟨_, ⟨sn_goto (len := 3) dX8_shuts_50 (by decide +kernel) rfl, sm_go _ _⟩, trivial⟩⟩⟩⟩⟩
set_option maxRecDepth 20000 in
theorem kX8_shuts_53 : sx_BK sx_tb yX8_shuts.cls cX8_shuts 2 (some .int) ({ frames := 4, cells := 0, slots := 0, locals := 89 } : Room) false false 0 (fun _ => 0) 53 (bX8_shuts_53) := ⟨_, ⟨sn_ldc dX8_shuts_53 zw_4_65, sm_const _⟩, ⟨_, ⟨sn_ri (len := 1) dX8_shuts_55 rfl, sm_ri⟩, trivial⟩⟩
theorem kX8_shuts : ∀ pc, sx_BK sx_tb yX8_shuts.cls cX8_shuts 2 (some .int) ({ frames := 4, cells := 0, slots := 0, locals := 89 } : Room) false false 0 (fun _ => 0) pc (BX8_shuts pc) := fun pc => sx_bk_if (kX8_shuts_0) (sx_bk_if (kX8_shuts_15) (sx_bk_if (kX8_shuts_21) (sx_bk_if (kX8_shuts_40) (sx_bk_if (kX8_shuts_53) (trivial)))))
theorem okX8_shuts : sx_ok sx_tb BX8_shuts (yX8_shuts, cX8_shuts, 2, some .int, { frames := 4, cells := 0, slots := 0, locals := 89 }) := ⟨by decide, by decide +kernel, false, (fun h => by cases h), kX8_shuts⟩
theorem dX8_bestStop_0 : decode cX8_bestStop 0 = .ok (.aload_n 0, 1) := by decide +kernel
theorem dX8_bestStop_1 : decode cX8_bestStop 1 = .ok (.iconst 0, 1) := by decide +kernel
theorem dX8_bestStop_2 : decode cX8_bestStop 2 = .ok (.putfield 44, 3) := by decide +kernel
theorem dX8_bestStop_5 : decode cX8_bestStop 5 = .ok (.aload_n 0, 1) := by decide +kernel
theorem dX8_bestStop_6 : decode cX8_bestStop 6 = .ok (.iload_n 1, 1) := by decide +kernel
theorem dX8_bestStop_7 : decode cX8_bestStop 7 = .ok (.invokevirtual 181, 3) := by decide +kernel
theorem dX8_bestStop_10 : decode cX8_bestStop 10 = .ok (.ifCond .eq 25, 3) := by decide +kernel
theorem dX8_bestStop_13 : decode cX8_bestStop 13 = .ok (.iload_n 2, 1) := by decide +kernel
theorem dX8_bestStop_14 : decode cX8_bestStop 14 = .ok (.i2l, 1) := by decide +kernel
theorem dX8_bestStop_15 : decode cX8_bestStop 15 = .ok (.lconst 1, 1) := by decide +kernel
theorem dX8_bestStop_16 : decode cX8_bestStop 16 = .ok (.ldc2_w 195, 3) := by decide +kernel
theorem dX8_bestStop_19 : decode cX8_bestStop 19 = .ok (.invokestatic 54, 3) := by decide +kernel
theorem dX8_bestStop_22 : decode cX8_bestStop 22 = .ok (.ifCond .eq 13, 3) := by decide +kernel
theorem dX8_bestStop_25 : decode cX8_bestStop 25 = .ok (.iload_n 3, 1) := by decide +kernel
theorem dX8_bestStop_26 : decode cX8_bestStop 26 = .ok (.i2l, 1) := by decide +kernel
theorem dX8_bestStop_27 : decode cX8_bestStop 27 = .ok (.lconst 0, 1) := by decide +kernel
theorem dX8_bestStop_28 : decode cX8_bestStop 28 = .ok (.lconst 1, 1) := by decide +kernel
theorem dX8_bestStop_29 : decode cX8_bestStop 29 = .ok (.invokestatic 54, 3) := by decide +kernel
theorem dX8_bestStop_32 : decode cX8_bestStop 32 = .ok (.ifCond .ne 6, 3) := by decide +kernel
theorem dX8_bestStop_35 : decode cX8_bestStop 35 = .ok (.ldc 64, 2) := by decide +kernel
theorem dX8_bestStop_37 : decode cX8_bestStop 37 = .ok (.ireturn, 1) := by decide +kernel
theorem dX8_bestStop_38 : decode cX8_bestStop 38 = .ok (.ldc 87, 2) := by decide +kernel
theorem dX8_bestStop_40 : decode cX8_bestStop 40 = .ok (.istore 4, 2) := by decide +kernel
theorem dX8_bestStop_42 : decode cX8_bestStop 42 = .ok (.iconst 0, 1) := by decide +kernel
theorem dX8_bestStop_43 : decode cX8_bestStop 43 = .ok (.istore 5, 2) := by decide +kernel
theorem dX8_bestStop_45 : decode cX8_bestStop 45 = .ok (.iconst 0, 1) := by decide +kernel
theorem dX8_bestStop_46 : decode cX8_bestStop 46 = .ok (.istore 6, 2) := by decide +kernel
theorem dX8_bestStop_48 : decode cX8_bestStop 48 = .ok (.iload 6, 2) := by decide +kernel
theorem dX8_bestStop_50 : decode cX8_bestStop 50 = .ok (.bipush 100, 2) := by decide +kernel
theorem dX8_bestStop_52 : decode cX8_bestStop 52 = .ok (.if_icmp .ge 102, 3) := by decide +kernel
theorem dX8_bestStop_55 : decode cX8_bestStop 55 = .ok (.aload_n 0, 1) := by decide +kernel
theorem dX8_bestStop_56 : decode cX8_bestStop 56 = .ok (.invokevirtual 197, 3) := by decide +kernel
theorem dX8_bestStop_59 : decode cX8_bestStop 59 = .ok (.aload_n 0, 1) := by decide +kernel
theorem dX8_bestStop_60 : decode cX8_bestStop 60 = .ok (.getfield 25, 3) := by decide +kernel
theorem dX8_bestStop_63 : decode cX8_bestStop 63 = .ok (.bipush 10, 2) := by decide +kernel
theorem dX8_bestStop_65 : decode cX8_bestStop 65 = .ok (.bipush 9, 2) := by decide +kernel
theorem dX8_bestStop_67 : decode cX8_bestStop 67 = .ok (.iload_n 1, 1) := by decide +kernel
theorem dX8_bestStop_68 : decode cX8_bestStop 68 = .ok (.imul, 1) := by decide +kernel
theorem dX8_bestStop_69 : decode cX8_bestStop 69 = .ok (.iadd, 1) := by decide +kernel
theorem dX8_bestStop_70 : decode cX8_bestStop 70 = .ok (.iconst 3, 1) := by decide +kernel
theorem dX8_bestStop_71 : decode cX8_bestStop 71 = .ok (.iadd, 1) := by decide +kernel
theorem dX8_bestStop_72 : decode cX8_bestStop 72 = .ok (.iload 6, 2) := by decide +kernel
theorem dX8_bestStop_74 : decode cX8_bestStop 74 = .ok (.iastore, 1) := by decide +kernel
theorem dX8_bestStop_75 : decode cX8_bestStop 75 = .ok (.aload_n 0, 1) := by decide +kernel
theorem dX8_bestStop_76 : decode cX8_bestStop 76 = .ok (.getfield 25, 3) := by decide +kernel
theorem dX8_bestStop_79 : decode cX8_bestStop 79 = .ok (.iload_n 2, 1) := by decide +kernel
theorem dX8_bestStop_80 : decode cX8_bestStop 80 = .ok (.invokestatic 200, 3) := by decide +kernel
theorem dX8_bestStop_83 : decode cX8_bestStop 83 = .ok (.aload_n 0, 1) := by decide +kernel
theorem dX8_bestStop_84 : decode cX8_bestStop 84 = .ok (.getfield 25, 3) := by decide +kernel
theorem dX8_bestStop_87 : decode cX8_bestStop 87 = .ok (.iconst 1, 1) := by decide +kernel
theorem dX8_bestStop_88 : decode cX8_bestStop 88 = .ok (.iaload, 1) := by decide +kernel
theorem dX8_bestStop_89 : decode cX8_bestStop 89 = .ok (.aload_n 0, 1) := by decide +kernel
theorem dX8_bestStop_90 : decode cX8_bestStop 90 = .ok (.getfield 25, 3) := by decide +kernel
theorem dX8_bestStop_93 : decode cX8_bestStop 93 = .ok (.bipush 6, 2) := by decide +kernel
theorem dX8_bestStop_95 : decode cX8_bestStop 95 = .ok (.iaload, 1) := by decide +kernel
theorem dX8_bestStop_96 : decode cX8_bestStop 96 = .ok (.isub, 1) := by decide +kernel
theorem dX8_bestStop_97 : decode cX8_bestStop 97 = .ok (.istore 7, 2) := by decide +kernel
theorem dX8_bestStop_99 : decode cX8_bestStop 99 = .ok (.iload 4, 2) := by decide +kernel
theorem dX8_bestStop_101 : decode cX8_bestStop 101 = .ok (.ldc 87, 2) := by decide +kernel
theorem dX8_bestStop_103 : decode cX8_bestStop 103 = .ok (.if_icmp .eq 10, 3) := by decide +kernel
theorem dX8_bestStop_106 : decode cX8_bestStop 106 = .ok (.iload 7, 2) := by decide +kernel
theorem dX8_bestStop_108 : decode cX8_bestStop 108 = .ok (.iload 5, 2) := by decide +kernel
theorem dX8_bestStop_110 : decode cX8_bestStop 110 = .ok (.if_icmp .le 7, 3) := by decide +kernel
theorem dX8_bestStop_113 : decode cX8_bestStop 113 = .ok (.iconst 1, 1) := by decide +kernel
theorem dX8_bestStop_114 : decode cX8_bestStop 114 = .ok (.goto 4, 3) := by decide +kernel
theorem dX8_bestStop_117 : decode cX8_bestStop 117 = .ok (.iconst 0, 1) := by decide +kernel
theorem dX8_bestStop_118 : decode cX8_bestStop 118 = .ok (.istore 8, 2) := by decide +kernel
theorem dX8_bestStop_120 : decode cX8_bestStop 120 = .ok (.iload 8, 2) := by decide +kernel
theorem dX8_bestStop_122 : decode cX8_bestStop 122 = .ok (.ifCond .eq 8, 3) := by decide +kernel
theorem dX8_bestStop_125 : decode cX8_bestStop 125 = .ok (.iload 6, 2) := by decide +kernel
theorem dX8_bestStop_127 : decode cX8_bestStop 127 = .ok (.goto 5, 3) := by decide +kernel
theorem dX8_bestStop_130 : decode cX8_bestStop 130 = .ok (.iload 4, 2) := by decide +kernel
theorem dX8_bestStop_132 : decode cX8_bestStop 132 = .ok (.istore 4, 2) := by decide +kernel
theorem dX8_bestStop_134 : decode cX8_bestStop 134 = .ok (.iload 8, 2) := by decide +kernel
theorem dX8_bestStop_136 : decode cX8_bestStop 136 = .ok (.ifCond .eq 8, 3) := by decide +kernel
theorem dX8_bestStop_139 : decode cX8_bestStop 139 = .ok (.iload 7, 2) := by decide +kernel
theorem dX8_bestStop_141 : decode cX8_bestStop 141 = .ok (.goto 5, 3) := by decide +kernel
theorem dX8_bestStop_144 : decode cX8_bestStop 144 = .ok (.iload 5, 2) := by decide +kernel
theorem dX8_bestStop_146 : decode cX8_bestStop 146 = .ok (.istore 5, 2) := by decide +kernel
theorem dX8_bestStop_148 : decode cX8_bestStop 148 = .ok (.iinc 6 1, 3) := by decide +kernel
theorem dX8_bestStop_151 : decode cX8_bestStop 151 = .ok (.goto (-103), 3) := by decide +kernel
theorem dX8_bestStop_154 : decode cX8_bestStop 154 = .ok (.iload_n 3, 1) := by decide +kernel
theorem dX8_bestStop_155 : decode cX8_bestStop 155 = .ok (.ifCond .ne 8, 3) := by decide +kernel
theorem dX8_bestStop_158 : decode cX8_bestStop 158 = .ok (.iload 4, 2) := by decide +kernel
theorem dX8_bestStop_160 : decode cX8_bestStop 160 = .ok (.goto 5, 3) := by decide +kernel
theorem dX8_bestStop_163 : decode cX8_bestStop 163 = .ok (.iload 5, 2) := by decide +kernel
theorem dX8_bestStop_165 : decode cX8_bestStop 165 = .ok (.ireturn, 1) := by decide +kernel
def bX8_bestStop_0 : List sx_S := [si_al 0, si_const 0, si_put 7 0 0, si_al 0, si_il 1, si_cv 7 146 1 0 0 0 0, si_if1 (fun x => x = 0) 35 [false, false, false, false, false, false, false, false, false], si_il 2, si_i2l, si_lconst 1, si_lconst (lN 60), si_cs 124 3 0 0 0 0, si_if1 (fun x => x = 0) 35 [false, false, false, false, false, false, false, false, false], si_il 3, si_i2l, si_lconst 0, si_lconst 1, si_cs 124 3 0 0 0 0, si_if1 (fun x => ¬ x = 0) 38 [true, true, true, true, false, false, false, false, false], si_go 35 [false, false, false, false, false, false, false, false, false]]
def bX8_bestStop_35 : List sx_S := [si_const (-1000001), si_ri]
def bX8_bestStop_38 : List sx_S := [si_const (-1000000), si_is 4, si_const 0, si_is 5, si_const 0, si_is 6, si_go 48 [true, true, true, true, true, true, true, false, false]]
def bX8_bestStop_48 : List sx_S := [si_il 6, si_const (nI 100), si_if2 (fun x y => y ≤ x) 154 [false, false, false, true, true, true, false, false, false], si_al 0, si_cv 7 155 0 0 0 0 0, si_al 0, si_get 7 7, si_const (nI 10), si_const (nI 9), si_il 1, si_bin (fun x y => x * y), si_bin (fun x y => x + y), si_const (nI 3), si_bin (fun x y => x + y), si_il 6, si_iast, si_al 0, si_get 7 7, si_il 2, si_cs 154 2 0 0 0 0, si_al 0, si_get 7 7, si_const 1, si_iald, si_al 0, si_get 7 7, si_const (nI 6), si_iald, si_bin (fun x y => x - y), si_is 7, si_il 4, si_const (-1000000), si_if2 (fun x y => x = y) 113 [true, true, true, true, true, true, true, true, false], si_il 7, si_il 5, si_if2 (fun x y => x ≤ y) 117 [true, true, true, true, true, true, true, true, false], si_go 113 [true, true, true, true, true, true, true, true, false]]
def bX8_bestStop_113 : List sx_S := [si_const 1, si_go 118 [true, true, true, true, true, true, true, true, false]]
def bX8_bestStop_117 : List sx_S := [si_const 0, si_go 118 [true, true, true, true, true, true, true, true, false]]
def bX8_bestStop_118 : List sx_S := [si_is 8, si_il 8, si_if1 (fun x => x = 0) 130 [true, true, true, true, true, true, true, true, true], si_il 6, si_go 132 [true, true, true, true, false, true, true, true, true]]
def bX8_bestStop_130 : List sx_S := [si_il 4, si_go 132 [true, true, true, true, false, true, true, true, true]]
def bX8_bestStop_132 : List sx_S := [si_is 4, si_il 8, si_if1 (fun x => x = 0) 144 [true, true, true, true, true, true, true, false, false], si_il 7, si_go 146 [true, true, true, true, true, false, true, false, false]]
def bX8_bestStop_144 : List sx_S := [si_il 5, si_go 146 [true, true, true, true, true, false, true, false, false]]
def bX8_bestStop_146 : List sx_S := [si_is 5, si_inc 6 1, si_go 48 [true, true, true, true, true, true, true, false, false]]
def bX8_bestStop_154 : List sx_S := [si_il 3, si_if1 (fun x => ¬ x = 0) 163 [false, false, false, false, false, true, false, false, false], si_il 4, si_go 165 [false, false, false, false, false, false, false, false, false]]
def bX8_bestStop_163 : List sx_S := [si_il 5, si_go 165 [false, false, false, false, false, false, false, false, false]]
def bX8_bestStop_165 : List sx_S := [si_ri]
def BX8_bestStop : Nat → List sx_S := fun pc => if pc = 0 then bX8_bestStop_0 else if pc = 35 then bX8_bestStop_35 else if pc = 38 then bX8_bestStop_38 else if pc = 48 then bX8_bestStop_48 else if pc = 113 then bX8_bestStop_113 else if pc = 117 then bX8_bestStop_117 else if pc = 118 then bX8_bestStop_118 else if pc = 130 then bX8_bestStop_130 else if pc = 132 then bX8_bestStop_132 else if pc = 144 then bX8_bestStop_144 else if pc = 146 then bX8_bestStop_146 else if pc = 154 then bX8_bestStop_154 else if pc = 163 then bX8_bestStop_163 else if pc = 165 then bX8_bestStop_165 else []
set_option maxRecDepth 20000 in
theorem kX8_bestStop_0 : sx_BK sx_tb yX8_bestStop.cls cX8_bestStop 9 (some .int) ({ frames := 5, cells := 0, slots := 0, locals := 111 } : Room) false false 0 (fun _ => 0) 0 (bX8_bestStop_0) := ⟨_, ⟨sn_aload_n dX8_bestStop_0 rfl, sm_al _⟩, ⟨_, ⟨sn_iconst dX8_bestStop_1 (by decide +kernel), sm_const _⟩, ⟨_, ⟨sn_put (C := RX8) (T := TX8) (N := 23) dX8_bestStop_2 rfl zinX8 tyX8_ok nmX8 (Nat.le_of_ble_eq_true rfl) zw_3_182 rfl (tyX8_ok 0 (Nat.le_of_ble_eq_true rfl)) trivial, sm_put _ _ _⟩, ⟨_, ⟨sn_aload_n dX8_bestStop_5 rfl, sm_al _⟩, ⟨_, ⟨sn_iload_n dX8_bestStop_6 rfl, sm_il _⟩, ⟨_, ⟨sn_cv_z (N := 23) (T := TX8) ztb_X8_isDebtor dX8_bestStop_7 rfl rfl zw_4_145 zw_4_147 zw_0_47 zw_1_8 zw_4_148 zmh_X8 zpd_X8_isDebtor (Nat.le_of_ble_eq_true rfl) (Nat.le_of_ble_eq_true rfl) rfl rfl, sm_cv _ _ _ _ _ _ _⟩, ⟨_, ⟨sn_if_eq dX8_bestStop_10 (by decide +kernel) rfl, sm_if1 _ _ _⟩, ⟨_, ⟨sn_iload_n dX8_bestStop_13 rfl, sm_il _⟩, ⟨_, ⟨sn_i2l dX8_bestStop_14, sm_i2l⟩, ⟨_, ⟨sn_lconst dX8_bestStop_15 (by decide +kernel), sm_lconst _⟩, ⟨_, ⟨sn_ldc2 dX8_bestStop_16 zw_4_185, sm_lconst _⟩, ⟨_, ⟨sn_cs_z ztb_X8_in dX8_bestStop_19 zw_4_21 zw_4_22 zw_1_8 zw_4_23 zmh_X8 zpd_X8_in (Nat.le_of_ble_eq_true rfl) (Nat.le_of_ble_eq_true rfl) rfl rfl, sm_cs _ _ _ _ _ _⟩, ⟨_, ⟨sn_if_eq dX8_bestStop_22 (by decide +kernel) rfl, sm_if1 _ _ _⟩, ⟨_, ⟨sn_iload_n dX8_bestStop_25 rfl, sm_il _⟩, ⟨_, ⟨sn_i2l dX8_bestStop_26, sm_i2l⟩, ⟨_, ⟨sn_lconst dX8_bestStop_27 (by decide +kernel), sm_lconst _⟩, ⟨_, ⟨sn_lconst dX8_bestStop_28 (by decide +kernel), sm_lconst _⟩, ⟨_, ⟨sn_cs_z ztb_X8_in dX8_bestStop_29 zw_4_21 zw_4_22 zw_1_8 zw_4_23 zmh_X8 zpd_X8_in (Nat.le_of_ble_eq_true rfl) (Nat.le_of_ble_eq_true rfl) rfl rfl, sm_cs _ _ _ _ _ _⟩, ⟨_, ⟨sn_if_ne dX8_bestStop_32 (by decide +kernel) rfl, sm_if1 _ _ _⟩, ⟨_, ⟨sn_fall (len := 0) rfl rfl, sm_go _ _⟩, trivial⟩⟩⟩⟩⟩⟩⟩⟩⟩⟩⟩⟩⟩⟩⟩⟩⟩⟩⟩⟩
set_option maxRecDepth 20000 in
theorem kX8_bestStop_35 : sx_BK sx_tb yX8_bestStop.cls cX8_bestStop 9 (some .int) ({ frames := 5, cells := 0, slots := 0, locals := 111 } : Room) false false 0 (fun _ => 0) 35 (bX8_bestStop_35) := ⟨_, ⟨sn_ldc dX8_bestStop_35 zw_4_25, sm_const _⟩, ⟨_, ⟨sn_ri (len := 1) dX8_bestStop_37 rfl, sm_ri⟩, trivial⟩⟩
set_option maxRecDepth 20000 in
theorem kX8_bestStop_38 : sx_BK sx_tb yX8_bestStop.cls cX8_bestStop 9 (some .int) ({ frames := 5, cells := 0, slots := 0, locals := 111 } : Room) false false 0 (fun _ => 0) 38 (bX8_bestStop_38) := ⟨_, ⟨sn_ldc dX8_bestStop_38 zw_4_65, sm_const _⟩, ⟨_, ⟨sn_istore dX8_bestStop_40 (Nat.le_of_ble_eq_true rfl), sm_is _⟩, ⟨_, ⟨sn_iconst dX8_bestStop_42 (by decide +kernel), sm_const _⟩, ⟨_, ⟨sn_istore dX8_bestStop_43 (Nat.le_of_ble_eq_true rfl), sm_is _⟩, ⟨_, ⟨sn_iconst dX8_bestStop_45 (by decide +kernel), sm_const _⟩, ⟨_, ⟨sn_istore dX8_bestStop_46 (Nat.le_of_ble_eq_true rfl), sm_is _⟩, ⟨_, ⟨sn_fall (len := 0) rfl rfl, sm_go _ _⟩, trivial⟩⟩⟩⟩⟩⟩⟩
set_option maxRecDepth 20000 in
theorem kX8_bestStop_48 : sx_BK sx_tb yX8_bestStop.cls cX8_bestStop 9 (some .int) ({ frames := 5, cells := 0, slots := 0, locals := 111 } : Room) false false 0 (fun _ => 0) 48 (bX8_bestStop_48) := ⟨_, ⟨sn_iload dX8_bestStop_48, sm_il _⟩, ⟨_, ⟨sn_bipush dX8_bestStop_50 (by decide +kernel), sm_const _⟩, ⟨_, ⟨sn_ic_ge dX8_bestStop_52 (by decide +kernel) rfl, sm_if2 _ _ _⟩, ⟨_, ⟨sn_aload_n dX8_bestStop_55 rfl, sm_al _⟩, ⟨_, ⟨sn_cv_v (N := 23) (T := TX8) ztb_X8_layThen dX8_bestStop_56 rfl rfl zw_4_186 zw_4_188 zw_0_48 zw_1_8 zw_4_189 zmh_X8 zpd_X8_layThen (Nat.le_of_ble_eq_true rfl) (Nat.le_of_ble_eq_true rfl) rfl rfl, sm_cv _ _ _ _ _ _ _⟩, ⟨_, ⟨sn_aload_n dX8_bestStop_59 rfl, sm_al _⟩, ⟨_, ⟨sn_get (C := RX8) (T := TX8) (N := 23) dX8_bestStop_60 rfl zinX8 (Nat.le_of_ble_eq_true rfl) zw_3_189, sm_get _ _⟩, ⟨_, ⟨sn_bipush dX8_bestStop_63 (by decide +kernel), sm_const _⟩, ⟨_, ⟨sn_bipush dX8_bestStop_65 (by decide +kernel), sm_const _⟩, ⟨_, ⟨sn_iload_n dX8_bestStop_67 rfl, sm_il _⟩, ⟨_, ⟨sn_imul dX8_bestStop_68, sm_bin _⟩, ⟨_, ⟨sn_iadd dX8_bestStop_69, sm_bin _⟩, ⟨_, ⟨sn_iconst dX8_bestStop_70 (by decide +kernel), sm_const _⟩, ⟨_, ⟨sn_iadd dX8_bestStop_71, sm_bin _⟩, ⟨_, ⟨sn_iload dX8_bestStop_72, sm_il _⟩, ⟨_, ⟨sn_iast dX8_bestStop_74, sm_iast⟩, ⟨_, ⟨sn_aload_n dX8_bestStop_75 rfl, sm_al _⟩, ⟨_, ⟨sn_get (C := RX8) (T := TX8) (N := 23) dX8_bestStop_76 rfl zinX8 (Nat.le_of_ble_eq_true rfl) zw_3_189, sm_get _ _⟩, ⟨_, ⟨sn_iload_n dX8_bestStop_79 rfl, sm_il _⟩, ⟨_, ⟨sn_cs_v ztb_X8_weeksOf dX8_bestStop_80 zw_4_190 zw_4_191 zw_1_8 zw_4_192 zmh_X8 zpd_X8_weeksOf (Nat.le_of_ble_eq_true rfl) (Nat.le_of_ble_eq_true rfl) rfl rfl, sm_cs _ _ _ _ _ _⟩, ⟨_, ⟨sn_aload_n dX8_bestStop_83 rfl, sm_al _⟩, ⟨_, ⟨sn_get (C := RX8) (T := TX8) (N := 23) dX8_bestStop_84 rfl zinX8 (Nat.le_of_ble_eq_true rfl) zw_3_189, sm_get _ _⟩, ⟨_, ⟨sn_iconst dX8_bestStop_87 (by decide +kernel), sm_const _⟩, ⟨_, ⟨sn_iald dX8_bestStop_88, sm_iald⟩, ⟨_, ⟨sn_aload_n dX8_bestStop_89 rfl, sm_al _⟩, ⟨_, ⟨sn_get (C := RX8) (T := TX8) (N := 23) dX8_bestStop_90 rfl zinX8 (Nat.le_of_ble_eq_true rfl) zw_3_189, sm_get _ _⟩, ⟨_, ⟨sn_bipush dX8_bestStop_93 (by decide +kernel), sm_const _⟩, ⟨_, ⟨sn_iald dX8_bestStop_95, sm_iald⟩, ⟨_, ⟨sn_isub dX8_bestStop_96, sm_bin _⟩, ⟨_, ⟨sn_istore dX8_bestStop_97 (Nat.le_of_ble_eq_true rfl), sm_is _⟩, ⟨_, ⟨sn_iload dX8_bestStop_99, sm_il _⟩, ⟨_, ⟨sn_ldc dX8_bestStop_101 zw_4_65, sm_const _⟩, ⟨_, ⟨sn_ic_eq dX8_bestStop_103 (by decide +kernel) rfl, sm_if2 _ _ _⟩, ⟨_, ⟨sn_iload dX8_bestStop_106, sm_il _⟩, ⟨_, ⟨sn_iload dX8_bestStop_108, sm_il _⟩, ⟨_, ⟨sn_ic_le dX8_bestStop_110 (by decide +kernel) rfl, sm_if2 _ _ _⟩, ⟨_, ⟨sn_fall (len := 0) rfl rfl, sm_go _ _⟩, trivial⟩⟩⟩⟩⟩⟩⟩⟩⟩⟩⟩⟩⟩⟩⟩⟩⟩⟩⟩⟩⟩⟩⟩⟩⟩⟩⟩⟩⟩⟩⟩⟩⟩⟩⟩⟩⟩
set_option maxRecDepth 20000 in
theorem kX8_bestStop_113 : sx_BK sx_tb yX8_bestStop.cls cX8_bestStop 9 (some .int) ({ frames := 5, cells := 0, slots := 0, locals := 111 } : Room) false false 0 (fun _ => 0) 113 (bX8_bestStop_113) := ⟨_, ⟨sn_iconst dX8_bestStop_113 (by decide +kernel), sm_const _⟩, ⟨_, ⟨sn_goto (len := 3) dX8_bestStop_114 (by decide +kernel) rfl, sm_go _ _⟩, trivial⟩⟩
set_option maxRecDepth 20000 in
theorem kX8_bestStop_117 : sx_BK sx_tb yX8_bestStop.cls cX8_bestStop 9 (some .int) ({ frames := 5, cells := 0, slots := 0, locals := 111 } : Room) false false 0 (fun _ => 0) 117 (bX8_bestStop_117) := ⟨_, ⟨sn_iconst dX8_bestStop_117 (by decide +kernel), sm_const _⟩, ⟨_, ⟨sn_fall (len := 0) rfl rfl, sm_go _ _⟩, trivial⟩⟩
set_option maxRecDepth 20000 in
theorem kX8_bestStop_118 : sx_BK sx_tb yX8_bestStop.cls cX8_bestStop 9 (some .int) ({ frames := 5, cells := 0, slots := 0, locals := 111 } : Room) false false 0 (fun _ => 0) 118 (bX8_bestStop_118) := ⟨_, ⟨sn_istore dX8_bestStop_118 (Nat.le_of_ble_eq_true rfl), sm_is _⟩, ⟨_, ⟨sn_iload dX8_bestStop_120, sm_il _⟩, ⟨_, ⟨sn_if_eq dX8_bestStop_122 (by decide +kernel) rfl, sm_if1 _ _ _⟩, ⟨_, ⟨sn_iload dX8_bestStop_125, sm_il _⟩, ⟨_, ⟨sn_goto (len := 3) dX8_bestStop_127 (by decide +kernel) rfl, sm_go _ _⟩, trivial⟩⟩⟩⟩⟩
set_option maxRecDepth 20000 in
theorem kX8_bestStop_130 : sx_BK sx_tb yX8_bestStop.cls cX8_bestStop 9 (some .int) ({ frames := 5, cells := 0, slots := 0, locals := 111 } : Room) false false 0 (fun _ => 0) 130 (bX8_bestStop_130) := ⟨_, ⟨sn_iload dX8_bestStop_130, sm_il _⟩, ⟨_, ⟨sn_fall (len := 0) rfl rfl, sm_go _ _⟩, trivial⟩⟩
set_option maxRecDepth 20000 in
theorem kX8_bestStop_132 : sx_BK sx_tb yX8_bestStop.cls cX8_bestStop 9 (some .int) ({ frames := 5, cells := 0, slots := 0, locals := 111 } : Room) false false 0 (fun _ => 0) 132 (bX8_bestStop_132) := ⟨_, ⟨sn_istore dX8_bestStop_132 (Nat.le_of_ble_eq_true rfl), sm_is _⟩, ⟨_, ⟨sn_iload dX8_bestStop_134, sm_il _⟩, ⟨_, ⟨sn_if_eq dX8_bestStop_136 (by decide +kernel) rfl, sm_if1 _ _ _⟩, ⟨_, ⟨sn_iload dX8_bestStop_139, sm_il _⟩, ⟨_, ⟨sn_goto (len := 3) dX8_bestStop_141 (by decide +kernel) rfl, sm_go _ _⟩, trivial⟩⟩⟩⟩⟩
set_option maxRecDepth 20000 in
theorem kX8_bestStop_144 : sx_BK sx_tb yX8_bestStop.cls cX8_bestStop 9 (some .int) ({ frames := 5, cells := 0, slots := 0, locals := 111 } : Room) false false 0 (fun _ => 0) 144 (bX8_bestStop_144) := ⟨_, ⟨sn_iload dX8_bestStop_144, sm_il _⟩, ⟨_, ⟨sn_fall (len := 0) rfl rfl, sm_go _ _⟩, trivial⟩⟩
set_option maxRecDepth 20000 in
theorem kX8_bestStop_146 : sx_BK sx_tb yX8_bestStop.cls cX8_bestStop 9 (some .int) ({ frames := 5, cells := 0, slots := 0, locals := 111 } : Room) false false 0 (fun _ => 0) 146 (bX8_bestStop_146) := ⟨_, ⟨sn_istore dX8_bestStop_146 (Nat.le_of_ble_eq_true rfl), sm_is _⟩, ⟨_, ⟨sn_iinc dX8_bestStop_148 (by decide +kernel) (Nat.le_of_ble_eq_true rfl), sm_inc _ _⟩, ⟨_, ⟨sn_goto (len := 3) dX8_bestStop_151 (by decide +kernel) rfl, sm_go _ _⟩, trivial⟩⟩⟩
set_option maxRecDepth 20000 in
theorem kX8_bestStop_154 : sx_BK sx_tb yX8_bestStop.cls cX8_bestStop 9 (some .int) ({ frames := 5, cells := 0, slots := 0, locals := 111 } : Room) false false 0 (fun _ => 0) 154 (bX8_bestStop_154) := ⟨_, ⟨sn_iload_n dX8_bestStop_154 rfl, sm_il _⟩, ⟨_, ⟨sn_if_ne dX8_bestStop_155 (by decide +kernel) rfl, sm_if1 _ _ _⟩, ⟨_, ⟨sn_iload dX8_bestStop_158, sm_il _⟩, ⟨_, ⟨sn_goto (len := 3) dX8_bestStop_160 (by decide +kernel) rfl, sm_go _ _⟩, trivial⟩⟩⟩⟩
set_option maxRecDepth 20000 in
theorem kX8_bestStop_163 : sx_BK sx_tb yX8_bestStop.cls cX8_bestStop 9 (some .int) ({ frames := 5, cells := 0, slots := 0, locals := 111 } : Room) false false 0 (fun _ => 0) 163 (bX8_bestStop_163) := ⟨_, ⟨sn_iload dX8_bestStop_163, sm_il _⟩, ⟨_, ⟨sn_fall (len := 0) rfl rfl, sm_go _ _⟩, trivial⟩⟩
set_option maxRecDepth 20000 in
theorem kX8_bestStop_165 : sx_BK sx_tb yX8_bestStop.cls cX8_bestStop 9 (some .int) ({ frames := 5, cells := 0, slots := 0, locals := 111 } : Room) false false 0 (fun _ => 0) 165 (bX8_bestStop_165) := ⟨_, ⟨sn_ri (len := 1) dX8_bestStop_165 rfl, sm_ri⟩, trivial⟩
theorem kX8_bestStop : ∀ pc, sx_BK sx_tb yX8_bestStop.cls cX8_bestStop 9 (some .int) ({ frames := 5, cells := 0, slots := 0, locals := 111 } : Room) false false 0 (fun _ => 0) pc (BX8_bestStop pc) := fun pc => sx_bk_if (kX8_bestStop_0) (sx_bk_if (kX8_bestStop_35) (sx_bk_if (kX8_bestStop_38) (sx_bk_if (kX8_bestStop_48) (sx_bk_if (kX8_bestStop_113) (sx_bk_if (kX8_bestStop_117) (sx_bk_if (kX8_bestStop_118) (sx_bk_if (kX8_bestStop_130) (sx_bk_if (kX8_bestStop_132) (sx_bk_if (kX8_bestStop_144) (sx_bk_if (kX8_bestStop_146) (sx_bk_if (kX8_bestStop_154) (sx_bk_if (kX8_bestStop_163) (sx_bk_if (kX8_bestStop_165) (trivial))))))))))))))
theorem okX8_bestStop : sx_ok sx_tb BX8_bestStop (yX8_bestStop, cX8_bestStop, 9, some .int, { frames := 5, cells := 0, slots := 0, locals := 111 }) := ⟨by decide, by decide +kernel, false, (fun h => by cases h), kX8_bestStop⟩
theorem dX8_bits_0 : decode cX8_bits 0 = .ok (.iconst 0, 1) := by decide +kernel
theorem dX8_bits_1 : decode cX8_bits 1 = .ok (.istore_n 1, 1) := by decide +kernel
theorem dX8_bits_2 : decode cX8_bits 2 = .ok (.iconst 0, 1) := by decide +kernel
theorem dX8_bits_3 : decode cX8_bits 3 = .ok (.istore_n 2, 1) := by decide +kernel
theorem dX8_bits_4 : decode cX8_bits 4 = .ok (.iload_n 2, 1) := by decide +kernel
theorem dX8_bits_5 : decode cX8_bits 5 = .ok (.bipush 6, 2) := by decide +kernel
theorem dX8_bits_7 : decode cX8_bits 7 = .ok (.if_icmp .ge 17, 3) := by decide +kernel
theorem dX8_bits_10 : decode cX8_bits 10 = .ok (.iload_n 1, 1) := by decide +kernel
theorem dX8_bits_11 : decode cX8_bits 11 = .ok (.iload_n 0, 1) := by decide +kernel
theorem dX8_bits_12 : decode cX8_bits 12 = .ok (.iload_n 2, 1) := by decide +kernel
theorem dX8_bits_13 : decode cX8_bits 13 = .ok (.ishr, 1) := by decide +kernel
theorem dX8_bits_14 : decode cX8_bits 14 = .ok (.iconst 1, 1) := by decide +kernel
theorem dX8_bits_15 : decode cX8_bits 15 = .ok (.iand, 1) := by decide +kernel
theorem dX8_bits_16 : decode cX8_bits 16 = .ok (.iadd, 1) := by decide +kernel
theorem dX8_bits_17 : decode cX8_bits 17 = .ok (.istore_n 1, 1) := by decide +kernel
theorem dX8_bits_18 : decode cX8_bits 18 = .ok (.iinc 2 1, 3) := by decide +kernel
theorem dX8_bits_21 : decode cX8_bits 21 = .ok (.goto (-17), 3) := by decide +kernel
theorem dX8_bits_24 : decode cX8_bits 24 = .ok (.iload_n 1, 1) := by decide +kernel
theorem dX8_bits_25 : decode cX8_bits 25 = .ok (.ireturn, 1) := by decide +kernel
def bX8_bits_0 : List sx_S := [si_const 0, si_is 1, si_const 0, si_is 2, si_go 4 [true, true, true]]
def bX8_bits_4 : List sx_S := [si_il 2, si_const (nI 6), si_if2 (fun x y => y ≤ x) 24 [false, true, false], si_il 1, si_il 0, si_il 2, si_bin (fun x y => x >>> (y &&& 31)), si_const 1, si_bin (fun x y => x &&& y), si_bin (fun x y => x + y), si_is 1, si_inc 2 1, si_go 4 [true, true, true]]
def bX8_bits_24 : List sx_S := [si_il 1, si_ri]
def BX8_bits : Nat → List sx_S := fun pc => if pc = 0 then bX8_bits_0 else if pc = 4 then bX8_bits_4 else if pc = 24 then bX8_bits_24 else []
set_option maxRecDepth 20000 in
theorem kX8_bits_0 : sx_BK sx_tb yX8_bits.cls cX8_bits 3 (some .int) ({ frames := 0, cells := 0, slots := 0, locals := 0 } : Room) false false 0 (fun _ => 0) 0 (bX8_bits_0) := ⟨_, ⟨sn_iconst dX8_bits_0 (by decide +kernel), sm_const _⟩, ⟨_, ⟨sn_istore_n dX8_bits_1 rfl (Nat.le_of_ble_eq_true rfl), sm_is _⟩, ⟨_, ⟨sn_iconst dX8_bits_2 (by decide +kernel), sm_const _⟩, ⟨_, ⟨sn_istore_n dX8_bits_3 rfl (Nat.le_of_ble_eq_true rfl), sm_is _⟩, ⟨_, ⟨sn_fall (len := 0) rfl rfl, sm_go _ _⟩, trivial⟩⟩⟩⟩⟩
set_option maxRecDepth 20000 in
theorem kX8_bits_4 : sx_BK sx_tb yX8_bits.cls cX8_bits 3 (some .int) ({ frames := 0, cells := 0, slots := 0, locals := 0 } : Room) false false 0 (fun _ => 0) 4 (bX8_bits_4) := ⟨_, ⟨sn_iload_n dX8_bits_4 rfl, sm_il _⟩, ⟨_, ⟨sn_bipush dX8_bits_5 (by decide +kernel), sm_const _⟩, ⟨_, ⟨sn_ic_ge dX8_bits_7 (by decide +kernel) rfl, sm_if2 _ _ _⟩, ⟨_, ⟨sn_iload_n dX8_bits_10 rfl, sm_il _⟩, ⟨_, ⟨sn_iload_n dX8_bits_11 rfl, sm_il _⟩, ⟨_, ⟨sn_iload_n dX8_bits_12 rfl, sm_il _⟩, ⟨_, ⟨sn_ishr dX8_bits_13, sm_bin _⟩, ⟨_, ⟨sn_iconst dX8_bits_14 (by decide +kernel), sm_const _⟩, ⟨_, ⟨sn_iand dX8_bits_15, sm_bin _⟩, ⟨_, ⟨sn_iadd dX8_bits_16, sm_bin _⟩, ⟨_, ⟨sn_istore_n dX8_bits_17 rfl (Nat.le_of_ble_eq_true rfl), sm_is _⟩, ⟨_, ⟨sn_iinc dX8_bits_18 (by decide +kernel) (Nat.le_of_ble_eq_true rfl), sm_inc _ _⟩, ⟨_, ⟨sn_goto (len := 3) dX8_bits_21 (by decide +kernel) rfl, sm_go _ _⟩, trivial⟩⟩⟩⟩⟩⟩⟩⟩⟩⟩⟩⟩⟩
set_option maxRecDepth 20000 in
theorem kX8_bits_24 : sx_BK sx_tb yX8_bits.cls cX8_bits 3 (some .int) ({ frames := 0, cells := 0, slots := 0, locals := 0 } : Room) false false 0 (fun _ => 0) 24 (bX8_bits_24) := ⟨_, ⟨sn_iload_n dX8_bits_24 rfl, sm_il _⟩, ⟨_, ⟨sn_ri (len := 1) dX8_bits_25 rfl, sm_ri⟩, trivial⟩⟩
theorem kX8_bits : ∀ pc, sx_BK sx_tb yX8_bits.cls cX8_bits 3 (some .int) ({ frames := 0, cells := 0, slots := 0, locals := 0 } : Room) false false 0 (fun _ => 0) pc (BX8_bits pc) := fun pc => sx_bk_if (kX8_bits_0) (sx_bk_if (kX8_bits_4) (sx_bk_if (kX8_bits_24) (trivial)))
theorem okX8_bits : sx_ok sx_tb BX8_bits (yX8_bits, cX8_bits, 3, some .int, { frames := 0, cells := 0, slots := 0, locals := 0 }) := ⟨by decide, by decide +kernel, false, (fun h => by cases h), kX8_bits⟩
theorem dX8_whom_0 : decode cX8_whom 0 = .ok (.aload_n 0, 1) := by decide +kernel
theorem dX8_whom_1 : decode cX8_whom 1 = .ok (.iconst 0, 1) := by decide +kernel
theorem dX8_whom_2 : decode cX8_whom 2 = .ok (.putfield 44, 3) := by decide +kernel
theorem dX8_whom_5 : decode cX8_whom 5 = .ok (.aload_n 0, 1) := by decide +kernel
theorem dX8_whom_6 : decode cX8_whom 6 = .ok (.invokevirtual 172, 3) := by decide +kernel
theorem dX8_whom_9 : decode cX8_whom 9 = .ok (.ifCond .ne 6, 3) := by decide +kernel
theorem dX8_whom_12 : decode cX8_whom 12 = .ok (.ldc 175, 2) := by decide +kernel
theorem dX8_whom_14 : decode cX8_whom 14 = .ok (.ireturn, 1) := by decide +kernel
theorem dX8_whom_15 : decode cX8_whom 15 = .ok (.iload_n 1, 1) := by decide +kernel
theorem dX8_whom_16 : decode cX8_whom 16 = .ok (.i2l, 1) := by decide +kernel
theorem dX8_whom_17 : decode cX8_whom 17 = .ok (.lconst 1, 1) := by decide +kernel
theorem dX8_whom_18 : decode cX8_whom 18 = .ok (.ldc2_w 195, 3) := by decide +kernel
theorem dX8_whom_21 : decode cX8_whom 21 = .ok (.invokestatic 54, 3) := by decide +kernel
theorem dX8_whom_24 : decode cX8_whom 24 = .ok (.ifCond .eq 13, 3) := by decide +kernel
theorem dX8_whom_27 : decode cX8_whom 27 = .ok (.iload_n 2, 1) := by decide +kernel
theorem dX8_whom_28 : decode cX8_whom 28 = .ok (.i2l, 1) := by decide +kernel
theorem dX8_whom_29 : decode cX8_whom 29 = .ok (.lconst 0, 1) := by decide +kernel
theorem dX8_whom_30 : decode cX8_whom 30 = .ok (.lconst 1, 1) := by decide +kernel
theorem dX8_whom_31 : decode cX8_whom 31 = .ok (.invokestatic 54, 3) := by decide +kernel
theorem dX8_whom_34 : decode cX8_whom 34 = .ok (.ifCond .ne 6, 3) := by decide +kernel
theorem dX8_whom_37 : decode cX8_whom 37 = .ok (.ldc 64, 2) := by decide +kernel
theorem dX8_whom_39 : decode cX8_whom 39 = .ok (.ireturn, 1) := by decide +kernel
theorem dX8_whom_40 : decode cX8_whom 40 = .ok (.ldc 87, 2) := by decide +kernel
theorem dX8_whom_42 : decode cX8_whom 42 = .ok (.istore_n 3, 1) := by decide +kernel
theorem dX8_whom_43 : decode cX8_whom 43 = .ok (.ldc 87, 2) := by decide +kernel
theorem dX8_whom_45 : decode cX8_whom 45 = .ok (.istore 4, 2) := by decide +kernel
theorem dX8_whom_47 : decode cX8_whom 47 = .ok (.iconst 0, 1) := by decide +kernel
theorem dX8_whom_48 : decode cX8_whom 48 = .ok (.istore 5, 2) := by decide +kernel
theorem dX8_whom_50 : decode cX8_whom 50 = .ok (.iload 5, 2) := by decide +kernel
theorem dX8_whom_52 : decode cX8_whom 52 = .ok (.iconst 1, 1) := by decide +kernel
theorem dX8_whom_53 : decode cX8_whom 53 = .ok (.aload_n 0, 1) := by decide +kernel
theorem dX8_whom_54 : decode cX8_whom 54 = .ok (.getfield 19, 3) := by decide +kernel
theorem dX8_whom_57 : decode cX8_whom 57 = .ok (.iconst 4, 1) := by decide +kernel
theorem dX8_whom_58 : decode cX8_whom 58 = .ok (.iaload, 1) := by decide +kernel
theorem dX8_whom_59 : decode cX8_whom 59 = .ok (.ishl, 1) := by decide +kernel
theorem dX8_whom_60 : decode cX8_whom 60 = .ok (.if_icmp .ge 157, 3) := by decide +kernel
theorem dX8_whom_63 : decode cX8_whom 63 = .ok (.aload_n 0, 1) := by decide +kernel
theorem dX8_whom_64 : decode cX8_whom 64 = .ok (.invokevirtual 197, 3) := by decide +kernel
theorem dX8_whom_67 : decode cX8_whom 67 = .ok (.iconst 0, 1) := by decide +kernel
theorem dX8_whom_68 : decode cX8_whom 68 = .ok (.istore 6, 2) := by decide +kernel
theorem dX8_whom_70 : decode cX8_whom 70 = .ok (.iload 6, 2) := by decide +kernel
theorem dX8_whom_72 : decode cX8_whom 72 = .ok (.aload_n 0, 1) := by decide +kernel
theorem dX8_whom_73 : decode cX8_whom 73 = .ok (.getfield 19, 3) := by decide +kernel
theorem dX8_whom_76 : decode cX8_whom 76 = .ok (.iconst 4, 1) := by decide +kernel
theorem dX8_whom_77 : decode cX8_whom 77 = .ok (.iaload, 1) := by decide +kernel
theorem dX8_whom_78 : decode cX8_whom 78 = .ok (.if_icmp .ge 34, 3) := by decide +kernel
theorem dX8_whom_81 : decode cX8_whom 81 = .ok (.aload_n 0, 1) := by decide +kernel
theorem dX8_whom_82 : decode cX8_whom 82 = .ok (.getfield 25, 3) := by decide +kernel
theorem dX8_whom_85 : decode cX8_whom 85 = .ok (.bipush 10, 2) := by decide +kernel
theorem dX8_whom_87 : decode cX8_whom 87 = .ok (.bipush 9, 2) := by decide +kernel
theorem dX8_whom_89 : decode cX8_whom 89 = .ok (.iload 6, 2) := by decide +kernel
theorem dX8_whom_91 : decode cX8_whom 91 = .ok (.imul, 1) := by decide +kernel
theorem dX8_whom_92 : decode cX8_whom 92 = .ok (.iadd, 1) := by decide +kernel
theorem dX8_whom_93 : decode cX8_whom 93 = .ok (.iconst 3, 1) := by decide +kernel
theorem dX8_whom_94 : decode cX8_whom 94 = .ok (.iadd, 1) := by decide +kernel
theorem dX8_whom_95 : decode cX8_whom 95 = .ok (.dup2, 1) := by decide +kernel
theorem dX8_whom_96 : decode cX8_whom 96 = .ok (.iaload, 1) := by decide +kernel
theorem dX8_whom_97 : decode cX8_whom 97 = .ok (.iload 5, 2) := by decide +kernel
theorem dX8_whom_99 : decode cX8_whom 99 = .ok (.iload 6, 2) := by decide +kernel
theorem dX8_whom_101 : decode cX8_whom 101 = .ok (.ishr, 1) := by decide +kernel
theorem dX8_whom_102 : decode cX8_whom 102 = .ok (.iconst 1, 1) := by decide +kernel
theorem dX8_whom_103 : decode cX8_whom 103 = .ok (.iand, 1) := by decide +kernel
theorem dX8_whom_104 : decode cX8_whom 104 = .ok (.imul, 1) := by decide +kernel
theorem dX8_whom_105 : decode cX8_whom 105 = .ok (.iastore, 1) := by decide +kernel
theorem dX8_whom_106 : decode cX8_whom 106 = .ok (.iinc 6 1, 3) := by decide +kernel
theorem dX8_whom_109 : decode cX8_whom 109 = .ok (.goto (-39), 3) := by decide +kernel
theorem dX8_whom_112 : decode cX8_whom 112 = .ok (.aload_n 0, 1) := by decide +kernel
theorem dX8_whom_113 : decode cX8_whom 113 = .ok (.getfield 25, 3) := by decide +kernel
theorem dX8_whom_116 : decode cX8_whom 116 = .ok (.iload_n 1, 1) := by decide +kernel
theorem dX8_whom_117 : decode cX8_whom 117 = .ok (.invokestatic 200, 3) := by decide +kernel
theorem dX8_whom_120 : decode cX8_whom 120 = .ok (.aload_n 0, 1) := by decide +kernel
theorem dX8_whom_121 : decode cX8_whom 121 = .ok (.getfield 25, 3) := by decide +kernel
theorem dX8_whom_124 : decode cX8_whom 124 = .ok (.iconst 1, 1) := by decide +kernel
theorem dX8_whom_125 : decode cX8_whom 125 = .ok (.iaload, 1) := by decide +kernel
theorem dX8_whom_126 : decode cX8_whom 126 = .ok (.aload_n 0, 1) := by decide +kernel
theorem dX8_whom_127 : decode cX8_whom 127 = .ok (.getfield 25, 3) := by decide +kernel
theorem dX8_whom_130 : decode cX8_whom 130 = .ok (.bipush 6, 2) := by decide +kernel
theorem dX8_whom_132 : decode cX8_whom 132 = .ok (.iaload, 1) := by decide +kernel
theorem dX8_whom_133 : decode cX8_whom 133 = .ok (.isub, 1) := by decide +kernel
theorem dX8_whom_134 : decode cX8_whom 134 = .ok (.istore 6, 2) := by decide +kernel
theorem dX8_whom_136 : decode cX8_whom 136 = .ok (.aload_n 0, 1) := by decide +kernel
theorem dX8_whom_137 : decode cX8_whom 137 = .ok (.getfield 25, 3) := by decide +kernel
theorem dX8_whom_140 : decode cX8_whom 140 = .ok (.bipush 8, 2) := by decide +kernel
theorem dX8_whom_142 : decode cX8_whom 142 = .ok (.iaload, 1) := by decide +kernel
theorem dX8_whom_143 : decode cX8_whom 143 = .ok (.ifCond .ne 39, 3) := by decide +kernel
theorem dX8_whom_146 : decode cX8_whom 146 = .ok (.iload_n 3, 1) := by decide +kernel
theorem dX8_whom_147 : decode cX8_whom 147 = .ok (.ldc 87, 2) := by decide +kernel
theorem dX8_whom_149 : decode cX8_whom 149 = .ok (.if_icmp .eq 29, 3) := by decide +kernel
theorem dX8_whom_152 : decode cX8_whom 152 = .ok (.iload 6, 2) := by decide +kernel
theorem dX8_whom_154 : decode cX8_whom 154 = .ok (.iload 4, 2) := by decide +kernel
theorem dX8_whom_156 : decode cX8_whom 156 = .ok (.if_icmp .gt 22, 3) := by decide +kernel
theorem dX8_whom_159 : decode cX8_whom 159 = .ok (.iload 6, 2) := by decide +kernel
theorem dX8_whom_161 : decode cX8_whom 161 = .ok (.iload 4, 2) := by decide +kernel
theorem dX8_whom_163 : decode cX8_whom 163 = .ok (.if_icmp .ne 19, 3) := by decide +kernel
theorem dX8_whom_166 : decode cX8_whom 166 = .ok (.iload 5, 2) := by decide +kernel
theorem dX8_whom_168 : decode cX8_whom 168 = .ok (.invokestatic 203, 3) := by decide +kernel
theorem dX8_whom_171 : decode cX8_whom 171 = .ok (.iload_n 3, 1) := by decide +kernel
theorem dX8_whom_172 : decode cX8_whom 172 = .ok (.invokestatic 203, 3) := by decide +kernel
theorem dX8_whom_175 : decode cX8_whom 175 = .ok (.if_icmp .ge 7, 3) := by decide +kernel
theorem dX8_whom_178 : decode cX8_whom 178 = .ok (.iconst 1, 1) := by decide +kernel
theorem dX8_whom_179 : decode cX8_whom 179 = .ok (.goto 4, 3) := by decide +kernel
theorem dX8_whom_182 : decode cX8_whom 182 = .ok (.iconst 0, 1) := by decide +kernel
theorem dX8_whom_183 : decode cX8_whom 183 = .ok (.istore 7, 2) := by decide +kernel
theorem dX8_whom_185 : decode cX8_whom 185 = .ok (.iload 7, 2) := by decide +kernel
theorem dX8_whom_187 : decode cX8_whom 187 = .ok (.ifCond .eq 8, 3) := by decide +kernel
theorem dX8_whom_190 : decode cX8_whom 190 = .ok (.iload 5, 2) := by decide +kernel
theorem dX8_whom_192 : decode cX8_whom 192 = .ok (.goto 4, 3) := by decide +kernel
theorem dX8_whom_195 : decode cX8_whom 195 = .ok (.iload_n 3, 1) := by decide +kernel
theorem dX8_whom_196 : decode cX8_whom 196 = .ok (.istore_n 3, 1) := by decide +kernel
theorem dX8_whom_197 : decode cX8_whom 197 = .ok (.iload 7, 2) := by decide +kernel
theorem dX8_whom_199 : decode cX8_whom 199 = .ok (.ifCond .eq 8, 3) := by decide +kernel
theorem dX8_whom_202 : decode cX8_whom 202 = .ok (.iload 6, 2) := by decide +kernel
theorem dX8_whom_204 : decode cX8_whom 204 = .ok (.goto 5, 3) := by decide +kernel
theorem dX8_whom_207 : decode cX8_whom 207 = .ok (.iload 4, 2) := by decide +kernel
theorem dX8_whom_209 : decode cX8_whom 209 = .ok (.istore 4, 2) := by decide +kernel
theorem dX8_whom_211 : decode cX8_whom 211 = .ok (.iinc 5 1, 3) := by decide +kernel
theorem dX8_whom_214 : decode cX8_whom 214 = .ok (.goto (-164), 3) := by decide +kernel
theorem dX8_whom_217 : decode cX8_whom 217 = .ok (.iload_n 2, 1) := by decide +kernel
theorem dX8_whom_218 : decode cX8_whom 218 = .ok (.ifCond .ne 7, 3) := by decide +kernel
theorem dX8_whom_221 : decode cX8_whom 221 = .ok (.iload_n 3, 1) := by decide +kernel
theorem dX8_whom_222 : decode cX8_whom 222 = .ok (.goto 5, 3) := by decide +kernel
theorem dX8_whom_225 : decode cX8_whom 225 = .ok (.iload 4, 2) := by decide +kernel
theorem dX8_whom_227 : decode cX8_whom 227 = .ok (.ireturn, 1) := by decide +kernel
def bX8_whom_0 : List sx_S := [si_al 0, si_const 0, si_put 7 0 0, si_al 0, si_cv 7 145 0 0 0 0 0, si_if1 (fun x => ¬ x = 0) 15 [true, true, true, false, false, false, false, false], si_const (-1000002), si_ri]
def bX8_whom_15 : List sx_S := [si_il 1, si_i2l, si_lconst 1, si_lconst (lN 60), si_cs 124 3 0 0 0 0, si_if1 (fun x => x = 0) 37 [false, false, false, false, false, false, false, false], si_il 2, si_i2l, si_lconst 0, si_lconst 1, si_cs 124 3 0 0 0 0, si_if1 (fun x => ¬ x = 0) 40 [true, true, true, false, false, false, false, false], si_go 37 [false, false, false, false, false, false, false, false]]
def bX8_whom_37 : List sx_S := [si_const (-1000001), si_ri]
def bX8_whom_40 : List sx_S := [si_const (-1000000), si_is 3, si_const (-1000000), si_is 4, si_const 0, si_is 5, si_go 50 [true, true, true, true, true, true, false, false]]
def bX8_whom_50 : List sx_S := [si_il 5, si_const 1, si_al 0, si_get 7 5, si_const (nI 4), si_iald, si_bin (fun x y => x <<< (y &&& 31)), si_if2 (fun x y => y ≤ x) 217 [false, false, true, true, true, false, false, false], si_al 0, si_cv 7 155 0 0 0 0 0, si_const 0, si_is 6, si_go 70 [true, true, true, true, true, true, true, false]]
def bX8_whom_70 : List sx_S := [si_il 6, si_al 0, si_get 7 5, si_const (nI 4), si_iald, si_if2 (fun x y => y ≤ x) 112 [true, true, true, true, true, true, false, false], si_al 0, si_get 7 7, si_const (nI 10), si_const (nI 9), si_il 6, si_bin (fun x y => x * y), si_bin (fun x y => x + y), si_const (nI 3), si_bin (fun x y => x + y), si_dup2, si_iald, si_il 5, si_il 6, si_bin (fun x y => x >>> (y &&& 31)), si_const 1, si_bin (fun x y => x &&& y), si_bin (fun x y => x * y), si_iast, si_inc 6 1, si_go 70 [true, true, true, true, true, true, true, false]]
def bX8_whom_112 : List sx_S := [si_al 0, si_get 7 7, si_il 1, si_cs 154 2 0 0 0 0, si_al 0, si_get 7 7, si_const 1, si_iald, si_al 0, si_get 7 7, si_const (nI 6), si_iald, si_bin (fun x y => x - y), si_is 6, si_al 0, si_get 7 7, si_const (nI 8), si_iald, si_if1 (fun x => ¬ x = 0) 182 [true, true, true, true, true, true, true, false], si_il 3, si_const (-1000000), si_if2 (fun x y => x = y) 178 [true, true, true, true, true, true, true, false], si_il 6, si_il 4, si_if2 (fun x y => y < x) 178 [true, true, true, true, true, true, true, false], si_il 6, si_il 4, si_if2 (fun x y => ¬ x = y) 182 [true, true, true, true, true, true, true, false], si_il 5, si_cs 171 1 0 0 0 0, si_il 3, si_cs 171 1 0 0 0 0, si_if2 (fun x y => y ≤ x) 182 [true, true, true, true, true, true, true, false], si_go 178 [true, true, true, true, true, true, true, false]]
def bX8_whom_178 : List sx_S := [si_const 1, si_go 183 [true, true, true, true, true, true, true, false]]
def bX8_whom_182 : List sx_S := [si_const 0, si_go 183 [true, true, true, true, true, true, true, false]]
def bX8_whom_183 : List sx_S := [si_is 7, si_il 7, si_if1 (fun x => x = 0) 195 [true, true, true, true, true, true, true, true], si_il 5, si_go 196 [true, true, true, false, true, true, true, true]]
def bX8_whom_195 : List sx_S := [si_il 3, si_go 196 [true, true, true, false, true, true, true, true]]
def bX8_whom_196 : List sx_S := [si_is 3, si_il 7, si_if1 (fun x => x = 0) 207 [true, true, true, true, true, true, false, false], si_il 6, si_go 209 [true, true, true, true, false, true, false, false]]
def bX8_whom_207 : List sx_S := [si_il 4, si_go 209 [true, true, true, true, false, true, false, false]]
def bX8_whom_209 : List sx_S := [si_is 4, si_inc 5 1, si_go 50 [true, true, true, true, true, true, false, false]]
def bX8_whom_217 : List sx_S := [si_il 2, si_if1 (fun x => ¬ x = 0) 225 [false, false, false, false, true, false, false, false], si_il 3, si_go 227 [false, false, false, false, false, false, false, false]]
def bX8_whom_225 : List sx_S := [si_il 4, si_go 227 [false, false, false, false, false, false, false, false]]
def bX8_whom_227 : List sx_S := [si_ri]
def BX8_whom : Nat → List sx_S := fun pc => if pc = 0 then bX8_whom_0 else if pc = 15 then bX8_whom_15 else if pc = 37 then bX8_whom_37 else if pc = 40 then bX8_whom_40 else if pc = 50 then bX8_whom_50 else if pc = 70 then bX8_whom_70 else if pc = 112 then bX8_whom_112 else if pc = 178 then bX8_whom_178 else if pc = 182 then bX8_whom_182 else if pc = 183 then bX8_whom_183 else if pc = 195 then bX8_whom_195 else if pc = 196 then bX8_whom_196 else if pc = 207 then bX8_whom_207 else if pc = 209 then bX8_whom_209 else if pc = 217 then bX8_whom_217 else if pc = 225 then bX8_whom_225 else if pc = 227 then bX8_whom_227 else []
set_option maxRecDepth 20000 in
theorem kX8_whom_0 : sx_BK sx_tb yX8_whom.cls cX8_whom 8 (some .int) ({ frames := 5, cells := 0, slots := 0, locals := 111 } : Room) false false 0 (fun _ => 0) 0 (bX8_whom_0) := ⟨_, ⟨sn_aload_n dX8_whom_0 rfl, sm_al _⟩, ⟨_, ⟨sn_iconst dX8_whom_1 (by decide +kernel), sm_const _⟩, ⟨_, ⟨sn_put (C := RX8) (T := TX8) (N := 23) dX8_whom_2 rfl zinX8 tyX8_ok nmX8 (Nat.le_of_ble_eq_true rfl) zw_3_182 rfl (tyX8_ok 0 (Nat.le_of_ble_eq_true rfl)) trivial, sm_put _ _ _⟩, ⟨_, ⟨sn_aload_n dX8_whom_5 rfl, sm_al _⟩, ⟨_, ⟨sn_cv_z (N := 23) (T := TX8) ztb_X8_isThere dX8_whom_6 rfl rfl zw_4_110 zw_4_112 zw_0_45 zw_1_8 zw_4_113 zmh_X8 zpd_X8_isThere (Nat.le_of_ble_eq_true rfl) (Nat.le_of_ble_eq_true rfl) rfl rfl, sm_cv _ _ _ _ _ _ _⟩, ⟨_, ⟨sn_if_ne dX8_whom_9 (by decide +kernel) rfl, sm_if1 _ _ _⟩, ⟨_, ⟨sn_ldc dX8_whom_12 zw_4_114, sm_const _⟩, ⟨_, ⟨sn_ri (len := 1) dX8_whom_14 rfl, sm_ri⟩, trivial⟩⟩⟩⟩⟩⟩⟩⟩
set_option maxRecDepth 20000 in
theorem kX8_whom_15 : sx_BK sx_tb yX8_whom.cls cX8_whom 8 (some .int) ({ frames := 5, cells := 0, slots := 0, locals := 111 } : Room) false false 0 (fun _ => 0) 15 (bX8_whom_15) := ⟨_, ⟨sn_iload_n dX8_whom_15 rfl, sm_il _⟩, ⟨_, ⟨sn_i2l dX8_whom_16, sm_i2l⟩, ⟨_, ⟨sn_lconst dX8_whom_17 (by decide +kernel), sm_lconst _⟩, ⟨_, ⟨sn_ldc2 dX8_whom_18 zw_4_185, sm_lconst _⟩, ⟨_, ⟨sn_cs_z ztb_X8_in dX8_whom_21 zw_4_21 zw_4_22 zw_1_8 zw_4_23 zmh_X8 zpd_X8_in (Nat.le_of_ble_eq_true rfl) (Nat.le_of_ble_eq_true rfl) rfl rfl, sm_cs _ _ _ _ _ _⟩, ⟨_, ⟨sn_if_eq dX8_whom_24 (by decide +kernel) rfl, sm_if1 _ _ _⟩, ⟨_, ⟨sn_iload_n dX8_whom_27 rfl, sm_il _⟩, ⟨_, ⟨sn_i2l dX8_whom_28, sm_i2l⟩, ⟨_, ⟨sn_lconst dX8_whom_29 (by decide +kernel), sm_lconst _⟩, ⟨_, ⟨sn_lconst dX8_whom_30 (by decide +kernel), sm_lconst _⟩, ⟨_, ⟨sn_cs_z ztb_X8_in dX8_whom_31 zw_4_21 zw_4_22 zw_1_8 zw_4_23 zmh_X8 zpd_X8_in (Nat.le_of_ble_eq_true rfl) (Nat.le_of_ble_eq_true rfl) rfl rfl, sm_cs _ _ _ _ _ _⟩, ⟨_, ⟨sn_if_ne dX8_whom_34 (by decide +kernel) rfl, sm_if1 _ _ _⟩, ⟨_, ⟨sn_fall (len := 0) rfl rfl, sm_go _ _⟩, trivial⟩⟩⟩⟩⟩⟩⟩⟩⟩⟩⟩⟩⟩
set_option maxRecDepth 20000 in
theorem kX8_whom_37 : sx_BK sx_tb yX8_whom.cls cX8_whom 8 (some .int) ({ frames := 5, cells := 0, slots := 0, locals := 111 } : Room) false false 0 (fun _ => 0) 37 (bX8_whom_37) := ⟨_, ⟨sn_ldc dX8_whom_37 zw_4_25, sm_const _⟩, ⟨_, ⟨sn_ri (len := 1) dX8_whom_39 rfl, sm_ri⟩, trivial⟩⟩
set_option maxRecDepth 20000 in
theorem kX8_whom_40 : sx_BK sx_tb yX8_whom.cls cX8_whom 8 (some .int) ({ frames := 5, cells := 0, slots := 0, locals := 111 } : Room) false false 0 (fun _ => 0) 40 (bX8_whom_40) := ⟨_, ⟨sn_ldc dX8_whom_40 zw_4_65, sm_const _⟩, ⟨_, ⟨sn_istore_n dX8_whom_42 rfl (Nat.le_of_ble_eq_true rfl), sm_is _⟩, ⟨_, ⟨sn_ldc dX8_whom_43 zw_4_65, sm_const _⟩, ⟨_, ⟨sn_istore dX8_whom_45 (Nat.le_of_ble_eq_true rfl), sm_is _⟩, ⟨_, ⟨sn_iconst dX8_whom_47 (by decide +kernel), sm_const _⟩, ⟨_, ⟨sn_istore dX8_whom_48 (Nat.le_of_ble_eq_true rfl), sm_is _⟩, ⟨_, ⟨sn_fall (len := 0) rfl rfl, sm_go _ _⟩, trivial⟩⟩⟩⟩⟩⟩⟩
set_option maxRecDepth 20000 in
theorem kX8_whom_50 : sx_BK sx_tb yX8_whom.cls cX8_whom 8 (some .int) ({ frames := 5, cells := 0, slots := 0, locals := 111 } : Room) false false 0 (fun _ => 0) 50 (bX8_whom_50) := ⟨_, ⟨sn_iload dX8_whom_50, sm_il _⟩, ⟨_, ⟨sn_iconst dX8_whom_52 (by decide +kernel), sm_const _⟩, ⟨_, ⟨sn_aload_n dX8_whom_53 rfl, sm_al _⟩, ⟨_, ⟨sn_get (C := RX8) (T := TX8) (N := 23) dX8_whom_54 rfl zinX8 (Nat.le_of_ble_eq_true rfl) zw_3_187, sm_get _ _⟩, ⟨_, ⟨sn_iconst dX8_whom_57 (by decide +kernel), sm_const _⟩, ⟨_, ⟨sn_iald dX8_whom_58, sm_iald⟩, ⟨_, ⟨sn_ishl dX8_whom_59, sm_bin _⟩, ⟨_, ⟨sn_ic_ge dX8_whom_60 (by decide +kernel) rfl, sm_if2 _ _ _⟩, ⟨_, ⟨sn_aload_n dX8_whom_63 rfl, sm_al _⟩, ⟨_, ⟨sn_cv_v (N := 23) (T := TX8) ztb_X8_layThen dX8_whom_64 rfl rfl zw_4_186 zw_4_188 zw_0_48 zw_1_8 zw_4_189 zmh_X8 zpd_X8_layThen (Nat.le_of_ble_eq_true rfl) (Nat.le_of_ble_eq_true rfl) rfl rfl, sm_cv _ _ _ _ _ _ _⟩, ⟨_, ⟨sn_iconst dX8_whom_67 (by decide +kernel), sm_const _⟩, ⟨_, ⟨sn_istore dX8_whom_68 (Nat.le_of_ble_eq_true rfl), sm_is _⟩, ⟨_, ⟨sn_fall (len := 0) rfl rfl, sm_go _ _⟩, trivial⟩⟩⟩⟩⟩⟩⟩⟩⟩⟩⟩⟩⟩
set_option maxRecDepth 20000 in
theorem kX8_whom_70 : sx_BK sx_tb yX8_whom.cls cX8_whom 8 (some .int) ({ frames := 5, cells := 0, slots := 0, locals := 111 } : Room) false false 0 (fun _ => 0) 70 (bX8_whom_70) := ⟨_, ⟨sn_iload dX8_whom_70, sm_il _⟩, ⟨_, ⟨sn_aload_n dX8_whom_72 rfl, sm_al _⟩, ⟨_, ⟨sn_get (C := RX8) (T := TX8) (N := 23) dX8_whom_73 rfl zinX8 (Nat.le_of_ble_eq_true rfl) zw_3_187, sm_get _ _⟩, ⟨_, ⟨sn_iconst dX8_whom_76 (by decide +kernel), sm_const _⟩, ⟨_, ⟨sn_iald dX8_whom_77, sm_iald⟩, ⟨_, ⟨sn_ic_ge dX8_whom_78 (by decide +kernel) rfl, sm_if2 _ _ _⟩, ⟨_, ⟨sn_aload_n dX8_whom_81 rfl, sm_al _⟩, ⟨_, ⟨sn_get (C := RX8) (T := TX8) (N := 23) dX8_whom_82 rfl zinX8 (Nat.le_of_ble_eq_true rfl) zw_3_189, sm_get _ _⟩, ⟨_, ⟨sn_bipush dX8_whom_85 (by decide +kernel), sm_const _⟩, ⟨_, ⟨sn_bipush dX8_whom_87 (by decide +kernel), sm_const _⟩, ⟨_, ⟨sn_iload dX8_whom_89, sm_il _⟩, ⟨_, ⟨sn_imul dX8_whom_91, sm_bin _⟩, ⟨_, ⟨sn_iadd dX8_whom_92, sm_bin _⟩, ⟨_, ⟨sn_iconst dX8_whom_93 (by decide +kernel), sm_const _⟩, ⟨_, ⟨sn_iadd dX8_whom_94, sm_bin _⟩, ⟨_, ⟨sn_dup2 dX8_whom_95, sm_dup2⟩, ⟨_, ⟨sn_iald dX8_whom_96, sm_iald⟩, ⟨_, ⟨sn_iload dX8_whom_97, sm_il _⟩, ⟨_, ⟨sn_iload dX8_whom_99, sm_il _⟩, ⟨_, ⟨sn_ishr dX8_whom_101, sm_bin _⟩, ⟨_, ⟨sn_iconst dX8_whom_102 (by decide +kernel), sm_const _⟩, ⟨_, ⟨sn_iand dX8_whom_103, sm_bin _⟩, ⟨_, ⟨sn_imul dX8_whom_104, sm_bin _⟩, ⟨_, ⟨sn_iast dX8_whom_105, sm_iast⟩, ⟨_, ⟨sn_iinc dX8_whom_106 (by decide +kernel) (Nat.le_of_ble_eq_true rfl), sm_inc _ _⟩, ⟨_, ⟨sn_goto (len := 3) dX8_whom_109 (by decide +kernel) rfl, sm_go _ _⟩, trivial⟩⟩⟩⟩⟩⟩⟩⟩⟩⟩⟩⟩⟩⟩⟩⟩⟩⟩⟩⟩⟩⟩⟩⟩⟩⟩
set_option maxRecDepth 20000 in
theorem kX8_whom_112 : sx_BK sx_tb yX8_whom.cls cX8_whom 8 (some .int) ({ frames := 5, cells := 0, slots := 0, locals := 111 } : Room) false false 0 (fun _ => 0) 112 (bX8_whom_112) := ⟨_, ⟨sn_aload_n dX8_whom_112 rfl, sm_al _⟩, ⟨_, ⟨sn_get (C := RX8) (T := TX8) (N := 23) dX8_whom_113 rfl zinX8 (Nat.le_of_ble_eq_true rfl) zw_3_189, sm_get _ _⟩, ⟨_, ⟨sn_iload_n dX8_whom_116 rfl, sm_il _⟩, ⟨_, ⟨sn_cs_v ztb_X8_weeksOf dX8_whom_117 zw_4_190 zw_4_191 zw_1_8 zw_4_192 zmh_X8 zpd_X8_weeksOf (Nat.le_of_ble_eq_true rfl) (Nat.le_of_ble_eq_true rfl) rfl rfl, sm_cs _ _ _ _ _ _⟩, ⟨_, ⟨sn_aload_n dX8_whom_120 rfl, sm_al _⟩, ⟨_, ⟨sn_get (C := RX8) (T := TX8) (N := 23) dX8_whom_121 rfl zinX8 (Nat.le_of_ble_eq_true rfl) zw_3_189, sm_get _ _⟩, ⟨_, ⟨sn_iconst dX8_whom_124 (by decide +kernel), sm_const _⟩, ⟨_, ⟨sn_iald dX8_whom_125, sm_iald⟩, ⟨_, ⟨sn_aload_n dX8_whom_126 rfl, sm_al _⟩, ⟨_, ⟨sn_get (C := RX8) (T := TX8) (N := 23) dX8_whom_127 rfl zinX8 (Nat.le_of_ble_eq_true rfl) zw_3_189, sm_get _ _⟩, ⟨_, ⟨sn_bipush dX8_whom_130 (by decide +kernel), sm_const _⟩, ⟨_, ⟨sn_iald dX8_whom_132, sm_iald⟩, ⟨_, ⟨sn_isub dX8_whom_133, sm_bin _⟩, ⟨_, ⟨sn_istore dX8_whom_134 (Nat.le_of_ble_eq_true rfl), sm_is _⟩, ⟨_, ⟨sn_aload_n dX8_whom_136 rfl, sm_al _⟩, ⟨_, ⟨sn_get (C := RX8) (T := TX8) (N := 23) dX8_whom_137 rfl zinX8 (Nat.le_of_ble_eq_true rfl) zw_3_189, sm_get _ _⟩, ⟨_, ⟨sn_bipush dX8_whom_140 (by decide +kernel), sm_const _⟩, ⟨_, ⟨sn_iald dX8_whom_142, sm_iald⟩, ⟨_, ⟨sn_if_ne dX8_whom_143 (by decide +kernel) rfl, sm_if1 _ _ _⟩, ⟨_, ⟨sn_iload_n dX8_whom_146 rfl, sm_il _⟩, ⟨_, ⟨sn_ldc dX8_whom_147 zw_4_65, sm_const _⟩, ⟨_, ⟨sn_ic_eq dX8_whom_149 (by decide +kernel) rfl, sm_if2 _ _ _⟩, ⟨_, ⟨sn_iload dX8_whom_152, sm_il _⟩, ⟨_, ⟨sn_iload dX8_whom_154, sm_il _⟩, ⟨_, ⟨sn_ic_gt dX8_whom_156 (by decide +kernel) rfl, sm_if2 _ _ _⟩, ⟨_, ⟨sn_iload dX8_whom_159, sm_il _⟩, ⟨_, ⟨sn_iload dX8_whom_161, sm_il _⟩, ⟨_, ⟨sn_ic_ne dX8_whom_163 (by decide +kernel) rfl, sm_if2 _ _ _⟩, ⟨_, ⟨sn_iload dX8_whom_166, sm_il _⟩, ⟨_, ⟨sn_cs_i ztb_X8_bits dX8_whom_168 zw_4_209 zw_4_210 zw_1_8 zw_4_211 zmh_X8 zpd_X8_bits (Nat.le_of_ble_eq_true rfl) (Nat.le_of_ble_eq_true rfl) rfl rfl, sm_cs _ _ _ _ _ _⟩, ⟨_, ⟨sn_iload_n dX8_whom_171 rfl, sm_il _⟩, ⟨_, ⟨sn_cs_i ztb_X8_bits dX8_whom_172 zw_4_209 zw_4_210 zw_1_8 zw_4_211 zmh_X8 zpd_X8_bits (Nat.le_of_ble_eq_true rfl) (Nat.le_of_ble_eq_true rfl) rfl rfl, sm_cs _ _ _ _ _ _⟩, ⟨_, ⟨sn_ic_ge dX8_whom_175 (by decide +kernel) rfl, sm_if2 _ _ _⟩, ⟨_, ⟨sn_fall (len := 0) rfl rfl, sm_go _ _⟩, trivial⟩⟩⟩⟩⟩⟩⟩⟩⟩⟩⟩⟩⟩⟩⟩⟩⟩⟩⟩⟩⟩⟩⟩⟩⟩⟩⟩⟩⟩⟩⟩⟩⟩⟩
set_option maxRecDepth 20000 in
theorem kX8_whom_178 : sx_BK sx_tb yX8_whom.cls cX8_whom 8 (some .int) ({ frames := 5, cells := 0, slots := 0, locals := 111 } : Room) false false 0 (fun _ => 0) 178 (bX8_whom_178) := ⟨_, ⟨sn_iconst dX8_whom_178 (by decide +kernel), sm_const _⟩, ⟨_, ⟨sn_goto (len := 3) dX8_whom_179 (by decide +kernel) rfl, sm_go _ _⟩, trivial⟩⟩
set_option maxRecDepth 20000 in
theorem kX8_whom_182 : sx_BK sx_tb yX8_whom.cls cX8_whom 8 (some .int) ({ frames := 5, cells := 0, slots := 0, locals := 111 } : Room) false false 0 (fun _ => 0) 182 (bX8_whom_182) := ⟨_, ⟨sn_iconst dX8_whom_182 (by decide +kernel), sm_const _⟩, ⟨_, ⟨sn_fall (len := 0) rfl rfl, sm_go _ _⟩, trivial⟩⟩
set_option maxRecDepth 20000 in
theorem kX8_whom_183 : sx_BK sx_tb yX8_whom.cls cX8_whom 8 (some .int) ({ frames := 5, cells := 0, slots := 0, locals := 111 } : Room) false false 0 (fun _ => 0) 183 (bX8_whom_183) := ⟨_, ⟨sn_istore dX8_whom_183 (Nat.le_of_ble_eq_true rfl), sm_is _⟩, ⟨_, ⟨sn_iload dX8_whom_185, sm_il _⟩, ⟨_, ⟨sn_if_eq dX8_whom_187 (by decide +kernel) rfl, sm_if1 _ _ _⟩, ⟨_, ⟨sn_iload dX8_whom_190, sm_il _⟩, ⟨_, ⟨sn_goto (len := 3) dX8_whom_192 (by decide +kernel) rfl, sm_go _ _⟩, trivial⟩⟩⟩⟩⟩
set_option maxRecDepth 20000 in
theorem kX8_whom_195 : sx_BK sx_tb yX8_whom.cls cX8_whom 8 (some .int) ({ frames := 5, cells := 0, slots := 0, locals := 111 } : Room) false false 0 (fun _ => 0) 195 (bX8_whom_195) := ⟨_, ⟨sn_iload_n dX8_whom_195 rfl, sm_il _⟩, ⟨_, ⟨sn_fall (len := 0) rfl rfl, sm_go _ _⟩, trivial⟩⟩
set_option maxRecDepth 20000 in
theorem kX8_whom_196 : sx_BK sx_tb yX8_whom.cls cX8_whom 8 (some .int) ({ frames := 5, cells := 0, slots := 0, locals := 111 } : Room) false false 0 (fun _ => 0) 196 (bX8_whom_196) := ⟨_, ⟨sn_istore_n dX8_whom_196 rfl (Nat.le_of_ble_eq_true rfl), sm_is _⟩, ⟨_, ⟨sn_iload dX8_whom_197, sm_il _⟩, ⟨_, ⟨sn_if_eq dX8_whom_199 (by decide +kernel) rfl, sm_if1 _ _ _⟩, ⟨_, ⟨sn_iload dX8_whom_202, sm_il _⟩, ⟨_, ⟨sn_goto (len := 3) dX8_whom_204 (by decide +kernel) rfl, sm_go _ _⟩, trivial⟩⟩⟩⟩⟩
set_option maxRecDepth 20000 in
theorem kX8_whom_207 : sx_BK sx_tb yX8_whom.cls cX8_whom 8 (some .int) ({ frames := 5, cells := 0, slots := 0, locals := 111 } : Room) false false 0 (fun _ => 0) 207 (bX8_whom_207) := ⟨_, ⟨sn_iload dX8_whom_207, sm_il _⟩, ⟨_, ⟨sn_fall (len := 0) rfl rfl, sm_go _ _⟩, trivial⟩⟩
set_option maxRecDepth 20000 in
theorem kX8_whom_209 : sx_BK sx_tb yX8_whom.cls cX8_whom 8 (some .int) ({ frames := 5, cells := 0, slots := 0, locals := 111 } : Room) false false 0 (fun _ => 0) 209 (bX8_whom_209) := ⟨_, ⟨sn_istore dX8_whom_209 (Nat.le_of_ble_eq_true rfl), sm_is _⟩, ⟨_, ⟨sn_iinc dX8_whom_211 (by decide +kernel) (Nat.le_of_ble_eq_true rfl), sm_inc _ _⟩, ⟨_, ⟨sn_goto (len := 3) dX8_whom_214 (by decide +kernel) rfl, sm_go _ _⟩, trivial⟩⟩⟩
set_option maxRecDepth 20000 in
theorem kX8_whom_217 : sx_BK sx_tb yX8_whom.cls cX8_whom 8 (some .int) ({ frames := 5, cells := 0, slots := 0, locals := 111 } : Room) false false 0 (fun _ => 0) 217 (bX8_whom_217) := ⟨_, ⟨sn_iload_n dX8_whom_217 rfl, sm_il _⟩, ⟨_, ⟨sn_if_ne dX8_whom_218 (by decide +kernel) rfl, sm_if1 _ _ _⟩, ⟨_, ⟨sn_iload_n dX8_whom_221 rfl, sm_il _⟩, ⟨_, ⟨sn_goto (len := 3) dX8_whom_222 (by decide +kernel) rfl, sm_go _ _⟩, trivial⟩⟩⟩⟩
set_option maxRecDepth 20000 in
theorem kX8_whom_225 : sx_BK sx_tb yX8_whom.cls cX8_whom 8 (some .int) ({ frames := 5, cells := 0, slots := 0, locals := 111 } : Room) false false 0 (fun _ => 0) 225 (bX8_whom_225) := ⟨_, ⟨sn_iload dX8_whom_225, sm_il _⟩, ⟨_, ⟨sn_fall (len := 0) rfl rfl, sm_go _ _⟩, trivial⟩⟩
set_option maxRecDepth 20000 in
theorem kX8_whom_227 : sx_BK sx_tb yX8_whom.cls cX8_whom 8 (some .int) ({ frames := 5, cells := 0, slots := 0, locals := 111 } : Room) false false 0 (fun _ => 0) 227 (bX8_whom_227) := ⟨_, ⟨sn_ri (len := 1) dX8_whom_227 rfl, sm_ri⟩, trivial⟩
theorem kX8_whom : ∀ pc, sx_BK sx_tb yX8_whom.cls cX8_whom 8 (some .int) ({ frames := 5, cells := 0, slots := 0, locals := 111 } : Room) false false 0 (fun _ => 0) pc (BX8_whom pc) := fun pc => sx_bk_if (kX8_whom_0) (sx_bk_if (kX8_whom_15) (sx_bk_if (kX8_whom_37) (sx_bk_if (kX8_whom_40) (sx_bk_if (kX8_whom_50) (sx_bk_if (kX8_whom_70) (sx_bk_if (kX8_whom_112) (sx_bk_if (kX8_whom_178) (sx_bk_if (kX8_whom_182) (sx_bk_if (kX8_whom_183) (sx_bk_if (kX8_whom_195) (sx_bk_if (kX8_whom_196) (sx_bk_if (kX8_whom_207) (sx_bk_if (kX8_whom_209) (sx_bk_if (kX8_whom_217) (sx_bk_if (kX8_whom_225) (sx_bk_if (kX8_whom_227) (trivial)))))))))))))))))
theorem okX8_whom : sx_ok sx_tb BX8_whom (yX8_whom, cX8_whom, 8, some .int, { frames := 5, cells := 0, slots := 0, locals := 111 }) := ⟨by decide, by decide +kernel, false, (fun h => by cases h), kX8_whom⟩
theorem dX8_stands_0 : decode cX8_stands 0 = .ok (.aload_n 0, 1) := by decide +kernel
theorem dX8_stands_1 : decode cX8_stands 1 = .ok (.iconst 0, 1) := by decide +kernel
theorem dX8_stands_2 : decode cX8_stands 2 = .ok (.putfield 44, 3) := by decide +kernel
theorem dX8_stands_5 : decode cX8_stands 5 = .ok (.aload_n 0, 1) := by decide +kernel
theorem dX8_stands_6 : decode cX8_stands 6 = .ok (.invokevirtual 172, 3) := by decide +kernel
theorem dX8_stands_9 : decode cX8_stands 9 = .ok (.ifCond .ne 6, 3) := by decide +kernel
theorem dX8_stands_12 : decode cX8_stands 12 = .ok (.ldc 175, 2) := by decide +kernel
theorem dX8_stands_14 : decode cX8_stands 14 = .ok (.ireturn, 1) := by decide +kernel
theorem dX8_stands_15 : decode cX8_stands 15 = .ok (.bipush 20, 2) := by decide +kernel
theorem dX8_stands_17 : decode cX8_stands 17 = .ok (.istore_n 1, 1) := by decide +kernel
theorem dX8_stands_18 : decode cX8_stands 18 = .ok (.iload_n 1, 1) := by decide +kernel
theorem dX8_stands_19 : decode cX8_stands 19 = .ok (.ifCond .lt 42, 3) := by decide +kernel
theorem dX8_stands_22 : decode cX8_stands 22 = .ok (.aload_n 0, 1) := by decide +kernel
theorem dX8_stands_23 : decode cX8_stands 23 = .ok (.invokevirtual 197, 3) := by decide +kernel
theorem dX8_stands_26 : decode cX8_stands 26 = .ok (.aload_n 0, 1) := by decide +kernel
theorem dX8_stands_27 : decode cX8_stands 27 = .ok (.getfield 25, 3) := by decide +kernel
theorem dX8_stands_30 : decode cX8_stands 30 = .ok (.bipush 7, 2) := by decide +kernel
theorem dX8_stands_32 : decode cX8_stands 32 = .ok (.iload_n 1, 1) := by decide +kernel
theorem dX8_stands_33 : decode cX8_stands 33 = .ok (.iastore, 1) := by decide +kernel
theorem dX8_stands_34 : decode cX8_stands 34 = .ok (.aload_n 0, 1) := by decide +kernel
theorem dX8_stands_35 : decode cX8_stands 35 = .ok (.getfield 25, 3) := by decide +kernel
theorem dX8_stands_38 : decode cX8_stands 38 = .ok (.bipush 40, 2) := by decide +kernel
theorem dX8_stands_40 : decode cX8_stands 40 = .ok (.invokestatic 200, 3) := by decide +kernel
theorem dX8_stands_43 : decode cX8_stands 43 = .ok (.aload_n 0, 1) := by decide +kernel
theorem dX8_stands_44 : decode cX8_stands 44 = .ok (.getfield 25, 3) := by decide +kernel
theorem dX8_stands_47 : decode cX8_stands 47 = .ok (.bipush 8, 2) := by decide +kernel
theorem dX8_stands_49 : decode cX8_stands 49 = .ok (.iaload, 1) := by decide +kernel
theorem dX8_stands_50 : decode cX8_stands 50 = .ok (.ifCond .ne 5, 3) := by decide +kernel
theorem dX8_stands_53 : decode cX8_stands 53 = .ok (.iload_n 1, 1) := by decide +kernel
theorem dX8_stands_54 : decode cX8_stands 54 = .ok (.ireturn, 1) := by decide +kernel
theorem dX8_stands_55 : decode cX8_stands 55 = .ok (.iinc 1 (-1), 3) := by decide +kernel
theorem dX8_stands_58 : decode cX8_stands 58 = .ok (.goto (-40), 3) := by decide +kernel
theorem dX8_stands_61 : decode cX8_stands 61 = .ok (.ldc 87, 2) := by decide +kernel
theorem dX8_stands_63 : decode cX8_stands 63 = .ok (.ireturn, 1) := by decide +kernel
def bX8_stands_0 : List sx_S := [si_al 0, si_const 0, si_put 7 0 0, si_al 0, si_cv 7 145 0 0 0 0 0, si_if1 (fun x => ¬ x = 0) 15 [true, false], si_const (-1000002), si_ri]
def bX8_stands_15 : List sx_S := [si_const (nI 20), si_is 1, si_go 18 [true, true]]
def bX8_stands_18 : List sx_S := [si_il 1, si_if1 (fun x => x < 0) 61 [false, false], si_al 0, si_cv 7 155 0 0 0 0 0, si_al 0, si_get 7 7, si_const (nI 7), si_il 1, si_iast, si_al 0, si_get 7 7, si_const (nI 40), si_cs 154 2 0 0 0 0, si_al 0, si_get 7 7, si_const (nI 8), si_iald, si_if1 (fun x => ¬ x = 0) 55 [true, true], si_il 1, si_ri]
def bX8_stands_55 : List sx_S := [si_inc 1 (-1), si_go 18 [true, true]]
def bX8_stands_61 : List sx_S := [si_const (-1000000), si_ri]
def BX8_stands : Nat → List sx_S := fun pc => if pc = 0 then bX8_stands_0 else if pc = 15 then bX8_stands_15 else if pc = 18 then bX8_stands_18 else if pc = 55 then bX8_stands_55 else if pc = 61 then bX8_stands_61 else []
set_option maxRecDepth 20000 in
theorem kX8_stands_0 : sx_BK sx_tb yX8_stands.cls cX8_stands 2 (some .int) ({ frames := 5, cells := 0, slots := 0, locals := 111 } : Room) false false 0 (fun _ => 0) 0 (bX8_stands_0) := ⟨_, ⟨sn_aload_n dX8_stands_0 rfl, sm_al _⟩, ⟨_, ⟨sn_iconst dX8_stands_1 (by decide +kernel), sm_const _⟩, ⟨_, ⟨sn_put (C := RX8) (T := TX8) (N := 23) dX8_stands_2 rfl zinX8 tyX8_ok nmX8 (Nat.le_of_ble_eq_true rfl) zw_3_182 rfl (tyX8_ok 0 (Nat.le_of_ble_eq_true rfl)) trivial, sm_put _ _ _⟩, ⟨_, ⟨sn_aload_n dX8_stands_5 rfl, sm_al _⟩, ⟨_, ⟨sn_cv_z (N := 23) (T := TX8) ztb_X8_isThere dX8_stands_6 rfl rfl zw_4_110 zw_4_112 zw_0_45 zw_1_8 zw_4_113 zmh_X8 zpd_X8_isThere (Nat.le_of_ble_eq_true rfl) (Nat.le_of_ble_eq_true rfl) rfl rfl, sm_cv _ _ _ _ _ _ _⟩, ⟨_, ⟨sn_if_ne dX8_stands_9 (by decide +kernel) rfl, sm_if1 _ _ _⟩, ⟨_, ⟨sn_ldc dX8_stands_12 zw_4_114, sm_const _⟩, ⟨_, ⟨sn_ri (len := 1) dX8_stands_14 rfl, sm_ri⟩, trivial⟩⟩⟩⟩⟩⟩⟩⟩
set_option maxRecDepth 20000 in
theorem kX8_stands_15 : sx_BK sx_tb yX8_stands.cls cX8_stands 2 (some .int) ({ frames := 5, cells := 0, slots := 0, locals := 111 } : Room) false false 0 (fun _ => 0) 15 (bX8_stands_15) := ⟨_, ⟨sn_bipush dX8_stands_15 (by decide +kernel), sm_const _⟩, ⟨_, ⟨sn_istore_n dX8_stands_17 rfl (Nat.le_of_ble_eq_true rfl), sm_is _⟩, ⟨_, ⟨sn_fall (len := 0) rfl rfl, sm_go _ _⟩, trivial⟩⟩⟩
set_option maxRecDepth 20000 in
theorem kX8_stands_18 : sx_BK sx_tb yX8_stands.cls cX8_stands 2 (some .int) ({ frames := 5, cells := 0, slots := 0, locals := 111 } : Room) false false 0 (fun _ => 0) 18 (bX8_stands_18) := ⟨_, ⟨sn_iload_n dX8_stands_18 rfl, sm_il _⟩, ⟨_, ⟨sn_if_lt dX8_stands_19 (by decide +kernel) rfl, sm_if1 _ _ _⟩, ⟨_, ⟨sn_aload_n dX8_stands_22 rfl, sm_al _⟩, ⟨_, ⟨sn_cv_v (N := 23) (T := TX8) ztb_X8_layThen dX8_stands_23 rfl rfl zw_4_186 zw_4_188 zw_0_48 zw_1_8 zw_4_189 zmh_X8 zpd_X8_layThen (Nat.le_of_ble_eq_true rfl) (Nat.le_of_ble_eq_true rfl) rfl rfl, sm_cv _ _ _ _ _ _ _⟩, ⟨_, ⟨sn_aload_n dX8_stands_26 rfl, sm_al _⟩, ⟨_, ⟨sn_get (C := RX8) (T := TX8) (N := 23) dX8_stands_27 rfl zinX8 (Nat.le_of_ble_eq_true rfl) zw_3_189, sm_get _ _⟩, ⟨_, ⟨sn_bipush dX8_stands_30 (by decide +kernel), sm_const _⟩, ⟨_, ⟨sn_iload_n dX8_stands_32 rfl, sm_il _⟩, ⟨_, ⟨sn_iast dX8_stands_33, sm_iast⟩, ⟨_, ⟨sn_aload_n dX8_stands_34 rfl, sm_al _⟩, ⟨_, ⟨sn_get (C := RX8) (T := TX8) (N := 23) dX8_stands_35 rfl zinX8 (Nat.le_of_ble_eq_true rfl) zw_3_189, sm_get _ _⟩, ⟨_, ⟨sn_bipush dX8_stands_38 (by decide +kernel), sm_const _⟩, ⟨_, ⟨sn_cs_v ztb_X8_weeksOf dX8_stands_40 zw_4_190 zw_4_191 zw_1_8 zw_4_192 zmh_X8 zpd_X8_weeksOf (Nat.le_of_ble_eq_true rfl) (Nat.le_of_ble_eq_true rfl) rfl rfl, sm_cs _ _ _ _ _ _⟩, ⟨_, ⟨sn_aload_n dX8_stands_43 rfl, sm_al _⟩, ⟨_, ⟨sn_get (C := RX8) (T := TX8) (N := 23) dX8_stands_44 rfl zinX8 (Nat.le_of_ble_eq_true rfl) zw_3_189, sm_get _ _⟩, ⟨_, ⟨sn_bipush dX8_stands_47 (by decide +kernel), sm_const _⟩, ⟨_, ⟨sn_iald dX8_stands_49, sm_iald⟩, ⟨_, ⟨sn_if_ne dX8_stands_50 (by decide +kernel) rfl, sm_if1 _ _ _⟩, ⟨_, ⟨sn_iload_n dX8_stands_53 rfl, sm_il _⟩, ⟨_, ⟨sn_ri (len := 1) dX8_stands_54 rfl, sm_ri⟩, trivial⟩⟩⟩⟩⟩⟩⟩⟩⟩⟩⟩⟩⟩⟩⟩⟩⟩⟩⟩⟩
set_option maxRecDepth 20000 in
theorem kX8_stands_55 : sx_BK sx_tb yX8_stands.cls cX8_stands 2 (some .int) ({ frames := 5, cells := 0, slots := 0, locals := 111 } : Room) false false 0 (fun _ => 0) 55 (bX8_stands_55) := ⟨_, ⟨sn_iinc dX8_stands_55 (by decide +kernel) (Nat.le_of_ble_eq_true rfl), sm_inc _ _⟩, ⟨_, ⟨sn_goto (len := 3) dX8_stands_58 (by decide +kernel) rfl, sm_go _ _⟩, trivial⟩⟩
set_option maxRecDepth 20000 in
theorem kX8_stands_61 : sx_BK sx_tb yX8_stands.cls cX8_stands 2 (some .int) ({ frames := 5, cells := 0, slots := 0, locals := 111 } : Room) false false 0 (fun _ => 0) 61 (bX8_stands_61) := ⟨_, ⟨sn_ldc dX8_stands_61 zw_4_65, sm_const _⟩, ⟨_, ⟨sn_ri (len := 1) dX8_stands_63 rfl, sm_ri⟩, trivial⟩⟩
theorem kX8_stands : ∀ pc, sx_BK sx_tb yX8_stands.cls cX8_stands 2 (some .int) ({ frames := 5, cells := 0, slots := 0, locals := 111 } : Room) false false 0 (fun _ => 0) pc (BX8_stands pc) := fun pc => sx_bk_if (kX8_stands_0) (sx_bk_if (kX8_stands_15) (sx_bk_if (kX8_stands_18) (sx_bk_if (kX8_stands_55) (sx_bk_if (kX8_stands_61) (trivial)))))
theorem okX8_stands : sx_ok sx_tb BX8_stands (yX8_stands, cX8_stands, 2, some .int, { frames := 5, cells := 0, slots := 0, locals := 111 }) := ⟨by decide, by decide +kernel, false, (fun h => by cases h), kX8_stands⟩
theorem dX8_dear_0 : decode cX8_dear 0 = .ok (.aload_n 0, 1) := by decide +kernel
theorem dX8_dear_1 : decode cX8_dear 1 = .ok (.iconst 0, 1) := by decide +kernel
theorem dX8_dear_2 : decode cX8_dear 2 = .ok (.putfield 44, 3) := by decide +kernel
theorem dX8_dear_5 : decode cX8_dear 5 = .ok (.aload_n 0, 1) := by decide +kernel
theorem dX8_dear_6 : decode cX8_dear 6 = .ok (.invokevirtual 172, 3) := by decide +kernel
theorem dX8_dear_9 : decode cX8_dear 9 = .ok (.ifCond .ne 6, 3) := by decide +kernel
theorem dX8_dear_12 : decode cX8_dear 12 = .ok (.ldc 175, 2) := by decide +kernel
theorem dX8_dear_14 : decode cX8_dear 14 = .ok (.ireturn, 1) := by decide +kernel
theorem dX8_dear_15 : decode cX8_dear 15 = .ok (.iload_n 1, 1) := by decide +kernel
theorem dX8_dear_16 : decode cX8_dear 16 = .ok (.i2l, 1) := by decide +kernel
theorem dX8_dear_17 : decode cX8_dear 17 = .ok (.lconst 1, 1) := by decide +kernel
theorem dX8_dear_18 : decode cX8_dear 18 = .ok (.ldc2_w 195, 3) := by decide +kernel
theorem dX8_dear_21 : decode cX8_dear 21 = .ok (.invokestatic 54, 3) := by decide +kernel
theorem dX8_dear_24 : decode cX8_dear 24 = .ok (.ifCond .ne 6, 3) := by decide +kernel
theorem dX8_dear_27 : decode cX8_dear 27 = .ok (.ldc 64, 2) := by decide +kernel
theorem dX8_dear_29 : decode cX8_dear 29 = .ok (.ireturn, 1) := by decide +kernel
theorem dX8_dear_30 : decode cX8_dear 30 = .ok (.iconst 0, 1) := by decide +kernel
theorem dX8_dear_31 : decode cX8_dear 31 = .ok (.istore_n 2, 1) := by decide +kernel
theorem dX8_dear_32 : decode cX8_dear 32 = .ok (.iload_n 2, 1) := by decide +kernel
theorem dX8_dear_33 : decode cX8_dear 33 = .ok (.bipush 21, 2) := by decide +kernel
theorem dX8_dear_35 : decode cX8_dear 35 = .ok (.if_icmp .ge 40, 3) := by decide +kernel
theorem dX8_dear_38 : decode cX8_dear 38 = .ok (.aload_n 0, 1) := by decide +kernel
theorem dX8_dear_39 : decode cX8_dear 39 = .ok (.invokevirtual 197, 3) := by decide +kernel
theorem dX8_dear_42 : decode cX8_dear 42 = .ok (.aload_n 0, 1) := by decide +kernel
theorem dX8_dear_43 : decode cX8_dear 43 = .ok (.getfield 25, 3) := by decide +kernel
theorem dX8_dear_46 : decode cX8_dear 46 = .ok (.iconst 2, 1) := by decide +kernel
theorem dX8_dear_47 : decode cX8_dear 47 = .ok (.iload_n 2, 1) := by decide +kernel
theorem dX8_dear_48 : decode cX8_dear 48 = .ok (.iastore, 1) := by decide +kernel
theorem dX8_dear_49 : decode cX8_dear 49 = .ok (.aload_n 0, 1) := by decide +kernel
theorem dX8_dear_50 : decode cX8_dear 50 = .ok (.getfield 25, 3) := by decide +kernel
theorem dX8_dear_53 : decode cX8_dear 53 = .ok (.iload_n 1, 1) := by decide +kernel
theorem dX8_dear_54 : decode cX8_dear 54 = .ok (.invokestatic 200, 3) := by decide +kernel
theorem dX8_dear_57 : decode cX8_dear 57 = .ok (.aload_n 0, 1) := by decide +kernel
theorem dX8_dear_58 : decode cX8_dear 58 = .ok (.getfield 25, 3) := by decide +kernel
theorem dX8_dear_61 : decode cX8_dear 61 = .ok (.bipush 8, 2) := by decide +kernel
theorem dX8_dear_63 : decode cX8_dear 63 = .ok (.iaload, 1) := by decide +kernel
theorem dX8_dear_64 : decode cX8_dear 64 = .ok (.ifCond .ne 5, 3) := by decide +kernel
theorem dX8_dear_67 : decode cX8_dear 67 = .ok (.iload_n 2, 1) := by decide +kernel
theorem dX8_dear_68 : decode cX8_dear 68 = .ok (.ireturn, 1) := by decide +kernel
theorem dX8_dear_69 : decode cX8_dear 69 = .ok (.iinc 2 1, 3) := by decide +kernel
theorem dX8_dear_72 : decode cX8_dear 72 = .ok (.goto (-40), 3) := by decide +kernel
theorem dX8_dear_75 : decode cX8_dear 75 = .ok (.ldc 87, 2) := by decide +kernel
theorem dX8_dear_77 : decode cX8_dear 77 = .ok (.ireturn, 1) := by decide +kernel
def bX8_dear_0 : List sx_S := [si_al 0, si_const 0, si_put 7 0 0, si_al 0, si_cv 7 145 0 0 0 0 0, si_if1 (fun x => ¬ x = 0) 15 [true, true, false], si_const (-1000002), si_ri]
def bX8_dear_15 : List sx_S := [si_il 1, si_i2l, si_lconst 1, si_lconst (lN 60), si_cs 124 3 0 0 0 0, si_if1 (fun x => ¬ x = 0) 30 [true, true, false], si_const (-1000001), si_ri]
def bX8_dear_30 : List sx_S := [si_const 0, si_is 2, si_go 32 [true, true, true]]
def bX8_dear_32 : List sx_S := [si_il 2, si_const (nI 21), si_if2 (fun x y => y ≤ x) 75 [false, false, false], si_al 0, si_cv 7 155 0 0 0 0 0, si_al 0, si_get 7 7, si_const (nI 2), si_il 2, si_iast, si_al 0, si_get 7 7, si_il 1, si_cs 154 2 0 0 0 0, si_al 0, si_get 7 7, si_const (nI 8), si_iald, si_if1 (fun x => ¬ x = 0) 69 [true, true, true], si_il 2, si_ri]
def bX8_dear_69 : List sx_S := [si_inc 2 1, si_go 32 [true, true, true]]
def bX8_dear_75 : List sx_S := [si_const (-1000000), si_ri]
def BX8_dear : Nat → List sx_S := fun pc => if pc = 0 then bX8_dear_0 else if pc = 15 then bX8_dear_15 else if pc = 30 then bX8_dear_30 else if pc = 32 then bX8_dear_32 else if pc = 69 then bX8_dear_69 else if pc = 75 then bX8_dear_75 else []
set_option maxRecDepth 20000 in
theorem kX8_dear_0 : sx_BK sx_tb yX8_dear.cls cX8_dear 3 (some .int) ({ frames := 5, cells := 0, slots := 0, locals := 111 } : Room) false false 0 (fun _ => 0) 0 (bX8_dear_0) := ⟨_, ⟨sn_aload_n dX8_dear_0 rfl, sm_al _⟩, ⟨_, ⟨sn_iconst dX8_dear_1 (by decide +kernel), sm_const _⟩, ⟨_, ⟨sn_put (C := RX8) (T := TX8) (N := 23) dX8_dear_2 rfl zinX8 tyX8_ok nmX8 (Nat.le_of_ble_eq_true rfl) zw_3_182 rfl (tyX8_ok 0 (Nat.le_of_ble_eq_true rfl)) trivial, sm_put _ _ _⟩, ⟨_, ⟨sn_aload_n dX8_dear_5 rfl, sm_al _⟩, ⟨_, ⟨sn_cv_z (N := 23) (T := TX8) ztb_X8_isThere dX8_dear_6 rfl rfl zw_4_110 zw_4_112 zw_0_45 zw_1_8 zw_4_113 zmh_X8 zpd_X8_isThere (Nat.le_of_ble_eq_true rfl) (Nat.le_of_ble_eq_true rfl) rfl rfl, sm_cv _ _ _ _ _ _ _⟩, ⟨_, ⟨sn_if_ne dX8_dear_9 (by decide +kernel) rfl, sm_if1 _ _ _⟩, ⟨_, ⟨sn_ldc dX8_dear_12 zw_4_114, sm_const _⟩, ⟨_, ⟨sn_ri (len := 1) dX8_dear_14 rfl, sm_ri⟩, trivial⟩⟩⟩⟩⟩⟩⟩⟩
set_option maxRecDepth 20000 in
theorem kX8_dear_15 : sx_BK sx_tb yX8_dear.cls cX8_dear 3 (some .int) ({ frames := 5, cells := 0, slots := 0, locals := 111 } : Room) false false 0 (fun _ => 0) 15 (bX8_dear_15) := ⟨_, ⟨sn_iload_n dX8_dear_15 rfl, sm_il _⟩, ⟨_, ⟨sn_i2l dX8_dear_16, sm_i2l⟩, ⟨_, ⟨sn_lconst dX8_dear_17 (by decide +kernel), sm_lconst _⟩, ⟨_, ⟨sn_ldc2 dX8_dear_18 zw_4_185, sm_lconst _⟩, ⟨_, ⟨sn_cs_z ztb_X8_in dX8_dear_21 zw_4_21 zw_4_22 zw_1_8 zw_4_23 zmh_X8 zpd_X8_in (Nat.le_of_ble_eq_true rfl) (Nat.le_of_ble_eq_true rfl) rfl rfl, sm_cs _ _ _ _ _ _⟩, ⟨_, ⟨sn_if_ne dX8_dear_24 (by decide +kernel) rfl, sm_if1 _ _ _⟩, ⟨_, ⟨sn_ldc dX8_dear_27 zw_4_25, sm_const _⟩, ⟨_, ⟨sn_ri (len := 1) dX8_dear_29 rfl, sm_ri⟩, trivial⟩⟩⟩⟩⟩⟩⟩⟩
set_option maxRecDepth 20000 in
theorem kX8_dear_30 : sx_BK sx_tb yX8_dear.cls cX8_dear 3 (some .int) ({ frames := 5, cells := 0, slots := 0, locals := 111 } : Room) false false 0 (fun _ => 0) 30 (bX8_dear_30) := ⟨_, ⟨sn_iconst dX8_dear_30 (by decide +kernel), sm_const _⟩, ⟨_, ⟨sn_istore_n dX8_dear_31 rfl (Nat.le_of_ble_eq_true rfl), sm_is _⟩, ⟨_, ⟨sn_fall (len := 0) rfl rfl, sm_go _ _⟩, trivial⟩⟩⟩
set_option maxRecDepth 20000 in
theorem kX8_dear_32 : sx_BK sx_tb yX8_dear.cls cX8_dear 3 (some .int) ({ frames := 5, cells := 0, slots := 0, locals := 111 } : Room) false false 0 (fun _ => 0) 32 (bX8_dear_32) := ⟨_, ⟨sn_iload_n dX8_dear_32 rfl, sm_il _⟩, ⟨_, ⟨sn_bipush dX8_dear_33 (by decide +kernel), sm_const _⟩, ⟨_, ⟨sn_ic_ge dX8_dear_35 (by decide +kernel) rfl, sm_if2 _ _ _⟩, ⟨_, ⟨sn_aload_n dX8_dear_38 rfl, sm_al _⟩, ⟨_, ⟨sn_cv_v (N := 23) (T := TX8) ztb_X8_layThen dX8_dear_39 rfl rfl zw_4_186 zw_4_188 zw_0_48 zw_1_8 zw_4_189 zmh_X8 zpd_X8_layThen (Nat.le_of_ble_eq_true rfl) (Nat.le_of_ble_eq_true rfl) rfl rfl, sm_cv _ _ _ _ _ _ _⟩, ⟨_, ⟨sn_aload_n dX8_dear_42 rfl, sm_al _⟩, ⟨_, ⟨sn_get (C := RX8) (T := TX8) (N := 23) dX8_dear_43 rfl zinX8 (Nat.le_of_ble_eq_true rfl) zw_3_189, sm_get _ _⟩, ⟨_, ⟨sn_iconst dX8_dear_46 (by decide +kernel), sm_const _⟩, ⟨_, ⟨sn_iload_n dX8_dear_47 rfl, sm_il _⟩, ⟨_, ⟨sn_iast dX8_dear_48, sm_iast⟩, ⟨_, ⟨sn_aload_n dX8_dear_49 rfl, sm_al _⟩, ⟨_, ⟨sn_get (C := RX8) (T := TX8) (N := 23) dX8_dear_50 rfl zinX8 (Nat.le_of_ble_eq_true rfl) zw_3_189, sm_get _ _⟩, ⟨_, ⟨sn_iload_n dX8_dear_53 rfl, sm_il _⟩, ⟨_, ⟨sn_cs_v ztb_X8_weeksOf dX8_dear_54 zw_4_190 zw_4_191 zw_1_8 zw_4_192 zmh_X8 zpd_X8_weeksOf (Nat.le_of_ble_eq_true rfl) (Nat.le_of_ble_eq_true rfl) rfl rfl, sm_cs _ _ _ _ _ _⟩, ⟨_, ⟨sn_aload_n dX8_dear_57 rfl, sm_al _⟩, ⟨_, ⟨sn_get (C := RX8) (T := TX8) (N := 23) dX8_dear_58 rfl zinX8 (Nat.le_of_ble_eq_true rfl) zw_3_189, sm_get _ _⟩, ⟨_, ⟨sn_bipush dX8_dear_61 (by decide +kernel), sm_const _⟩, ⟨_, ⟨sn_iald dX8_dear_63, sm_iald⟩, ⟨_, ⟨sn_if_ne dX8_dear_64 (by decide +kernel) rfl, sm_if1 _ _ _⟩, ⟨_, ⟨sn_iload_n dX8_dear_67 rfl, sm_il _⟩, ⟨_, ⟨sn_ri (len := 1) dX8_dear_68 rfl, sm_ri⟩, trivial⟩⟩⟩⟩⟩⟩⟩⟩⟩⟩⟩⟩⟩⟩⟩⟩⟩⟩⟩⟩⟩
set_option maxRecDepth 20000 in
theorem kX8_dear_69 : sx_BK sx_tb yX8_dear.cls cX8_dear 3 (some .int) ({ frames := 5, cells := 0, slots := 0, locals := 111 } : Room) false false 0 (fun _ => 0) 69 (bX8_dear_69) := ⟨_, ⟨sn_iinc dX8_dear_69 (by decide +kernel) (Nat.le_of_ble_eq_true rfl), sm_inc _ _⟩, ⟨_, ⟨sn_goto (len := 3) dX8_dear_72 (by decide +kernel) rfl, sm_go _ _⟩, trivial⟩⟩
set_option maxRecDepth 20000 in
theorem kX8_dear_75 : sx_BK sx_tb yX8_dear.cls cX8_dear 3 (some .int) ({ frames := 5, cells := 0, slots := 0, locals := 111 } : Room) false false 0 (fun _ => 0) 75 (bX8_dear_75) := ⟨_, ⟨sn_ldc dX8_dear_75 zw_4_65, sm_const _⟩, ⟨_, ⟨sn_ri (len := 1) dX8_dear_77 rfl, sm_ri⟩, trivial⟩⟩
theorem kX8_dear : ∀ pc, sx_BK sx_tb yX8_dear.cls cX8_dear 3 (some .int) ({ frames := 5, cells := 0, slots := 0, locals := 111 } : Room) false false 0 (fun _ => 0) pc (BX8_dear pc) := fun pc => sx_bk_if (kX8_dear_0) (sx_bk_if (kX8_dear_15) (sx_bk_if (kX8_dear_30) (sx_bk_if (kX8_dear_32) (sx_bk_if (kX8_dear_69) (sx_bk_if (kX8_dear_75) (trivial))))))
theorem okX8_dear : sx_ok sx_tb BX8_dear (yX8_dear, cX8_dear, 3, some .int, { frames := 5, cells := 0, slots := 0, locals := 111 }) := ⟨by decide, by decide +kernel, false, (fun h => by cases h), kX8_dear⟩
theorem dX8_rogue_0 : decode cX8_rogue 0 = .ok (.aload_n 0, 1) := by decide +kernel
theorem dX8_rogue_1 : decode cX8_rogue 1 = .ok (.iconst 0, 1) := by decide +kernel
theorem dX8_rogue_2 : decode cX8_rogue 2 = .ok (.putfield 44, 3) := by decide +kernel
theorem dX8_rogue_5 : decode cX8_rogue 5 = .ok (.aload_n 0, 1) := by decide +kernel
theorem dX8_rogue_6 : decode cX8_rogue 6 = .ok (.iload_n 1, 1) := by decide +kernel
theorem dX8_rogue_7 : decode cX8_rogue 7 = .ok (.invokevirtual 181, 3) := by decide +kernel
theorem dX8_rogue_10 : decode cX8_rogue 10 = .ok (.ifCond .eq 25, 3) := by decide +kernel
theorem dX8_rogue_13 : decode cX8_rogue 13 = .ok (.iload_n 2, 1) := by decide +kernel
theorem dX8_rogue_14 : decode cX8_rogue 14 = .ok (.i2l, 1) := by decide +kernel
theorem dX8_rogue_15 : decode cX8_rogue 15 = .ok (.lconst 1, 1) := by decide +kernel
theorem dX8_rogue_16 : decode cX8_rogue 16 = .ok (.ldc2_w 195, 3) := by decide +kernel
theorem dX8_rogue_19 : decode cX8_rogue 19 = .ok (.invokestatic 54, 3) := by decide +kernel
theorem dX8_rogue_22 : decode cX8_rogue 22 = .ok (.ifCond .eq 13, 3) := by decide +kernel
theorem dX8_rogue_25 : decode cX8_rogue 25 = .ok (.iload_n 3, 1) := by decide +kernel
theorem dX8_rogue_26 : decode cX8_rogue 26 = .ok (.i2l, 1) := by decide +kernel
theorem dX8_rogue_27 : decode cX8_rogue 27 = .ok (.lconst 0, 1) := by decide +kernel
theorem dX8_rogue_28 : decode cX8_rogue 28 = .ok (.lconst 1, 1) := by decide +kernel
theorem dX8_rogue_29 : decode cX8_rogue 29 = .ok (.invokestatic 54, 3) := by decide +kernel
theorem dX8_rogue_32 : decode cX8_rogue 32 = .ok (.ifCond .ne 6, 3) := by decide +kernel
theorem dX8_rogue_35 : decode cX8_rogue 35 = .ok (.ldc 64, 2) := by decide +kernel
theorem dX8_rogue_37 : decode cX8_rogue 37 = .ok (.ireturn, 1) := by decide +kernel
theorem dX8_rogue_38 : decode cX8_rogue 38 = .ok (.aload_n 0, 1) := by decide +kernel
theorem dX8_rogue_39 : decode cX8_rogue 39 = .ok (.getfield 19, 3) := by decide +kernel
theorem dX8_rogue_42 : decode cX8_rogue 42 = .ok (.iload_n 1, 1) := by decide +kernel
theorem dX8_rogue_43 : decode cX8_rogue 43 = .ok (.invokestatic 157, 3) := by decide +kernel
theorem dX8_rogue_46 : decode cX8_rogue 46 = .ok (.ifCond .eq 6, 3) := by decide +kernel
theorem dX8_rogue_49 : decode cX8_rogue 49 = .ok (.ldc 175, 2) := by decide +kernel
theorem dX8_rogue_51 : decode cX8_rogue 51 = .ok (.ireturn, 1) := by decide +kernel
theorem dX8_rogue_52 : decode cX8_rogue 52 = .ok (.aload_n 0, 1) := by decide +kernel
theorem dX8_rogue_53 : decode cX8_rogue 53 = .ok (.getfield 19, 3) := by decide +kernel
theorem dX8_rogue_56 : decode cX8_rogue 56 = .ok (.iload_n 1, 1) := by decide +kernel
theorem dX8_rogue_57 : decode cX8_rogue 57 = .ok (.bipush 8, 2) := by decide +kernel
theorem dX8_rogue_59 : decode cX8_rogue 59 = .ok (.invokestatic 146, 3) := by decide +kernel
theorem dX8_rogue_62 : decode cX8_rogue 62 = .ok (.aload_n 0, 1) := by decide +kernel
theorem dX8_rogue_63 : decode cX8_rogue 63 = .ok (.getfield 19, 3) := by decide +kernel
theorem dX8_rogue_66 : decode cX8_rogue 66 = .ok (.iload_n 1, 1) := by decide +kernel
theorem dX8_rogue_67 : decode cX8_rogue 67 = .ok (.bipush 7, 2) := by decide +kernel
theorem dX8_rogue_69 : decode cX8_rogue 69 = .ok (.invokestatic 146, 3) := by decide +kernel
theorem dX8_rogue_72 : decode cX8_rogue 72 = .ok (.isub, 1) := by decide +kernel
theorem dX8_rogue_73 : decode cX8_rogue 73 = .ok (.istore 4, 2) := by decide +kernel
theorem dX8_rogue_75 : decode cX8_rogue 75 = .ok (.ldc 87, 2) := by decide +kernel
theorem dX8_rogue_77 : decode cX8_rogue 77 = .ok (.istore 5, 2) := by decide +kernel
theorem dX8_rogue_79 : decode cX8_rogue 79 = .ok (.iconst 0, 1) := by decide +kernel
theorem dX8_rogue_80 : decode cX8_rogue 80 = .ok (.istore 6, 2) := by decide +kernel
theorem dX8_rogue_82 : decode cX8_rogue 82 = .ok (.iconst 0, 1) := by decide +kernel
theorem dX8_rogue_83 : decode cX8_rogue 83 = .ok (.istore 7, 2) := by decide +kernel
theorem dX8_rogue_85 : decode cX8_rogue 85 = .ok (.iload 7, 2) := by decide +kernel
theorem dX8_rogue_87 : decode cX8_rogue 87 = .ok (.bipush 100, 2) := by decide +kernel
theorem dX8_rogue_89 : decode cX8_rogue 89 = .ok (.if_icmp .ge 127, 3) := by decide +kernel
theorem dX8_rogue_92 : decode cX8_rogue 92 = .ok (.aload_n 0, 1) := by decide +kernel
theorem dX8_rogue_93 : decode cX8_rogue 93 = .ok (.invokevirtual 197, 3) := by decide +kernel
theorem dX8_rogue_96 : decode cX8_rogue 96 = .ok (.aload_n 0, 1) := by decide +kernel
theorem dX8_rogue_97 : decode cX8_rogue 97 = .ok (.getfield 25, 3) := by decide +kernel
theorem dX8_rogue_100 : decode cX8_rogue 100 = .ok (.bipush 10, 2) := by decide +kernel
theorem dX8_rogue_102 : decode cX8_rogue 102 = .ok (.bipush 9, 2) := by decide +kernel
theorem dX8_rogue_104 : decode cX8_rogue 104 = .ok (.iload_n 1, 1) := by decide +kernel
theorem dX8_rogue_105 : decode cX8_rogue 105 = .ok (.imul, 1) := by decide +kernel
theorem dX8_rogue_106 : decode cX8_rogue 106 = .ok (.iadd, 1) := by decide +kernel
theorem dX8_rogue_107 : decode cX8_rogue 107 = .ok (.iconst 3, 1) := by decide +kernel
theorem dX8_rogue_108 : decode cX8_rogue 108 = .ok (.iadd, 1) := by decide +kernel
theorem dX8_rogue_109 : decode cX8_rogue 109 = .ok (.iload 7, 2) := by decide +kernel
theorem dX8_rogue_111 : decode cX8_rogue 111 = .ok (.iastore, 1) := by decide +kernel
theorem dX8_rogue_112 : decode cX8_rogue 112 = .ok (.aload_n 0, 1) := by decide +kernel
theorem dX8_rogue_113 : decode cX8_rogue 113 = .ok (.getfield 25, 3) := by decide +kernel
theorem dX8_rogue_116 : decode cX8_rogue 116 = .ok (.bipush 10, 2) := by decide +kernel
theorem dX8_rogue_118 : decode cX8_rogue 118 = .ok (.bipush 9, 2) := by decide +kernel
theorem dX8_rogue_120 : decode cX8_rogue 120 = .ok (.iload_n 1, 1) := by decide +kernel
theorem dX8_rogue_121 : decode cX8_rogue 121 = .ok (.imul, 1) := by decide +kernel
theorem dX8_rogue_122 : decode cX8_rogue 122 = .ok (.iadd, 1) := by decide +kernel
theorem dX8_rogue_123 : decode cX8_rogue 123 = .ok (.iconst 0, 1) := by decide +kernel
theorem dX8_rogue_124 : decode cX8_rogue 124 = .ok (.iadd, 1) := by decide +kernel
theorem dX8_rogue_125 : decode cX8_rogue 125 = .ok (.iconst 5, 1) := by decide +kernel
theorem dX8_rogue_126 : decode cX8_rogue 126 = .ok (.iastore, 1) := by decide +kernel
theorem dX8_rogue_127 : decode cX8_rogue 127 = .ok (.aload_n 0, 1) := by decide +kernel
theorem dX8_rogue_128 : decode cX8_rogue 128 = .ok (.getfield 25, 3) := by decide +kernel
theorem dX8_rogue_131 : decode cX8_rogue 131 = .ok (.iload_n 2, 1) := by decide +kernel
theorem dX8_rogue_132 : decode cX8_rogue 132 = .ok (.invokestatic 200, 3) := by decide +kernel
theorem dX8_rogue_135 : decode cX8_rogue 135 = .ok (.aload_n 0, 1) := by decide +kernel
theorem dX8_rogue_136 : decode cX8_rogue 136 = .ok (.getfield 25, 3) := by decide +kernel
theorem dX8_rogue_139 : decode cX8_rogue 139 = .ok (.iload_n 1, 1) := by decide +kernel
theorem dX8_rogue_140 : decode cX8_rogue 140 = .ok (.bipush 8, 2) := by decide +kernel
theorem dX8_rogue_142 : decode cX8_rogue 142 = .ok (.invokestatic 146, 3) := by decide +kernel
theorem dX8_rogue_145 : decode cX8_rogue 145 = .ok (.aload_n 0, 1) := by decide +kernel
theorem dX8_rogue_146 : decode cX8_rogue 146 = .ok (.getfield 25, 3) := by decide +kernel
theorem dX8_rogue_149 : decode cX8_rogue 149 = .ok (.iload_n 1, 1) := by decide +kernel
theorem dX8_rogue_150 : decode cX8_rogue 150 = .ok (.bipush 7, 2) := by decide +kernel
theorem dX8_rogue_152 : decode cX8_rogue 152 = .ok (.invokestatic 146, 3) := by decide +kernel
theorem dX8_rogue_155 : decode cX8_rogue 155 = .ok (.isub, 1) := by decide +kernel
theorem dX8_rogue_156 : decode cX8_rogue 156 = .ok (.iload 4, 2) := by decide +kernel
theorem dX8_rogue_158 : decode cX8_rogue 158 = .ok (.isub, 1) := by decide +kernel
theorem dX8_rogue_159 : decode cX8_rogue 159 = .ok (.istore 8, 2) := by decide +kernel
theorem dX8_rogue_161 : decode cX8_rogue 161 = .ok (.iload 5, 2) := by decide +kernel
theorem dX8_rogue_163 : decode cX8_rogue 163 = .ok (.ldc 87, 2) := by decide +kernel
theorem dX8_rogue_165 : decode cX8_rogue 165 = .ok (.if_icmp .eq 10, 3) := by decide +kernel
theorem dX8_rogue_168 : decode cX8_rogue 168 = .ok (.iload 8, 2) := by decide +kernel
theorem dX8_rogue_170 : decode cX8_rogue 170 = .ok (.iload 6, 2) := by decide +kernel
theorem dX8_rogue_172 : decode cX8_rogue 172 = .ok (.if_icmp .le 7, 3) := by decide +kernel
theorem dX8_rogue_175 : decode cX8_rogue 175 = .ok (.iconst 1, 1) := by decide +kernel
theorem dX8_rogue_176 : decode cX8_rogue 176 = .ok (.goto 4, 3) := by decide +kernel
theorem dX8_rogue_179 : decode cX8_rogue 179 = .ok (.iconst 0, 1) := by decide +kernel
theorem dX8_rogue_180 : decode cX8_rogue 180 = .ok (.istore 9, 2) := by decide +kernel
theorem dX8_rogue_182 : decode cX8_rogue 182 = .ok (.iload 9, 2) := by decide +kernel
theorem dX8_rogue_184 : decode cX8_rogue 184 = .ok (.ifCond .eq 8, 3) := by decide +kernel
theorem dX8_rogue_187 : decode cX8_rogue 187 = .ok (.iload 7, 2) := by decide +kernel
theorem dX8_rogue_189 : decode cX8_rogue 189 = .ok (.goto 5, 3) := by decide +kernel
theorem dX8_rogue_192 : decode cX8_rogue 192 = .ok (.iload 5, 2) := by decide +kernel
theorem dX8_rogue_194 : decode cX8_rogue 194 = .ok (.istore 5, 2) := by decide +kernel
theorem dX8_rogue_196 : decode cX8_rogue 196 = .ok (.iload 9, 2) := by decide +kernel
theorem dX8_rogue_198 : decode cX8_rogue 198 = .ok (.ifCond .eq 8, 3) := by decide +kernel
theorem dX8_rogue_201 : decode cX8_rogue 201 = .ok (.iload 8, 2) := by decide +kernel
theorem dX8_rogue_203 : decode cX8_rogue 203 = .ok (.goto 5, 3) := by decide +kernel
theorem dX8_rogue_206 : decode cX8_rogue 206 = .ok (.iload 6, 2) := by decide +kernel
theorem dX8_rogue_208 : decode cX8_rogue 208 = .ok (.istore 6, 2) := by decide +kernel
theorem dX8_rogue_210 : decode cX8_rogue 210 = .ok (.iinc 7 1, 3) := by decide +kernel
theorem dX8_rogue_213 : decode cX8_rogue 213 = .ok (.goto (-128), 3) := by decide +kernel
theorem dX8_rogue_216 : decode cX8_rogue 216 = .ok (.iload_n 3, 1) := by decide +kernel
theorem dX8_rogue_217 : decode cX8_rogue 217 = .ok (.ifCond .ne 8, 3) := by decide +kernel
theorem dX8_rogue_220 : decode cX8_rogue 220 = .ok (.iload 5, 2) := by decide +kernel
theorem dX8_rogue_222 : decode cX8_rogue 222 = .ok (.goto 5, 3) := by decide +kernel
theorem dX8_rogue_225 : decode cX8_rogue 225 = .ok (.iload 6, 2) := by decide +kernel
theorem dX8_rogue_227 : decode cX8_rogue 227 = .ok (.ireturn, 1) := by decide +kernel
def bX8_rogue_0 : List sx_S := [si_al 0, si_const 0, si_put 7 0 0, si_al 0, si_il 1, si_cv 7 146 1 0 0 0 0, si_if1 (fun x => x = 0) 35 [false, false, false, false, false, false, false, false, false, false], si_il 2, si_i2l, si_lconst 1, si_lconst (lN 60), si_cs 124 3 0 0 0 0, si_if1 (fun x => x = 0) 35 [false, false, false, false, false, false, false, false, false, false], si_il 3, si_i2l, si_lconst 0, si_lconst 1, si_cs 124 3 0 0 0 0, si_if1 (fun x => ¬ x = 0) 38 [true, true, true, true, false, false, false, false, false, false], si_go 35 [false, false, false, false, false, false, false, false, false, false]]
def bX8_rogue_35 : List sx_S := [si_const (-1000001), si_ri]
def bX8_rogue_38 : List sx_S := [si_al 0, si_get 7 5, si_il 1, si_cs 148 2 0 0 0 0, si_if1 (fun x => x = 0) 52 [true, true, true, true, false, false, false, false, false, false], si_const (-1000002), si_ri]
def bX8_rogue_52 : List sx_S := [si_al 0, si_get 7 5, si_il 1, si_const (nI 8), si_cs 147 3 0 0 0 0, si_al 0, si_get 7 5, si_il 1, si_const (nI 7), si_cs 147 3 0 0 0 0, si_bin (fun x y => x - y), si_is 4, si_const (-1000000), si_is 5, si_const 0, si_is 6, si_const 0, si_is 7, si_go 85 [true, true, true, true, true, true, true, true, false, false]]
def bX8_rogue_85 : List sx_S := [si_il 7, si_const (nI 100), si_if2 (fun x y => y ≤ x) 216 [false, false, false, true, false, true, true, false, false, false], si_al 0, si_cv 7 155 0 0 0 0 0, si_al 0, si_get 7 7, si_const (nI 10), si_const (nI 9), si_il 1, si_bin (fun x y => x * y), si_bin (fun x y => x + y), si_const (nI 3), si_bin (fun x y => x + y), si_il 7, si_iast, si_al 0, si_get 7 7, si_const (nI 10), si_const (nI 9), si_il 1, si_bin (fun x y => x * y), si_bin (fun x y => x + y), si_const 0, si_bin (fun x y => x + y), si_const (nI 5), si_iast, si_al 0, si_get 7 7, si_il 2, si_cs 154 2 0 0 0 0, si_al 0, si_get 7 7, si_il 1, si_const (nI 8), si_cs 147 3 0 0 0 0, si_al 0, si_get 7 7, si_il 1, si_const (nI 7), si_cs 147 3 0 0 0 0, si_bin (fun x y => x - y), si_il 4, si_bin (fun x y => x - y), si_is 8, si_il 5, si_const (-1000000), si_if2 (fun x y => x = y) 175 [true, true, true, true, true, true, true, true, true, false], si_il 8, si_il 6, si_if2 (fun x y => x ≤ y) 179 [true, true, true, true, true, true, true, true, true, false], si_go 175 [true, true, true, true, true, true, true, true, true, false]]
def bX8_rogue_175 : List sx_S := [si_const 1, si_go 180 [true, true, true, true, true, true, true, true, true, false]]
def bX8_rogue_179 : List sx_S := [si_const 0, si_go 180 [true, true, true, true, true, true, true, true, true, false]]
def bX8_rogue_180 : List sx_S := [si_is 9, si_il 9, si_if1 (fun x => x = 0) 192 [true, true, true, true, true, true, true, true, true, true], si_il 7, si_go 194 [true, true, true, true, true, false, true, true, true, true]]
def bX8_rogue_192 : List sx_S := [si_il 5, si_go 194 [true, true, true, true, true, false, true, true, true, true]]
def bX8_rogue_194 : List sx_S := [si_is 5, si_il 9, si_if1 (fun x => x = 0) 206 [true, true, true, true, true, true, true, true, false, false], si_il 8, si_go 208 [true, true, true, true, true, true, false, true, false, false]]
def bX8_rogue_206 : List sx_S := [si_il 6, si_go 208 [true, true, true, true, true, true, false, true, false, false]]
def bX8_rogue_208 : List sx_S := [si_is 6, si_inc 7 1, si_go 85 [true, true, true, true, true, true, true, true, false, false]]
def bX8_rogue_216 : List sx_S := [si_il 3, si_if1 (fun x => ¬ x = 0) 225 [false, false, false, false, false, false, true, false, false, false], si_il 5, si_go 227 [false, false, false, false, false, false, false, false, false, false]]
def bX8_rogue_225 : List sx_S := [si_il 6, si_go 227 [false, false, false, false, false, false, false, false, false, false]]
def bX8_rogue_227 : List sx_S := [si_ri]
def BX8_rogue : Nat → List sx_S := fun pc => if pc = 0 then bX8_rogue_0 else if pc = 35 then bX8_rogue_35 else if pc = 38 then bX8_rogue_38 else if pc = 52 then bX8_rogue_52 else if pc = 85 then bX8_rogue_85 else if pc = 175 then bX8_rogue_175 else if pc = 179 then bX8_rogue_179 else if pc = 180 then bX8_rogue_180 else if pc = 192 then bX8_rogue_192 else if pc = 194 then bX8_rogue_194 else if pc = 206 then bX8_rogue_206 else if pc = 208 then bX8_rogue_208 else if pc = 216 then bX8_rogue_216 else if pc = 225 then bX8_rogue_225 else if pc = 227 then bX8_rogue_227 else []
set_option maxRecDepth 20000 in
theorem kX8_rogue_0 : sx_BK sx_tb yX8_rogue.cls cX8_rogue 10 (some .int) ({ frames := 5, cells := 0, slots := 0, locals := 111 } : Room) false false 0 (fun _ => 0) 0 (bX8_rogue_0) := ⟨_, ⟨sn_aload_n dX8_rogue_0 rfl, sm_al _⟩, ⟨_, ⟨sn_iconst dX8_rogue_1 (by decide +kernel), sm_const _⟩, ⟨_, ⟨sn_put (C := RX8) (T := TX8) (N := 23) dX8_rogue_2 rfl zinX8 tyX8_ok nmX8 (Nat.le_of_ble_eq_true rfl) zw_3_182 rfl (tyX8_ok 0 (Nat.le_of_ble_eq_true rfl)) trivial, sm_put _ _ _⟩, ⟨_, ⟨sn_aload_n dX8_rogue_5 rfl, sm_al _⟩, ⟨_, ⟨sn_iload_n dX8_rogue_6 rfl, sm_il _⟩, ⟨_, ⟨sn_cv_z (N := 23) (T := TX8) ztb_X8_isDebtor dX8_rogue_7 rfl rfl zw_4_145 zw_4_147 zw_0_47 zw_1_8 zw_4_148 zmh_X8 zpd_X8_isDebtor (Nat.le_of_ble_eq_true rfl) (Nat.le_of_ble_eq_true rfl) rfl rfl, sm_cv _ _ _ _ _ _ _⟩, ⟨_, ⟨sn_if_eq dX8_rogue_10 (by decide +kernel) rfl, sm_if1 _ _ _⟩, ⟨_, ⟨sn_iload_n dX8_rogue_13 rfl, sm_il _⟩, ⟨_, ⟨sn_i2l dX8_rogue_14, sm_i2l⟩, ⟨_, ⟨sn_lconst dX8_rogue_15 (by decide +kernel), sm_lconst _⟩, ⟨_, ⟨sn_ldc2 dX8_rogue_16 zw_4_185, sm_lconst _⟩, ⟨_, ⟨sn_cs_z ztb_X8_in dX8_rogue_19 zw_4_21 zw_4_22 zw_1_8 zw_4_23 zmh_X8 zpd_X8_in (Nat.le_of_ble_eq_true rfl) (Nat.le_of_ble_eq_true rfl) rfl rfl, sm_cs _ _ _ _ _ _⟩, ⟨_, ⟨sn_if_eq dX8_rogue_22 (by decide +kernel) rfl, sm_if1 _ _ _⟩, ⟨_, ⟨sn_iload_n dX8_rogue_25 rfl, sm_il _⟩, ⟨_, ⟨sn_i2l dX8_rogue_26, sm_i2l⟩, ⟨_, ⟨sn_lconst dX8_rogue_27 (by decide +kernel), sm_lconst _⟩, ⟨_, ⟨sn_lconst dX8_rogue_28 (by decide +kernel), sm_lconst _⟩, ⟨_, ⟨sn_cs_z ztb_X8_in dX8_rogue_29 zw_4_21 zw_4_22 zw_1_8 zw_4_23 zmh_X8 zpd_X8_in (Nat.le_of_ble_eq_true rfl) (Nat.le_of_ble_eq_true rfl) rfl rfl, sm_cs _ _ _ _ _ _⟩, ⟨_, ⟨sn_if_ne dX8_rogue_32 (by decide +kernel) rfl, sm_if1 _ _ _⟩, ⟨_, ⟨sn_fall (len := 0) rfl rfl, sm_go _ _⟩, trivial⟩⟩⟩⟩⟩⟩⟩⟩⟩⟩⟩⟩⟩⟩⟩⟩⟩⟩⟩⟩
set_option maxRecDepth 20000 in
theorem kX8_rogue_35 : sx_BK sx_tb yX8_rogue.cls cX8_rogue 10 (some .int) ({ frames := 5, cells := 0, slots := 0, locals := 111 } : Room) false false 0 (fun _ => 0) 35 (bX8_rogue_35) := ⟨_, ⟨sn_ldc dX8_rogue_35 zw_4_25, sm_const _⟩, ⟨_, ⟨sn_ri (len := 1) dX8_rogue_37 rfl, sm_ri⟩, trivial⟩⟩
set_option maxRecDepth 20000 in
theorem kX8_rogue_38 : sx_BK sx_tb yX8_rogue.cls cX8_rogue 10 (some .int) ({ frames := 5, cells := 0, slots := 0, locals := 111 } : Room) false false 0 (fun _ => 0) 38 (bX8_rogue_38) := ⟨_, ⟨sn_aload_n dX8_rogue_38 rfl, sm_al _⟩, ⟨_, ⟨sn_get (C := RX8) (T := TX8) (N := 23) dX8_rogue_39 rfl zinX8 (Nat.le_of_ble_eq_true rfl) zw_3_187, sm_get _ _⟩, ⟨_, ⟨sn_iload_n dX8_rogue_42 rfl, sm_il _⟩, ⟨_, ⟨sn_cs_z ztb_X8_isOut dX8_rogue_43 zw_4_123 zw_4_124 zw_1_8 zw_4_125 zmh_X8 zpd_X8_isOut (Nat.le_of_ble_eq_true rfl) (Nat.le_of_ble_eq_true rfl) rfl rfl, sm_cs _ _ _ _ _ _⟩, ⟨_, ⟨sn_if_eq dX8_rogue_46 (by decide +kernel) rfl, sm_if1 _ _ _⟩, ⟨_, ⟨sn_ldc dX8_rogue_49 zw_4_114, sm_const _⟩, ⟨_, ⟨sn_ri (len := 1) dX8_rogue_51 rfl, sm_ri⟩, trivial⟩⟩⟩⟩⟩⟩⟩
set_option maxRecDepth 20000 in
theorem kX8_rogue_52 : sx_BK sx_tb yX8_rogue.cls cX8_rogue 10 (some .int) ({ frames := 5, cells := 0, slots := 0, locals := 111 } : Room) false false 0 (fun _ => 0) 52 (bX8_rogue_52) := ⟨_, ⟨sn_aload_n dX8_rogue_52 rfl, sm_al _⟩, ⟨_, ⟨sn_get (C := RX8) (T := TX8) (N := 23) dX8_rogue_53 rfl zinX8 (Nat.le_of_ble_eq_true rfl) zw_3_187, sm_get _ _⟩, ⟨_, ⟨sn_iload_n dX8_rogue_56 rfl, sm_il _⟩, ⟨_, ⟨sn_bipush dX8_rogue_57 (by decide +kernel), sm_const _⟩, ⟨_, ⟨sn_cs_i ztb_X8_of dX8_rogue_59 zw_4_126 zw_4_127 zw_1_8 zw_4_128 zmh_X8 zpd_X8_of (Nat.le_of_ble_eq_true rfl) (Nat.le_of_ble_eq_true rfl) rfl rfl, sm_cs _ _ _ _ _ _⟩, ⟨_, ⟨sn_aload_n dX8_rogue_62 rfl, sm_al _⟩, ⟨_, ⟨sn_get (C := RX8) (T := TX8) (N := 23) dX8_rogue_63 rfl zinX8 (Nat.le_of_ble_eq_true rfl) zw_3_187, sm_get _ _⟩, ⟨_, ⟨sn_iload_n dX8_rogue_66 rfl, sm_il _⟩, ⟨_, ⟨sn_bipush dX8_rogue_67 (by decide +kernel), sm_const _⟩, ⟨_, ⟨sn_cs_i ztb_X8_of dX8_rogue_69 zw_4_126 zw_4_127 zw_1_8 zw_4_128 zmh_X8 zpd_X8_of (Nat.le_of_ble_eq_true rfl) (Nat.le_of_ble_eq_true rfl) rfl rfl, sm_cs _ _ _ _ _ _⟩, ⟨_, ⟨sn_isub dX8_rogue_72, sm_bin _⟩, ⟨_, ⟨sn_istore dX8_rogue_73 (Nat.le_of_ble_eq_true rfl), sm_is _⟩, ⟨_, ⟨sn_ldc dX8_rogue_75 zw_4_65, sm_const _⟩, ⟨_, ⟨sn_istore dX8_rogue_77 (Nat.le_of_ble_eq_true rfl), sm_is _⟩, ⟨_, ⟨sn_iconst dX8_rogue_79 (by decide +kernel), sm_const _⟩, ⟨_, ⟨sn_istore dX8_rogue_80 (Nat.le_of_ble_eq_true rfl), sm_is _⟩, ⟨_, ⟨sn_iconst dX8_rogue_82 (by decide +kernel), sm_const _⟩, ⟨_, ⟨sn_istore dX8_rogue_83 (Nat.le_of_ble_eq_true rfl), sm_is _⟩, ⟨_, ⟨sn_fall (len := 0) rfl rfl, sm_go _ _⟩, trivial⟩⟩⟩⟩⟩⟩⟩⟩⟩⟩⟩⟩⟩⟩⟩⟩⟩⟩⟩
set_option maxRecDepth 20000 in
theorem kX8_rogue_85 : sx_BK sx_tb yX8_rogue.cls cX8_rogue 10 (some .int) ({ frames := 5, cells := 0, slots := 0, locals := 111 } : Room) false false 0 (fun _ => 0) 85 (bX8_rogue_85) := ⟨_, ⟨sn_iload dX8_rogue_85, sm_il _⟩, ⟨_, ⟨sn_bipush dX8_rogue_87 (by decide +kernel), sm_const _⟩, ⟨_, ⟨sn_ic_ge dX8_rogue_89 (by decide +kernel) rfl, sm_if2 _ _ _⟩, ⟨_, ⟨sn_aload_n dX8_rogue_92 rfl, sm_al _⟩, ⟨_, ⟨sn_cv_v (N := 23) (T := TX8) ztb_X8_layThen dX8_rogue_93 rfl rfl zw_4_186 zw_4_188 zw_0_48 zw_1_8 zw_4_189 zmh_X8 zpd_X8_layThen (Nat.le_of_ble_eq_true rfl) (Nat.le_of_ble_eq_true rfl) rfl rfl, sm_cv _ _ _ _ _ _ _⟩, ⟨_, ⟨sn_aload_n dX8_rogue_96 rfl, sm_al _⟩, ⟨_, ⟨sn_get (C := RX8) (T := TX8) (N := 23) dX8_rogue_97 rfl zinX8 (Nat.le_of_ble_eq_true rfl) zw_3_189, sm_get _ _⟩, ⟨_, ⟨sn_bipush dX8_rogue_100 (by decide +kernel), sm_const _⟩, ⟨_, ⟨sn_bipush dX8_rogue_102 (by decide +kernel), sm_const _⟩, ⟨_, ⟨sn_iload_n dX8_rogue_104 rfl, sm_il _⟩, ⟨_, ⟨sn_imul dX8_rogue_105, sm_bin _⟩, ⟨_, ⟨sn_iadd dX8_rogue_106, sm_bin _⟩, ⟨_, ⟨sn_iconst dX8_rogue_107 (by decide +kernel), sm_const _⟩, ⟨_, ⟨sn_iadd dX8_rogue_108, sm_bin _⟩, ⟨_, ⟨sn_iload dX8_rogue_109, sm_il _⟩, ⟨_, ⟨sn_iast dX8_rogue_111, sm_iast⟩, ⟨_, ⟨sn_aload_n dX8_rogue_112 rfl, sm_al _⟩, ⟨_, ⟨sn_get (C := RX8) (T := TX8) (N := 23) dX8_rogue_113 rfl zinX8 (Nat.le_of_ble_eq_true rfl) zw_3_189, sm_get _ _⟩, ⟨_, ⟨sn_bipush dX8_rogue_116 (by decide +kernel), sm_const _⟩, ⟨_, ⟨sn_bipush dX8_rogue_118 (by decide +kernel), sm_const _⟩, ⟨_, ⟨sn_iload_n dX8_rogue_120 rfl, sm_il _⟩, ⟨_, ⟨sn_imul dX8_rogue_121, sm_bin _⟩, ⟨_, ⟨sn_iadd dX8_rogue_122, sm_bin _⟩, ⟨_, ⟨sn_iconst dX8_rogue_123 (by decide +kernel), sm_const _⟩, ⟨_, ⟨sn_iadd dX8_rogue_124, sm_bin _⟩, ⟨_, ⟨sn_iconst dX8_rogue_125 (by decide +kernel), sm_const _⟩, ⟨_, ⟨sn_iast dX8_rogue_126, sm_iast⟩, ⟨_, ⟨sn_aload_n dX8_rogue_127 rfl, sm_al _⟩, ⟨_, ⟨sn_get (C := RX8) (T := TX8) (N := 23) dX8_rogue_128 rfl zinX8 (Nat.le_of_ble_eq_true rfl) zw_3_189, sm_get _ _⟩, ⟨_, ⟨sn_iload_n dX8_rogue_131 rfl, sm_il _⟩, ⟨_, ⟨sn_cs_v ztb_X8_weeksOf dX8_rogue_132 zw_4_190 zw_4_191 zw_1_8 zw_4_192 zmh_X8 zpd_X8_weeksOf (Nat.le_of_ble_eq_true rfl) (Nat.le_of_ble_eq_true rfl) rfl rfl, sm_cs _ _ _ _ _ _⟩, ⟨_, ⟨sn_aload_n dX8_rogue_135 rfl, sm_al _⟩, ⟨_, ⟨sn_get (C := RX8) (T := TX8) (N := 23) dX8_rogue_136 rfl zinX8 (Nat.le_of_ble_eq_true rfl) zw_3_189, sm_get _ _⟩, ⟨_, ⟨sn_iload_n dX8_rogue_139 rfl, sm_il _⟩, ⟨_, ⟨sn_bipush dX8_rogue_140 (by decide +kernel), sm_const _⟩, ⟨_, ⟨sn_cs_i ztb_X8_of dX8_rogue_142 zw_4_126 zw_4_127 zw_1_8 zw_4_128 zmh_X8 zpd_X8_of (Nat.le_of_ble_eq_true rfl) (Nat.le_of_ble_eq_true rfl) rfl rfl, sm_cs _ _ _ _ _ _⟩, ⟨_, ⟨sn_aload_n dX8_rogue_145 rfl, sm_al _⟩, ⟨_, ⟨sn_get (C := RX8) (T := TX8) (N := 23) dX8_rogue_146 rfl zinX8 (Nat.le_of_ble_eq_true rfl) zw_3_189, sm_get _ _⟩, ⟨_, ⟨sn_iload_n dX8_rogue_149 rfl, sm_il _⟩, ⟨_, ⟨sn_bipush dX8_rogue_150 (by decide +kernel), sm_const _⟩, ⟨_, ⟨sn_cs_i ztb_X8_of dX8_rogue_152 zw_4_126 zw_4_127 zw_1_8 zw_4_128 zmh_X8 zpd_X8_of (Nat.le_of_ble_eq_true rfl) (Nat.le_of_ble_eq_true rfl) rfl rfl, sm_cs _ _ _ _ _ _⟩, ⟨_, ⟨sn_isub dX8_rogue_155, sm_bin _⟩, ⟨_, ⟨sn_iload dX8_rogue_156, sm_il _⟩, ⟨_, ⟨sn_isub dX8_rogue_158, sm_bin _⟩, ⟨_, ⟨sn_istore dX8_rogue_159 (Nat.le_of_ble_eq_true rfl), sm_is _⟩, ⟨_, ⟨sn_iload dX8_rogue_161, sm_il _⟩, ⟨_, ⟨sn_ldc dX8_rogue_163 zw_4_65, sm_const _⟩, ⟨_, ⟨sn_ic_eq dX8_rogue_165 (by decide +kernel) rfl, sm_if2 _ _ _⟩, ⟨_, ⟨sn_iload dX8_rogue_168, sm_il _⟩, ⟨_, ⟨sn_iload dX8_rogue_170, sm_il _⟩, ⟨_, ⟨sn_ic_le dX8_rogue_172 (by decide +kernel) rfl, sm_if2 _ _ _⟩, ⟨_, ⟨sn_fall (len := 0) rfl rfl, sm_go _ _⟩, trivial⟩⟩⟩⟩⟩⟩⟩⟩⟩⟩⟩⟩⟩⟩⟩⟩⟩⟩⟩⟩⟩⟩⟩⟩⟩⟩⟩⟩⟩⟩⟩⟩⟩⟩⟩⟩⟩⟩⟩⟩⟩⟩⟩⟩⟩⟩⟩⟩⟩⟩⟩⟩
set_option maxRecDepth 20000 in
theorem kX8_rogue_175 : sx_BK sx_tb yX8_rogue.cls cX8_rogue 10 (some .int) ({ frames := 5, cells := 0, slots := 0, locals := 111 } : Room) false false 0 (fun _ => 0) 175 (bX8_rogue_175) := ⟨_, ⟨sn_iconst dX8_rogue_175 (by decide +kernel), sm_const _⟩, ⟨_, ⟨sn_goto (len := 3) dX8_rogue_176 (by decide +kernel) rfl, sm_go _ _⟩, trivial⟩⟩
set_option maxRecDepth 20000 in
theorem kX8_rogue_179 : sx_BK sx_tb yX8_rogue.cls cX8_rogue 10 (some .int) ({ frames := 5, cells := 0, slots := 0, locals := 111 } : Room) false false 0 (fun _ => 0) 179 (bX8_rogue_179) := ⟨_, ⟨sn_iconst dX8_rogue_179 (by decide +kernel), sm_const _⟩, ⟨_, ⟨sn_fall (len := 0) rfl rfl, sm_go _ _⟩, trivial⟩⟩
set_option maxRecDepth 20000 in
theorem kX8_rogue_180 : sx_BK sx_tb yX8_rogue.cls cX8_rogue 10 (some .int) ({ frames := 5, cells := 0, slots := 0, locals := 111 } : Room) false false 0 (fun _ => 0) 180 (bX8_rogue_180) := ⟨_, ⟨sn_istore dX8_rogue_180 (Nat.le_of_ble_eq_true rfl), sm_is _⟩, ⟨_, ⟨sn_iload dX8_rogue_182, sm_il _⟩, ⟨_, ⟨sn_if_eq dX8_rogue_184 (by decide +kernel) rfl, sm_if1 _ _ _⟩, ⟨_, ⟨sn_iload dX8_rogue_187, sm_il _⟩, ⟨_, ⟨sn_goto (len := 3) dX8_rogue_189 (by decide +kernel) rfl, sm_go _ _⟩, trivial⟩⟩⟩⟩⟩
set_option maxRecDepth 20000 in
theorem kX8_rogue_192 : sx_BK sx_tb yX8_rogue.cls cX8_rogue 10 (some .int) ({ frames := 5, cells := 0, slots := 0, locals := 111 } : Room) false false 0 (fun _ => 0) 192 (bX8_rogue_192) := ⟨_, ⟨sn_iload dX8_rogue_192, sm_il _⟩, ⟨_, ⟨sn_fall (len := 0) rfl rfl, sm_go _ _⟩, trivial⟩⟩
set_option maxRecDepth 20000 in
theorem kX8_rogue_194 : sx_BK sx_tb yX8_rogue.cls cX8_rogue 10 (some .int) ({ frames := 5, cells := 0, slots := 0, locals := 111 } : Room) false false 0 (fun _ => 0) 194 (bX8_rogue_194) := ⟨_, ⟨sn_istore dX8_rogue_194 (Nat.le_of_ble_eq_true rfl), sm_is _⟩, ⟨_, ⟨sn_iload dX8_rogue_196, sm_il _⟩, ⟨_, ⟨sn_if_eq dX8_rogue_198 (by decide +kernel) rfl, sm_if1 _ _ _⟩, ⟨_, ⟨sn_iload dX8_rogue_201, sm_il _⟩, ⟨_, ⟨sn_goto (len := 3) dX8_rogue_203 (by decide +kernel) rfl, sm_go _ _⟩, trivial⟩⟩⟩⟩⟩
set_option maxRecDepth 20000 in
theorem kX8_rogue_206 : sx_BK sx_tb yX8_rogue.cls cX8_rogue 10 (some .int) ({ frames := 5, cells := 0, slots := 0, locals := 111 } : Room) false false 0 (fun _ => 0) 206 (bX8_rogue_206) := ⟨_, ⟨sn_iload dX8_rogue_206, sm_il _⟩, ⟨_, ⟨sn_fall (len := 0) rfl rfl, sm_go _ _⟩, trivial⟩⟩
set_option maxRecDepth 20000 in
theorem kX8_rogue_208 : sx_BK sx_tb yX8_rogue.cls cX8_rogue 10 (some .int) ({ frames := 5, cells := 0, slots := 0, locals := 111 } : Room) false false 0 (fun _ => 0) 208 (bX8_rogue_208) := ⟨_, ⟨sn_istore dX8_rogue_208 (Nat.le_of_ble_eq_true rfl), sm_is _⟩, ⟨_, ⟨sn_iinc dX8_rogue_210 (by decide +kernel) (Nat.le_of_ble_eq_true rfl), sm_inc _ _⟩, ⟨_, ⟨sn_goto (len := 3) dX8_rogue_213 (by decide +kernel) rfl, sm_go _ _⟩, trivial⟩⟩⟩
set_option maxRecDepth 20000 in
theorem kX8_rogue_216 : sx_BK sx_tb yX8_rogue.cls cX8_rogue 10 (some .int) ({ frames := 5, cells := 0, slots := 0, locals := 111 } : Room) false false 0 (fun _ => 0) 216 (bX8_rogue_216) := ⟨_, ⟨sn_iload_n dX8_rogue_216 rfl, sm_il _⟩, ⟨_, ⟨sn_if_ne dX8_rogue_217 (by decide +kernel) rfl, sm_if1 _ _ _⟩, ⟨_, ⟨sn_iload dX8_rogue_220, sm_il _⟩, ⟨_, ⟨sn_goto (len := 3) dX8_rogue_222 (by decide +kernel) rfl, sm_go _ _⟩, trivial⟩⟩⟩⟩
set_option maxRecDepth 20000 in
theorem kX8_rogue_225 : sx_BK sx_tb yX8_rogue.cls cX8_rogue 10 (some .int) ({ frames := 5, cells := 0, slots := 0, locals := 111 } : Room) false false 0 (fun _ => 0) 225 (bX8_rogue_225) := ⟨_, ⟨sn_iload dX8_rogue_225, sm_il _⟩, ⟨_, ⟨sn_fall (len := 0) rfl rfl, sm_go _ _⟩, trivial⟩⟩
set_option maxRecDepth 20000 in
theorem kX8_rogue_227 : sx_BK sx_tb yX8_rogue.cls cX8_rogue 10 (some .int) ({ frames := 5, cells := 0, slots := 0, locals := 111 } : Room) false false 0 (fun _ => 0) 227 (bX8_rogue_227) := ⟨_, ⟨sn_ri (len := 1) dX8_rogue_227 rfl, sm_ri⟩, trivial⟩
theorem kX8_rogue : ∀ pc, sx_BK sx_tb yX8_rogue.cls cX8_rogue 10 (some .int) ({ frames := 5, cells := 0, slots := 0, locals := 111 } : Room) false false 0 (fun _ => 0) pc (BX8_rogue pc) := fun pc => sx_bk_if (kX8_rogue_0) (sx_bk_if (kX8_rogue_35) (sx_bk_if (kX8_rogue_38) (sx_bk_if (kX8_rogue_52) (sx_bk_if (kX8_rogue_85) (sx_bk_if (kX8_rogue_175) (sx_bk_if (kX8_rogue_179) (sx_bk_if (kX8_rogue_180) (sx_bk_if (kX8_rogue_192) (sx_bk_if (kX8_rogue_194) (sx_bk_if (kX8_rogue_206) (sx_bk_if (kX8_rogue_208) (sx_bk_if (kX8_rogue_216) (sx_bk_if (kX8_rogue_225) (sx_bk_if (kX8_rogue_227) (trivial)))))))))))))))
theorem okX8_rogue : sx_ok sx_tb BX8_rogue (yX8_rogue, cX8_rogue, 10, some .int, { frames := 5, cells := 0, slots := 0, locals := 111 }) := ⟨by decide, by decide +kernel, false, (fun h => by cases h), kX8_rogue⟩
theorem dX8_who_0 : decode cX8_who 0 = .ok (.aload_n 0, 1) := by decide +kernel
theorem dX8_who_1 : decode cX8_who 1 = .ok (.iconst 0, 1) := by decide +kernel
theorem dX8_who_2 : decode cX8_who 2 = .ok (.putfield 44, 3) := by decide +kernel
theorem dX8_who_5 : decode cX8_who 5 = .ok (.aload_n 0, 1) := by decide +kernel
theorem dX8_who_6 : decode cX8_who 6 = .ok (.iload_n 1, 1) := by decide +kernel
theorem dX8_who_7 : decode cX8_who 7 = .ok (.invokevirtual 181, 3) := by decide +kernel
theorem dX8_who_10 : decode cX8_who 10 = .ok (.ifCond .eq 23, 3) := by decide +kernel
theorem dX8_who_13 : decode cX8_who 13 = .ok (.iload_n 2, 1) := by decide +kernel
theorem dX8_who_14 : decode cX8_who 14 = .ok (.invokestatic 58, 3) := by decide +kernel
theorem dX8_who_17 : decode cX8_who 17 = .ok (.ifCond .eq 16, 3) := by decide +kernel
theorem dX8_who_20 : decode cX8_who 20 = .ok (.iload 4, 2) := by decide +kernel
theorem dX8_who_22 : decode cX8_who 22 = .ok (.i2l, 1) := by decide +kernel
theorem dX8_who_23 : decode cX8_who 23 = .ok (.lconst 1, 1) := by decide +kernel
theorem dX8_who_24 : decode cX8_who 24 = .ok (.ldc2_w 206, 3) := by decide +kernel
theorem dX8_who_27 : decode cX8_who 27 = .ok (.invokestatic 54, 3) := by decide +kernel
theorem dX8_who_30 : decode cX8_who 30 = .ok (.ifCond .ne 6, 3) := by decide +kernel
theorem dX8_who_33 : decode cX8_who 33 = .ok (.ldc 64, 2) := by decide +kernel
theorem dX8_who_35 : decode cX8_who 35 = .ok (.ireturn, 1) := by decide +kernel
theorem dX8_who_36 : decode cX8_who 36 = .ok (.aload_n 0, 1) := by decide +kernel
theorem dX8_who_37 : decode cX8_who 37 = .ok (.getfield 7, 3) := by decide +kernel
theorem dX8_who_40 : decode cX8_who 40 = .ok (.iload_n 2, 1) := by decide +kernel
theorem dX8_who_41 : decode cX8_who 41 = .ok (.iaload, 1) := by decide +kernel
theorem dX8_who_42 : decode cX8_who 42 = .ok (.ifCond .ge 9, 3) := by decide +kernel
theorem dX8_who_45 : decode cX8_who 45 = .ok (.aload_n 0, 1) := by decide +kernel
theorem dX8_who_46 : decode cX8_who 46 = .ok (.iconst 1, 1) := by decide +kernel
theorem dX8_who_47 : decode cX8_who 47 = .ok (.invokevirtual 65, 3) := by decide +kernel
theorem dX8_who_50 : decode cX8_who 50 = .ok (.ireturn, 1) := by decide +kernel
theorem dX8_who_51 : decode cX8_who 51 = .ok (.iload_n 3, 1) := by decide +kernel
theorem dX8_who_52 : decode cX8_who 52 = .ok (.ifCond .lt 20, 3) := by decide +kernel
theorem dX8_who_55 : decode cX8_who 55 = .ok (.iload_n 3, 1) := by decide +kernel
theorem dX8_who_56 : decode cX8_who 56 = .ok (.i2l, 1) := by decide +kernel
theorem dX8_who_57 : decode cX8_who 57 = .ok (.iload 4, 2) := by decide +kernel
theorem dX8_who_59 : decode cX8_who 59 = .ok (.i2l, 1) := by decide +kernel
theorem dX8_who_60 : decode cX8_who 60 = .ok (.ladd, 1) := by decide +kernel
theorem dX8_who_61 : decode cX8_who 61 = .ok (.aload_n 0, 1) := by decide +kernel
theorem dX8_who_62 : decode cX8_who 62 = .ok (.getfield 13, 3) := by decide +kernel
theorem dX8_who_65 : decode cX8_who 65 = .ok (.iload_n 2, 1) := by decide +kernel
theorem dX8_who_66 : decode cX8_who 66 = .ok (.iaload, 1) := by decide +kernel
theorem dX8_who_67 : decode cX8_who 67 = .ok (.i2l, 1) := by decide +kernel
theorem dX8_who_68 : decode cX8_who 68 = .ok (.lcmp, 1) := by decide +kernel
theorem dX8_who_69 : decode cX8_who 69 = .ok (.ifCond .le 9, 3) := by decide +kernel
theorem dX8_who_72 : decode cX8_who 72 = .ok (.aload_n 0, 1) := by decide +kernel
theorem dX8_who_73 : decode cX8_who 73 = .ok (.iconst 2, 1) := by decide +kernel
theorem dX8_who_74 : decode cX8_who 74 = .ok (.invokevirtual 65, 3) := by decide +kernel
theorem dX8_who_77 : decode cX8_who 77 = .ok (.ireturn, 1) := by decide +kernel
theorem dX8_who_78 : decode cX8_who 78 = .ok (.aload_n 0, 1) := by decide +kernel
theorem dX8_who_79 : decode cX8_who 79 = .ok (.iconst 0, 1) := by decide +kernel
theorem dX8_who_80 : decode cX8_who 80 = .ok (.putfield 48, 3) := by decide +kernel
theorem dX8_who_83 : decode cX8_who 83 = .ok (.iconst 0, 1) := by decide +kernel
theorem dX8_who_84 : decode cX8_who 84 = .ok (.istore 5, 2) := by decide +kernel
theorem dX8_who_86 : decode cX8_who 86 = .ok (.iconst 1, 1) := by decide +kernel
theorem dX8_who_87 : decode cX8_who 87 = .ok (.istore 6, 2) := by decide +kernel
theorem dX8_who_89 : decode cX8_who 89 = .ok (.iload 6, 2) := by decide +kernel
theorem dX8_who_91 : decode cX8_who 91 = .ok (.iconst 5, 1) := by decide +kernel
theorem dX8_who_92 : decode cX8_who 92 = .ok (.if_icmp .gt 127, 3) := by decide +kernel
theorem dX8_who_95 : decode cX8_who 95 = .ok (.aload_n 0, 1) := by decide +kernel
theorem dX8_who_96 : decode cX8_who 96 = .ok (.invokevirtual 197, 3) := by decide +kernel
theorem dX8_who_99 : decode cX8_who 99 = .ok (.aload_n 0, 1) := by decide +kernel
theorem dX8_who_100 : decode cX8_who 100 = .ok (.getfield 25, 3) := by decide +kernel
theorem dX8_who_103 : decode cX8_who 103 = .ok (.bipush 10, 2) := by decide +kernel
theorem dX8_who_105 : decode cX8_who 105 = .ok (.bipush 9, 2) := by decide +kernel
theorem dX8_who_107 : decode cX8_who 107 = .ok (.iload_n 1, 1) := by decide +kernel
theorem dX8_who_108 : decode cX8_who 108 = .ok (.imul, 1) := by decide +kernel
theorem dX8_who_109 : decode cX8_who 109 = .ok (.iadd, 1) := by decide +kernel
theorem dX8_who_110 : decode cX8_who 110 = .ok (.iconst 0, 1) := by decide +kernel
theorem dX8_who_111 : decode cX8_who 111 = .ok (.iadd, 1) := by decide +kernel
theorem dX8_who_112 : decode cX8_who 112 = .ok (.iload 6, 2) := by decide +kernel
theorem dX8_who_114 : decode cX8_who 114 = .ok (.iastore, 1) := by decide +kernel
theorem dX8_who_115 : decode cX8_who 115 = .ok (.iconst 1, 1) := by decide +kernel
theorem dX8_who_116 : decode cX8_who 116 = .ok (.istore 7, 2) := by decide +kernel
theorem dX8_who_118 : decode cX8_who 118 = .ok (.iconst 0, 1) := by decide +kernel
theorem dX8_who_119 : decode cX8_who 119 = .ok (.istore 8, 2) := by decide +kernel
theorem dX8_who_121 : decode cX8_who 121 = .ok (.iload 8, 2) := by decide +kernel
theorem dX8_who_123 : decode cX8_who 123 = .ok (.iload 4, 2) := by decide +kernel
theorem dX8_who_125 : decode cX8_who 125 = .ok (.if_icmp .ge 70, 3) := by decide +kernel
theorem dX8_who_128 : decode cX8_who 128 = .ok (.aload_n 0, 1) := by decide +kernel
theorem dX8_who_129 : decode cX8_who 129 = .ok (.getfield 25, 3) := by decide +kernel
theorem dX8_who_132 : decode cX8_who 132 = .ok (.iload_n 1, 1) := by decide +kernel
theorem dX8_who_133 : decode cX8_who 133 = .ok (.bipush 7, 2) := by decide +kernel
theorem dX8_who_135 : decode cX8_who 135 = .ok (.invokestatic 146, 3) := by decide +kernel
theorem dX8_who_138 : decode cX8_who 138 = .ok (.istore 9, 2) := by decide +kernel
theorem dX8_who_140 : decode cX8_who 140 = .ok (.aload_n 0, 1) := by decide +kernel
theorem dX8_who_141 : decode cX8_who 141 = .ok (.getfield 25, 3) := by decide +kernel
theorem dX8_who_144 : decode cX8_who 144 = .ok (.invokestatic 168, 3) := by decide +kernel
theorem dX8_who_147 : decode cX8_who 147 = .ok (.iload 7, 2) := by decide +kernel
theorem dX8_who_149 : decode cX8_who 149 = .ok (.ifCond .eq 37, 3) := by decide +kernel
theorem dX8_who_152 : decode cX8_who 152 = .ok (.aload_n 0, 1) := by decide +kernel
theorem dX8_who_153 : decode cX8_who 153 = .ok (.getfield 25, 3) := by decide +kernel
theorem dX8_who_156 : decode cX8_who 156 = .ok (.iload_n 1, 1) := by decide +kernel
theorem dX8_who_157 : decode cX8_who 157 = .ok (.bipush 7, 2) := by decide +kernel
theorem dX8_who_159 : decode cX8_who 159 = .ok (.invokestatic 146, 3) := by decide +kernel
theorem dX8_who_162 : decode cX8_who 162 = .ok (.iload 9, 2) := by decide +kernel
theorem dX8_who_164 : decode cX8_who 164 = .ok (.isub, 1) := by decide +kernel
theorem dX8_who_165 : decode cX8_who 165 = .ok (.aload_n 0, 1) := by decide +kernel
theorem dX8_who_166 : decode cX8_who 166 = .ok (.getfield 16, 3) := by decide +kernel
theorem dX8_who_169 : decode cX8_who 169 = .ok (.bipush 40, 2) := by decide +kernel
theorem dX8_who_171 : decode cX8_who 171 = .ok (.iload_n 2, 1) := by decide +kernel
theorem dX8_who_172 : decode cX8_who 172 = .ok (.imul, 1) := by decide +kernel
theorem dX8_who_173 : decode cX8_who 173 = .ok (.iload_n 3, 1) := by decide +kernel
theorem dX8_who_174 : decode cX8_who 174 = .ok (.iadd, 1) := by decide +kernel
theorem dX8_who_175 : decode cX8_who 175 = .ok (.iload 8, 2) := by decide +kernel
theorem dX8_who_177 : decode cX8_who 177 = .ok (.iadd, 1) := by decide +kernel
theorem dX8_who_178 : decode cX8_who 178 = .ok (.iaload, 1) := by decide +kernel
theorem dX8_who_179 : decode cX8_who 179 = .ok (.if_icmp .ne 7, 3) := by decide +kernel
theorem dX8_who_182 : decode cX8_who 182 = .ok (.iconst 1, 1) := by decide +kernel
theorem dX8_who_183 : decode cX8_who 183 = .ok (.goto 4, 3) := by decide +kernel
theorem dX8_who_186 : decode cX8_who 186 = .ok (.iconst 0, 1) := by decide +kernel
theorem dX8_who_187 : decode cX8_who 187 = .ok (.istore 7, 2) := by decide +kernel
theorem dX8_who_189 : decode cX8_who 189 = .ok (.iinc 8 1, 3) := by decide +kernel
theorem dX8_who_192 : decode cX8_who 192 = .ok (.goto (-71), 3) := by decide +kernel
theorem dX8_who_195 : decode cX8_who 195 = .ok (.iload 5, 2) := by decide +kernel
theorem dX8_who_197 : decode cX8_who 197 = .ok (.iload 7, 2) := by decide +kernel
theorem dX8_who_199 : decode cX8_who 199 = .ok (.ifCond .eq 10, 3) := by decide +kernel
theorem dX8_who_202 : decode cX8_who 202 = .ok (.iconst 1, 1) := by decide +kernel
theorem dX8_who_203 : decode cX8_who 203 = .ok (.iload 6, 2) := by decide +kernel
theorem dX8_who_205 : decode cX8_who 205 = .ok (.ishl, 1) := by decide +kernel
theorem dX8_who_206 : decode cX8_who 206 = .ok (.goto 4, 3) := by decide +kernel
theorem dX8_who_209 : decode cX8_who 209 = .ok (.iconst 0, 1) := by decide +kernel
theorem dX8_who_210 : decode cX8_who 210 = .ok (.ior, 1) := by decide +kernel
theorem dX8_who_211 : decode cX8_who 211 = .ok (.istore 5, 2) := by decide +kernel
theorem dX8_who_213 : decode cX8_who 213 = .ok (.iinc 6 1, 3) := by decide +kernel
theorem dX8_who_216 : decode cX8_who 216 = .ok (.goto (-127), 3) := by decide +kernel
theorem dX8_who_219 : decode cX8_who 219 = .ok (.iload 5, 2) := by decide +kernel
theorem dX8_who_221 : decode cX8_who 221 = .ok (.ireturn, 1) := by decide +kernel
def bX8_who_0 : List sx_S := [si_al 0, si_const 0, si_put 7 0 0, si_al 0, si_il 1, si_cv 7 146 1 0 0 0 0, si_if1 (fun x => x = 0) 33 [false, false, false, false, false, false, false, false, false, false], si_il 2, si_cs 126 1 0 0 0 0, si_if1 (fun x => x = 0) 33 [false, false, false, false, false, false, false, false, false, false], si_il 4, si_i2l, si_lconst 1, si_lconst (lN 12), si_cs 124 3 0 0 0 0, si_if1 (fun x => ¬ x = 0) 36 [true, true, true, true, true, false, false, false, false, false], si_go 33 [false, false, false, false, false, false, false, false, false, false]]
def bX8_who_33 : List sx_S := [si_const (-1000001), si_ri]
def bX8_who_36 : List sx_S := [si_al 0, si_get 7 2, si_il 2, si_iald, si_if1 (fun x => 0 ≤ x) 51 [true, true, true, true, true, false, false, false, false, false], si_al 0, si_const 1, si_cv 7 125 1 0 0 0 0, si_ri]
def bX8_who_51 : List sx_S := [si_il 3, si_if1 (fun x => x < 0) 72 [true, false, false, false, false, false, false, false, false, false], si_il 3, si_i2l, si_il 4, si_i2l, si_lbin (fun x y => x + y), si_al 0, si_get 7 3, si_il 2, si_iald, si_i2l, si_lcmp, si_if1 (fun x => x ≤ 0) 78 [true, true, true, true, true, false, false, false, false, false], si_go 72 [true, false, false, false, false, false, false, false, false, false]]
def bX8_who_72 : List sx_S := [si_al 0, si_const (nI 2), si_cv 7 125 1 0 0 0 0, si_ri]
def bX8_who_78 : List sx_S := [si_al 0, si_const 0, si_put 7 1 0, si_const 0, si_is 5, si_const 1, si_is 6, si_go 89 [true, true, true, true, true, true, true, false, false, false]]
def bX8_who_89 : List sx_S := [si_il 6, si_const (nI 5), si_if2 (fun x y => y < x) 219 [false, false, false, false, false, true, false, false, false, false], si_al 0, si_cv 7 155 0 0 0 0 0, si_al 0, si_get 7 7, si_const (nI 10), si_const (nI 9), si_il 1, si_bin (fun x y => x * y), si_bin (fun x y => x + y), si_const 0, si_bin (fun x y => x + y), si_il 6, si_iast, si_const 1, si_is 7, si_const 0, si_is 8, si_go 121 [true, true, true, true, true, true, true, true, true, false]]
def bX8_who_121 : List sx_S := [si_il 8, si_il 4, si_if2 (fun x y => y ≤ x) 195 [true, true, true, true, true, true, true, true, false, false], si_al 0, si_get 7 7, si_il 1, si_const (nI 7), si_cs 147 3 0 0 0 0, si_is 9, si_al 0, si_get 7 7, si_cs 153 1 0 0 0 0, si_il 7, si_if1 (fun x => x = 0) 186 [true, true, true, true, true, true, true, false, true, false], si_al 0, si_get 7 7, si_il 1, si_const (nI 7), si_cs 147 3 0 0 0 0, si_il 9, si_bin (fun x y => x - y), si_al 0, si_get 7 4, si_const (nI 40), si_il 2, si_bin (fun x y => x * y), si_il 3, si_bin (fun x y => x + y), si_il 8, si_bin (fun x y => x + y), si_iald, si_if2 (fun x y => ¬ x = y) 186 [true, true, true, true, true, true, true, false, true, false], si_const 1, si_go 187 [true, true, true, true, true, true, true, false, true, false]]
def bX8_who_186 : List sx_S := [si_const 0, si_go 187 [true, true, true, true, true, true, true, false, true, false]]
def bX8_who_187 : List sx_S := [si_is 7, si_inc 8 1, si_go 121 [true, true, true, true, true, true, true, true, true, false]]
def bX8_who_195 : List sx_S := [si_il 5, si_il 7, si_if1 (fun x => x = 0) 209 [true, true, true, true, true, false, true, false, false, false], si_const 1, si_il 6, si_bin (fun x y => x <<< (y &&& 31)), si_go 210 [true, true, true, true, true, false, true, false, false, false]]
def bX8_who_209 : List sx_S := [si_const 0, si_go 210 [true, true, true, true, true, false, true, false, false, false]]
def bX8_who_210 : List sx_S := [si_bin (fun x y => x ||| y), si_is 5, si_inc 6 1, si_go 89 [true, true, true, true, true, true, true, false, false, false]]
def bX8_who_219 : List sx_S := [si_il 5, si_ri]
def BX8_who : Nat → List sx_S := fun pc => if pc = 0 then bX8_who_0 else if pc = 33 then bX8_who_33 else if pc = 36 then bX8_who_36 else if pc = 51 then bX8_who_51 else if pc = 72 then bX8_who_72 else if pc = 78 then bX8_who_78 else if pc = 89 then bX8_who_89 else if pc = 121 then bX8_who_121 else if pc = 186 then bX8_who_186 else if pc = 187 then bX8_who_187 else if pc = 195 then bX8_who_195 else if pc = 209 then bX8_who_209 else if pc = 210 then bX8_who_210 else if pc = 219 then bX8_who_219 else []
set_option maxRecDepth 20000 in
theorem kX8_who_0 : sx_BK sx_tb yX8_who.cls cX8_who 10 (some .int) ({ frames := 4, cells := 0, slots := 0, locals := 89 } : Room) false false 0 (fun _ => 0) 0 (bX8_who_0) := ⟨_, ⟨sn_aload_n dX8_who_0 rfl, sm_al _⟩, ⟨_, ⟨sn_iconst dX8_who_1 (by decide +kernel), sm_const _⟩, ⟨_, ⟨sn_put (C := RX8) (T := TX8) (N := 23) dX8_who_2 rfl zinX8 tyX8_ok nmX8 (Nat.le_of_ble_eq_true rfl) zw_3_182 rfl (tyX8_ok 0 (Nat.le_of_ble_eq_true rfl)) trivial, sm_put _ _ _⟩, ⟨_, ⟨sn_aload_n dX8_who_5 rfl, sm_al _⟩, ⟨_, ⟨sn_iload_n dX8_who_6 rfl, sm_il _⟩, ⟨_, ⟨sn_cv_z (N := 23) (T := TX8) ztb_X8_isDebtor dX8_who_7 rfl rfl zw_4_145 zw_4_147 zw_0_47 zw_1_8 zw_4_148 zmh_X8 zpd_X8_isDebtor (Nat.le_of_ble_eq_true rfl) (Nat.le_of_ble_eq_true rfl) rfl rfl, sm_cv _ _ _ _ _ _ _⟩, ⟨_, ⟨sn_if_eq dX8_who_10 (by decide +kernel) rfl, sm_if1 _ _ _⟩, ⟨_, ⟨sn_iload_n dX8_who_13 rfl, sm_il _⟩, ⟨_, ⟨sn_cs_z ztb_X8_isRow dX8_who_14 zw_4_17 zw_4_18 zw_1_8 zw_4_19 zmh_X8 zpd_X8_isRow (Nat.le_of_ble_eq_true rfl) (Nat.le_of_ble_eq_true rfl) rfl rfl, sm_cs _ _ _ _ _ _⟩, ⟨_, ⟨sn_if_eq dX8_who_17 (by decide +kernel) rfl, sm_if1 _ _ _⟩, ⟨_, ⟨sn_iload dX8_who_20, sm_il _⟩, ⟨_, ⟨sn_i2l dX8_who_22, sm_i2l⟩, ⟨_, ⟨sn_lconst dX8_who_23 (by decide +kernel), sm_lconst _⟩, ⟨_, ⟨sn_ldc2 dX8_who_24 zw_4_228, sm_lconst _⟩, ⟨_, ⟨sn_cs_z ztb_X8_in dX8_who_27 zw_4_21 zw_4_22 zw_1_8 zw_4_23 zmh_X8 zpd_X8_in (Nat.le_of_ble_eq_true rfl) (Nat.le_of_ble_eq_true rfl) rfl rfl, sm_cs _ _ _ _ _ _⟩, ⟨_, ⟨sn_if_ne dX8_who_30 (by decide +kernel) rfl, sm_if1 _ _ _⟩, ⟨_, ⟨sn_fall (len := 0) rfl rfl, sm_go _ _⟩, trivial⟩⟩⟩⟩⟩⟩⟩⟩⟩⟩⟩⟩⟩⟩⟩⟩⟩
set_option maxRecDepth 20000 in
theorem kX8_who_33 : sx_BK sx_tb yX8_who.cls cX8_who 10 (some .int) ({ frames := 4, cells := 0, slots := 0, locals := 89 } : Room) false false 0 (fun _ => 0) 33 (bX8_who_33) := ⟨_, ⟨sn_ldc dX8_who_33 zw_4_25, sm_const _⟩, ⟨_, ⟨sn_ri (len := 1) dX8_who_35 rfl, sm_ri⟩, trivial⟩⟩
set_option maxRecDepth 20000 in
theorem kX8_who_36 : sx_BK sx_tb yX8_who.cls cX8_who 10 (some .int) ({ frames := 4, cells := 0, slots := 0, locals := 89 } : Room) false false 0 (fun _ => 0) 36 (bX8_who_36) := ⟨_, ⟨sn_aload_n dX8_who_36 rfl, sm_al _⟩, ⟨_, ⟨sn_get (C := RX8) (T := TX8) (N := 23) dX8_who_37 rfl zinX8 (Nat.le_of_ble_eq_true rfl) zw_3_184, sm_get _ _⟩, ⟨_, ⟨sn_iload_n dX8_who_40 rfl, sm_il _⟩, ⟨_, ⟨sn_iald dX8_who_41, sm_iald⟩, ⟨_, ⟨sn_if_ge dX8_who_42 (by decide +kernel) rfl, sm_if1 _ _ _⟩, ⟨_, ⟨sn_aload_n dX8_who_45 rfl, sm_al _⟩, ⟨_, ⟨sn_iconst dX8_who_46 (by decide +kernel), sm_const _⟩, ⟨_, ⟨sn_cv_i (N := 23) (T := TX8) ztb_X8_finding dX8_who_47 rfl rfl zw_4_26 zw_4_28 zw_0_34 zw_1_8 zw_4_29 zmh_X8 zpd_X8_finding (Nat.le_of_ble_eq_true rfl) (Nat.le_of_ble_eq_true rfl) rfl rfl, sm_cv _ _ _ _ _ _ _⟩, ⟨_, ⟨sn_ri (len := 1) dX8_who_50 rfl, sm_ri⟩, trivial⟩⟩⟩⟩⟩⟩⟩⟩⟩
set_option maxRecDepth 20000 in
theorem kX8_who_51 : sx_BK sx_tb yX8_who.cls cX8_who 10 (some .int) ({ frames := 4, cells := 0, slots := 0, locals := 89 } : Room) false false 0 (fun _ => 0) 51 (bX8_who_51) := ⟨_, ⟨sn_iload_n dX8_who_51 rfl, sm_il _⟩, ⟨_, ⟨sn_if_lt dX8_who_52 (by decide +kernel) rfl, sm_if1 _ _ _⟩, ⟨_, ⟨sn_iload_n dX8_who_55 rfl, sm_il _⟩, ⟨_, ⟨sn_i2l dX8_who_56, sm_i2l⟩, ⟨_, ⟨sn_iload dX8_who_57, sm_il _⟩, ⟨_, ⟨sn_i2l dX8_who_59, sm_i2l⟩, ⟨_, ⟨sn_ladd dX8_who_60, sm_lbin _⟩, ⟨_, ⟨sn_aload_n dX8_who_61 rfl, sm_al _⟩, ⟨_, ⟨sn_get (C := RX8) (T := TX8) (N := 23) dX8_who_62 rfl zinX8 (Nat.le_of_ble_eq_true rfl) zw_3_185, sm_get _ _⟩, ⟨_, ⟨sn_iload_n dX8_who_65 rfl, sm_il _⟩, ⟨_, ⟨sn_iald dX8_who_66, sm_iald⟩, ⟨_, ⟨sn_i2l dX8_who_67, sm_i2l⟩, ⟨_, ⟨sn_lcmp dX8_who_68, sm_lcmp⟩, ⟨_, ⟨sn_if_le dX8_who_69 (by decide +kernel) rfl, sm_if1 _ _ _⟩, ⟨_, ⟨sn_fall (len := 0) rfl rfl, sm_go _ _⟩, trivial⟩⟩⟩⟩⟩⟩⟩⟩⟩⟩⟩⟩⟩⟩⟩
set_option maxRecDepth 20000 in
theorem kX8_who_72 : sx_BK sx_tb yX8_who.cls cX8_who 10 (some .int) ({ frames := 4, cells := 0, slots := 0, locals := 89 } : Room) false false 0 (fun _ => 0) 72 (bX8_who_72) := ⟨_, ⟨sn_aload_n dX8_who_72 rfl, sm_al _⟩, ⟨_, ⟨sn_iconst dX8_who_73 (by decide +kernel), sm_const _⟩, ⟨_, ⟨sn_cv_i (N := 23) (T := TX8) ztb_X8_finding dX8_who_74 rfl rfl zw_4_26 zw_4_28 zw_0_34 zw_1_8 zw_4_29 zmh_X8 zpd_X8_finding (Nat.le_of_ble_eq_true rfl) (Nat.le_of_ble_eq_true rfl) rfl rfl, sm_cv _ _ _ _ _ _ _⟩, ⟨_, ⟨sn_ri (len := 1) dX8_who_77 rfl, sm_ri⟩, trivial⟩⟩⟩⟩
set_option maxRecDepth 20000 in
theorem kX8_who_78 : sx_BK sx_tb yX8_who.cls cX8_who 10 (some .int) ({ frames := 4, cells := 0, slots := 0, locals := 89 } : Room) false false 0 (fun _ => 0) 78 (bX8_who_78) := ⟨_, ⟨sn_aload_n dX8_who_78 rfl, sm_al _⟩, ⟨_, ⟨sn_iconst dX8_who_79 (by decide +kernel), sm_const _⟩, ⟨_, ⟨sn_put (C := RX8) (T := TX8) (N := 23) dX8_who_80 rfl zinX8 tyX8_ok nmX8 (Nat.le_of_ble_eq_true rfl) zw_3_183 rfl (tyX8_ok 1 (Nat.le_of_ble_eq_true rfl)) trivial, sm_put _ _ _⟩, ⟨_, ⟨sn_iconst dX8_who_83 (by decide +kernel), sm_const _⟩, ⟨_, ⟨sn_istore dX8_who_84 (Nat.le_of_ble_eq_true rfl), sm_is _⟩, ⟨_, ⟨sn_iconst dX8_who_86 (by decide +kernel), sm_const _⟩, ⟨_, ⟨sn_istore dX8_who_87 (Nat.le_of_ble_eq_true rfl), sm_is _⟩, ⟨_, ⟨sn_fall (len := 0) rfl rfl, sm_go _ _⟩, trivial⟩⟩⟩⟩⟩⟩⟩⟩
set_option maxRecDepth 20000 in
theorem kX8_who_89 : sx_BK sx_tb yX8_who.cls cX8_who 10 (some .int) ({ frames := 4, cells := 0, slots := 0, locals := 89 } : Room) false false 0 (fun _ => 0) 89 (bX8_who_89) := ⟨_, ⟨sn_iload dX8_who_89, sm_il _⟩, ⟨_, ⟨sn_iconst dX8_who_91 (by decide +kernel), sm_const _⟩, ⟨_, ⟨sn_ic_gt dX8_who_92 (by decide +kernel) rfl, sm_if2 _ _ _⟩, ⟨_, ⟨sn_aload_n dX8_who_95 rfl, sm_al _⟩, ⟨_, ⟨sn_cv_v (N := 23) (T := TX8) ztb_X8_layThen dX8_who_96 rfl rfl zw_4_186 zw_4_188 zw_0_48 zw_1_8 zw_4_189 zmh_X8 zpd_X8_layThen (Nat.le_of_ble_eq_true rfl) (Nat.le_of_ble_eq_true rfl) rfl rfl, sm_cv _ _ _ _ _ _ _⟩, ⟨_, ⟨sn_aload_n dX8_who_99 rfl, sm_al _⟩, ⟨_, ⟨sn_get (C := RX8) (T := TX8) (N := 23) dX8_who_100 rfl zinX8 (Nat.le_of_ble_eq_true rfl) zw_3_189, sm_get _ _⟩, ⟨_, ⟨sn_bipush dX8_who_103 (by decide +kernel), sm_const _⟩, ⟨_, ⟨sn_bipush dX8_who_105 (by decide +kernel), sm_const _⟩, ⟨_, ⟨sn_iload_n dX8_who_107 rfl, sm_il _⟩, ⟨_, ⟨sn_imul dX8_who_108, sm_bin _⟩, ⟨_, ⟨sn_iadd dX8_who_109, sm_bin _⟩, ⟨_, ⟨sn_iconst dX8_who_110 (by decide +kernel), sm_const _⟩, ⟨_, ⟨sn_iadd dX8_who_111, sm_bin _⟩, ⟨_, ⟨sn_iload dX8_who_112, sm_il _⟩, ⟨_, ⟨sn_iast dX8_who_114, sm_iast⟩, ⟨_, ⟨sn_iconst dX8_who_115 (by decide +kernel), sm_const _⟩, ⟨_, ⟨sn_istore dX8_who_116 (Nat.le_of_ble_eq_true rfl), sm_is _⟩, ⟨_, ⟨sn_iconst dX8_who_118 (by decide +kernel), sm_const _⟩, ⟨_, ⟨sn_istore dX8_who_119 (Nat.le_of_ble_eq_true rfl), sm_is _⟩, ⟨_, ⟨sn_fall (len := 0) rfl rfl, sm_go _ _⟩, trivial⟩⟩⟩⟩⟩⟩⟩⟩⟩⟩⟩⟩⟩⟩⟩⟩⟩⟩⟩⟩⟩
set_option maxRecDepth 20000 in
theorem kX8_who_121 : sx_BK sx_tb yX8_who.cls cX8_who 10 (some .int) ({ frames := 4, cells := 0, slots := 0, locals := 89 } : Room) false false 0 (fun _ => 0) 121 (bX8_who_121) := ⟨_, ⟨sn_iload dX8_who_121, sm_il _⟩, ⟨_, ⟨sn_iload dX8_who_123, sm_il _⟩, ⟨_, ⟨sn_ic_ge dX8_who_125 (by decide +kernel) rfl, sm_if2 _ _ _⟩, ⟨_, ⟨sn_aload_n dX8_who_128 rfl, sm_al _⟩, ⟨_, ⟨sn_get (C := RX8) (T := TX8) (N := 23) dX8_who_129 rfl zinX8 (Nat.le_of_ble_eq_true rfl) zw_3_189, sm_get _ _⟩, ⟨_, ⟨sn_iload_n dX8_who_132 rfl, sm_il _⟩, ⟨_, ⟨sn_bipush dX8_who_133 (by decide +kernel), sm_const _⟩, ⟨_, ⟨sn_cs_i ztb_X8_of dX8_who_135 zw_4_126 zw_4_127 zw_1_8 zw_4_128 zmh_X8 zpd_X8_of (Nat.le_of_ble_eq_true rfl) (Nat.le_of_ble_eq_true rfl) rfl rfl, sm_cs _ _ _ _ _ _⟩, ⟨_, ⟨sn_istore dX8_who_138 (Nat.le_of_ble_eq_true rfl), sm_is _⟩, ⟨_, ⟨sn_aload_n dX8_who_140 rfl, sm_al _⟩, ⟨_, ⟨sn_get (C := RX8) (T := TX8) (N := 23) dX8_who_141 rfl zinX8 (Nat.le_of_ble_eq_true rfl) zw_3_189, sm_get _ _⟩, ⟨_, ⟨sn_cs_v ztb_X8_week dX8_who_144 zw_4_120 zw_4_121 zw_1_8 zw_4_122 zmh_X8 zpd_X8_week (Nat.le_of_ble_eq_true rfl) (Nat.le_of_ble_eq_true rfl) rfl rfl, sm_cs _ _ _ _ _ _⟩, ⟨_, ⟨sn_iload dX8_who_147, sm_il _⟩, ⟨_, ⟨sn_if_eq dX8_who_149 (by decide +kernel) rfl, sm_if1 _ _ _⟩, ⟨_, ⟨sn_aload_n dX8_who_152 rfl, sm_al _⟩, ⟨_, ⟨sn_get (C := RX8) (T := TX8) (N := 23) dX8_who_153 rfl zinX8 (Nat.le_of_ble_eq_true rfl) zw_3_189, sm_get _ _⟩, ⟨_, ⟨sn_iload_n dX8_who_156 rfl, sm_il _⟩, ⟨_, ⟨sn_bipush dX8_who_157 (by decide +kernel), sm_const _⟩, ⟨_, ⟨sn_cs_i ztb_X8_of dX8_who_159 zw_4_126 zw_4_127 zw_1_8 zw_4_128 zmh_X8 zpd_X8_of (Nat.le_of_ble_eq_true rfl) (Nat.le_of_ble_eq_true rfl) rfl rfl, sm_cs _ _ _ _ _ _⟩, ⟨_, ⟨sn_iload dX8_who_162, sm_il _⟩, ⟨_, ⟨sn_isub dX8_who_164, sm_bin _⟩, ⟨_, ⟨sn_aload_n dX8_who_165 rfl, sm_al _⟩, ⟨_, ⟨sn_get (C := RX8) (T := TX8) (N := 23) dX8_who_166 rfl zinX8 (Nat.le_of_ble_eq_true rfl) zw_3_186, sm_get _ _⟩, ⟨_, ⟨sn_bipush dX8_who_169 (by decide +kernel), sm_const _⟩, ⟨_, ⟨sn_iload_n dX8_who_171 rfl, sm_il _⟩, ⟨_, ⟨sn_imul dX8_who_172, sm_bin _⟩, ⟨_, ⟨sn_iload_n dX8_who_173 rfl, sm_il _⟩, ⟨_, ⟨sn_iadd dX8_who_174, sm_bin _⟩, ⟨_, ⟨sn_iload dX8_who_175, sm_il _⟩, ⟨_, ⟨sn_iadd dX8_who_177, sm_bin _⟩, ⟨_, ⟨sn_iald dX8_who_178, sm_iald⟩, ⟨_, ⟨sn_ic_ne dX8_who_179 (by decide +kernel) rfl, sm_if2 _ _ _⟩, ⟨_, ⟨sn_iconst dX8_who_182 (by decide +kernel), sm_const _⟩, ⟨_, ⟨sn_goto (len := 3) dX8_who_183 (by decide +kernel) rfl, sm_go _ _⟩, trivial⟩⟩⟩⟩⟩⟩⟩⟩⟩⟩⟩⟩⟩⟩⟩⟩⟩⟩⟩⟩⟩⟩⟩⟩⟩⟩⟩⟩⟩⟩⟩⟩⟩⟩
set_option maxRecDepth 20000 in
theorem kX8_who_186 : sx_BK sx_tb yX8_who.cls cX8_who 10 (some .int) ({ frames := 4, cells := 0, slots := 0, locals := 89 } : Room) false false 0 (fun _ => 0) 186 (bX8_who_186) := ⟨_, ⟨sn_iconst dX8_who_186 (by decide +kernel), sm_const _⟩, ⟨_, ⟨sn_fall (len := 0) rfl rfl, sm_go _ _⟩, trivial⟩⟩
set_option maxRecDepth 20000 in
theorem kX8_who_187 : sx_BK sx_tb yX8_who.cls cX8_who 10 (some .int) ({ frames := 4, cells := 0, slots := 0, locals := 89 } : Room) false false 0 (fun _ => 0) 187 (bX8_who_187) := ⟨_, ⟨sn_istore dX8_who_187 (Nat.le_of_ble_eq_true rfl), sm_is _⟩, ⟨_, ⟨sn_iinc dX8_who_189 (by decide +kernel) (Nat.le_of_ble_eq_true rfl), sm_inc _ _⟩, ⟨_, ⟨sn_goto (len := 3) dX8_who_192 (by decide +kernel) rfl, sm_go _ _⟩, trivial⟩⟩⟩
set_option maxRecDepth 20000 in
theorem kX8_who_195 : sx_BK sx_tb yX8_who.cls cX8_who 10 (some .int) ({ frames := 4, cells := 0, slots := 0, locals := 89 } : Room) false false 0 (fun _ => 0) 195 (bX8_who_195) := ⟨_, ⟨sn_iload dX8_who_195, sm_il _⟩, ⟨_, ⟨sn_iload dX8_who_197, sm_il _⟩, ⟨_, ⟨sn_if_eq dX8_who_199 (by decide +kernel) rfl, sm_if1 _ _ _⟩, ⟨_, ⟨sn_iconst dX8_who_202 (by decide +kernel), sm_const _⟩, ⟨_, ⟨sn_iload dX8_who_203, sm_il _⟩, ⟨_, ⟨sn_ishl dX8_who_205, sm_bin _⟩, ⟨_, ⟨sn_goto (len := 3) dX8_who_206 (by decide +kernel) rfl, sm_go _ _⟩, trivial⟩⟩⟩⟩⟩⟩⟩
set_option maxRecDepth 20000 in
theorem kX8_who_209 : sx_BK sx_tb yX8_who.cls cX8_who 10 (some .int) ({ frames := 4, cells := 0, slots := 0, locals := 89 } : Room) false false 0 (fun _ => 0) 209 (bX8_who_209) := ⟨_, ⟨sn_iconst dX8_who_209 (by decide +kernel), sm_const _⟩, ⟨_, ⟨sn_fall (len := 0) rfl rfl, sm_go _ _⟩, trivial⟩⟩
set_option maxRecDepth 20000 in
theorem kX8_who_210 : sx_BK sx_tb yX8_who.cls cX8_who 10 (some .int) ({ frames := 4, cells := 0, slots := 0, locals := 89 } : Room) false false 0 (fun _ => 0) 210 (bX8_who_210) := ⟨_, ⟨sn_ior dX8_who_210, sm_bin _⟩, ⟨_, ⟨sn_istore dX8_who_211 (Nat.le_of_ble_eq_true rfl), sm_is _⟩, ⟨_, ⟨sn_iinc dX8_who_213 (by decide +kernel) (Nat.le_of_ble_eq_true rfl), sm_inc _ _⟩, ⟨_, ⟨sn_goto (len := 3) dX8_who_216 (by decide +kernel) rfl, sm_go _ _⟩, trivial⟩⟩⟩⟩
set_option maxRecDepth 20000 in
theorem kX8_who_219 : sx_BK sx_tb yX8_who.cls cX8_who 10 (some .int) ({ frames := 4, cells := 0, slots := 0, locals := 89 } : Room) false false 0 (fun _ => 0) 219 (bX8_who_219) := ⟨_, ⟨sn_iload dX8_who_219, sm_il _⟩, ⟨_, ⟨sn_ri (len := 1) dX8_who_221 rfl, sm_ri⟩, trivial⟩⟩
theorem kX8_who : ∀ pc, sx_BK sx_tb yX8_who.cls cX8_who 10 (some .int) ({ frames := 4, cells := 0, slots := 0, locals := 89 } : Room) false false 0 (fun _ => 0) pc (BX8_who pc) := fun pc => sx_bk_if (kX8_who_0) (sx_bk_if (kX8_who_33) (sx_bk_if (kX8_who_36) (sx_bk_if (kX8_who_51) (sx_bk_if (kX8_who_72) (sx_bk_if (kX8_who_78) (sx_bk_if (kX8_who_89) (sx_bk_if (kX8_who_121) (sx_bk_if (kX8_who_186) (sx_bk_if (kX8_who_187) (sx_bk_if (kX8_who_195) (sx_bk_if (kX8_who_209) (sx_bk_if (kX8_who_210) (sx_bk_if (kX8_who_219) (trivial))))))))))))))
theorem okX8_who : sx_ok sx_tb BX8_who (yX8_who, cX8_who, 10, some .int, { frames := 4, cells := 0, slots := 0, locals := 89 }) := ⟨by decide, by decide +kernel, false, (fun h => by cases h), kX8_who⟩
