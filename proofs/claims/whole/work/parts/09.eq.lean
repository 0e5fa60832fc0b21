/-! fixpoints: a body is its blocks, a call is its body -/
theorem sx_T_eq {B : Nat → List sx_S} (hm : ∀ pc, ∀ I ∈ B pc, sx_mon I) (Rt : sx_R) (pc : Nat) : sx_T B sx_Cal Rt pc = sx_run (B pc) sx_Cal (sx_T B sx_Cal Rt) Rt := by
  funext ls st n h kc ks
  have hC : ∀ mi a n h (Q Q' : sx_Q), (∀ r n h, Q r n h → Q' r n h) → sx_Cal mi a n h Q → sx_Cal mi a n h Q' := sx_Call_mon sx_hm0
  refine propext ⟨fun q => ?_, fun q => sx_T_in hm hC q⟩
  refine q (fun pc ls st n h kc ks => sx_run (B pc) sx_Cal (sx_T B sx_Cal Rt) Rt ls st n h kc ks) (fun pc ls st n h kc ks z => ?_)
  exact sx_run_mon (B pc) (hm pc) sx_Cal sx_Cal _ _ Rt Rt hC (fun t ls st n h kc ks y => sx_T_in hm hC y) (fun _ _ _ _ _ y => y) _ _ _ _ _ _ z
theorem sx_C_eq {mi : Nat} {q : sx_M} (hq : sx_tb[mi]? = some q) (a : List sx_V) (n : Nat) (h : sx_H) (Q : sx_Q) : sx_Cal mi a n h Q = (sx_cat a ≤ q.2.2.1 ∧ sx_T (sx_BT mi) sx_Cal (fun r n' h' kc ks => Q r n' h' ∧ kc ≤ q.2.2.2.2.cells ∧ ks ≤ q.2.2.2.2.slots) 0 (sx_en q.2.2.1 a) [] n h 0 0) := by
  refine propext ⟨fun z => ?_, fun z => sx_Call_in sx_hm0 hq z.1 z.2⟩
  have hC : ∀ mi a n h (Q Q' : sx_Q), (∀ r n h, Q r n h → Q' r n h) → sx_Cal mi a n h Q → sx_Cal mi a n h Q' := sx_Call_mon sx_hm0
  refine z (fun mi a n h Q => (∃ q, sx_tb[mi]? = some q) ∧ ∀ q, sx_tb[mi]? = some q → sx_cat a ≤ q.2.2.1 ∧ sx_T (sx_BT mi) sx_Cal (fun r n' h' kc ks => Q r n' h' ∧ kc ≤ q.2.2.2.2.cells ∧ ks ≤ q.2.2.2.2.slots) 0 (sx_en q.2.2.1 a) [] n h 0 0) (fun mi q a n h Q hq hc ht => ⟨⟨q, hq⟩, fun q' hq' => ?_⟩) |>.2 q hq
  cases hq.symm.trans hq'
  exact ⟨hc, sx_T_mon (hm := sx_hm0 mi) (fun mi a n h Q Q' hQ hp => by
    obtain ⟨⟨q, e⟩, hp⟩ := hp
    exact hC mi a n h Q Q' hQ (sx_Call_in sx_hm0 e (hp q e).1 (hp q e).2)) (fun _ _ _ _ _ y => y) ht⟩
theorem tX0_init_0 (Rt : sx_R) : sx_T BX0_init sx_Cal Rt 0 = sx_run bX0_init_0 sx_Cal (sx_T BX0_init sx_Cal Rt) Rt := sx_T_eq (fun pc => sx_BK_mon (kX0_init pc)) Rt 0
theorem cX0_init_c (a : List sx_V) (n : Nat) (h : sx_H) (Q : sx_Q) : sx_Cal 0 a n h Q = (sx_cat a ≤ 1 ∧ sx_T BX0_init sx_Cal (fun r n' h' kc ks => Q r n' h' ∧ kc ≤ 25 ∧ ks ≤ 1512) 0 (sx_en 1 a) [] n h 0 0) := sx_C_eq ztb_X0_init a n h Q
theorem tX0_forget_0 (Rt : sx_R) : sx_T BX0_forget sx_Cal Rt 0 = sx_run bX0_forget_0 sx_Cal (sx_T BX0_forget sx_Cal Rt) Rt := sx_T_eq (fun pc => sx_BK_mon (kX0_forget pc)) Rt 0
theorem cX0_forget_c (a : List sx_V) (n : Nat) (h : sx_H) (Q : sx_Q) : sx_Cal 1 a n h Q = (sx_cat a ≤ 1 ∧ sx_T BX0_forget sx_Cal (fun r n' h' kc ks => Q r n' h' ∧ kc ≤ 0 ∧ ks ≤ 0) 0 (sx_en 1 a) [] n h 0 0) := sx_C_eq ztb_X0_forget a n h Q
theorem tX0_keep_0 (Rt : sx_R) : sx_T BX0_keep sx_Cal Rt 0 = sx_run bX0_keep_0 sx_Cal (sx_T BX0_keep sx_Cal Rt) Rt := sx_T_eq (fun pc => sx_BK_mon (kX0_keep pc)) Rt 0
theorem cX0_keep_c (a : List sx_V) (n : Nat) (h : sx_H) (Q : sx_Q) : sx_Cal 2 a n h Q = (sx_cat a ≤ 2 ∧ sx_T BX0_keep sx_Cal (fun r n' h' kc ks => Q r n' h' ∧ kc ≤ 0 ∧ ks ≤ 0) 0 (sx_en 2 a) [] n h 0 0) := sx_C_eq ztb_X0_keep a n h Q
theorem tX0_takeBack_0 (Rt : sx_R) : sx_T BX0_takeBack sx_Cal Rt 0 = sx_run bX0_takeBack_0 sx_Cal (sx_T BX0_takeBack sx_Cal Rt) Rt := sx_T_eq (fun pc => sx_BK_mon (kX0_takeBack pc)) Rt 0
theorem cX0_takeBack_c (a : List sx_V) (n : Nat) (h : sx_H) (Q : sx_Q) : sx_Cal 3 a n h Q = (sx_cat a ≤ 2 ∧ sx_T BX0_takeBack sx_Cal (fun r n' h' kc ks => Q r n' h' ∧ kc ≤ 0 ∧ ks ≤ 0) 0 (sx_en 2 a) [] n h 0 0) := sx_C_eq ztb_X0_takeBack a n h Q
theorem tX1_init_0 (Rt : sx_R) : sx_T BX1_init sx_Cal Rt 0 = sx_run bX1_init_0 sx_Cal (sx_T BX1_init sx_Cal Rt) Rt := sx_T_eq (fun pc => sx_BK_mon (kX1_init pc)) Rt 0
theorem cX1_init_c (a : List sx_V) (n : Nat) (h : sx_H) (Q : sx_Q) : sx_Cal 4 a n h Q = (sx_cat a ≤ 2 ∧ sx_T BX1_init sx_Cal (fun r n' h' kc ks => Q r n' h' ∧ kc ≤ 1 ∧ ks ≤ 16) 0 (sx_en 2 a) [] n h 0 0) := sx_C_eq ztb_X1_init a n h Q
theorem tX1_sizeOf_0 (Rt : sx_R) : sx_T BX1_sizeOf sx_Cal Rt 0 = sx_run bX1_sizeOf_0 sx_Cal (sx_T BX1_sizeOf sx_Cal Rt) Rt := sx_T_eq (fun pc => sx_BK_mon (kX1_sizeOf pc)) Rt 0
theorem tX1_sizeOf_48 (Rt : sx_R) : sx_T BX1_sizeOf sx_Cal Rt 48 = sx_run bX1_sizeOf_48 sx_Cal (sx_T BX1_sizeOf sx_Cal Rt) Rt := sx_T_eq (fun pc => sx_BK_mon (kX1_sizeOf pc)) Rt 48
theorem tX1_sizeOf_54 (Rt : sx_R) : sx_T BX1_sizeOf sx_Cal Rt 54 = sx_run bX1_sizeOf_54 sx_Cal (sx_T BX1_sizeOf sx_Cal Rt) Rt := sx_T_eq (fun pc => sx_BK_mon (kX1_sizeOf pc)) Rt 54
theorem tX1_sizeOf_60 (Rt : sx_R) : sx_T BX1_sizeOf sx_Cal Rt 60 = sx_run bX1_sizeOf_60 sx_Cal (sx_T BX1_sizeOf sx_Cal Rt) Rt := sx_T_eq (fun pc => sx_BK_mon (kX1_sizeOf pc)) Rt 60
theorem tX1_sizeOf_66 (Rt : sx_R) : sx_T BX1_sizeOf sx_Cal Rt 66 = sx_run bX1_sizeOf_66 sx_Cal (sx_T BX1_sizeOf sx_Cal Rt) Rt := sx_T_eq (fun pc => sx_BK_mon (kX1_sizeOf pc)) Rt 66
theorem cX1_sizeOf_c (a : List sx_V) (n : Nat) (h : sx_H) (Q : sx_Q) : sx_Cal 5 a n h Q = (sx_cat a ≤ 2 ∧ sx_T BX1_sizeOf sx_Cal (fun r n' h' kc ks => Q r n' h' ∧ kc ≤ 0 ∧ ks ≤ 0) 0 (sx_en 2 a) [] n h 0 0) := sx_C_eq ztb_X1_sizeOf a n h Q
theorem tX1_markOf_0 (Rt : sx_R) : sx_T BX1_markOf sx_Cal Rt 0 = sx_run bX1_markOf_0 sx_Cal (sx_T BX1_markOf sx_Cal Rt) Rt := sx_T_eq (fun pc => sx_BK_mon (kX1_markOf pc)) Rt 0
theorem tX1_markOf_48 (Rt : sx_R) : sx_T BX1_markOf sx_Cal Rt 48 = sx_run bX1_markOf_48 sx_Cal (sx_T BX1_markOf sx_Cal Rt) Rt := sx_T_eq (fun pc => sx_BK_mon (kX1_markOf pc)) Rt 48
theorem tX1_markOf_54 (Rt : sx_R) : sx_T BX1_markOf sx_Cal Rt 54 = sx_run bX1_markOf_54 sx_Cal (sx_T BX1_markOf sx_Cal Rt) Rt := sx_T_eq (fun pc => sx_BK_mon (kX1_markOf pc)) Rt 54
theorem tX1_markOf_60 (Rt : sx_R) : sx_T BX1_markOf sx_Cal Rt 60 = sx_run bX1_markOf_60 sx_Cal (sx_T BX1_markOf sx_Cal Rt) Rt := sx_T_eq (fun pc => sx_BK_mon (kX1_markOf pc)) Rt 60
theorem cX1_markOf_c (a : List sx_V) (n : Nat) (h : sx_H) (Q : sx_Q) : sx_Cal 6 a n h Q = (sx_cat a ≤ 2 ∧ sx_T BX1_markOf sx_Cal (fun r n' h' kc ks => Q r n' h' ∧ kc ≤ 0 ∧ ks ≤ 0) 0 (sx_en 2 a) [] n h 0 0) := sx_C_eq ztb_X1_markOf a n h Q
theorem tX1_markOfSteady_0 (Rt : sx_R) : sx_T BX1_markOfSteady sx_Cal Rt 0 = sx_run bX1_markOfSteady_0 sx_Cal (sx_T BX1_markOfSteady sx_Cal Rt) Rt := sx_T_eq (fun pc => sx_BK_mon (kX1_markOfSteady pc)) Rt 0
theorem tX1_markOfSteady_40 (Rt : sx_R) : sx_T BX1_markOfSteady sx_Cal Rt 40 = sx_run bX1_markOfSteady_40 sx_Cal (sx_T BX1_markOfSteady sx_Cal Rt) Rt := sx_T_eq (fun pc => sx_BK_mon (kX1_markOfSteady pc)) Rt 40
theorem tX1_markOfSteady_46 (Rt : sx_R) : sx_T BX1_markOfSteady sx_Cal Rt 46 = sx_run bX1_markOfSteady_46 sx_Cal (sx_T BX1_markOfSteady sx_Cal Rt) Rt := sx_T_eq (fun pc => sx_BK_mon (kX1_markOfSteady pc)) Rt 46
theorem tX1_markOfSteady_52 (Rt : sx_R) : sx_T BX1_markOfSteady sx_Cal Rt 52 = sx_run bX1_markOfSteady_52 sx_Cal (sx_T BX1_markOfSteady sx_Cal Rt) Rt := sx_T_eq (fun pc => sx_BK_mon (kX1_markOfSteady pc)) Rt 52
theorem cX1_markOfSteady_c (a : List sx_V) (n : Nat) (h : sx_H) (Q : sx_Q) : sx_Cal 7 a n h Q = (sx_cat a ≤ 2 ∧ sx_T BX1_markOfSteady sx_Cal (fun r n' h' kc ks => Q r n' h' ∧ kc ≤ 0 ∧ ks ≤ 0) 0 (sx_en 2 a) [] n h 0 0) := sx_C_eq ztb_X1_markOfSteady a n h Q
theorem tX1_sizeOfTwice_0 (Rt : sx_R) : sx_T BX1_sizeOfTwice sx_Cal Rt 0 = sx_run bX1_sizeOfTwice_0 sx_Cal (sx_T BX1_sizeOfTwice sx_Cal Rt) Rt := sx_T_eq (fun pc => sx_BK_mon (kX1_sizeOfTwice pc)) Rt 0
theorem tX1_sizeOfTwice_24 (Rt : sx_R) : sx_T BX1_sizeOfTwice sx_Cal Rt 24 = sx_run bX1_sizeOfTwice_24 sx_Cal (sx_T BX1_sizeOfTwice sx_Cal Rt) Rt := sx_T_eq (fun pc => sx_BK_mon (kX1_sizeOfTwice pc)) Rt 24
theorem tX1_sizeOfTwice_29 (Rt : sx_R) : sx_T BX1_sizeOfTwice sx_Cal Rt 29 = sx_run bX1_sizeOfTwice_29 sx_Cal (sx_T BX1_sizeOfTwice sx_Cal Rt) Rt := sx_T_eq (fun pc => sx_BK_mon (kX1_sizeOfTwice pc)) Rt 29
theorem cX1_sizeOfTwice_c (a : List sx_V) (n : Nat) (h : sx_H) (Q : sx_Q) : sx_Cal 8 a n h Q = (sx_cat a ≤ 2 ∧ sx_T BX1_sizeOfTwice sx_Cal (fun r n' h' kc ks => Q r n' h' ∧ kc ≤ 0 ∧ ks ≤ 0) 0 (sx_en 2 a) [] n h 0 0) := sx_C_eq ztb_X1_sizeOfTwice a n h Q
theorem tX1_begin_0 (Rt : sx_R) : sx_T BX1_begin sx_Cal Rt 0 = sx_run bX1_begin_0 sx_Cal (sx_T BX1_begin sx_Cal Rt) Rt := sx_T_eq (fun pc => sx_BK_mon (kX1_begin pc)) Rt 0
theorem tX1_begin_29 (Rt : sx_R) : sx_T BX1_begin sx_Cal Rt 29 = sx_run bX1_begin_29 sx_Cal (sx_T BX1_begin sx_Cal Rt) Rt := sx_T_eq (fun pc => sx_BK_mon (kX1_begin pc)) Rt 29
theorem cX1_begin_c (a : List sx_V) (n : Nat) (h : sx_H) (Q : sx_Q) : sx_Cal 9 a n h Q = (sx_cat a ≤ 2 ∧ sx_T BX1_begin sx_Cal (fun r n' h' kc ks => Q r n' h' ∧ kc ≤ 0 ∧ ks ≤ 0) 0 (sx_en 2 a) [] n h 0 0) := sx_C_eq ztb_X1_begin a n h Q
theorem tX1_size10_0 (Rt : sx_R) : sx_T BX1_size10 sx_Cal Rt 0 = sx_run bX1_size10_0 sx_Cal (sx_T BX1_size10 sx_Cal Rt) Rt := sx_T_eq (fun pc => sx_BK_mon (kX1_size10 pc)) Rt 0
theorem cX1_size10_c (a : List sx_V) (n : Nat) (h : sx_H) (Q : sx_Q) : sx_Cal 10 a n h Q = (sx_cat a ≤ 2 ∧ sx_T BX1_size10 sx_Cal (fun r n' h' kc ks => Q r n' h' ∧ kc ≤ 0 ∧ ks ≤ 0) 0 (sx_en 2 a) [] n h 0 0) := sx_C_eq ztb_X1_size10 a n h Q
theorem tX1_size11_0 (Rt : sx_R) : sx_T BX1_size11 sx_Cal Rt 0 = sx_run bX1_size11_0 sx_Cal (sx_T BX1_size11 sx_Cal Rt) Rt := sx_T_eq (fun pc => sx_BK_mon (kX1_size11 pc)) Rt 0
theorem cX1_size11_c (a : List sx_V) (n : Nat) (h : sx_H) (Q : sx_Q) : sx_Cal 11 a n h Q = (sx_cat a ≤ 3 ∧ sx_T BX1_size11 sx_Cal (fun r n' h' kc ks => Q r n' h' ∧ kc ≤ 0 ∧ ks ≤ 0) 0 (sx_en 3 a) [] n h 0 0) := sx_C_eq ztb_X1_size11 a n h Q
theorem tX1_size12_0 (Rt : sx_R) : sx_T BX1_size12 sx_Cal Rt 0 = sx_run bX1_size12_0 sx_Cal (sx_T BX1_size12 sx_Cal Rt) Rt := sx_T_eq (fun pc => sx_BK_mon (kX1_size12 pc)) Rt 0
theorem cX1_size12_c (a : List sx_V) (n : Nat) (h : sx_H) (Q : sx_Q) : sx_Cal 12 a n h Q = (sx_cat a ≤ 2 ∧ sx_T BX1_size12 sx_Cal (fun r n' h' kc ks => Q r n' h' ∧ kc ≤ 0 ∧ ks ≤ 0) 0 (sx_en 2 a) [] n h 0 0) := sx_C_eq ztb_X1_size12 a n h Q
theorem tX1_size13_0 (Rt : sx_R) : sx_T BX1_size13 sx_Cal Rt 0 = sx_run bX1_size13_0 sx_Cal (sx_T BX1_size13 sx_Cal Rt) Rt := sx_T_eq (fun pc => sx_BK_mon (kX1_size13 pc)) Rt 0
theorem cX1_size13_c (a : List sx_V) (n : Nat) (h : sx_H) (Q : sx_Q) : sx_Cal 13 a n h Q = (sx_cat a ≤ 2 ∧ sx_T BX1_size13 sx_Cal (fun r n' h' kc ks => Q r n' h' ∧ kc ≤ 0 ∧ ks ≤ 0) 0 (sx_en 2 a) [] n h 0 0) := sx_C_eq ztb_X1_size13 a n h Q
theorem tX1_size14_0 (Rt : sx_R) : sx_T BX1_size14 sx_Cal Rt 0 = sx_run bX1_size14_0 sx_Cal (sx_T BX1_size14 sx_Cal Rt) Rt := sx_T_eq (fun pc => sx_BK_mon (kX1_size14 pc)) Rt 0
theorem cX1_size14_c (a : List sx_V) (n : Nat) (h : sx_H) (Q : sx_Q) : sx_Cal 14 a n h Q = (sx_cat a ≤ 2 ∧ sx_T BX1_size14 sx_Cal (fun r n' h' kc ks => Q r n' h' ∧ kc ≤ 0 ∧ ks ≤ 0) 0 (sx_en 2 a) [] n h 0 0) := sx_C_eq ztb_X1_size14 a n h Q
theorem tX1_mark20_0 (Rt : sx_R) : sx_T BX1_mark20 sx_Cal Rt 0 = sx_run bX1_mark20_0 sx_Cal (sx_T BX1_mark20 sx_Cal Rt) Rt := sx_T_eq (fun pc => sx_BK_mon (kX1_mark20 pc)) Rt 0
theorem cX1_mark20_c (a : List sx_V) (n : Nat) (h : sx_H) (Q : sx_Q) : sx_Cal 15 a n h Q = (sx_cat a ≤ 2 ∧ sx_T BX1_mark20 sx_Cal (fun r n' h' kc ks => Q r n' h' ∧ kc ≤ 0 ∧ ks ≤ 0) 0 (sx_en 2 a) [] n h 0 0) := sx_C_eq ztb_X1_mark20 a n h Q
theorem tX1_mark21_0 (Rt : sx_R) : sx_T BX1_mark21 sx_Cal Rt 0 = sx_run bX1_mark21_0 sx_Cal (sx_T BX1_mark21 sx_Cal Rt) Rt := sx_T_eq (fun pc => sx_BK_mon (kX1_mark21 pc)) Rt 0
theorem cX1_mark21_c (a : List sx_V) (n : Nat) (h : sx_H) (Q : sx_Q) : sx_Cal 16 a n h Q = (sx_cat a ≤ 2 ∧ sx_T BX1_mark21 sx_Cal (fun r n' h' kc ks => Q r n' h' ∧ kc ≤ 0 ∧ ks ≤ 0) 0 (sx_en 2 a) [] n h 0 0) := sx_C_eq ztb_X1_mark21 a n h Q
theorem tX1_mark22_0 (Rt : sx_R) : sx_T BX1_mark22 sx_Cal Rt 0 = sx_run bX1_mark22_0 sx_Cal (sx_T BX1_mark22 sx_Cal Rt) Rt := sx_T_eq (fun pc => sx_BK_mon (kX1_mark22 pc)) Rt 0
theorem cX1_mark22_c (a : List sx_V) (n : Nat) (h : sx_H) (Q : sx_Q) : sx_Cal 17 a n h Q = (sx_cat a ≤ 2 ∧ sx_T BX1_mark22 sx_Cal (fun r n' h' kc ks => Q r n' h' ∧ kc ≤ 0 ∧ ks ≤ 0) 0 (sx_en 2 a) [] n h 0 0) := sx_C_eq ztb_X1_mark22 a n h Q
theorem tX1_mark23_0 (Rt : sx_R) : sx_T BX1_mark23 sx_Cal Rt 0 = sx_run bX1_mark23_0 sx_Cal (sx_T BX1_mark23 sx_Cal Rt) Rt := sx_T_eq (fun pc => sx_BK_mon (kX1_mark23 pc)) Rt 0
theorem cX1_mark23_c (a : List sx_V) (n : Nat) (h : sx_H) (Q : sx_Q) : sx_Cal 18 a n h Q = (sx_cat a ≤ 3 ∧ sx_T BX1_mark23 sx_Cal (fun r n' h' kc ks => Q r n' h' ∧ kc ≤ 0 ∧ ks ≤ 0) 0 (sx_en 3 a) [] n h 0 0) := sx_C_eq ztb_X1_mark23 a n h Q
theorem tX1_mark24_0 (Rt : sx_R) : sx_T BX1_mark24 sx_Cal Rt 0 = sx_run bX1_mark24_0 sx_Cal (sx_T BX1_mark24 sx_Cal Rt) Rt := sx_T_eq (fun pc => sx_BK_mon (kX1_mark24 pc)) Rt 0
theorem cX1_mark24_c (a : List sx_V) (n : Nat) (h : sx_H) (Q : sx_Q) : sx_Cal 19 a n h Q = (sx_cat a ≤ 2 ∧ sx_T BX1_mark24 sx_Cal (fun r n' h' kc ks => Q r n' h' ∧ kc ≤ 0 ∧ ks ≤ 0) 0 (sx_en 2 a) [] n h 0 0) := sx_C_eq ztb_X1_mark24 a n h Q
theorem tX2_init_0 (Rt : sx_R) : sx_T BX2_init sx_Cal Rt 0 = sx_run bX2_init_0 sx_Cal (sx_T BX2_init sx_Cal Rt) Rt := sx_T_eq (fun pc => sx_BK_mon (kX2_init pc)) Rt 0
theorem cX2_init_c (a : List sx_V) (n : Nat) (h : sx_H) (Q : sx_Q) : sx_Cal 20 a n h Q = (sx_cat a ≤ 1 ∧ sx_T BX2_init sx_Cal (fun r n' h' kc ks => Q r n' h' ∧ kc ≤ 1 ∧ ks ≤ 62) 0 (sx_en 1 a) [] n h 0 0) := sx_C_eq ztb_X2_init a n h Q
theorem tX2_clear_0 (Rt : sx_R) : sx_T BX2_clear sx_Cal Rt 0 = sx_run bX2_clear_0 sx_Cal (sx_T BX2_clear sx_Cal Rt) Rt := sx_T_eq (fun pc => sx_BK_mon (kX2_clear pc)) Rt 0
theorem tX2_clear_2 (Rt : sx_R) : sx_T BX2_clear sx_Cal Rt 2 = sx_run bX2_clear_2 sx_Cal (sx_T BX2_clear sx_Cal Rt) Rt := sx_T_eq (fun pc => sx_BK_mon (kX2_clear pc)) Rt 2
theorem tX2_clear_21 (Rt : sx_R) : sx_T BX2_clear sx_Cal Rt 21 = sx_run bX2_clear_21 sx_Cal (sx_T BX2_clear sx_Cal Rt) Rt := sx_T_eq (fun pc => sx_BK_mon (kX2_clear pc)) Rt 21
theorem cX2_clear_c (a : List sx_V) (n : Nat) (h : sx_H) (Q : sx_Q) : sx_Cal 21 a n h Q = (sx_cat a ≤ 2 ∧ sx_T BX2_clear sx_Cal (fun r n' h' kc ks => Q r n' h' ∧ kc ≤ 0 ∧ ks ≤ 0) 0 (sx_en 2 a) [] n h 0 0) := sx_C_eq ztb_X2_clear a n h Q
theorem tX2_becomes_0 (Rt : sx_R) : sx_T BX2_becomes sx_Cal Rt 0 = sx_run bX2_becomes_0 sx_Cal (sx_T BX2_becomes sx_Cal Rt) Rt := sx_T_eq (fun pc => sx_BK_mon (kX2_becomes pc)) Rt 0
theorem cX2_becomes_c (a : List sx_V) (n : Nat) (h : sx_H) (Q : sx_Q) : sx_Cal 22 a n h Q = (sx_cat a ≤ 2 ∧ sx_T BX2_becomes sx_Cal (fun r n' h' kc ks => Q r n' h' ∧ kc ≤ 0 ∧ ks ≤ 0) 0 (sx_en 2 a) [] n h 0 0) := sx_C_eq ztb_X2_becomes a n h Q
theorem tX2_isThere_0 (Rt : sx_R) : sx_T BX2_isThere sx_Cal Rt 0 = sx_run bX2_isThere_0 sx_Cal (sx_T BX2_isThere sx_Cal Rt) Rt := sx_T_eq (fun pc => sx_BK_mon (kX2_isThere pc)) Rt 0
theorem tX2_isThere_14 (Rt : sx_R) : sx_T BX2_isThere sx_Cal Rt 14 = sx_run bX2_isThere_14 sx_Cal (sx_T BX2_isThere sx_Cal Rt) Rt := sx_T_eq (fun pc => sx_BK_mon (kX2_isThere pc)) Rt 14
theorem tX2_isThere_15 (Rt : sx_R) : sx_T BX2_isThere sx_Cal Rt 15 = sx_run bX2_isThere_15 sx_Cal (sx_T BX2_isThere sx_Cal Rt) Rt := sx_T_eq (fun pc => sx_BK_mon (kX2_isThere pc)) Rt 15
theorem cX2_isThere_c (a : List sx_V) (n : Nat) (h : sx_H) (Q : sx_Q) : sx_Cal 23 a n h Q = (sx_cat a ≤ 1 ∧ sx_T BX2_isThere sx_Cal (fun r n' h' kc ks => Q r n' h' ∧ kc ≤ 0 ∧ ks ≤ 0) 0 (sx_en 1 a) [] n h 0 0) := sx_C_eq ztb_X2_isThere a n h Q
theorem tX2_has_0 (Rt : sx_R) : sx_T BX2_has sx_Cal Rt 0 = sx_run bX2_has_0 sx_Cal (sx_T BX2_has sx_Cal Rt) Rt := sx_T_eq (fun pc => sx_BK_mon (kX2_has pc)) Rt 0
theorem tX2_has_25 (Rt : sx_R) : sx_T BX2_has sx_Cal Rt 25 = sx_run bX2_has_25 sx_Cal (sx_T BX2_has sx_Cal Rt) Rt := sx_T_eq (fun pc => sx_BK_mon (kX2_has pc)) Rt 25
theorem tX2_has_26 (Rt : sx_R) : sx_T BX2_has sx_Cal Rt 26 = sx_run bX2_has_26 sx_Cal (sx_T BX2_has sx_Cal Rt) Rt := sx_T_eq (fun pc => sx_BK_mon (kX2_has pc)) Rt 26
theorem cX2_has_c (a : List sx_V) (n : Nat) (h : sx_H) (Q : sx_Q) : sx_Cal 24 a n h Q = (sx_cat a ≤ 2 ∧ sx_T BX2_has sx_Cal (fun r n' h' kc ks => Q r n' h' ∧ kc ≤ 0 ∧ ks ≤ 0) 0 (sx_en 2 a) [] n h 0 0) := sx_C_eq ztb_X2_has a n h Q
theorem tX2_comes_0 (Rt : sx_R) : sx_T BX2_comes sx_Cal Rt 0 = sx_run bX2_comes_0 sx_Cal (sx_T BX2_comes sx_Cal Rt) Rt := sx_T_eq (fun pc => sx_BK_mon (kX2_comes pc)) Rt 0
theorem tX2_comes_36 (Rt : sx_R) : sx_T BX2_comes sx_Cal Rt 36 = sx_run bX2_comes_36 sx_Cal (sx_T BX2_comes sx_Cal Rt) Rt := sx_T_eq (fun pc => sx_BK_mon (kX2_comes pc)) Rt 36
theorem tX2_comes_37 (Rt : sx_R) : sx_T BX2_comes sx_Cal Rt 37 = sx_run bX2_comes_37 sx_Cal (sx_T BX2_comes sx_Cal Rt) Rt := sx_T_eq (fun pc => sx_BK_mon (kX2_comes pc)) Rt 37
theorem cX2_comes_c (a : List sx_V) (n : Nat) (h : sx_H) (Q : sx_Q) : sx_Cal 25 a n h Q = (sx_cat a ≤ 2 ∧ sx_T BX2_comes sx_Cal (fun r n' h' kc ks => Q r n' h' ∧ kc ≤ 0 ∧ ks ≤ 0) 0 (sx_en 2 a) [] n h 0 0) := sx_C_eq ztb_X2_comes a n h Q
theorem tX2_isKind_0 (Rt : sx_R) : sx_T BX2_isKind sx_Cal Rt 0 = sx_run bX2_isKind_0 sx_Cal (sx_T BX2_isKind sx_Cal Rt) Rt := sx_T_eq (fun pc => sx_BK_mon (kX2_isKind pc)) Rt 0
theorem tX2_isKind_23 (Rt : sx_R) : sx_T BX2_isKind sx_Cal Rt 23 = sx_run bX2_isKind_23 sx_Cal (sx_T BX2_isKind sx_Cal Rt) Rt := sx_T_eq (fun pc => sx_BK_mon (kX2_isKind pc)) Rt 23
theorem tX2_isKind_27 (Rt : sx_R) : sx_T BX2_isKind sx_Cal Rt 27 = sx_run bX2_isKind_27 sx_Cal (sx_T BX2_isKind sx_Cal Rt) Rt := sx_T_eq (fun pc => sx_BK_mon (kX2_isKind pc)) Rt 27
theorem tX2_isKind_28 (Rt : sx_R) : sx_T BX2_isKind sx_Cal Rt 28 = sx_run bX2_isKind_28 sx_Cal (sx_T BX2_isKind sx_Cal Rt) Rt := sx_T_eq (fun pc => sx_BK_mon (kX2_isKind pc)) Rt 28
theorem cX2_isKind_c (a : List sx_V) (n : Nat) (h : sx_H) (Q : sx_Q) : sx_Cal 26 a n h Q = (sx_cat a ≤ 3 ∧ sx_T BX2_isKind sx_Cal (fun r n' h' kc ks => Q r n' h' ∧ kc ≤ 0 ∧ ks ≤ 0) 0 (sx_en 3 a) [] n h 0 0) := sx_C_eq ztb_X2_isKind a n h Q
theorem tX2_nearestKind_0 (Rt : sx_R) : sx_T BX2_nearestKind sx_Cal Rt 0 = sx_run bX2_nearestKind_0 sx_Cal (sx_T BX2_nearestKind sx_Cal Rt) Rt := sx_T_eq (fun pc => sx_BK_mon (kX2_nearestKind pc)) Rt 0
theorem tX2_nearestKind_32 (Rt : sx_R) : sx_T BX2_nearestKind sx_Cal Rt 32 = sx_run bX2_nearestKind_32 sx_Cal (sx_T BX2_nearestKind sx_Cal Rt) Rt := sx_T_eq (fun pc => sx_BK_mon (kX2_nearestKind pc)) Rt 32
theorem tX2_nearestKind_34 (Rt : sx_R) : sx_T BX2_nearestKind sx_Cal Rt 34 = sx_run bX2_nearestKind_34 sx_Cal (sx_T BX2_nearestKind sx_Cal Rt) Rt := sx_T_eq (fun pc => sx_BK_mon (kX2_nearestKind pc)) Rt 34
theorem tX2_nearestKind_36 (Rt : sx_R) : sx_T BX2_nearestKind sx_Cal Rt 36 = sx_run bX2_nearestKind_36 sx_Cal (sx_T BX2_nearestKind sx_Cal Rt) Rt := sx_T_eq (fun pc => sx_BK_mon (kX2_nearestKind pc)) Rt 36
theorem cX2_nearestKind_c (a : List sx_V) (n : Nat) (h : sx_H) (Q : sx_Q) : sx_Cal 27 a n h Q = (sx_cat a ≤ 1 ∧ sx_T BX2_nearestKind sx_Cal (fun r n' h' kc ks => Q r n' h' ∧ kc ≤ 0 ∧ ks ≤ 0) 0 (sx_en 1 a) [] n h 0 0) := sx_C_eq ztb_X2_nearestKind a n h Q
theorem tX2_passWeek_0 (Rt : sx_R) : sx_T BX2_passWeek sx_Cal Rt 0 = sx_run bX2_passWeek_0 sx_Cal (sx_T BX2_passWeek sx_Cal Rt) Rt := sx_T_eq (fun pc => sx_BK_mon (kX2_passWeek pc)) Rt 0
theorem tX2_passWeek_14 (Rt : sx_R) : sx_T BX2_passWeek sx_Cal Rt 14 = sx_run bX2_passWeek_14 sx_Cal (sx_T BX2_passWeek sx_Cal Rt) Rt := sx_T_eq (fun pc => sx_BK_mon (kX2_passWeek pc)) Rt 14
theorem tX2_passWeek_40 (Rt : sx_R) : sx_T BX2_passWeek sx_Cal Rt 40 = sx_run bX2_passWeek_40 sx_Cal (sx_T BX2_passWeek sx_Cal Rt) Rt := sx_T_eq (fun pc => sx_BK_mon (kX2_passWeek pc)) Rt 40
theorem tX2_passWeek_45 (Rt : sx_R) : sx_T BX2_passWeek sx_Cal Rt 45 = sx_run bX2_passWeek_45 sx_Cal (sx_T BX2_passWeek sx_Cal Rt) Rt := sx_T_eq (fun pc => sx_BK_mon (kX2_passWeek pc)) Rt 45
theorem tX2_passWeek_109 (Rt : sx_R) : sx_T BX2_passWeek sx_Cal Rt 109 = sx_run bX2_passWeek_109 sx_Cal (sx_T BX2_passWeek sx_Cal Rt) Rt := sx_T_eq (fun pc => sx_BK_mon (kX2_passWeek pc)) Rt 109
theorem tX2_passWeek_127 (Rt : sx_R) : sx_T BX2_passWeek sx_Cal Rt 127 = sx_run bX2_passWeek_127 sx_Cal (sx_T BX2_passWeek sx_Cal Rt) Rt := sx_T_eq (fun pc => sx_BK_mon (kX2_passWeek pc)) Rt 127
theorem cX2_passWeek_c (a : List sx_V) (n : Nat) (h : sx_H) (Q : sx_Q) : sx_Cal 28 a n h Q = (sx_cat a ≤ 2 ∧ sx_T BX2_passWeek sx_Cal (fun r n' h' kc ks => Q r n' h' ∧ kc ≤ 0 ∧ ks ≤ 0) 0 (sx_en 2 a) [] n h 0 0) := sx_C_eq ztb_X2_passWeek a n h Q
theorem tX2_takeAll_0 (Rt : sx_R) : sx_T BX2_takeAll sx_Cal Rt 0 = sx_run bX2_takeAll_0 sx_Cal (sx_T BX2_takeAll sx_Cal Rt) Rt := sx_T_eq (fun pc => sx_BK_mon (kX2_takeAll pc)) Rt 0
theorem tX2_takeAll_2 (Rt : sx_R) : sx_T BX2_takeAll sx_Cal Rt 2 = sx_run bX2_takeAll_2 sx_Cal (sx_T BX2_takeAll sx_Cal Rt) Rt := sx_T_eq (fun pc => sx_BK_mon (kX2_takeAll pc)) Rt 2
theorem tX2_takeAll_21 (Rt : sx_R) : sx_T BX2_takeAll sx_Cal Rt 21 = sx_run bX2_takeAll_21 sx_Cal (sx_T BX2_takeAll sx_Cal Rt) Rt := sx_T_eq (fun pc => sx_BK_mon (kX2_takeAll pc)) Rt 21
theorem tX2_takeAll_27 (Rt : sx_R) : sx_T BX2_takeAll sx_Cal Rt 27 = sx_run bX2_takeAll_27 sx_Cal (sx_T BX2_takeAll sx_Cal Rt) Rt := sx_T_eq (fun pc => sx_BK_mon (kX2_takeAll pc)) Rt 27
theorem cX2_takeAll_c (a : List sx_V) (n : Nat) (h : sx_H) (Q : sx_Q) : sx_Cal 29 a n h Q = (sx_cat a ≤ 2 ∧ sx_T BX2_takeAll sx_Cal (fun r n' h' kc ks => Q r n' h' ∧ kc ≤ 0 ∧ ks ≤ 0) 0 (sx_en 2 a) [] n h 0 0) := sx_C_eq ztb_X2_takeAll a n h Q
theorem tX2_take_0 (Rt : sx_R) : sx_T BX2_take sx_Cal Rt 0 = sx_run bX2_take_0 sx_Cal (sx_T BX2_take sx_Cal Rt) Rt := sx_T_eq (fun pc => sx_BK_mon (kX2_take pc)) Rt 0
theorem cX2_take_c (a : List sx_V) (n : Nat) (h : sx_H) (Q : sx_Q) : sx_Cal 30 a n h Q = (sx_cat a ≤ 4 ∧ sx_T BX2_take sx_Cal (fun r n' h' kc ks => Q r n' h' ∧ kc ≤ 0 ∧ ks ≤ 0) 0 (sx_en 4 a) [] n h 0 0) := sx_C_eq ztb_X2_take a n h Q
theorem tX2_payAll_0 (Rt : sx_R) : sx_T BX2_payAll sx_Cal Rt 0 = sx_run bX2_payAll_0 sx_Cal (sx_T BX2_payAll sx_Cal Rt) Rt := sx_T_eq (fun pc => sx_BK_mon (kX2_payAll pc)) Rt 0
theorem tX2_payAll_4 (Rt : sx_R) : sx_T BX2_payAll sx_Cal Rt 4 = sx_run bX2_payAll_4 sx_Cal (sx_T BX2_payAll sx_Cal Rt) Rt := sx_T_eq (fun pc => sx_BK_mon (kX2_payAll pc)) Rt 4
theorem tX2_payAll_21 (Rt : sx_R) : sx_T BX2_payAll sx_Cal Rt 21 = sx_run bX2_payAll_21 sx_Cal (sx_T BX2_payAll sx_Cal Rt) Rt := sx_T_eq (fun pc => sx_BK_mon (kX2_payAll pc)) Rt 21
theorem tX2_payAll_42 (Rt : sx_R) : sx_T BX2_payAll sx_Cal Rt 42 = sx_run bX2_payAll_42 sx_Cal (sx_T BX2_payAll sx_Cal Rt) Rt := sx_T_eq (fun pc => sx_BK_mon (kX2_payAll pc)) Rt 42
theorem tX2_payAll_50 (Rt : sx_R) : sx_T BX2_payAll sx_Cal Rt 50 = sx_run bX2_payAll_50 sx_Cal (sx_T BX2_payAll sx_Cal Rt) Rt := sx_T_eq (fun pc => sx_BK_mon (kX2_payAll pc)) Rt 50
theorem tX2_payAll_56 (Rt : sx_R) : sx_T BX2_payAll sx_Cal Rt 56 = sx_run bX2_payAll_56 sx_Cal (sx_T BX2_payAll sx_Cal Rt) Rt := sx_T_eq (fun pc => sx_BK_mon (kX2_payAll pc)) Rt 56
theorem cX2_payAll_c (a : List sx_V) (n : Nat) (h : sx_H) (Q : sx_Q) : sx_Cal 31 a n h Q = (sx_cat a ≤ 3 ∧ sx_T BX2_payAll sx_Cal (fun r n' h' kc ks => Q r n' h' ∧ kc ≤ 0 ∧ ks ≤ 0) 0 (sx_en 3 a) [] n h 0 0) := sx_C_eq ztb_X2_payAll a n h Q
theorem tX2_makesOff_0 (Rt : sx_R) : sx_T BX2_makesOff sx_Cal Rt 0 = sx_run bX2_makesOff_0 sx_Cal (sx_T BX2_makesOff sx_Cal Rt) Rt := sx_T_eq (fun pc => sx_BK_mon (kX2_makesOff pc)) Rt 0
theorem tX2_makesOff_43 (Rt : sx_R) : sx_T BX2_makesOff sx_Cal Rt 43 = sx_run bX2_makesOff_43 sx_Cal (sx_T BX2_makesOff sx_Cal Rt) Rt := sx_T_eq (fun pc => sx_BK_mon (kX2_makesOff pc)) Rt 43
theorem tX2_makesOff_44 (Rt : sx_R) : sx_T BX2_makesOff sx_Cal Rt 44 = sx_run bX2_makesOff_44 sx_Cal (sx_T BX2_makesOff sx_Cal Rt) Rt := sx_T_eq (fun pc => sx_BK_mon (kX2_makesOff pc)) Rt 44
theorem cX2_makesOff_c (a : List sx_V) (n : Nat) (h : sx_H) (Q : sx_Q) : sx_Cal 32 a n h Q = (sx_cat a ≤ 3 ∧ sx_T BX2_makesOff sx_Cal (fun r n' h' kc ks => Q r n' h' ∧ kc ≤ 0 ∧ ks ≤ 0) 0 (sx_en 3 a) [] n h 0 0) := sx_C_eq ztb_X2_makesOff a n h Q
theorem tX2_pay_0 (Rt : sx_R) : sx_T BX2_pay sx_Cal Rt 0 = sx_run bX2_pay_0 sx_Cal (sx_T BX2_pay sx_Cal Rt) Rt := sx_T_eq (fun pc => sx_BK_mon (kX2_pay pc)) Rt 0
theorem tX2_pay_28 (Rt : sx_R) : sx_T BX2_pay sx_Cal Rt 28 = sx_run bX2_pay_28 sx_Cal (sx_T BX2_pay sx_Cal Rt) Rt := sx_T_eq (fun pc => sx_BK_mon (kX2_pay pc)) Rt 28
theorem tX2_pay_29 (Rt : sx_R) : sx_T BX2_pay sx_Cal Rt 29 = sx_run bX2_pay_29 sx_Cal (sx_T BX2_pay sx_Cal Rt) Rt := sx_T_eq (fun pc => sx_BK_mon (kX2_pay pc)) Rt 29
theorem cX2_pay_c (a : List sx_V) (n : Nat) (h : sx_H) (Q : sx_Q) : sx_Cal 33 a n h Q = (sx_cat a ≤ 5 ∧ sx_T BX2_pay sx_Cal (fun r n' h' kc ks => Q r n' h' ∧ kc ≤ 0 ∧ ks ≤ 0) 0 (sx_en 5 a) [] n h 0 0) := sx_C_eq ztb_X2_pay a n h Q
theorem tX2_spared_0 (Rt : sx_R) : sx_T BX2_spared sx_Cal Rt 0 = sx_run bX2_spared_0 sx_Cal (sx_T BX2_spared sx_Cal Rt) Rt := sx_T_eq (fun pc => sx_BK_mon (kX2_spared pc)) Rt 0
theorem tX2_spared_28 (Rt : sx_R) : sx_T BX2_spared sx_Cal Rt 28 = sx_run bX2_spared_28 sx_Cal (sx_T BX2_spared sx_Cal Rt) Rt := sx_T_eq (fun pc => sx_BK_mon (kX2_spared pc)) Rt 28
theorem tX2_spared_45 (Rt : sx_R) : sx_T BX2_spared sx_Cal Rt 45 = sx_run bX2_spared_45 sx_Cal (sx_T BX2_spared sx_Cal Rt) Rt := sx_T_eq (fun pc => sx_BK_mon (kX2_spared pc)) Rt 45
theorem tX2_spared_46 (Rt : sx_R) : sx_T BX2_spared sx_Cal Rt 46 = sx_run bX2_spared_46 sx_Cal (sx_T BX2_spared sx_Cal Rt) Rt := sx_T_eq (fun pc => sx_BK_mon (kX2_spared pc)) Rt 46
theorem tX2_spared_47 (Rt : sx_R) : sx_T BX2_spared sx_Cal Rt 47 = sx_run bX2_spared_47 sx_Cal (sx_T BX2_spared sx_Cal Rt) Rt := sx_T_eq (fun pc => sx_BK_mon (kX2_spared pc)) Rt 47
theorem tX2_spared_51 (Rt : sx_R) : sx_T BX2_spared sx_Cal Rt 51 = sx_run bX2_spared_51 sx_Cal (sx_T BX2_spared sx_Cal Rt) Rt := sx_T_eq (fun pc => sx_BK_mon (kX2_spared pc)) Rt 51
theorem cX2_spared_c (a : List sx_V) (n : Nat) (h : sx_H) (Q : sx_Q) : sx_Cal 34 a n h Q = (sx_cat a ≤ 3 ∧ sx_T BX2_spared sx_Cal (fun r n' h' kc ks => Q r n' h' ∧ kc ≤ 0 ∧ ks ≤ 0) 0 (sx_en 3 a) [] n h 0 0) := sx_C_eq ztb_X2_spared a n h Q
theorem tX2_worth_0 (Rt : sx_R) : sx_T BX2_worth sx_Cal Rt 0 = sx_run bX2_worth_0 sx_Cal (sx_T BX2_worth sx_Cal Rt) Rt := sx_T_eq (fun pc => sx_BK_mon (kX2_worth pc)) Rt 0
theorem cX2_worth_c (a : List sx_V) (n : Nat) (h : sx_H) (Q : sx_Q) : sx_Cal 35 a n h Q = (sx_cat a ≤ 1 ∧ sx_T BX2_worth sx_Cal (fun r n' h' kc ks => Q r n' h' ∧ kc ≤ 0 ∧ ks ≤ 0) 0 (sx_en 1 a) [] n h 0 0) := sx_C_eq ztb_X2_worth a n h Q
theorem tX2_allDebts_0 (Rt : sx_R) : sx_T BX2_allDebts sx_Cal Rt 0 = sx_run bX2_allDebts_0 sx_Cal (sx_T BX2_allDebts sx_Cal Rt) Rt := sx_T_eq (fun pc => sx_BK_mon (kX2_allDebts pc)) Rt 0
theorem tX2_allDebts_4 (Rt : sx_R) : sx_T BX2_allDebts sx_Cal Rt 4 = sx_run bX2_allDebts_4 sx_Cal (sx_T BX2_allDebts sx_Cal Rt) Rt := sx_T_eq (fun pc => sx_BK_mon (kX2_allDebts pc)) Rt 4
theorem tX2_allDebts_33 (Rt : sx_R) : sx_T BX2_allDebts sx_Cal Rt 33 = sx_run bX2_allDebts_33 sx_Cal (sx_T BX2_allDebts sx_Cal Rt) Rt := sx_T_eq (fun pc => sx_BK_mon (kX2_allDebts pc)) Rt 33
theorem tX2_allDebts_39 (Rt : sx_R) : sx_T BX2_allDebts sx_Cal Rt 39 = sx_run bX2_allDebts_39 sx_Cal (sx_T BX2_allDebts sx_Cal Rt) Rt := sx_T_eq (fun pc => sx_BK_mon (kX2_allDebts pc)) Rt 39
theorem cX2_allDebts_c (a : List sx_V) (n : Nat) (h : sx_H) (Q : sx_Q) : sx_Cal 36 a n h Q = (sx_cat a ≤ 3 ∧ sx_T BX2_allDebts sx_Cal (fun r n' h' kc ks => Q r n' h' ∧ kc ≤ 0 ∧ ks ≤ 0) 0 (sx_en 3 a) [] n h 0 0) := sx_C_eq ztb_X2_allDebts a n h Q
theorem tX2_lost_0 (Rt : sx_R) : sx_T BX2_lost sx_Cal Rt 0 = sx_run bX2_lost_0 sx_Cal (sx_T BX2_lost sx_Cal Rt) Rt := sx_T_eq (fun pc => sx_BK_mon (kX2_lost pc)) Rt 0
theorem tX2_lost_4 (Rt : sx_R) : sx_T BX2_lost sx_Cal Rt 4 = sx_run bX2_lost_4 sx_Cal (sx_T BX2_lost sx_Cal Rt) Rt := sx_T_eq (fun pc => sx_BK_mon (kX2_lost pc)) Rt 4
theorem tX2_lost_37 (Rt : sx_R) : sx_T BX2_lost sx_Cal Rt 37 = sx_run bX2_lost_37 sx_Cal (sx_T BX2_lost sx_Cal Rt) Rt := sx_T_eq (fun pc => sx_BK_mon (kX2_lost pc)) Rt 37
theorem tX2_lost_43 (Rt : sx_R) : sx_T BX2_lost sx_Cal Rt 43 = sx_run bX2_lost_43 sx_Cal (sx_T BX2_lost sx_Cal Rt) Rt := sx_T_eq (fun pc => sx_BK_mon (kX2_lost pc)) Rt 43
theorem cX2_lost_c (a : List sx_V) (n : Nat) (h : sx_H) (Q : sx_Q) : sx_Cal 37 a n h Q = (sx_cat a ≤ 3 ∧ sx_T BX2_lost sx_Cal (fun r n' h' kc ks => Q r n' h' ∧ kc ≤ 0 ∧ ks ≤ 0) 0 (sx_en 3 a) [] n h 0 0) := sx_C_eq ztb_X2_lost a n h Q
theorem tX2_bits_0 (Rt : sx_R) : sx_T BX2_bits sx_Cal Rt 0 = sx_run bX2_bits_0 sx_Cal (sx_T BX2_bits sx_Cal Rt) Rt := sx_T_eq (fun pc => sx_BK_mon (kX2_bits pc)) Rt 0
theorem tX2_bits_4 (Rt : sx_R) : sx_T BX2_bits sx_Cal Rt 4 = sx_run bX2_bits_4 sx_Cal (sx_T BX2_bits sx_Cal Rt) Rt := sx_T_eq (fun pc => sx_BK_mon (kX2_bits pc)) Rt 4
theorem tX2_bits_27 (Rt : sx_R) : sx_T BX2_bits sx_Cal Rt 27 = sx_run bX2_bits_27 sx_Cal (sx_T BX2_bits sx_Cal Rt) Rt := sx_T_eq (fun pc => sx_BK_mon (kX2_bits pc)) Rt 27
theorem tX2_bits_33 (Rt : sx_R) : sx_T BX2_bits sx_Cal Rt 33 = sx_run bX2_bits_33 sx_Cal (sx_T BX2_bits sx_Cal Rt) Rt := sx_T_eq (fun pc => sx_BK_mon (kX2_bits pc)) Rt 33
theorem cX2_bits_c (a : List sx_V) (n : Nat) (h : sx_H) (Q : sx_Q) : sx_Cal 38 a n h Q = (sx_cat a ≤ 4 ∧ sx_T BX2_bits sx_Cal (fun r n' h' kc ks => Q r n' h' ∧ kc ≤ 0 ∧ ks ≤ 0) 0 (sx_en 4 a) [] n h 0 0) := sx_C_eq ztb_X2_bits a n h Q
theorem tX2_howManyCome_0 (Rt : sx_R) : sx_T BX2_howManyCome sx_Cal Rt 0 = sx_run bX2_howManyCome_0 sx_Cal (sx_T BX2_howManyCome sx_Cal Rt) Rt := sx_T_eq (fun pc => sx_BK_mon (kX2_howManyCome pc)) Rt 0
theorem tX2_howManyCome_4 (Rt : sx_R) : sx_T BX2_howManyCome sx_Cal Rt 4 = sx_run bX2_howManyCome_4 sx_Cal (sx_T BX2_howManyCome sx_Cal Rt) Rt := sx_T_eq (fun pc => sx_BK_mon (kX2_howManyCome pc)) Rt 4
theorem tX2_howManyCome_21 (Rt : sx_R) : sx_T BX2_howManyCome sx_Cal Rt 21 = sx_run bX2_howManyCome_21 sx_Cal (sx_T BX2_howManyCome sx_Cal Rt) Rt := sx_T_eq (fun pc => sx_BK_mon (kX2_howManyCome pc)) Rt 21
theorem tX2_howManyCome_27 (Rt : sx_R) : sx_T BX2_howManyCome sx_Cal Rt 27 = sx_run bX2_howManyCome_27 sx_Cal (sx_T BX2_howManyCome sx_Cal Rt) Rt := sx_T_eq (fun pc => sx_BK_mon (kX2_howManyCome pc)) Rt 27
theorem cX2_howManyCome_c (a : List sx_V) (n : Nat) (h : sx_H) (Q : sx_Q) : sx_Cal 39 a n h Q = (sx_cat a ≤ 3 ∧ sx_T BX2_howManyCome sx_Cal (fun r n' h' kc ks => Q r n' h' ∧ kc ≤ 0 ∧ ks ≤ 0) 0 (sx_en 3 a) [] n h 0 0) := sx_C_eq ztb_X2_howManyCome a n h Q
theorem tX2_owingMost_0 (Rt : sx_R) : sx_T BX2_owingMost sx_Cal Rt 0 = sx_run bX2_owingMost_0 sx_Cal (sx_T BX2_owingMost sx_Cal Rt) Rt := sx_T_eq (fun pc => sx_BK_mon (kX2_owingMost pc)) Rt 0
theorem tX2_owingMost_2 (Rt : sx_R) : sx_T BX2_owingMost sx_Cal Rt 2 = sx_run bX2_owingMost_2 sx_Cal (sx_T BX2_owingMost sx_Cal Rt) Rt := sx_T_eq (fun pc => sx_BK_mon (kX2_owingMost pc)) Rt 2
theorem tX2_owingMost_27 (Rt : sx_R) : sx_T BX2_owingMost sx_Cal Rt 27 = sx_run bX2_owingMost_27 sx_Cal (sx_T BX2_owingMost sx_Cal Rt) Rt := sx_T_eq (fun pc => sx_BK_mon (kX2_owingMost pc)) Rt 27
theorem tX2_owingMost_33 (Rt : sx_R) : sx_T BX2_owingMost sx_Cal Rt 33 = sx_run bX2_owingMost_33 sx_Cal (sx_T BX2_owingMost sx_Cal Rt) Rt := sx_T_eq (fun pc => sx_BK_mon (kX2_owingMost pc)) Rt 33
theorem cX2_owingMost_c (a : List sx_V) (n : Nat) (h : sx_H) (Q : sx_Q) : sx_Cal 40 a n h Q = (sx_cat a ≤ 3 ∧ sx_T BX2_owingMost sx_Cal (fun r n' h' kc ks => Q r n' h' ∧ kc ≤ 0 ∧ ks ≤ 0) 0 (sx_en 3 a) [] n h 0 0) := sx_C_eq ztb_X2_owingMost a n h Q
theorem tX2_aheadOf_0 (Rt : sx_R) : sx_T BX2_aheadOf sx_Cal Rt 0 = sx_run bX2_aheadOf_0 sx_Cal (sx_T BX2_aheadOf sx_Cal Rt) Rt := sx_T_eq (fun pc => sx_BK_mon (kX2_aheadOf pc)) Rt 0
theorem tX2_aheadOf_4 (Rt : sx_R) : sx_T BX2_aheadOf sx_Cal Rt 4 = sx_run bX2_aheadOf_4 sx_Cal (sx_T BX2_aheadOf sx_Cal Rt) Rt := sx_T_eq (fun pc => sx_BK_mon (kX2_aheadOf pc)) Rt 4
theorem tX2_aheadOf_52 (Rt : sx_R) : sx_T BX2_aheadOf sx_Cal Rt 52 = sx_run bX2_aheadOf_52 sx_Cal (sx_T BX2_aheadOf sx_Cal Rt) Rt := sx_T_eq (fun pc => sx_BK_mon (kX2_aheadOf pc)) Rt 52
theorem tX2_aheadOf_55 (Rt : sx_R) : sx_T BX2_aheadOf sx_Cal Rt 55 = sx_run bX2_aheadOf_55 sx_Cal (sx_T BX2_aheadOf sx_Cal Rt) Rt := sx_T_eq (fun pc => sx_BK_mon (kX2_aheadOf pc)) Rt 55
theorem tX2_aheadOf_61 (Rt : sx_R) : sx_T BX2_aheadOf sx_Cal Rt 61 = sx_run bX2_aheadOf_61 sx_Cal (sx_T BX2_aheadOf sx_Cal Rt) Rt := sx_T_eq (fun pc => sx_BK_mon (kX2_aheadOf pc)) Rt 61
theorem cX2_aheadOf_c (a : List sx_V) (n : Nat) (h : sx_H) (Q : sx_Q) : sx_Cal 41 a n h Q = (sx_cat a ≤ 5 ∧ sx_T BX2_aheadOf sx_Cal (fun r n' h' kc ks => Q r n' h' ∧ kc ≤ 0 ∧ ks ≤ 0) 0 (sx_en 5 a) [] n h 0 0) := sx_C_eq ztb_X2_aheadOf a n h Q
theorem tX3_atLeast_0 (Rt : sx_R) : sx_T BX3_atLeast sx_Cal Rt 0 = sx_run bX3_atLeast_0 sx_Cal (sx_T BX3_atLeast sx_Cal Rt) Rt := sx_T_eq (fun pc => sx_BK_mon (kX3_atLeast pc)) Rt 0
theorem tX3_atLeast_6 (Rt : sx_R) : sx_T BX3_atLeast sx_Cal Rt 6 = sx_run bX3_atLeast_6 sx_Cal (sx_T BX3_atLeast sx_Cal Rt) Rt := sx_T_eq (fun pc => sx_BK_mon (kX3_atLeast pc)) Rt 6
theorem tX3_atLeast_48 (Rt : sx_R) : sx_T BX3_atLeast sx_Cal Rt 48 = sx_run bX3_atLeast_48 sx_Cal (sx_T BX3_atLeast sx_Cal Rt) Rt := sx_T_eq (fun pc => sx_BK_mon (kX3_atLeast pc)) Rt 48
theorem tX3_atLeast_76 (Rt : sx_R) : sx_T BX3_atLeast sx_Cal Rt 76 = sx_run bX3_atLeast_76 sx_Cal (sx_T BX3_atLeast sx_Cal Rt) Rt := sx_T_eq (fun pc => sx_BK_mon (kX3_atLeast pc)) Rt 76
theorem tX3_atLeast_88 (Rt : sx_R) : sx_T BX3_atLeast sx_Cal Rt 88 = sx_run bX3_atLeast_88 sx_Cal (sx_T BX3_atLeast sx_Cal Rt) Rt := sx_T_eq (fun pc => sx_BK_mon (kX3_atLeast pc)) Rt 88
theorem tX3_atLeast_93 (Rt : sx_R) : sx_T BX3_atLeast sx_Cal Rt 93 = sx_run bX3_atLeast_93 sx_Cal (sx_T BX3_atLeast sx_Cal Rt) Rt := sx_T_eq (fun pc => sx_BK_mon (kX3_atLeast pc)) Rt 93
theorem cX3_atLeast_c (a : List sx_V) (n : Nat) (h : sx_H) (Q : sx_Q) : sx_Cal 42 a n h Q = (sx_cat a ≤ 10 ∧ sx_T BX3_atLeast sx_Cal (fun r n' h' kc ks => Q r n' h' ∧ kc ≤ 0 ∧ ks ≤ 0) 0 (sx_en 10 a) [] n h 0 0) := sx_C_eq ztb_X3_atLeast a n h Q
theorem tX3_choices_0 (Rt : sx_R) : sx_T BX3_choices sx_Cal Rt 0 = sx_run bX3_choices_0 sx_Cal (sx_T BX3_choices sx_Cal Rt) Rt := sx_T_eq (fun pc => sx_BK_mon (kX3_choices pc)) Rt 0
theorem tX3_choices_5 (Rt : sx_R) : sx_T BX3_choices sx_Cal Rt 5 = sx_run bX3_choices_5 sx_Cal (sx_T BX3_choices sx_Cal Rt) Rt := sx_T_eq (fun pc => sx_BK_mon (kX3_choices pc)) Rt 5
theorem tX3_choices_31 (Rt : sx_R) : sx_T BX3_choices sx_Cal Rt 31 = sx_run bX3_choices_31 sx_Cal (sx_T BX3_choices sx_Cal Rt) Rt := sx_T_eq (fun pc => sx_BK_mon (kX3_choices pc)) Rt 31
theorem cX3_choices_c (a : List sx_V) (n : Nat) (h : sx_H) (Q : sx_Q) : sx_Cal 43 a n h Q = (sx_cat a ≤ 5 ∧ sx_T BX3_choices sx_Cal (fun r n' h' kc ks => Q r n' h' ∧ kc ≤ 0 ∧ ks ≤ 0) 0 (sx_en 5 a) [] n h 0 0) := sx_C_eq ztb_X3_choices a n h Q
theorem tX3_power_0 (Rt : sx_R) : sx_T BX3_power sx_Cal Rt 0 = sx_run bX3_power_0 sx_Cal (sx_T BX3_power sx_Cal Rt) Rt := sx_T_eq (fun pc => sx_BK_mon (kX3_power pc)) Rt 0
theorem tX3_power_5 (Rt : sx_R) : sx_T BX3_power sx_Cal Rt 5 = sx_run bX3_power_5 sx_Cal (sx_T BX3_power sx_Cal Rt) Rt := sx_T_eq (fun pc => sx_BK_mon (kX3_power pc)) Rt 5
theorem tX3_power_22 (Rt : sx_R) : sx_T BX3_power sx_Cal Rt 22 = sx_run bX3_power_22 sx_Cal (sx_T BX3_power sx_Cal Rt) Rt := sx_T_eq (fun pc => sx_BK_mon (kX3_power pc)) Rt 22
theorem cX3_power_c (a : List sx_V) (n : Nat) (h : sx_H) (Q : sx_Q) : sx_Cal 44 a n h Q = (sx_cat a ≤ 5 ∧ sx_T BX3_power sx_Cal (fun r n' h' kc ks => Q r n' h' ∧ kc ≤ 0 ∧ ks ≤ 0) 0 (sx_en 5 a) [] n h 0 0) := sx_C_eq ztb_X3_power a n h Q
theorem tX3_commonDivisor_0 (Rt : sx_R) : sx_T BX3_commonDivisor sx_Cal Rt 0 = sx_run bX3_commonDivisor_0 sx_Cal (sx_T BX3_commonDivisor sx_Cal Rt) Rt := sx_T_eq (fun pc => sx_BK_mon (kX3_commonDivisor pc)) Rt 0
theorem tX3_commonDivisor_3 (Rt : sx_R) : sx_T BX3_commonDivisor sx_Cal Rt 3 = sx_run bX3_commonDivisor_3 sx_Cal (sx_T BX3_commonDivisor sx_Cal Rt) Rt := sx_T_eq (fun pc => sx_BK_mon (kX3_commonDivisor pc)) Rt 3
theorem tX3_commonDivisor_32 (Rt : sx_R) : sx_T BX3_commonDivisor sx_Cal Rt 32 = sx_run bX3_commonDivisor_32 sx_Cal (sx_T BX3_commonDivisor sx_Cal Rt) Rt := sx_T_eq (fun pc => sx_BK_mon (kX3_commonDivisor pc)) Rt 32
theorem cX3_commonDivisor_c (a : List sx_V) (n : Nat) (h : sx_H) (Q : sx_Q) : sx_Cal 45 a n h Q = (sx_cat a ≤ 7 ∧ sx_T BX3_commonDivisor sx_Cal (fun r n' h' kc ks => Q r n' h' ∧ kc ≤ 0 ∧ ks ≤ 0) 0 (sx_en 7 a) [] n h 0 0) := sx_C_eq ztb_X3_commonDivisor a n h Q
theorem tX4_init_0 (Rt : sx_R) : sx_T BX4_init sx_Cal Rt 0 = sx_run bX4_init_0 sx_Cal (sx_T BX4_init sx_Cal Rt) Rt := sx_T_eq (fun pc => sx_BK_mon (kX4_init pc)) Rt 0
theorem cX4_init_c (a : List sx_V) (n : Nat) (h : sx_H) (Q : sx_Q) : sx_Cal 46 a n h Q = (sx_cat a ≤ 3 ∧ sx_T BX4_init sx_Cal (fun r n' h' kc ks => Q r n' h' ∧ kc ≤ 0 ∧ ks ≤ 0) 0 (sx_en 3 a) [] n h 0 0) := sx_C_eq ztb_X4_init a n h Q
theorem tX4_look_0 (Rt : sx_R) : sx_T BX4_look sx_Cal Rt 0 = sx_run bX4_look_0 sx_Cal (sx_T BX4_look sx_Cal Rt) Rt := sx_T_eq (fun pc => sx_BK_mon (kX4_look pc)) Rt 0
theorem cX4_look_c (a : List sx_V) (n : Nat) (h : sx_H) (Q : sx_Q) : sx_Cal 47 a n h Q = (sx_cat a ≤ 2 ∧ sx_T BX4_look sx_Cal (fun r n' h' kc ks => Q r n' h' ∧ kc ≤ 0 ∧ ks ≤ 0) 0 (sx_en 2 a) [] n h 0 0) := sx_C_eq ztb_X4_look a n h Q
theorem tX4_pass_0 (Rt : sx_R) : sx_T BX4_pass sx_Cal Rt 0 = sx_run bX4_pass_0 sx_Cal (sx_T BX4_pass sx_Cal Rt) Rt := sx_T_eq (fun pc => sx_BK_mon (kX4_pass pc)) Rt 0
theorem tX4_pass_2 (Rt : sx_R) : sx_T BX4_pass sx_Cal Rt 2 = sx_run bX4_pass_2 sx_Cal (sx_T BX4_pass sx_Cal Rt) Rt := sx_T_eq (fun pc => sx_BK_mon (kX4_pass pc)) Rt 2
theorem tX4_pass_21 (Rt : sx_R) : sx_T BX4_pass sx_Cal Rt 21 = sx_run bX4_pass_21 sx_Cal (sx_T BX4_pass sx_Cal Rt) Rt := sx_T_eq (fun pc => sx_BK_mon (kX4_pass pc)) Rt 21
theorem cX4_pass_c (a : List sx_V) (n : Nat) (h : sx_H) (Q : sx_Q) : sx_Cal 48 a n h Q = (sx_cat a ≤ 3 ∧ sx_T BX4_pass sx_Cal (fun r n' h' kc ks => Q r n' h' ∧ kc ≤ 0 ∧ ks ≤ 0) 0 (sx_en 3 a) [] n h 0 0) := sx_C_eq ztb_X4_pass a n h Q
theorem tX4_weeksUntilShut_0 (Rt : sx_R) : sx_T BX4_weeksUntilShut sx_Cal Rt 0 = sx_run bX4_weeksUntilShut_0 sx_Cal (sx_T BX4_weeksUntilShut sx_Cal Rt) Rt := sx_T_eq (fun pc => sx_BK_mon (kX4_weeksUntilShut pc)) Rt 0
theorem tX4_weeksUntilShut_13 (Rt : sx_R) : sx_T BX4_weeksUntilShut sx_Cal Rt 13 = sx_run bX4_weeksUntilShut_13 sx_Cal (sx_T BX4_weeksUntilShut sx_Cal Rt) Rt := sx_T_eq (fun pc => sx_BK_mon (kX4_weeksUntilShut pc)) Rt 13
theorem tX4_weeksUntilShut_34 (Rt : sx_R) : sx_T BX4_weeksUntilShut sx_Cal Rt 34 = sx_run bX4_weeksUntilShut_34 sx_Cal (sx_T BX4_weeksUntilShut sx_Cal Rt) Rt := sx_T_eq (fun pc => sx_BK_mon (kX4_weeksUntilShut pc)) Rt 34
theorem tX4_weeksUntilShut_48 (Rt : sx_R) : sx_T BX4_weeksUntilShut sx_Cal Rt 48 = sx_run bX4_weeksUntilShut_48 sx_Cal (sx_T BX4_weeksUntilShut sx_Cal Rt) Rt := sx_T_eq (fun pc => sx_BK_mon (kX4_weeksUntilShut pc)) Rt 48
theorem cX4_weeksUntilShut_c (a : List sx_V) (n : Nat) (h : sx_H) (Q : sx_Q) : sx_Cal 49 a n h Q = (sx_cat a ≤ 3 ∧ sx_T BX4_weeksUntilShut sx_Cal (fun r n' h' kc ks => Q r n' h' ∧ kc ≤ 0 ∧ ks ≤ 0) 0 (sx_en 3 a) [] n h 0 0) := sx_C_eq ztb_X4_weeksUntilShut a n h Q
theorem tX4_stopForShop_0 (Rt : sx_R) : sx_T BX4_stopForShop sx_Cal Rt 0 = sx_run bX4_stopForShop_0 sx_Cal (sx_T BX4_stopForShop sx_Cal Rt) Rt := sx_T_eq (fun pc => sx_BK_mon (kX4_stopForShop pc)) Rt 0
theorem tX4_stopForShop_9 (Rt : sx_R) : sx_T BX4_stopForShop sx_Cal Rt 9 = sx_run bX4_stopForShop_9 sx_Cal (sx_T BX4_stopForShop sx_Cal Rt) Rt := sx_T_eq (fun pc => sx_BK_mon (kX4_stopForShop pc)) Rt 9
theorem tX4_stopForShop_67 (Rt : sx_R) : sx_T BX4_stopForShop sx_Cal Rt 67 = sx_run bX4_stopForShop_67 sx_Cal (sx_T BX4_stopForShop sx_Cal Rt) Rt := sx_T_eq (fun pc => sx_BK_mon (kX4_stopForShop pc)) Rt 67
theorem tX4_stopForShop_75 (Rt : sx_R) : sx_T BX4_stopForShop sx_Cal Rt 75 = sx_run bX4_stopForShop_75 sx_Cal (sx_T BX4_stopForShop sx_Cal Rt) Rt := sx_T_eq (fun pc => sx_BK_mon (kX4_stopForShop pc)) Rt 75
theorem tX4_stopForShop_81 (Rt : sx_R) : sx_T BX4_stopForShop sx_Cal Rt 81 = sx_run bX4_stopForShop_81 sx_Cal (sx_T BX4_stopForShop sx_Cal Rt) Rt := sx_T_eq (fun pc => sx_BK_mon (kX4_stopForShop pc)) Rt 81
theorem tX4_stopForShop_90 (Rt : sx_R) : sx_T BX4_stopForShop sx_Cal Rt 90 = sx_run bX4_stopForShop_90 sx_Cal (sx_T BX4_stopForShop sx_Cal Rt) Rt := sx_T_eq (fun pc => sx_BK_mon (kX4_stopForShop pc)) Rt 90
theorem tX4_stopForShop_92 (Rt : sx_R) : sx_T BX4_stopForShop sx_Cal Rt 92 = sx_run bX4_stopForShop_92 sx_Cal (sx_T BX4_stopForShop sx_Cal Rt) Rt := sx_T_eq (fun pc => sx_BK_mon (kX4_stopForShop pc)) Rt 92
theorem cX4_stopForShop_c (a : List sx_V) (n : Nat) (h : sx_H) (Q : sx_Q) : sx_Cal 50 a n h Q = (sx_cat a ≤ 8 ∧ sx_T BX4_stopForShop sx_Cal (fun r n' h' kc ks => Q r n' h' ∧ kc ≤ 0 ∧ ks ≤ 0) 0 (sx_en 8 a) [] n h 0 0) := sx_C_eq ztb_X4_stopForShop a n h Q
theorem tX4_stopForRogue_0 (Rt : sx_R) : sx_T BX4_stopForRogue sx_Cal Rt 0 = sx_run bX4_stopForRogue_0 sx_Cal (sx_T BX4_stopForRogue sx_Cal Rt) Rt := sx_T_eq (fun pc => sx_BK_mon (kX4_stopForRogue pc)) Rt 0
theorem tX4_stopForRogue_9 (Rt : sx_R) : sx_T BX4_stopForRogue sx_Cal Rt 9 = sx_run bX4_stopForRogue_9 sx_Cal (sx_T BX4_stopForRogue sx_Cal Rt) Rt := sx_T_eq (fun pc => sx_BK_mon (kX4_stopForRogue pc)) Rt 9
theorem tX4_stopForRogue_90 (Rt : sx_R) : sx_T BX4_stopForRogue sx_Cal Rt 90 = sx_run bX4_stopForRogue_90 sx_Cal (sx_T BX4_stopForRogue sx_Cal Rt) Rt := sx_T_eq (fun pc => sx_BK_mon (kX4_stopForRogue pc)) Rt 90
theorem tX4_stopForRogue_98 (Rt : sx_R) : sx_T BX4_stopForRogue sx_Cal Rt 98 = sx_run bX4_stopForRogue_98 sx_Cal (sx_T BX4_stopForRogue sx_Cal Rt) Rt := sx_T_eq (fun pc => sx_BK_mon (kX4_stopForRogue pc)) Rt 98
theorem tX4_stopForRogue_104 (Rt : sx_R) : sx_T BX4_stopForRogue sx_Cal Rt 104 = sx_run bX4_stopForRogue_104 sx_Cal (sx_T BX4_stopForRogue sx_Cal Rt) Rt := sx_T_eq (fun pc => sx_BK_mon (kX4_stopForRogue pc)) Rt 104
theorem tX4_stopForRogue_113 (Rt : sx_R) : sx_T BX4_stopForRogue sx_Cal Rt 113 = sx_run bX4_stopForRogue_113 sx_Cal (sx_T BX4_stopForRogue sx_Cal Rt) Rt := sx_T_eq (fun pc => sx_BK_mon (kX4_stopForRogue pc)) Rt 113
theorem tX4_stopForRogue_115 (Rt : sx_R) : sx_T BX4_stopForRogue sx_Cal Rt 115 = sx_run bX4_stopForRogue_115 sx_Cal (sx_T BX4_stopForRogue sx_Cal Rt) Rt := sx_T_eq (fun pc => sx_BK_mon (kX4_stopForRogue pc)) Rt 115
theorem cX4_stopForRogue_c (a : List sx_V) (n : Nat) (h : sx_H) (Q : sx_Q) : sx_Cal 51 a n h Q = (sx_cat a ≤ 8 ∧ sx_T BX4_stopForRogue sx_Cal (fun r n' h' kc ks => Q r n' h' ∧ kc ≤ 0 ∧ ks ≤ 0) 0 (sx_en 8 a) [] n h 0 0) := sx_C_eq ztb_X4_stopForRogue a n h Q
theorem tX4_grown_0 (Rt : sx_R) : sx_T BX4_grown sx_Cal Rt 0 = sx_run bX4_grown_0 sx_Cal (sx_T BX4_grown sx_Cal Rt) Rt := sx_T_eq (fun pc => sx_BK_mon (kX4_grown pc)) Rt 0
theorem cX4_grown_c (a : List sx_V) (n : Nat) (h : sx_H) (Q : sx_Q) : sx_Cal 52 a n h Q = (sx_cat a ≤ 2 ∧ sx_T BX4_grown sx_Cal (fun r n' h' kc ks => Q r n' h' ∧ kc ≤ 0 ∧ ks ≤ 0) 0 (sx_en 2 a) [] n h 0 0) := sx_C_eq ztb_X4_grown a n h Q
theorem tX4_bestSet_0 (Rt : sx_R) : sx_T BX4_bestSet sx_Cal Rt 0 = sx_run bX4_bestSet_0 sx_Cal (sx_T BX4_bestSet sx_Cal Rt) Rt := sx_T_eq (fun pc => sx_BK_mon (kX4_bestSet pc)) Rt 0
theorem tX4_bestSet_23 (Rt : sx_R) : sx_T BX4_bestSet sx_Cal Rt 23 = sx_run bX4_bestSet_23 sx_Cal (sx_T BX4_bestSet sx_Cal Rt) Rt := sx_T_eq (fun pc => sx_BK_mon (kX4_bestSet pc)) Rt 23
theorem tX4_bestSet_53 (Rt : sx_R) : sx_T BX4_bestSet sx_Cal Rt 53 = sx_run bX4_bestSet_53 sx_Cal (sx_T BX4_bestSet sx_Cal Rt) Rt := sx_T_eq (fun pc => sx_BK_mon (kX4_bestSet pc)) Rt 53
theorem tX4_bestSet_79 (Rt : sx_R) : sx_T BX4_bestSet sx_Cal Rt 79 = sx_run bX4_bestSet_79 sx_Cal (sx_T BX4_bestSet sx_Cal Rt) Rt := sx_T_eq (fun pc => sx_BK_mon (kX4_bestSet pc)) Rt 79
theorem tX4_bestSet_80 (Rt : sx_R) : sx_T BX4_bestSet sx_Cal Rt 80 = sx_run bX4_bestSet_80 sx_Cal (sx_T BX4_bestSet sx_Cal Rt) Rt := sx_T_eq (fun pc => sx_BK_mon (kX4_bestSet pc)) Rt 80
theorem tX4_bestSet_108 (Rt : sx_R) : sx_T BX4_bestSet sx_Cal Rt 108 = sx_run bX4_bestSet_108 sx_Cal (sx_T BX4_bestSet sx_Cal Rt) Rt := sx_T_eq (fun pc => sx_BK_mon (kX4_bestSet pc)) Rt 108
theorem tX4_bestSet_116 (Rt : sx_R) : sx_T BX4_bestSet sx_Cal Rt 116 = sx_run bX4_bestSet_116 sx_Cal (sx_T BX4_bestSet sx_Cal Rt) Rt := sx_T_eq (fun pc => sx_BK_mon (kX4_bestSet pc)) Rt 116
theorem tX4_bestSet_122 (Rt : sx_R) : sx_T BX4_bestSet sx_Cal Rt 122 = sx_run bX4_bestSet_122 sx_Cal (sx_T BX4_bestSet sx_Cal Rt) Rt := sx_T_eq (fun pc => sx_BK_mon (kX4_bestSet pc)) Rt 122
theorem tX4_bestSet_133 (Rt : sx_R) : sx_T BX4_bestSet sx_Cal Rt 133 = sx_run bX4_bestSet_133 sx_Cal (sx_T BX4_bestSet sx_Cal Rt) Rt := sx_T_eq (fun pc => sx_BK_mon (kX4_bestSet pc)) Rt 133
theorem tX4_bestSet_138 (Rt : sx_R) : sx_T BX4_bestSet sx_Cal Rt 138 = sx_run bX4_bestSet_138 sx_Cal (sx_T BX4_bestSet sx_Cal Rt) Rt := sx_T_eq (fun pc => sx_BK_mon (kX4_bestSet pc)) Rt 138
theorem tX4_bestSet_140 (Rt : sx_R) : sx_T BX4_bestSet sx_Cal Rt 140 = sx_run bX4_bestSet_140 sx_Cal (sx_T BX4_bestSet sx_Cal Rt) Rt := sx_T_eq (fun pc => sx_BK_mon (kX4_bestSet pc)) Rt 140
theorem cX4_bestSet_c (a : List sx_V) (n : Nat) (h : sx_H) (Q : sx_Q) : sx_Cal 53 a n h Q = (sx_cat a ≤ 9 ∧ sx_T BX4_bestSet sx_Cal (fun r n' h' kc ks => Q r n' h' ∧ kc ≤ 0 ∧ ks ≤ 0) 0 (sx_en 9 a) [] n h 0 0) := sx_C_eq ztb_X4_bestSet a n h Q
theorem tX4_giveOnlyTo_0 (Rt : sx_R) : sx_T BX4_giveOnlyTo sx_Cal Rt 0 = sx_run bX4_giveOnlyTo_0 sx_Cal (sx_T BX4_giveOnlyTo sx_Cal Rt) Rt := sx_T_eq (fun pc => sx_BK_mon (kX4_giveOnlyTo pc)) Rt 0
theorem tX4_giveOnlyTo_13 (Rt : sx_R) : sx_T BX4_giveOnlyTo sx_Cal Rt 13 = sx_run bX4_giveOnlyTo_13 sx_Cal (sx_T BX4_giveOnlyTo sx_Cal Rt) Rt := sx_T_eq (fun pc => sx_BK_mon (kX4_giveOnlyTo pc)) Rt 13
theorem tX4_giveOnlyTo_40 (Rt : sx_R) : sx_T BX4_giveOnlyTo sx_Cal Rt 40 = sx_run bX4_giveOnlyTo_40 sx_Cal (sx_T BX4_giveOnlyTo sx_Cal Rt) Rt := sx_T_eq (fun pc => sx_BK_mon (kX4_giveOnlyTo pc)) Rt 40
theorem tX4_giveOnlyTo_46 (Rt : sx_R) : sx_T BX4_giveOnlyTo sx_Cal Rt 46 = sx_run bX4_giveOnlyTo_46 sx_Cal (sx_T BX4_giveOnlyTo sx_Cal Rt) Rt := sx_T_eq (fun pc => sx_BK_mon (kX4_giveOnlyTo pc)) Rt 46
theorem cX4_giveOnlyTo_c (a : List sx_V) (n : Nat) (h : sx_H) (Q : sx_Q) : sx_Cal 54 a n h Q = (sx_cat a ≤ 4 ∧ sx_T BX4_giveOnlyTo sx_Cal (fun r n' h' kc ks => Q r n' h' ∧ kc ≤ 0 ∧ ks ≤ 0) 0 (sx_en 4 a) [] n h 0 0) := sx_C_eq ztb_X4_giveOnlyTo a n h Q
theorem tX4_longestStrike_0 (Rt : sx_R) : sx_T BX4_longestStrike sx_Cal Rt 0 = sx_run bX4_longestStrike_0 sx_Cal (sx_T BX4_longestStrike sx_Cal Rt) Rt := sx_T_eq (fun pc => sx_BK_mon (kX4_longestStrike pc)) Rt 0
theorem tX4_longestStrike_3 (Rt : sx_R) : sx_T BX4_longestStrike sx_Cal Rt 3 = sx_run bX4_longestStrike_3 sx_Cal (sx_T BX4_longestStrike sx_Cal Rt) Rt := sx_T_eq (fun pc => sx_BK_mon (kX4_longestStrike pc)) Rt 3
theorem tX4_longestStrike_21 (Rt : sx_R) : sx_T BX4_longestStrike sx_Cal Rt 21 = sx_run bX4_longestStrike_21 sx_Cal (sx_T BX4_longestStrike sx_Cal Rt) Rt := sx_T_eq (fun pc => sx_BK_mon (kX4_longestStrike pc)) Rt 21
theorem tX4_longestStrike_27 (Rt : sx_R) : sx_T BX4_longestStrike sx_Cal Rt 27 = sx_run bX4_longestStrike_27 sx_Cal (sx_T BX4_longestStrike sx_Cal Rt) Rt := sx_T_eq (fun pc => sx_BK_mon (kX4_longestStrike pc)) Rt 27
theorem cX4_longestStrike_c (a : List sx_V) (n : Nat) (h : sx_H) (Q : sx_Q) : sx_Cal 55 a n h Q = (sx_cat a ≤ 2 ∧ sx_T BX4_longestStrike sx_Cal (fun r n' h' kc ks => Q r n' h' ∧ kc ≤ 0 ∧ ks ≤ 0) 0 (sx_en 2 a) [] n h 0 0) := sx_C_eq ztb_X4_longestStrike a n h Q
theorem tX4_leastDearer_0 (Rt : sx_R) : sx_T BX4_leastDearer sx_Cal Rt 0 = sx_run bX4_leastDearer_0 sx_Cal (sx_T BX4_leastDearer sx_Cal Rt) Rt := sx_T_eq (fun pc => sx_BK_mon (kX4_leastDearer pc)) Rt 0
theorem tX4_leastDearer_2 (Rt : sx_R) : sx_T BX4_leastDearer sx_Cal Rt 2 = sx_run bX4_leastDearer_2 sx_Cal (sx_T BX4_leastDearer sx_Cal Rt) Rt := sx_T_eq (fun pc => sx_BK_mon (kX4_leastDearer pc)) Rt 2
theorem tX4_leastDearer_21 (Rt : sx_R) : sx_T BX4_leastDearer sx_Cal Rt 21 = sx_run bX4_leastDearer_21 sx_Cal (sx_T BX4_leastDearer sx_Cal Rt) Rt := sx_T_eq (fun pc => sx_BK_mon (kX4_leastDearer pc)) Rt 21
theorem tX4_leastDearer_27 (Rt : sx_R) : sx_T BX4_leastDearer sx_Cal Rt 27 = sx_run bX4_leastDearer_27 sx_Cal (sx_T BX4_leastDearer sx_Cal Rt) Rt := sx_T_eq (fun pc => sx_BK_mon (kX4_leastDearer pc)) Rt 27
theorem cX4_leastDearer_c (a : List sx_V) (n : Nat) (h : sx_H) (Q : sx_Q) : sx_Cal 56 a n h Q = (sx_cat a ≤ 3 ∧ sx_T BX4_leastDearer sx_Cal (fun r n' h' kc ks => Q r n' h' ∧ kc ≤ 0 ∧ ks ≤ 0) 0 (sx_en 3 a) [] n h 0 0) := sx_C_eq ztb_X4_leastDearer a n h Q
theorem tX4_lasts_0 (Rt : sx_R) : sx_T BX4_lasts sx_Cal Rt 0 = sx_run bX4_lasts_0 sx_Cal (sx_T BX4_lasts sx_Cal Rt) Rt := sx_T_eq (fun pc => sx_BK_mon (kX4_lasts pc)) Rt 0
theorem tX4_lasts_43 (Rt : sx_R) : sx_T BX4_lasts sx_Cal Rt 43 = sx_run bX4_lasts_43 sx_Cal (sx_T BX4_lasts sx_Cal Rt) Rt := sx_T_eq (fun pc => sx_BK_mon (kX4_lasts pc)) Rt 43
theorem tX4_lasts_44 (Rt : sx_R) : sx_T BX4_lasts sx_Cal Rt 44 = sx_run bX4_lasts_44 sx_Cal (sx_T BX4_lasts sx_Cal Rt) Rt := sx_T_eq (fun pc => sx_BK_mon (kX4_lasts pc)) Rt 44
theorem cX4_lasts_c (a : List sx_V) (n : Nat) (h : sx_H) (Q : sx_Q) : sx_Cal 57 a n h Q = (sx_cat a ≤ 4 ∧ sx_T BX4_lasts sx_Cal (fun r n' h' kc ks => Q r n' h' ∧ kc ≤ 0 ∧ ks ≤ 0) 0 (sx_en 4 a) [] n h 0 0) := sx_C_eq ztb_X4_lasts a n h Q
theorem tX4_kindsThatPay_0 (Rt : sx_R) : sx_T BX4_kindsThatPay sx_Cal Rt 0 = sx_run bX4_kindsThatPay_0 sx_Cal (sx_T BX4_kindsThatPay sx_Cal Rt) Rt := sx_T_eq (fun pc => sx_BK_mon (kX4_kindsThatPay pc)) Rt 0
theorem tX4_kindsThatPay_6 (Rt : sx_R) : sx_T BX4_kindsThatPay sx_Cal Rt 6 = sx_run bX4_kindsThatPay_6 sx_Cal (sx_T BX4_kindsThatPay sx_Cal Rt) Rt := sx_T_eq (fun pc => sx_BK_mon (kX4_kindsThatPay pc)) Rt 6
theorem tX4_kindsThatPay_58 (Rt : sx_R) : sx_T BX4_kindsThatPay sx_Cal Rt 58 = sx_run bX4_kindsThatPay_58 sx_Cal (sx_T BX4_kindsThatPay sx_Cal Rt) Rt := sx_T_eq (fun pc => sx_BK_mon (kX4_kindsThatPay pc)) Rt 58
theorem tX4_kindsThatPay_64 (Rt : sx_R) : sx_T BX4_kindsThatPay sx_Cal Rt 64 = sx_run bX4_kindsThatPay_64 sx_Cal (sx_T BX4_kindsThatPay sx_Cal Rt) Rt := sx_T_eq (fun pc => sx_BK_mon (kX4_kindsThatPay pc)) Rt 64
theorem cX4_kindsThatPay_c (a : List sx_V) (n : Nat) (h : sx_H) (Q : sx_Q) : sx_Cal 58 a n h Q = (sx_cat a ≤ 7 ∧ sx_T BX4_kindsThatPay sx_Cal (fun r n' h' kc ks => Q r n' h' ∧ kc ≤ 0 ∧ ks ≤ 0) 0 (sx_en 7 a) [] n h 0 0) := sx_C_eq ztb_X4_kindsThatPay a n h Q
theorem tX4_paysAsTold_0 (Rt : sx_R) : sx_T BX4_paysAsTold sx_Cal Rt 0 = sx_run bX4_paysAsTold_0 sx_Cal (sx_T BX4_paysAsTold sx_Cal Rt) Rt := sx_T_eq (fun pc => sx_BK_mon (kX4_paysAsTold pc)) Rt 0
theorem tX4_paysAsTold_3 (Rt : sx_R) : sx_T BX4_paysAsTold sx_Cal Rt 3 = sx_run bX4_paysAsTold_3 sx_Cal (sx_T BX4_paysAsTold sx_Cal Rt) Rt := sx_T_eq (fun pc => sx_BK_mon (kX4_paysAsTold pc)) Rt 3
theorem tX4_paysAsTold_58 (Rt : sx_R) : sx_T BX4_paysAsTold sx_Cal Rt 58 = sx_run bX4_paysAsTold_58 sx_Cal (sx_T BX4_paysAsTold sx_Cal Rt) Rt := sx_T_eq (fun pc => sx_BK_mon (kX4_paysAsTold pc)) Rt 58
theorem tX4_paysAsTold_64 (Rt : sx_R) : sx_T BX4_paysAsTold sx_Cal Rt 64 = sx_run bX4_paysAsTold_64 sx_Cal (sx_T BX4_paysAsTold sx_Cal Rt) Rt := sx_T_eq (fun pc => sx_BK_mon (kX4_paysAsTold pc)) Rt 64
theorem cX4_paysAsTold_c (a : List sx_V) (n : Nat) (h : sx_H) (Q : sx_Q) : sx_Cal 59 a n h Q = (sx_cat a ≤ 7 ∧ sx_T BX4_paysAsTold sx_Cal (fun r n' h' kc ks => Q r n' h' ∧ kc ≤ 0 ∧ ks ≤ 0) 0 (sx_en 7 a) [] n h 0 0) := sx_C_eq ztb_X4_paysAsTold a n h Q
theorem tX4_idleWeeks_0 (Rt : sx_R) : sx_T BX4_idleWeeks sx_Cal Rt 0 = sx_run bX4_idleWeeks_0 sx_Cal (sx_T BX4_idleWeeks sx_Cal Rt) Rt := sx_T_eq (fun pc => sx_BK_mon (kX4_idleWeeks pc)) Rt 0
theorem tX4_idleWeeks_20 (Rt : sx_R) : sx_T BX4_idleWeeks sx_Cal Rt 20 = sx_run bX4_idleWeeks_20 sx_Cal (sx_T BX4_idleWeeks sx_Cal Rt) Rt := sx_T_eq (fun pc => sx_BK_mon (kX4_idleWeeks pc)) Rt 20
theorem tX4_idleWeeks_77 (Rt : sx_R) : sx_T BX4_idleWeeks sx_Cal Rt 77 = sx_run bX4_idleWeeks_77 sx_Cal (sx_T BX4_idleWeeks sx_Cal Rt) Rt := sx_T_eq (fun pc => sx_BK_mon (kX4_idleWeeks pc)) Rt 77
theorem tX4_idleWeeks_90 (Rt : sx_R) : sx_T BX4_idleWeeks sx_Cal Rt 90 = sx_run bX4_idleWeeks_90 sx_Cal (sx_T BX4_idleWeeks sx_Cal Rt) Rt := sx_T_eq (fun pc => sx_BK_mon (kX4_idleWeeks pc)) Rt 90
theorem tX4_idleWeeks_96 (Rt : sx_R) : sx_T BX4_idleWeeks sx_Cal Rt 96 = sx_run bX4_idleWeeks_96 sx_Cal (sx_T BX4_idleWeeks sx_Cal Rt) Rt := sx_T_eq (fun pc => sx_BK_mon (kX4_idleWeeks pc)) Rt 96
theorem cX4_idleWeeks_c (a : List sx_V) (n : Nat) (h : sx_H) (Q : sx_Q) : sx_Cal 60 a n h Q = (sx_cat a ≤ 7 ∧ sx_T BX4_idleWeeks sx_Cal (fun r n' h' kc ks => Q r n' h' ∧ kc ≤ 0 ∧ ks ≤ 0) 0 (sx_en 7 a) [] n h 0 0) := sx_C_eq ztb_X4_idleWeeks a n h Q
theorem tX5_init_0 (Rt : sx_R) : sx_T BX5_init sx_Cal Rt 0 = sx_run bX5_init_0 sx_Cal (sx_T BX5_init sx_Cal Rt) Rt := sx_T_eq (fun pc => sx_BK_mon (kX5_init pc)) Rt 0
theorem tX5_init_34 (Rt : sx_R) : sx_T BX5_init sx_Cal Rt 34 = sx_run bX5_init_34 sx_Cal (sx_T BX5_init sx_Cal Rt) Rt := sx_T_eq (fun pc => sx_BK_mon (kX5_init pc)) Rt 34
theorem tX5_init_53 (Rt : sx_R) : sx_T BX5_init sx_Cal Rt 53 = sx_run bX5_init_53 sx_Cal (sx_T BX5_init sx_Cal Rt) Rt := sx_T_eq (fun pc => sx_BK_mon (kX5_init pc)) Rt 53
theorem cX5_init_c (a : List sx_V) (n : Nat) (h : sx_H) (Q : sx_Q) : sx_Cal 61 a n h Q = (sx_cat a ≤ 2 ∧ sx_T BX5_init sx_Cal (fun r n' h' kc ks => Q r n' h' ∧ kc ≤ 11 ∧ ks ≤ 344) 0 (sx_en 2 a) [] n h 0 0) := sx_C_eq ztb_X5_init a n h Q
theorem tX5_isRow_0 (Rt : sx_R) : sx_T BX5_isRow sx_Cal Rt 0 = sx_run bX5_isRow_0 sx_Cal (sx_T BX5_isRow sx_Cal Rt) Rt := sx_T_eq (fun pc => sx_BK_mon (kX5_isRow pc)) Rt 0
theorem tX5_isRow_14 (Rt : sx_R) : sx_T BX5_isRow sx_Cal Rt 14 = sx_run bX5_isRow_14 sx_Cal (sx_T BX5_isRow sx_Cal Rt) Rt := sx_T_eq (fun pc => sx_BK_mon (kX5_isRow pc)) Rt 14
theorem tX5_isRow_15 (Rt : sx_R) : sx_T BX5_isRow sx_Cal Rt 15 = sx_run bX5_isRow_15 sx_Cal (sx_T BX5_isRow sx_Cal Rt) Rt := sx_T_eq (fun pc => sx_BK_mon (kX5_isRow pc)) Rt 15
theorem cX5_isRow_c (a : List sx_V) (n : Nat) (h : sx_H) (Q : sx_Q) : sx_Cal 62 a n h Q = (sx_cat a ≤ 1 ∧ sx_T BX5_isRow sx_Cal (fun r n' h' kc ks => Q r n' h' ∧ kc ≤ 0 ∧ ks ≤ 0) 0 (sx_en 1 a) [] n h 0 0) := sx_C_eq ztb_X5_isRow a n h Q
theorem tX5_find_0 (Rt : sx_R) : sx_T BX5_find sx_Cal Rt 0 = sx_run bX5_find_0 sx_Cal (sx_T BX5_find sx_Cal Rt) Rt := sx_T_eq (fun pc => sx_BK_mon (kX5_find pc)) Rt 0
theorem cX5_find_c (a : List sx_V) (n : Nat) (h : sx_H) (Q : sx_Q) : sx_Cal 63 a n h Q = (sx_cat a ≤ 2 ∧ sx_T BX5_find sx_Cal (fun r n' h' kc ks => Q r n' h' ∧ kc ≤ 0 ∧ ks ≤ 0) 0 (sx_en 2 a) [] n h 0 0) := sx_C_eq ztb_X5_find a n h Q
theorem tX5_make_0 (Rt : sx_R) : sx_T BX5_make sx_Cal Rt 0 = sx_run bX5_make_0 sx_Cal (sx_T BX5_make sx_Cal Rt) Rt := sx_T_eq (fun pc => sx_BK_mon (kX5_make pc)) Rt 0
theorem tX5_make_10 (Rt : sx_R) : sx_T BX5_make sx_Cal Rt 10 = sx_run bX5_make_10 sx_Cal (sx_T BX5_make sx_Cal Rt) Rt := sx_T_eq (fun pc => sx_BK_mon (kX5_make pc)) Rt 10
theorem tX5_make_13 (Rt : sx_R) : sx_T BX5_make sx_Cal Rt 13 = sx_run bX5_make_13 sx_Cal (sx_T BX5_make sx_Cal Rt) Rt := sx_T_eq (fun pc => sx_BK_mon (kX5_make pc)) Rt 13
theorem tX5_make_36 (Rt : sx_R) : sx_T BX5_make sx_Cal Rt 36 = sx_run bX5_make_36 sx_Cal (sx_T BX5_make sx_Cal Rt) Rt := sx_T_eq (fun pc => sx_BK_mon (kX5_make pc)) Rt 36
theorem cX5_make_c (a : List sx_V) (n : Nat) (h : sx_H) (Q : sx_Q) : sx_Cal 64 a n h Q = (sx_cat a ≤ 5 ∧ sx_T BX5_make sx_Cal (fun r n' h' kc ks => Q r n' h' ∧ kc ≤ 0 ∧ ks ≤ 0) 0 (sx_en 5 a) [] n h 0 0) := sx_C_eq ztb_X5_make a n h Q
theorem tX5_put_0 (Rt : sx_R) : sx_T BX5_put sx_Cal Rt 0 = sx_run bX5_put_0 sx_Cal (sx_T BX5_put sx_Cal Rt) Rt := sx_T_eq (fun pc => sx_BK_mon (kX5_put pc)) Rt 0
theorem tX5_put_17 (Rt : sx_R) : sx_T BX5_put sx_Cal Rt 17 = sx_run bX5_put_17 sx_Cal (sx_T BX5_put sx_Cal Rt) Rt := sx_T_eq (fun pc => sx_BK_mon (kX5_put pc)) Rt 17
theorem cX5_put_c (a : List sx_V) (n : Nat) (h : sx_H) (Q : sx_Q) : sx_Cal 65 a n h Q = (sx_cat a ≤ 5 ∧ sx_T BX5_put sx_Cal (fun r n' h' kc ks => Q r n' h' ∧ kc ≤ 0 ∧ ks ≤ 0) 0 (sx_en 5 a) [] n h 0 0) := sx_C_eq ztb_X5_put a n h Q
theorem tX5_carry_0 (Rt : sx_R) : sx_T BX5_carry sx_Cal Rt 0 = sx_run bX5_carry_0 sx_Cal (sx_T BX5_carry sx_Cal Rt) Rt := sx_T_eq (fun pc => sx_BK_mon (kX5_carry pc)) Rt 0
theorem tX5_carry_20 (Rt : sx_R) : sx_T BX5_carry sx_Cal Rt 20 = sx_run bX5_carry_20 sx_Cal (sx_T BX5_carry sx_Cal Rt) Rt := sx_T_eq (fun pc => sx_BK_mon (kX5_carry pc)) Rt 20
theorem tX5_carry_26 (Rt : sx_R) : sx_T BX5_carry sx_Cal Rt 26 = sx_run bX5_carry_26 sx_Cal (sx_T BX5_carry sx_Cal Rt) Rt := sx_T_eq (fun pc => sx_BK_mon (kX5_carry pc)) Rt 26
theorem tX5_carry_47 (Rt : sx_R) : sx_T BX5_carry sx_Cal Rt 47 = sx_run bX5_carry_47 sx_Cal (sx_T BX5_carry sx_Cal Rt) Rt := sx_T_eq (fun pc => sx_BK_mon (kX5_carry pc)) Rt 47
theorem tX5_carry_70 (Rt : sx_R) : sx_T BX5_carry sx_Cal Rt 70 = sx_run bX5_carry_70 sx_Cal (sx_T BX5_carry sx_Cal Rt) Rt := sx_T_eq (fun pc => sx_BK_mon (kX5_carry pc)) Rt 70
theorem tX5_carry_76 (Rt : sx_R) : sx_T BX5_carry sx_Cal Rt 76 = sx_run bX5_carry_76 sx_Cal (sx_T BX5_carry sx_Cal Rt) Rt := sx_T_eq (fun pc => sx_BK_mon (kX5_carry pc)) Rt 76
theorem cX5_carry_c (a : List sx_V) (n : Nat) (h : sx_H) (Q : sx_Q) : sx_Cal 66 a n h Q = (sx_cat a ≤ 6 ∧ sx_T BX5_carry sx_Cal (fun r n' h' kc ks => Q r n' h' ∧ kc ≤ 0 ∧ ks ≤ 0) 0 (sx_en 6 a) [] n h 0 0) := sx_C_eq ztb_X5_carry a n h Q
theorem tX5_lose_0 (Rt : sx_R) : sx_T BX5_lose sx_Cal Rt 0 = sx_run bX5_lose_0 sx_Cal (sx_T BX5_lose sx_Cal Rt) Rt := sx_T_eq (fun pc => sx_BK_mon (kX5_lose pc)) Rt 0
theorem tX5_lose_16 (Rt : sx_R) : sx_T BX5_lose sx_Cal Rt 16 = sx_run bX5_lose_16 sx_Cal (sx_T BX5_lose sx_Cal Rt) Rt := sx_T_eq (fun pc => sx_BK_mon (kX5_lose pc)) Rt 16
theorem cX5_lose_c (a : List sx_V) (n : Nat) (h : sx_H) (Q : sx_Q) : sx_Cal 67 a n h Q = (sx_cat a ≤ 3 ∧ sx_T BX5_lose sx_Cal (fun r n' h' kc ks => Q r n' h' ∧ kc ≤ 0 ∧ ks ≤ 0) 0 (sx_en 3 a) [] n h 0 0) := sx_C_eq ztb_X5_lose a n h Q
theorem tX5_look_0 (Rt : sx_R) : sx_T BX5_look sx_Cal Rt 0 = sx_run bX5_look_0 sx_Cal (sx_T BX5_look sx_Cal Rt) Rt := sx_T_eq (fun pc => sx_BK_mon (kX5_look pc)) Rt 0
theorem tX5_look_16 (Rt : sx_R) : sx_T BX5_look sx_Cal Rt 16 = sx_run bX5_look_16 sx_Cal (sx_T BX5_look sx_Cal Rt) Rt := sx_T_eq (fun pc => sx_BK_mon (kX5_look pc)) Rt 16
theorem tX5_look_32 (Rt : sx_R) : sx_T BX5_look sx_Cal Rt 32 = sx_run bX5_look_32 sx_Cal (sx_T BX5_look sx_Cal Rt) Rt := sx_T_eq (fun pc => sx_BK_mon (kX5_look pc)) Rt 32
theorem cX5_look_c (a : List sx_V) (n : Nat) (h : sx_H) (Q : sx_Q) : sx_Cal 68 a n h Q = (sx_cat a ≤ 4 ∧ sx_T BX5_look sx_Cal (fun r n' h' kc ks => Q r n' h' ∧ kc ≤ 0 ∧ ks ≤ 0) 0 (sx_en 4 a) [] n h 0 0) := sx_C_eq ztb_X5_look a n h Q
theorem tX5_present_0 (Rt : sx_R) : sx_T BX5_present sx_Cal Rt 0 = sx_run bX5_present_0 sx_Cal (sx_T BX5_present sx_Cal Rt) Rt := sx_T_eq (fun pc => sx_BK_mon (kX5_present pc)) Rt 0
theorem tX5_present_4 (Rt : sx_R) : sx_T BX5_present sx_Cal Rt 4 = sx_run bX5_present_4 sx_Cal (sx_T BX5_present sx_Cal Rt) Rt := sx_T_eq (fun pc => sx_BK_mon (kX5_present pc)) Rt 4
theorem tX5_present_23 (Rt : sx_R) : sx_T BX5_present sx_Cal Rt 23 = sx_run bX5_present_23 sx_Cal (sx_T BX5_present sx_Cal Rt) Rt := sx_T_eq (fun pc => sx_BK_mon (kX5_present pc)) Rt 23
theorem tX5_present_29 (Rt : sx_R) : sx_T BX5_present sx_Cal Rt 29 = sx_run bX5_present_29 sx_Cal (sx_T BX5_present sx_Cal Rt) Rt := sx_T_eq (fun pc => sx_BK_mon (kX5_present pc)) Rt 29
theorem cX5_present_c (a : List sx_V) (n : Nat) (h : sx_H) (Q : sx_Q) : sx_Cal 69 a n h Q = (sx_cat a ≤ 3 ∧ sx_T BX5_present sx_Cal (fun r n' h' kc ks => Q r n' h' ∧ kc ≤ 0 ∧ ks ≤ 0) 0 (sx_en 3 a) [] n h 0 0) := sx_C_eq ztb_X5_present a n h Q
theorem tX5_fits_0 (Rt : sx_R) : sx_T BX5_fits sx_Cal Rt 0 = sx_run bX5_fits_0 sx_Cal (sx_T BX5_fits sx_Cal Rt) Rt := sx_T_eq (fun pc => sx_BK_mon (kX5_fits pc)) Rt 0
theorem tX5_fits_24 (Rt : sx_R) : sx_T BX5_fits sx_Cal Rt 24 = sx_run bX5_fits_24 sx_Cal (sx_T BX5_fits sx_Cal Rt) Rt := sx_T_eq (fun pc => sx_BK_mon (kX5_fits pc)) Rt 24
theorem tX5_fits_25 (Rt : sx_R) : sx_T BX5_fits sx_Cal Rt 25 = sx_run bX5_fits_25 sx_Cal (sx_T BX5_fits sx_Cal Rt) Rt := sx_T_eq (fun pc => sx_BK_mon (kX5_fits pc)) Rt 25
theorem cX5_fits_c (a : List sx_V) (n : Nat) (h : sx_H) (Q : sx_Q) : sx_Cal 70 a n h Q = (sx_cat a ≤ 4 ∧ sx_T BX5_fits sx_Cal (fun r n' h' kc ks => Q r n' h' ∧ kc ≤ 0 ∧ ks ≤ 0) 0 (sx_en 4 a) [] n h 0 0) := sx_C_eq ztb_X5_fits a n h Q
theorem tX5_narrowed_0 (Rt : sx_R) : sx_T BX5_narrowed sx_Cal Rt 0 = sx_run bX5_narrowed_0 sx_Cal (sx_T BX5_narrowed sx_Cal Rt) Rt := sx_T_eq (fun pc => sx_BK_mon (kX5_narrowed pc)) Rt 0
theorem tX5_narrowed_7 (Rt : sx_R) : sx_T BX5_narrowed sx_Cal Rt 7 = sx_run bX5_narrowed_7 sx_Cal (sx_T BX5_narrowed sx_Cal Rt) Rt := sx_T_eq (fun pc => sx_BK_mon (kX5_narrowed pc)) Rt 7
theorem tX5_narrowed_17 (Rt : sx_R) : sx_T BX5_narrowed sx_Cal Rt 17 = sx_run bX5_narrowed_17 sx_Cal (sx_T BX5_narrowed sx_Cal Rt) Rt := sx_T_eq (fun pc => sx_BK_mon (kX5_narrowed pc)) Rt 17
theorem tX5_narrowed_18 (Rt : sx_R) : sx_T BX5_narrowed sx_Cal Rt 18 = sx_run bX5_narrowed_18 sx_Cal (sx_T BX5_narrowed sx_Cal Rt) Rt := sx_T_eq (fun pc => sx_BK_mon (kX5_narrowed pc)) Rt 18
theorem cX5_narrowed_c (a : List sx_V) (n : Nat) (h : sx_H) (Q : sx_Q) : sx_Cal 71 a n h Q = (sx_cat a ≤ 2 ∧ sx_T BX5_narrowed sx_Cal (fun r n' h' kc ks => Q r n' h' ∧ kc ≤ 0 ∧ ks ≤ 0) 0 (sx_en 2 a) [] n h 0 0) := sx_C_eq ztb_X5_narrowed a n h Q
theorem tX6_init_0 (Rt : sx_R) : sx_T BX6_init sx_Cal Rt 0 = sx_run bX6_init_0 sx_Cal (sx_T BX6_init sx_Cal Rt) Rt := sx_T_eq (fun pc => sx_BK_mon (kX6_init pc)) Rt 0
theorem cX6_init_c (a : List sx_V) (n : Nat) (h : sx_H) (Q : sx_Q) : sx_Cal 72 a n h Q = (sx_cat a ≤ 1 ∧ sx_T BX6_init sx_Cal (fun r n' h' kc ks => Q r n' h' ∧ kc ≤ 1 ∧ ks ≤ 120) 0 (sx_en 1 a) [] n h 0 0) := sx_C_eq ztb_X6_init a n h Q
theorem tX6_add_0 (Rt : sx_R) : sx_T BX6_add sx_Cal Rt 0 = sx_run bX6_add_0 sx_Cal (sx_T BX6_add sx_Cal Rt) Rt := sx_T_eq (fun pc => sx_BK_mon (kX6_add pc)) Rt 0
theorem tX6_add_12 (Rt : sx_R) : sx_T BX6_add sx_Cal Rt 12 = sx_run bX6_add_12 sx_Cal (sx_T BX6_add sx_Cal Rt) Rt := sx_T_eq (fun pc => sx_BK_mon (kX6_add pc)) Rt 12
theorem cX6_add_c (a : List sx_V) (n : Nat) (h : sx_H) (Q : sx_Q) : sx_Cal 73 a n h Q = (sx_cat a ≤ 2 ∧ sx_T BX6_add sx_Cal (fun r n' h' kc ks => Q r n' h' ∧ kc ≤ 0 ∧ ks ≤ 0) 0 (sx_en 2 a) [] n h 0 0) := sx_C_eq ztb_X6_add a n h Q
theorem tX6_empty_0 (Rt : sx_R) : sx_T BX6_empty sx_Cal Rt 0 = sx_run bX6_empty_0 sx_Cal (sx_T BX6_empty sx_Cal Rt) Rt := sx_T_eq (fun pc => sx_BK_mon (kX6_empty pc)) Rt 0
theorem cX6_empty_c (a : List sx_V) (n : Nat) (h : sx_H) (Q : sx_Q) : sx_Cal 74 a n h Q = (sx_cat a ≤ 1 ∧ sx_T BX6_empty sx_Cal (fun r n' h' kc ks => Q r n' h' ∧ kc ≤ 0 ∧ ks ≤ 0) 0 (sx_en 1 a) [] n h 0 0) := sx_C_eq ztb_X6_empty a n h Q
theorem tX6_read_0 (Rt : sx_R) : sx_T BX6_read sx_Cal Rt 0 = sx_run bX6_read_0 sx_Cal (sx_T BX6_read sx_Cal Rt) Rt := sx_T_eq (fun pc => sx_BK_mon (kX6_read pc)) Rt 0
theorem tX6_read_21 (Rt : sx_R) : sx_T BX6_read sx_Cal Rt 21 = sx_run bX6_read_21 sx_Cal (sx_T BX6_read sx_Cal Rt) Rt := sx_T_eq (fun pc => sx_BK_mon (kX6_read pc)) Rt 21
theorem tX6_read_50 (Rt : sx_R) : sx_T BX6_read sx_Cal Rt 50 = sx_run bX6_read_50 sx_Cal (sx_T BX6_read sx_Cal Rt) Rt := sx_T_eq (fun pc => sx_BK_mon (kX6_read pc)) Rt 50
theorem tX6_read_84 (Rt : sx_R) : sx_T BX6_read sx_Cal Rt 84 = sx_run bX6_read_84 sx_Cal (sx_T BX6_read sx_Cal Rt) Rt := sx_T_eq (fun pc => sx_BK_mon (kX6_read pc)) Rt 84
theorem tX6_read_90 (Rt : sx_R) : sx_T BX6_read sx_Cal Rt 90 = sx_run bX6_read_90 sx_Cal (sx_T BX6_read sx_Cal Rt) Rt := sx_T_eq (fun pc => sx_BK_mon (kX6_read pc)) Rt 90
theorem tX6_read_109 (Rt : sx_R) : sx_T BX6_read sx_Cal Rt 109 = sx_run bX6_read_109 sx_Cal (sx_T BX6_read sx_Cal Rt) Rt := sx_T_eq (fun pc => sx_BK_mon (kX6_read pc)) Rt 109
theorem tX6_read_110 (Rt : sx_R) : sx_T BX6_read sx_Cal Rt 110 = sx_run bX6_read_110 sx_Cal (sx_T BX6_read sx_Cal Rt) Rt := sx_T_eq (fun pc => sx_BK_mon (kX6_read pc)) Rt 110
theorem cX6_read_c (a : List sx_V) (n : Nat) (h : sx_H) (Q : sx_Q) : sx_Cal 75 a n h Q = (sx_cat a ≤ 4 ∧ sx_T BX6_read sx_Cal (fun r n' h' kc ks => Q r n' h' ∧ kc ≤ 0 ∧ ks ≤ 0) 0 (sx_en 4 a) [] n h 0 0) := sx_C_eq ztb_X6_read a n h Q
theorem tX6_readToken_0 (Rt : sx_R) : sx_T BX6_readToken sx_Cal Rt 0 = sx_run bX6_readToken_0 sx_Cal (sx_T BX6_readToken sx_Cal Rt) Rt := sx_T_eq (fun pc => sx_BK_mon (kX6_readToken pc)) Rt 0
theorem tX6_readToken_13 (Rt : sx_R) : sx_T BX6_readToken sx_Cal Rt 13 = sx_run bX6_readToken_13 sx_Cal (sx_T BX6_readToken sx_Cal Rt) Rt := sx_T_eq (fun pc => sx_BK_mon (kX6_readToken pc)) Rt 13
theorem tX6_readToken_29 (Rt : sx_R) : sx_T BX6_readToken sx_Cal Rt 29 = sx_run bX6_readToken_29 sx_Cal (sx_T BX6_readToken sx_Cal Rt) Rt := sx_T_eq (fun pc => sx_BK_mon (kX6_readToken pc)) Rt 29
theorem tX6_readToken_44 (Rt : sx_R) : sx_T BX6_readToken sx_Cal Rt 44 = sx_run bX6_readToken_44 sx_Cal (sx_T BX6_readToken sx_Cal Rt) Rt := sx_T_eq (fun pc => sx_BK_mon (kX6_readToken pc)) Rt 44
theorem tX6_readToken_46 (Rt : sx_R) : sx_T BX6_readToken sx_Cal Rt 46 = sx_run bX6_readToken_46 sx_Cal (sx_T BX6_readToken sx_Cal Rt) Rt := sx_T_eq (fun pc => sx_BK_mon (kX6_readToken pc)) Rt 46
theorem cX6_readToken_c (a : List sx_V) (n : Nat) (h : sx_H) (Q : sx_Q) : sx_Cal 76 a n h Q = (sx_cat a ≤ 2 ∧ sx_T BX6_readToken sx_Cal (fun r n' h' kc ks => Q r n' h' ∧ kc ≤ 0 ∧ ks ≤ 0) 0 (sx_en 2 a) [] n h 0 0) := sx_C_eq ztb_X6_readToken a n h Q
theorem tX6_readSign_0 (Rt : sx_R) : sx_T BX6_readSign sx_Cal Rt 0 = sx_run bX6_readSign_0 sx_Cal (sx_T BX6_readSign sx_Cal Rt) Rt := sx_T_eq (fun pc => sx_BK_mon (kX6_readSign pc)) Rt 0
theorem tX6_readSign_15 (Rt : sx_R) : sx_T BX6_readSign sx_Cal Rt 15 = sx_run bX6_readSign_15 sx_Cal (sx_T BX6_readSign sx_Cal Rt) Rt := sx_T_eq (fun pc => sx_BK_mon (kX6_readSign pc)) Rt 15
theorem cX6_readSign_c (a : List sx_V) (n : Nat) (h : sx_H) (Q : sx_Q) : sx_Cal 77 a n h Q = (sx_cat a ≤ 2 ∧ sx_T BX6_readSign sx_Cal (fun r n' h' kc ks => Q r n' h' ∧ kc ≤ 0 ∧ ks ≤ 0) 0 (sx_en 2 a) [] n h 0 0) := sx_C_eq ztb_X6_readSign a n h Q
theorem tX6_readLetter_0 (Rt : sx_R) : sx_T BX6_readLetter sx_Cal Rt 0 = sx_run bX6_readLetter_0 sx_Cal (sx_T BX6_readLetter sx_Cal Rt) Rt := sx_T_eq (fun pc => sx_BK_mon (kX6_readLetter pc)) Rt 0
theorem tX6_readLetter_14 (Rt : sx_R) : sx_T BX6_readLetter sx_Cal Rt 14 = sx_run bX6_readLetter_14 sx_Cal (sx_T BX6_readLetter sx_Cal Rt) Rt := sx_T_eq (fun pc => sx_BK_mon (kX6_readLetter pc)) Rt 14
theorem tX6_readLetter_33 (Rt : sx_R) : sx_T BX6_readLetter sx_Cal Rt 33 = sx_run bX6_readLetter_33 sx_Cal (sx_T BX6_readLetter sx_Cal Rt) Rt := sx_T_eq (fun pc => sx_BK_mon (kX6_readLetter pc)) Rt 33
theorem tX6_readLetter_48 (Rt : sx_R) : sx_T BX6_readLetter sx_Cal Rt 48 = sx_run bX6_readLetter_48 sx_Cal (sx_T BX6_readLetter sx_Cal Rt) Rt := sx_T_eq (fun pc => sx_BK_mon (kX6_readLetter pc)) Rt 48
theorem cX6_readLetter_c (a : List sx_V) (n : Nat) (h : sx_H) (Q : sx_Q) : sx_Cal 78 a n h Q = (sx_cat a ≤ 4 ∧ sx_T BX6_readLetter sx_Cal (fun r n' h' kc ks => Q r n' h' ∧ kc ≤ 0 ∧ ks ≤ 0) 0 (sx_en 4 a) [] n h 0 0) := sx_C_eq ztb_X6_readLetter a n h Q
theorem tX6_kindOf_0 (Rt : sx_R) : sx_T BX6_kindOf sx_Cal Rt 0 = sx_run bX6_kindOf_0 sx_Cal (sx_T BX6_kindOf sx_Cal Rt) Rt := sx_T_eq (fun pc => sx_BK_mon (kX6_kindOf pc)) Rt 0
theorem tX6_kindOf_72 (Rt : sx_R) : sx_T BX6_kindOf sx_Cal Rt 72 = sx_run bX6_kindOf_72 sx_Cal (sx_T BX6_kindOf sx_Cal Rt) Rt := sx_T_eq (fun pc => sx_BK_mon (kX6_kindOf pc)) Rt 72
theorem tX6_kindOf_74 (Rt : sx_R) : sx_T BX6_kindOf sx_Cal Rt 74 = sx_run bX6_kindOf_74 sx_Cal (sx_T BX6_kindOf sx_Cal Rt) Rt := sx_T_eq (fun pc => sx_BK_mon (kX6_kindOf pc)) Rt 74
theorem tX6_kindOf_76 (Rt : sx_R) : sx_T BX6_kindOf sx_Cal Rt 76 = sx_run bX6_kindOf_76 sx_Cal (sx_T BX6_kindOf sx_Cal Rt) Rt := sx_T_eq (fun pc => sx_BK_mon (kX6_kindOf pc)) Rt 76
theorem tX6_kindOf_78 (Rt : sx_R) : sx_T BX6_kindOf sx_Cal Rt 78 = sx_run bX6_kindOf_78 sx_Cal (sx_T BX6_kindOf sx_Cal Rt) Rt := sx_T_eq (fun pc => sx_BK_mon (kX6_kindOf pc)) Rt 78
theorem tX6_kindOf_80 (Rt : sx_R) : sx_T BX6_kindOf sx_Cal Rt 80 = sx_run bX6_kindOf_80 sx_Cal (sx_T BX6_kindOf sx_Cal Rt) Rt := sx_T_eq (fun pc => sx_BK_mon (kX6_kindOf pc)) Rt 80
theorem tX6_kindOf_82 (Rt : sx_R) : sx_T BX6_kindOf sx_Cal Rt 82 = sx_run bX6_kindOf_82 sx_Cal (sx_T BX6_kindOf sx_Cal Rt) Rt := sx_T_eq (fun pc => sx_BK_mon (kX6_kindOf pc)) Rt 82
theorem cX6_kindOf_c (a : List sx_V) (n : Nat) (h : sx_H) (Q : sx_Q) : sx_Cal 79 a n h Q = (sx_cat a ≤ 1 ∧ sx_T BX6_kindOf sx_Cal (fun r n' h' kc ks => Q r n' h' ∧ kc ≤ 0 ∧ ks ≤ 0) 0 (sx_en 1 a) [] n h 0 0) := sx_C_eq ztb_X6_kindOf a n h Q
theorem tX6_readNumber_0 (Rt : sx_R) : sx_T BX6_readNumber sx_Cal Rt 0 = sx_run bX6_readNumber_0 sx_Cal (sx_T BX6_readNumber sx_Cal Rt) Rt := sx_T_eq (fun pc => sx_BK_mon (kX6_readNumber pc)) Rt 0
theorem tX6_readNumber_7 (Rt : sx_R) : sx_T BX6_readNumber sx_Cal Rt 7 = sx_run bX6_readNumber_7 sx_Cal (sx_T BX6_readNumber sx_Cal Rt) Rt := sx_T_eq (fun pc => sx_BK_mon (kX6_readNumber pc)) Rt 7
theorem tX6_readNumber_48 (Rt : sx_R) : sx_T BX6_readNumber sx_Cal Rt 48 = sx_run bX6_readNumber_48 sx_Cal (sx_T BX6_readNumber sx_Cal Rt) Rt := sx_T_eq (fun pc => sx_BK_mon (kX6_readNumber pc)) Rt 48
theorem tX6_readNumber_67 (Rt : sx_R) : sx_T BX6_readNumber sx_Cal Rt 67 = sx_run bX6_readNumber_67 sx_Cal (sx_T BX6_readNumber sx_Cal Rt) Rt := sx_T_eq (fun pc => sx_BK_mon (kX6_readNumber pc)) Rt 67
theorem tX6_readNumber_69 (Rt : sx_R) : sx_T BX6_readNumber sx_Cal Rt 69 = sx_run bX6_readNumber_69 sx_Cal (sx_T BX6_readNumber sx_Cal Rt) Rt := sx_T_eq (fun pc => sx_BK_mon (kX6_readNumber pc)) Rt 69
theorem tX6_readNumber_85 (Rt : sx_R) : sx_T BX6_readNumber sx_Cal Rt 85 = sx_run bX6_readNumber_85 sx_Cal (sx_T BX6_readNumber sx_Cal Rt) Rt := sx_T_eq (fun pc => sx_BK_mon (kX6_readNumber pc)) Rt 85
theorem tX6_readNumber_87 (Rt : sx_R) : sx_T BX6_readNumber sx_Cal Rt 87 = sx_run bX6_readNumber_87 sx_Cal (sx_T BX6_readNumber sx_Cal Rt) Rt := sx_T_eq (fun pc => sx_BK_mon (kX6_readNumber pc)) Rt 87
theorem cX6_readNumber_c (a : List sx_V) (n : Nat) (h : sx_H) (Q : sx_Q) : sx_Cal 80 a n h Q = (sx_cat a ≤ 5 ∧ sx_T BX6_readNumber sx_Cal (fun r n' h' kc ks => Q r n' h' ∧ kc ≤ 0 ∧ ks ≤ 0) 0 (sx_en 5 a) [] n h 0 0) := sx_C_eq ztb_X6_readNumber a n h Q
theorem tX6_isFigure_0 (Rt : sx_R) : sx_T BX6_isFigure sx_Cal Rt 0 = sx_run bX6_isFigure_0 sx_Cal (sx_T BX6_isFigure sx_Cal Rt) Rt := sx_T_eq (fun pc => sx_BK_mon (kX6_isFigure pc)) Rt 0
theorem tX6_isFigure_16 (Rt : sx_R) : sx_T BX6_isFigure sx_Cal Rt 16 = sx_run bX6_isFigure_16 sx_Cal (sx_T BX6_isFigure sx_Cal Rt) Rt := sx_T_eq (fun pc => sx_BK_mon (kX6_isFigure pc)) Rt 16
theorem tX6_isFigure_17 (Rt : sx_R) : sx_T BX6_isFigure sx_Cal Rt 17 = sx_run bX6_isFigure_17 sx_Cal (sx_T BX6_isFigure sx_Cal Rt) Rt := sx_T_eq (fun pc => sx_BK_mon (kX6_isFigure pc)) Rt 17
theorem cX6_isFigure_c (a : List sx_V) (n : Nat) (h : sx_H) (Q : sx_Q) : sx_Cal 81 a n h Q = (sx_cat a ≤ 1 ∧ sx_T BX6_isFigure sx_Cal (fun r n' h' kc ks => Q r n' h' ∧ kc ≤ 0 ∧ ks ≤ 0) 0 (sx_en 1 a) [] n h 0 0) := sx_C_eq ztb_X6_isFigure a n h Q
theorem tX6_leastTold_0 (Rt : sx_R) : sx_T BX6_leastTold sx_Cal Rt 0 = sx_run bX6_leastTold_0 sx_Cal (sx_T BX6_leastTold sx_Cal Rt) Rt := sx_T_eq (fun pc => sx_BK_mon (kX6_leastTold pc)) Rt 0
theorem tX6_leastTold_19 (Rt : sx_R) : sx_T BX6_leastTold sx_Cal Rt 19 = sx_run bX6_leastTold_19 sx_Cal (sx_T BX6_leastTold sx_Cal Rt) Rt := sx_T_eq (fun pc => sx_BK_mon (kX6_leastTold pc)) Rt 19
theorem tX6_leastTold_20 (Rt : sx_R) : sx_T BX6_leastTold sx_Cal Rt 20 = sx_run bX6_leastTold_20 sx_Cal (sx_T BX6_leastTold sx_Cal Rt) Rt := sx_T_eq (fun pc => sx_BK_mon (kX6_leastTold pc)) Rt 20
theorem cX6_leastTold_c (a : List sx_V) (n : Nat) (h : sx_H) (Q : sx_Q) : sx_Cal 82 a n h Q = (sx_cat a ≤ 1 ∧ sx_T BX6_leastTold sx_Cal (fun r n' h' kc ks => Q r n' h' ∧ kc ≤ 0 ∧ ks ≤ 0) 0 (sx_en 1 a) [] n h 0 0) := sx_C_eq ztb_X6_leastTold a n h Q
theorem tX6_mostTold_0 (Rt : sx_R) : sx_T BX6_mostTold sx_Cal Rt 0 = sx_run bX6_mostTold_0 sx_Cal (sx_T BX6_mostTold sx_Cal Rt) Rt := sx_T_eq (fun pc => sx_BK_mon (kX6_mostTold pc)) Rt 0
theorem tX6_mostTold_20 (Rt : sx_R) : sx_T BX6_mostTold sx_Cal Rt 20 = sx_run bX6_mostTold_20 sx_Cal (sx_T BX6_mostTold sx_Cal Rt) Rt := sx_T_eq (fun pc => sx_BK_mon (kX6_mostTold pc)) Rt 20
theorem tX6_mostTold_33 (Rt : sx_R) : sx_T BX6_mostTold sx_Cal Rt 33 = sx_run bX6_mostTold_33 sx_Cal (sx_T BX6_mostTold sx_Cal Rt) Rt := sx_T_eq (fun pc => sx_BK_mon (kX6_mostTold pc)) Rt 33
theorem tX6_mostTold_35 (Rt : sx_R) : sx_T BX6_mostTold sx_Cal Rt 35 = sx_run bX6_mostTold_35 sx_Cal (sx_T BX6_mostTold sx_Cal Rt) Rt := sx_T_eq (fun pc => sx_BK_mon (kX6_mostTold pc)) Rt 35
theorem tX6_mostTold_36 (Rt : sx_R) : sx_T BX6_mostTold sx_Cal Rt 36 = sx_run bX6_mostTold_36 sx_Cal (sx_T BX6_mostTold sx_Cal Rt) Rt := sx_T_eq (fun pc => sx_BK_mon (kX6_mostTold pc)) Rt 36
theorem tX6_mostTold_49 (Rt : sx_R) : sx_T BX6_mostTold sx_Cal Rt 49 = sx_run bX6_mostTold_49 sx_Cal (sx_T BX6_mostTold sx_Cal Rt) Rt := sx_T_eq (fun pc => sx_BK_mon (kX6_mostTold pc)) Rt 49
theorem tX6_mostTold_62 (Rt : sx_R) : sx_T BX6_mostTold sx_Cal Rt 62 = sx_run bX6_mostTold_62 sx_Cal (sx_T BX6_mostTold sx_Cal Rt) Rt := sx_T_eq (fun pc => sx_BK_mon (kX6_mostTold pc)) Rt 62
theorem tX6_mostTold_64 (Rt : sx_R) : sx_T BX6_mostTold sx_Cal Rt 64 = sx_run bX6_mostTold_64 sx_Cal (sx_T BX6_mostTold sx_Cal Rt) Rt := sx_T_eq (fun pc => sx_BK_mon (kX6_mostTold pc)) Rt 64
theorem cX6_mostTold_c (a : List sx_V) (n : Nat) (h : sx_H) (Q : sx_Q) : sx_Cal 83 a n h Q = (sx_cat a ≤ 1 ∧ sx_T BX6_mostTold sx_Cal (fun r n' h' kc ks => Q r n' h' ∧ kc ≤ 0 ∧ ks ≤ 0) 0 (sx_en 1 a) [] n h 0 0) := sx_C_eq ztb_X6_mostTold a n h Q
theorem tX6_placeTold_0 (Rt : sx_R) : sx_T BX6_placeTold sx_Cal Rt 0 = sx_run bX6_placeTold_0 sx_Cal (sx_T BX6_placeTold sx_Cal Rt) Rt := sx_T_eq (fun pc => sx_BK_mon (kX6_placeTold pc)) Rt 0
theorem tX6_placeTold_20 (Rt : sx_R) : sx_T BX6_placeTold sx_Cal Rt 20 = sx_run bX6_placeTold_20 sx_Cal (sx_T BX6_placeTold sx_Cal Rt) Rt := sx_T_eq (fun pc => sx_BK_mon (kX6_placeTold pc)) Rt 20
theorem tX6_placeTold_33 (Rt : sx_R) : sx_T BX6_placeTold sx_Cal Rt 33 = sx_run bX6_placeTold_33 sx_Cal (sx_T BX6_placeTold sx_Cal Rt) Rt := sx_T_eq (fun pc => sx_BK_mon (kX6_placeTold pc)) Rt 33
theorem tX6_placeTold_35 (Rt : sx_R) : sx_T BX6_placeTold sx_Cal Rt 35 = sx_run bX6_placeTold_35 sx_Cal (sx_T BX6_placeTold sx_Cal Rt) Rt := sx_T_eq (fun pc => sx_BK_mon (kX6_placeTold pc)) Rt 35
theorem tX6_placeTold_36 (Rt : sx_R) : sx_T BX6_placeTold sx_Cal Rt 36 = sx_run bX6_placeTold_36 sx_Cal (sx_T BX6_placeTold sx_Cal Rt) Rt := sx_T_eq (fun pc => sx_BK_mon (kX6_placeTold pc)) Rt 36
theorem tX6_placeTold_49 (Rt : sx_R) : sx_T BX6_placeTold sx_Cal Rt 49 = sx_run bX6_placeTold_49 sx_Cal (sx_T BX6_placeTold sx_Cal Rt) Rt := sx_T_eq (fun pc => sx_BK_mon (kX6_placeTold pc)) Rt 49
theorem tX6_placeTold_62 (Rt : sx_R) : sx_T BX6_placeTold sx_Cal Rt 62 = sx_run bX6_placeTold_62 sx_Cal (sx_T BX6_placeTold sx_Cal Rt) Rt := sx_T_eq (fun pc => sx_BK_mon (kX6_placeTold pc)) Rt 62
theorem tX6_placeTold_64 (Rt : sx_R) : sx_T BX6_placeTold sx_Cal Rt 64 = sx_run bX6_placeTold_64 sx_Cal (sx_T BX6_placeTold sx_Cal Rt) Rt := sx_T_eq (fun pc => sx_BK_mon (kX6_placeTold pc)) Rt 64
theorem cX6_placeTold_c (a : List sx_V) (n : Nat) (h : sx_H) (Q : sx_Q) : sx_Cal 84 a n h Q = (sx_cat a ≤ 2 ∧ sx_T BX6_placeTold sx_Cal (fun r n' h' kc ks => Q r n' h' ∧ kc ≤ 0 ∧ ks ≤ 0) 0 (sx_en 2 a) [] n h 0 0) := sx_C_eq ztb_X6_placeTold a n h Q
theorem tX7_init_0 (Rt : sx_R) : sx_T BX7_init sx_Cal Rt 0 = sx_run bX7_init_0 sx_Cal (sx_T BX7_init sx_Cal Rt) Rt := sx_T_eq (fun pc => sx_BK_mon (kX7_init pc)) Rt 0
theorem cX7_init_c (a : List sx_V) (n : Nat) (h : sx_H) (Q : sx_Q) : sx_Cal 85 a n h Q = (sx_cat a ≤ 1 ∧ sx_T BX7_init sx_Cal (fun r n' h' kc ks => Q r n' h' ∧ kc ≤ 52 ∧ ks ≤ 2263) 0 (sx_en 1 a) [] n h 0 0) := sx_C_eq ztb_X7_init a n h Q
theorem tX7_row_0 (Rt : sx_R) : sx_T BX7_row sx_Cal Rt 0 = sx_run bX7_row_0 sx_Cal (sx_T BX7_row sx_Cal Rt) Rt := sx_T_eq (fun pc => sx_BK_mon (kX7_row pc)) Rt 0
theorem tX7_row_22 (Rt : sx_R) : sx_T BX7_row sx_Cal Rt 22 = sx_run bX7_row_22 sx_Cal (sx_T BX7_row sx_Cal Rt) Rt := sx_T_eq (fun pc => sx_BK_mon (kX7_row pc)) Rt 22
theorem tX7_row_25 (Rt : sx_R) : sx_T BX7_row sx_Cal Rt 25 = sx_run bX7_row_25 sx_Cal (sx_T BX7_row sx_Cal Rt) Rt := sx_T_eq (fun pc => sx_BK_mon (kX7_row pc)) Rt 25
theorem cX7_row_c (a : List sx_V) (n : Nat) (h : sx_H) (Q : sx_Q) : sx_Cal 86 a n h Q = (sx_cat a ≤ 4 ∧ sx_T BX7_row sx_Cal (fun r n' h' kc ks => Q r n' h' ∧ kc ≤ 0 ∧ ks ≤ 0) 0 (sx_en 4 a) [] n h 0 0) := sx_C_eq ztb_X7_row a n h Q
theorem tX7_set_0 (Rt : sx_R) : sx_T BX7_set sx_Cal Rt 0 = sx_run bX7_set_0 sx_Cal (sx_T BX7_set sx_Cal Rt) Rt := sx_T_eq (fun pc => sx_BK_mon (kX7_set pc)) Rt 0
theorem tX7_set_10 (Rt : sx_R) : sx_T BX7_set sx_Cal Rt 10 = sx_run bX7_set_10 sx_Cal (sx_T BX7_set sx_Cal Rt) Rt := sx_T_eq (fun pc => sx_BK_mon (kX7_set pc)) Rt 10
theorem cX7_set_c (a : List sx_V) (n : Nat) (h : sx_H) (Q : sx_Q) : sx_Cal 87 a n h Q = (sx_cat a ≤ 4 ∧ sx_T BX7_set sx_Cal (fun r n' h' kc ks => Q r n' h' ∧ kc ≤ 0 ∧ ks ≤ 0) 0 (sx_en 4 a) [] n h 0 0) := sx_C_eq ztb_X7_set a n h Q
theorem tX7_copy_0 (Rt : sx_R) : sx_T BX7_copy sx_Cal Rt 0 = sx_run bX7_copy_0 sx_Cal (sx_T BX7_copy sx_Cal Rt) Rt := sx_T_eq (fun pc => sx_BK_mon (kX7_copy pc)) Rt 0
theorem tX7_copy_14 (Rt : sx_R) : sx_T BX7_copy sx_Cal Rt 14 = sx_run bX7_copy_14 sx_Cal (sx_T BX7_copy sx_Cal Rt) Rt := sx_T_eq (fun pc => sx_BK_mon (kX7_copy pc)) Rt 14
theorem tX7_copy_17 (Rt : sx_R) : sx_T BX7_copy sx_Cal Rt 17 = sx_run bX7_copy_17 sx_Cal (sx_T BX7_copy sx_Cal Rt) Rt := sx_T_eq (fun pc => sx_BK_mon (kX7_copy pc)) Rt 17
theorem cX7_copy_c (a : List sx_V) (n : Nat) (h : sx_H) (Q : sx_Q) : sx_Cal 88 a n h Q = (sx_cat a ≤ 6 ∧ sx_T BX7_copy sx_Cal (fun r n' h' kc ks => Q r n' h' ∧ kc ≤ 0 ∧ ks ≤ 0) 0 (sx_en 6 a) [] n h 0 0) := sx_C_eq ztb_X7_copy a n h Q
theorem tX7_drop_0 (Rt : sx_R) : sx_T BX7_drop sx_Cal Rt 0 = sx_run bX7_drop_0 sx_Cal (sx_T BX7_drop sx_Cal Rt) Rt := sx_T_eq (fun pc => sx_BK_mon (kX7_drop pc)) Rt 0
theorem tX7_drop_10 (Rt : sx_R) : sx_T BX7_drop sx_Cal Rt 10 = sx_run bX7_drop_10 sx_Cal (sx_T BX7_drop sx_Cal Rt) Rt := sx_T_eq (fun pc => sx_BK_mon (kX7_drop pc)) Rt 10
theorem cX7_drop_c (a : List sx_V) (n : Nat) (h : sx_H) (Q : sx_Q) : sx_Cal 89 a n h Q = (sx_cat a ≤ 2 ∧ sx_T BX7_drop sx_Cal (fun r n' h' kc ks => Q r n' h' ∧ kc ≤ 0 ∧ ks ≤ 0) 0 (sx_en 2 a) [] n h 0 0) := sx_C_eq ztb_X7_drop a n h Q
theorem tX7_feed_0 (Rt : sx_R) : sx_T BX7_feed sx_Cal Rt 0 = sx_run bX7_feed_0 sx_Cal (sx_T BX7_feed sx_Cal Rt) Rt := sx_T_eq (fun pc => sx_BK_mon (kX7_feed pc)) Rt 0
theorem tX7_feed_14 (Rt : sx_R) : sx_T BX7_feed sx_Cal Rt 14 = sx_run bX7_feed_14 sx_Cal (sx_T BX7_feed sx_Cal Rt) Rt := sx_T_eq (fun pc => sx_BK_mon (kX7_feed pc)) Rt 14
theorem cX7_feed_c (a : List sx_V) (n : Nat) (h : sx_H) (Q : sx_Q) : sx_Cal 90 a n h Q = (sx_cat a ≤ 2 ∧ sx_T BX7_feed sx_Cal (fun r n' h' kc ks => Q r n' h' ∧ kc ≤ 0 ∧ ks ≤ 0) 0 (sx_en 2 a) [] n h 0 0) := sx_C_eq ztb_X7_feed a n h Q
theorem tX7_shop_0 (Rt : sx_R) : sx_T BX7_shop sx_Cal Rt 0 = sx_run bX7_shop_0 sx_Cal (sx_T BX7_shop sx_Cal Rt) Rt := sx_T_eq (fun pc => sx_BK_mon (kX7_shop pc)) Rt 0
theorem tX7_shop_41 (Rt : sx_R) : sx_T BX7_shop sx_Cal Rt 41 = sx_run bX7_shop_41 sx_Cal (sx_T BX7_shop sx_Cal Rt) Rt := sx_T_eq (fun pc => sx_BK_mon (kX7_shop pc)) Rt 41
theorem cX7_shop_c (a : List sx_V) (n : Nat) (h : sx_H) (Q : sx_Q) : sx_Cal 91 a n h Q = (sx_cat a ≤ 3 ∧ sx_T BX7_shop sx_Cal (fun r n' h' kc ks => Q r n' h' ∧ kc ≤ 0 ∧ ks ≤ 0) 0 (sx_en 3 a) [] n h 0 0) := sx_C_eq ztb_X7_shop a n h Q
theorem tX7_fault_0 (Rt : sx_R) : sx_T BX7_fault sx_Cal Rt 0 = sx_run bX7_fault_0 sx_Cal (sx_T BX7_fault sx_Cal Rt) Rt := sx_T_eq (fun pc => sx_BK_mon (kX7_fault pc)) Rt 0
theorem cX7_fault_c (a : List sx_V) (n : Nat) (h : sx_H) (Q : sx_Q) : sx_Cal 92 a n h Q = (sx_cat a ≤ 1 ∧ sx_T BX7_fault sx_Cal (fun r n' h' kc ks => Q r n' h' ∧ kc ≤ 0 ∧ ks ≤ 0) 0 (sx_en 1 a) [] n h 0 0) := sx_C_eq ztb_X7_fault a n h Q
theorem tX7_undo_0 (Rt : sx_R) : sx_T BX7_undo sx_Cal Rt 0 = sx_run bX7_undo_0 sx_Cal (sx_T BX7_undo sx_Cal Rt) Rt := sx_T_eq (fun pc => sx_BK_mon (kX7_undo pc)) Rt 0
theorem tX7_undo_13 (Rt : sx_R) : sx_T BX7_undo sx_Cal Rt 13 = sx_run bX7_undo_13 sx_Cal (sx_T BX7_undo sx_Cal Rt) Rt := sx_T_eq (fun pc => sx_BK_mon (kX7_undo pc)) Rt 13
theorem cX7_undo_c (a : List sx_V) (n : Nat) (h : sx_H) (Q : sx_Q) : sx_Cal 93 a n h Q = (sx_cat a ≤ 1 ∧ sx_T BX7_undo sx_Cal (fun r n' h' kc ks => Q r n' h' ∧ kc ≤ 0 ∧ ks ≤ 0) 0 (sx_en 1 a) [] n h 0 0) := sx_C_eq ztb_X7_undo a n h Q
theorem tX7_weeks_0 (Rt : sx_R) : sx_T BX7_weeks sx_Cal Rt 0 = sx_run bX7_weeks_0 sx_Cal (sx_T BX7_weeks sx_Cal Rt) Rt := sx_T_eq (fun pc => sx_BK_mon (kX7_weeks pc)) Rt 0
theorem tX7_weeks_13 (Rt : sx_R) : sx_T BX7_weeks sx_Cal Rt 13 = sx_run bX7_weeks_13 sx_Cal (sx_T BX7_weeks sx_Cal Rt) Rt := sx_T_eq (fun pc => sx_BK_mon (kX7_weeks pc)) Rt 13
theorem tX7_weeks_26 (Rt : sx_R) : sx_T BX7_weeks sx_Cal Rt 26 = sx_run bX7_weeks_26 sx_Cal (sx_T BX7_weeks sx_Cal Rt) Rt := sx_T_eq (fun pc => sx_BK_mon (kX7_weeks pc)) Rt 26
theorem tX7_weeks_47 (Rt : sx_R) : sx_T BX7_weeks sx_Cal Rt 47 = sx_run bX7_weeks_47 sx_Cal (sx_T BX7_weeks sx_Cal Rt) Rt := sx_T_eq (fun pc => sx_BK_mon (kX7_weeks pc)) Rt 47
theorem tX7_weeks_49 (Rt : sx_R) : sx_T BX7_weeks sx_Cal Rt 49 = sx_run bX7_weeks_49 sx_Cal (sx_T BX7_weeks sx_Cal Rt) Rt := sx_T_eq (fun pc => sx_BK_mon (kX7_weeks pc)) Rt 49
theorem tX7_weeks_79 (Rt : sx_R) : sx_T BX7_weeks sx_Cal Rt 79 = sx_run bX7_weeks_79 sx_Cal (sx_T BX7_weeks sx_Cal Rt) Rt := sx_T_eq (fun pc => sx_BK_mon (kX7_weeks pc)) Rt 79
theorem cX7_weeks_c (a : List sx_V) (n : Nat) (h : sx_H) (Q : sx_Q) : sx_Cal 94 a n h Q = (sx_cat a ≤ 3 ∧ sx_T BX7_weeks sx_Cal (fun r n' h' kc ks => Q r n' h' ∧ kc ≤ 0 ∧ ks ≤ 0) 0 (sx_en 3 a) [] n h 0 0) := sx_C_eq ztb_X7_weeks a n h Q
theorem tX7_stop_0 (Rt : sx_R) : sx_T BX7_stop sx_Cal Rt 0 = sx_run bX7_stop_0 sx_Cal (sx_T BX7_stop sx_Cal Rt) Rt := sx_T_eq (fun pc => sx_BK_mon (kX7_stop pc)) Rt 0
theorem tX7_stop_21 (Rt : sx_R) : sx_T BX7_stop sx_Cal Rt 21 = sx_run bX7_stop_21 sx_Cal (sx_T BX7_stop sx_Cal Rt) Rt := sx_T_eq (fun pc => sx_BK_mon (kX7_stop pc)) Rt 21
theorem tX7_stop_24 (Rt : sx_R) : sx_T BX7_stop sx_Cal Rt 24 = sx_run bX7_stop_24 sx_Cal (sx_T BX7_stop sx_Cal Rt) Rt := sx_T_eq (fun pc => sx_BK_mon (kX7_stop pc)) Rt 24
theorem cX7_stop_c (a : List sx_V) (n : Nat) (h : sx_H) (Q : sx_Q) : sx_Cal 95 a n h Q = (sx_cat a ≤ 3 ∧ sx_T BX7_stop sx_Cal (fun r n' h' kc ks => Q r n' h' ∧ kc ≤ 0 ∧ ks ≤ 0) 0 (sx_en 3 a) [] n h 0 0) := sx_C_eq ztb_X7_stop a n h Q
theorem tX7_strike_0 (Rt : sx_R) : sx_T BX7_strike sx_Cal Rt 0 = sx_run bX7_strike_0 sx_Cal (sx_T BX7_strike sx_Cal Rt) Rt := sx_T_eq (fun pc => sx_BK_mon (kX7_strike pc)) Rt 0
theorem tX7_strike_13 (Rt : sx_R) : sx_T BX7_strike sx_Cal Rt 13 = sx_run bX7_strike_13 sx_Cal (sx_T BX7_strike sx_Cal Rt) Rt := sx_T_eq (fun pc => sx_BK_mon (kX7_strike pc)) Rt 13
theorem tX7_strike_26 (Rt : sx_R) : sx_T BX7_strike sx_Cal Rt 26 = sx_run bX7_strike_26 sx_Cal (sx_T BX7_strike sx_Cal Rt) Rt := sx_T_eq (fun pc => sx_BK_mon (kX7_strike pc)) Rt 26
theorem cX7_strike_c (a : List sx_V) (n : Nat) (h : sx_H) (Q : sx_Q) : sx_Cal 96 a n h Q = (sx_cat a ≤ 2 ∧ sx_T BX7_strike sx_Cal (fun r n' h' kc ks => Q r n' h' ∧ kc ≤ 0 ∧ ks ≤ 0) 0 (sx_en 2 a) [] n h 0 0) := sx_C_eq ztb_X7_strike a n h Q
theorem tX7_cross_0 (Rt : sx_R) : sx_T BX7_cross sx_Cal Rt 0 = sx_run bX7_cross_0 sx_Cal (sx_T BX7_cross sx_Cal Rt) Rt := sx_T_eq (fun pc => sx_BK_mon (kX7_cross pc)) Rt 0
theorem tX7_cross_20 (Rt : sx_R) : sx_T BX7_cross sx_Cal Rt 20 = sx_run bX7_cross_20 sx_Cal (sx_T BX7_cross sx_Cal Rt) Rt := sx_T_eq (fun pc => sx_BK_mon (kX7_cross pc)) Rt 20
theorem tX7_cross_23 (Rt : sx_R) : sx_T BX7_cross sx_Cal Rt 23 = sx_run bX7_cross_23 sx_Cal (sx_T BX7_cross sx_Cal Rt) Rt := sx_T_eq (fun pc => sx_BK_mon (kX7_cross pc)) Rt 23
theorem tX7_cross_42 (Rt : sx_R) : sx_T BX7_cross sx_Cal Rt 42 = sx_run bX7_cross_42 sx_Cal (sx_T BX7_cross sx_Cal Rt) Rt := sx_T_eq (fun pc => sx_BK_mon (kX7_cross pc)) Rt 42
theorem tX7_cross_68 (Rt : sx_R) : sx_T BX7_cross sx_Cal Rt 68 = sx_run bX7_cross_68 sx_Cal (sx_T BX7_cross sx_Cal Rt) Rt := sx_T_eq (fun pc => sx_BK_mon (kX7_cross pc)) Rt 68
theorem cX7_cross_c (a : List sx_V) (n : Nat) (h : sx_H) (Q : sx_Q) : sx_Cal 97 a n h Q = (sx_cat a ≤ 3 ∧ sx_T BX7_cross sx_Cal (fun r n' h' kc ks => Q r n' h' ∧ kc ≤ 0 ∧ ks ≤ 0) 0 (sx_en 3 a) [] n h 0 0) := sx_C_eq ztb_X7_cross a n h Q
theorem tX7_dearer_0 (Rt : sx_R) : sx_T BX7_dearer sx_Cal Rt 0 = sx_run bX7_dearer_0 sx_Cal (sx_T BX7_dearer sx_Cal Rt) Rt := sx_T_eq (fun pc => sx_BK_mon (kX7_dearer pc)) Rt 0
theorem tX7_dearer_13 (Rt : sx_R) : sx_T BX7_dearer sx_Cal Rt 13 = sx_run bX7_dearer_13 sx_Cal (sx_T BX7_dearer sx_Cal Rt) Rt := sx_T_eq (fun pc => sx_BK_mon (kX7_dearer pc)) Rt 13
theorem tX7_dearer_26 (Rt : sx_R) : sx_T BX7_dearer sx_Cal Rt 26 = sx_run bX7_dearer_26 sx_Cal (sx_T BX7_dearer sx_Cal Rt) Rt := sx_T_eq (fun pc => sx_BK_mon (kX7_dearer pc)) Rt 26
theorem cX7_dearer_c (a : List sx_V) (n : Nat) (h : sx_H) (Q : sx_Q) : sx_Cal 98 a n h Q = (sx_cat a ≤ 2 ∧ sx_T BX7_dearer sx_Cal (fun r n' h' kc ks => Q r n' h' ∧ kc ≤ 0 ∧ ks ≤ 0) 0 (sx_en 2 a) [] n h 0 0) := sx_C_eq ztb_X7_dearer a n h Q
theorem tX7_debtor_0 (Rt : sx_R) : sx_T BX7_debtor sx_Cal Rt 0 = sx_run bX7_debtor_0 sx_Cal (sx_T BX7_debtor sx_Cal Rt) Rt := sx_T_eq (fun pc => sx_BK_mon (kX7_debtor pc)) Rt 0
theorem tX7_debtor_21 (Rt : sx_R) : sx_T BX7_debtor sx_Cal Rt 21 = sx_run bX7_debtor_21 sx_Cal (sx_T BX7_debtor sx_Cal Rt) Rt := sx_T_eq (fun pc => sx_BK_mon (kX7_debtor pc)) Rt 21
theorem tX7_debtor_24 (Rt : sx_R) : sx_T BX7_debtor sx_Cal Rt 24 = sx_run bX7_debtor_24 sx_Cal (sx_T BX7_debtor sx_Cal Rt) Rt := sx_T_eq (fun pc => sx_BK_mon (kX7_debtor pc)) Rt 24
theorem cX7_debtor_c (a : List sx_V) (n : Nat) (h : sx_H) (Q : sx_Q) : sx_Cal 99 a n h Q = (sx_cat a ≤ 3 ∧ sx_T BX7_debtor sx_Cal (fun r n' h' kc ks => Q r n' h' ∧ kc ≤ 0 ∧ ks ≤ 0) 0 (sx_en 3 a) [] n h 0 0) := sx_C_eq ztb_X7_debtor a n h Q
theorem tX7_shopHas_0 (Rt : sx_R) : sx_T BX7_shopHas sx_Cal Rt 0 = sx_run bX7_shopHas_0 sx_Cal (sx_T BX7_shopHas sx_Cal Rt) Rt := sx_T_eq (fun pc => sx_BK_mon (kX7_shopHas pc)) Rt 0
theorem tX7_shopHas_13 (Rt : sx_R) : sx_T BX7_shopHas sx_Cal Rt 13 = sx_run bX7_shopHas_13 sx_Cal (sx_T BX7_shopHas sx_Cal Rt) Rt := sx_T_eq (fun pc => sx_BK_mon (kX7_shopHas pc)) Rt 13
theorem tX7_shopHas_25 (Rt : sx_R) : sx_T BX7_shopHas sx_Cal Rt 25 = sx_run bX7_shopHas_25 sx_Cal (sx_T BX7_shopHas sx_Cal Rt) Rt := sx_T_eq (fun pc => sx_BK_mon (kX7_shopHas pc)) Rt 25
theorem tX7_shopHas_38 (Rt : sx_R) : sx_T BX7_shopHas sx_Cal Rt 38 = sx_run bX7_shopHas_38 sx_Cal (sx_T BX7_shopHas sx_Cal Rt) Rt := sx_T_eq (fun pc => sx_BK_mon (kX7_shopHas pc)) Rt 38
theorem tX7_shopHas_51 (Rt : sx_R) : sx_T BX7_shopHas sx_Cal Rt 51 = sx_run bX7_shopHas_51 sx_Cal (sx_T BX7_shopHas sx_Cal Rt) Rt := sx_T_eq (fun pc => sx_BK_mon (kX7_shopHas pc)) Rt 51
theorem cX7_shopHas_c (a : List sx_V) (n : Nat) (h : sx_H) (Q : sx_Q) : sx_Cal 100 a n h Q = (sx_cat a ≤ 2 ∧ sx_T BX7_shopHas sx_Cal (fun r n' h' kc ks => Q r n' h' ∧ kc ≤ 0 ∧ ks ≤ 0) 0 (sx_en 2 a) [] n h 0 0) := sx_C_eq ztb_X7_shopHas a n h Q
theorem tX7_ahead_0 (Rt : sx_R) : sx_T BX7_ahead sx_Cal Rt 0 = sx_run bX7_ahead_0 sx_Cal (sx_T BX7_ahead sx_Cal Rt) Rt := sx_T_eq (fun pc => sx_BK_mon (kX7_ahead pc)) Rt 0
theorem tX7_ahead_13 (Rt : sx_R) : sx_T BX7_ahead sx_Cal Rt 13 = sx_run bX7_ahead_13 sx_Cal (sx_T BX7_ahead sx_Cal Rt) Rt := sx_T_eq (fun pc => sx_BK_mon (kX7_ahead pc)) Rt 13
theorem tX7_ahead_32 (Rt : sx_R) : sx_T BX7_ahead sx_Cal Rt 32 = sx_run bX7_ahead_32 sx_Cal (sx_T BX7_ahead sx_Cal Rt) Rt := sx_T_eq (fun pc => sx_BK_mon (kX7_ahead pc)) Rt 32
theorem tX7_ahead_35 (Rt : sx_R) : sx_T BX7_ahead sx_Cal Rt 35 = sx_run bX7_ahead_35 sx_Cal (sx_T BX7_ahead sx_Cal Rt) Rt := sx_T_eq (fun pc => sx_BK_mon (kX7_ahead pc)) Rt 35
theorem tX7_ahead_58 (Rt : sx_R) : sx_T BX7_ahead sx_Cal Rt 58 = sx_run bX7_ahead_58 sx_Cal (sx_T BX7_ahead sx_Cal Rt) Rt := sx_T_eq (fun pc => sx_BK_mon (kX7_ahead pc)) Rt 58
theorem tX7_ahead_70 (Rt : sx_R) : sx_T BX7_ahead sx_Cal Rt 70 = sx_run bX7_ahead_70 sx_Cal (sx_T BX7_ahead sx_Cal Rt) Rt := sx_T_eq (fun pc => sx_BK_mon (kX7_ahead pc)) Rt 70
theorem cX7_ahead_c (a : List sx_V) (n : Nat) (h : sx_H) (Q : sx_Q) : sx_Cal 101 a n h Q = (sx_cat a ≤ 3 ∧ sx_T BX7_ahead sx_Cal (fun r n' h' kc ks => Q r n' h' ∧ kc ≤ 0 ∧ ks ≤ 0) 0 (sx_en 3 a) [] n h 0 0) := sx_C_eq ztb_X7_ahead a n h Q
theorem tX7_debt_0 (Rt : sx_R) : sx_T BX7_debt sx_Cal Rt 0 = sx_run bX7_debt_0 sx_Cal (sx_T BX7_debt sx_Cal Rt) Rt := sx_T_eq (fun pc => sx_BK_mon (kX7_debt pc)) Rt 0
theorem tX7_debt_21 (Rt : sx_R) : sx_T BX7_debt sx_Cal Rt 21 = sx_run bX7_debt_21 sx_Cal (sx_T BX7_debt sx_Cal Rt) Rt := sx_T_eq (fun pc => sx_BK_mon (kX7_debt pc)) Rt 21
theorem tX7_debt_24 (Rt : sx_R) : sx_T BX7_debt sx_Cal Rt 24 = sx_run bX7_debt_24 sx_Cal (sx_T BX7_debt sx_Cal Rt) Rt := sx_T_eq (fun pc => sx_BK_mon (kX7_debt pc)) Rt 24
theorem cX7_debt_c (a : List sx_V) (n : Nat) (h : sx_H) (Q : sx_Q) : sx_Cal 102 a n h Q = (sx_cat a ≤ 3 ∧ sx_T BX7_debt sx_Cal (fun r n' h' kc ks => Q r n' h' ∧ kc ≤ 0 ∧ ks ≤ 0) 0 (sx_en 3 a) [] n h 0 0) := sx_C_eq ztb_X7_debt a n h Q
theorem tX7_shuts_0 (Rt : sx_R) : sx_T BX7_shuts sx_Cal Rt 0 = sx_run bX7_shuts_0 sx_Cal (sx_T BX7_shuts sx_Cal Rt) Rt := sx_T_eq (fun pc => sx_BK_mon (kX7_shuts pc)) Rt 0
theorem tX7_shuts_13 (Rt : sx_R) : sx_T BX7_shuts sx_Cal Rt 13 = sx_run bX7_shuts_13 sx_Cal (sx_T BX7_shuts sx_Cal Rt) Rt := sx_T_eq (fun pc => sx_BK_mon (kX7_shuts pc)) Rt 13
theorem cX7_shuts_c (a : List sx_V) (n : Nat) (h : sx_H) (Q : sx_Q) : sx_Cal 103 a n h Q = (sx_cat a ≤ 1 ∧ sx_T BX7_shuts sx_Cal (fun r n' h' kc ks => Q r n' h' ∧ kc ≤ 0 ∧ ks ≤ 0) 0 (sx_en 1 a) [] n h 0 0) := sx_C_eq ztb_X7_shuts a n h Q
theorem tX7_bestStop_0 (Rt : sx_R) : sx_T BX7_bestStop sx_Cal Rt 0 = sx_run bX7_bestStop_0 sx_Cal (sx_T BX7_bestStop sx_Cal Rt) Rt := sx_T_eq (fun pc => sx_BK_mon (kX7_bestStop pc)) Rt 0
theorem tX7_bestStop_30 (Rt : sx_R) : sx_T BX7_bestStop sx_Cal Rt 30 = sx_run bX7_bestStop_30 sx_Cal (sx_T BX7_bestStop sx_Cal Rt) Rt := sx_T_eq (fun pc => sx_BK_mon (kX7_bestStop pc)) Rt 30
theorem tX7_bestStop_33 (Rt : sx_R) : sx_T BX7_bestStop sx_Cal Rt 33 = sx_run bX7_bestStop_33 sx_Cal (sx_T BX7_bestStop sx_Cal Rt) Rt := sx_T_eq (fun pc => sx_BK_mon (kX7_bestStop pc)) Rt 33
theorem cX7_bestStop_c (a : List sx_V) (n : Nat) (h : sx_H) (Q : sx_Q) : sx_Cal 104 a n h Q = (sx_cat a ≤ 4 ∧ sx_T BX7_bestStop sx_Cal (fun r n' h' kc ks => Q r n' h' ∧ kc ≤ 0 ∧ ks ≤ 0) 0 (sx_en 4 a) [] n h 0 0) := sx_C_eq ztb_X7_bestStop a n h Q
theorem tX7_whom_0 (Rt : sx_R) : sx_T BX7_whom sx_Cal Rt 0 = sx_run bX7_whom_0 sx_Cal (sx_T BX7_whom sx_Cal Rt) Rt := sx_T_eq (fun pc => sx_BK_mon (kX7_whom pc)) Rt 0
theorem tX7_whom_13 (Rt : sx_R) : sx_T BX7_whom sx_Cal Rt 13 = sx_run bX7_whom_13 sx_Cal (sx_T BX7_whom sx_Cal Rt) Rt := sx_T_eq (fun pc => sx_BK_mon (kX7_whom pc)) Rt 13
theorem tX7_whom_32 (Rt : sx_R) : sx_T BX7_whom sx_Cal Rt 32 = sx_run bX7_whom_32 sx_Cal (sx_T BX7_whom sx_Cal Rt) Rt := sx_T_eq (fun pc => sx_BK_mon (kX7_whom pc)) Rt 32
theorem tX7_whom_35 (Rt : sx_R) : sx_T BX7_whom sx_Cal Rt 35 = sx_run bX7_whom_35 sx_Cal (sx_T BX7_whom sx_Cal Rt) Rt := sx_T_eq (fun pc => sx_BK_mon (kX7_whom pc)) Rt 35
theorem cX7_whom_c (a : List sx_V) (n : Nat) (h : sx_H) (Q : sx_Q) : sx_Cal 105 a n h Q = (sx_cat a ≤ 3 ∧ sx_T BX7_whom sx_Cal (fun r n' h' kc ks => Q r n' h' ∧ kc ≤ 0 ∧ ks ≤ 0) 0 (sx_en 3 a) [] n h 0 0) := sx_C_eq ztb_X7_whom a n h Q
theorem tX7_stands_0 (Rt : sx_R) : sx_T BX7_stands sx_Cal Rt 0 = sx_run bX7_stands_0 sx_Cal (sx_T BX7_stands sx_Cal Rt) Rt := sx_T_eq (fun pc => sx_BK_mon (kX7_stands pc)) Rt 0
theorem tX7_stands_13 (Rt : sx_R) : sx_T BX7_stands sx_Cal Rt 13 = sx_run bX7_stands_13 sx_Cal (sx_T BX7_stands sx_Cal Rt) Rt := sx_T_eq (fun pc => sx_BK_mon (kX7_stands pc)) Rt 13
theorem cX7_stands_c (a : List sx_V) (n : Nat) (h : sx_H) (Q : sx_Q) : sx_Cal 106 a n h Q = (sx_cat a ≤ 1 ∧ sx_T BX7_stands sx_Cal (fun r n' h' kc ks => Q r n' h' ∧ kc ≤ 0 ∧ ks ≤ 0) 0 (sx_en 1 a) [] n h 0 0) := sx_C_eq ztb_X7_stands a n h Q
theorem tX7_dear_0 (Rt : sx_R) : sx_T BX7_dear sx_Cal Rt 0 = sx_run bX7_dear_0 sx_Cal (sx_T BX7_dear sx_Cal Rt) Rt := sx_T_eq (fun pc => sx_BK_mon (kX7_dear pc)) Rt 0
theorem tX7_dear_13 (Rt : sx_R) : sx_T BX7_dear sx_Cal Rt 13 = sx_run bX7_dear_13 sx_Cal (sx_T BX7_dear sx_Cal Rt) Rt := sx_T_eq (fun pc => sx_BK_mon (kX7_dear pc)) Rt 13
theorem tX7_dear_26 (Rt : sx_R) : sx_T BX7_dear sx_Cal Rt 26 = sx_run bX7_dear_26 sx_Cal (sx_T BX7_dear sx_Cal Rt) Rt := sx_T_eq (fun pc => sx_BK_mon (kX7_dear pc)) Rt 26
theorem cX7_dear_c (a : List sx_V) (n : Nat) (h : sx_H) (Q : sx_Q) : sx_Cal 107 a n h Q = (sx_cat a ≤ 2 ∧ sx_T BX7_dear sx_Cal (fun r n' h' kc ks => Q r n' h' ∧ kc ≤ 0 ∧ ks ≤ 0) 0 (sx_en 2 a) [] n h 0 0) := sx_C_eq ztb_X7_dear a n h Q
theorem tX7_rogue_0 (Rt : sx_R) : sx_T BX7_rogue sx_Cal Rt 0 = sx_run bX7_rogue_0 sx_Cal (sx_T BX7_rogue sx_Cal Rt) Rt := sx_T_eq (fun pc => sx_BK_mon (kX7_rogue pc)) Rt 0
theorem tX7_rogue_30 (Rt : sx_R) : sx_T BX7_rogue sx_Cal Rt 30 = sx_run bX7_rogue_30 sx_Cal (sx_T BX7_rogue sx_Cal Rt) Rt := sx_T_eq (fun pc => sx_BK_mon (kX7_rogue pc)) Rt 30
theorem tX7_rogue_33 (Rt : sx_R) : sx_T BX7_rogue sx_Cal Rt 33 = sx_run bX7_rogue_33 sx_Cal (sx_T BX7_rogue sx_Cal Rt) Rt := sx_T_eq (fun pc => sx_BK_mon (kX7_rogue pc)) Rt 33
theorem tX7_rogue_47 (Rt : sx_R) : sx_T BX7_rogue sx_Cal Rt 47 = sx_run bX7_rogue_47 sx_Cal (sx_T BX7_rogue sx_Cal Rt) Rt := sx_T_eq (fun pc => sx_BK_mon (kX7_rogue pc)) Rt 47
theorem cX7_rogue_c (a : List sx_V) (n : Nat) (h : sx_H) (Q : sx_Q) : sx_Cal 108 a n h Q = (sx_cat a ≤ 4 ∧ sx_T BX7_rogue sx_Cal (fun r n' h' kc ks => Q r n' h' ∧ kc ≤ 0 ∧ ks ≤ 0) 0 (sx_en 4 a) [] n h 0 0) := sx_C_eq ztb_X7_rogue a n h Q
theorem tX7_who_0 (Rt : sx_R) : sx_T BX7_who sx_Cal Rt 0 = sx_run bX7_who_0 sx_Cal (sx_T BX7_who sx_Cal Rt) Rt := sx_T_eq (fun pc => sx_BK_mon (kX7_who pc)) Rt 0
theorem tX7_who_29 (Rt : sx_R) : sx_T BX7_who sx_Cal Rt 29 = sx_run bX7_who_29 sx_Cal (sx_T BX7_who sx_Cal Rt) Rt := sx_T_eq (fun pc => sx_BK_mon (kX7_who pc)) Rt 29
theorem tX7_who_32 (Rt : sx_R) : sx_T BX7_who sx_Cal Rt 32 = sx_run bX7_who_32 sx_Cal (sx_T BX7_who sx_Cal Rt) Rt := sx_T_eq (fun pc => sx_BK_mon (kX7_who pc)) Rt 32
theorem tX7_who_55 (Rt : sx_R) : sx_T BX7_who sx_Cal Rt 55 = sx_run bX7_who_55 sx_Cal (sx_T BX7_who sx_Cal Rt) Rt := sx_T_eq (fun pc => sx_BK_mon (kX7_who pc)) Rt 55
theorem tX7_who_75 (Rt : sx_R) : sx_T BX7_who sx_Cal Rt 75 = sx_run bX7_who_75 sx_Cal (sx_T BX7_who sx_Cal Rt) Rt := sx_T_eq (fun pc => sx_BK_mon (kX7_who pc)) Rt 75
theorem cX7_who_c (a : List sx_V) (n : Nat) (h : sx_H) (Q : sx_Q) : sx_Cal 109 a n h Q = (sx_cat a ≤ 6 ∧ sx_T BX7_who sx_Cal (fun r n' h' kc ks => Q r n' h' ∧ kc ≤ 0 ∧ ks ≤ 0) 0 (sx_en 6 a) [] n h 0 0) := sx_C_eq ztb_X7_who a n h Q
theorem tX7_atDoor_0 (Rt : sx_R) : sx_T BX7_atDoor sx_Cal Rt 0 = sx_run bX7_atDoor_0 sx_Cal (sx_T BX7_atDoor sx_Cal Rt) Rt := sx_T_eq (fun pc => sx_BK_mon (kX7_atDoor pc)) Rt 0
theorem tX7_atDoor_13 (Rt : sx_R) : sx_T BX7_atDoor sx_Cal Rt 13 = sx_run bX7_atDoor_13 sx_Cal (sx_T BX7_atDoor sx_Cal Rt) Rt := sx_T_eq (fun pc => sx_BK_mon (kX7_atDoor pc)) Rt 13
theorem tX7_atDoor_25 (Rt : sx_R) : sx_T BX7_atDoor sx_Cal Rt 25 = sx_run bX7_atDoor_25 sx_Cal (sx_T BX7_atDoor sx_Cal Rt) Rt := sx_T_eq (fun pc => sx_BK_mon (kX7_atDoor pc)) Rt 25
theorem cX7_atDoor_c (a : List sx_V) (n : Nat) (h : sx_H) (Q : sx_Q) : sx_Cal 110 a n h Q = (sx_cat a ≤ 2 ∧ sx_T BX7_atDoor sx_Cal (fun r n' h' kc ks => Q r n' h' ∧ kc ≤ 0 ∧ ks ≤ 0) 0 (sx_en 2 a) [] n h 0 0) := sx_C_eq ztb_X7_atDoor a n h Q
theorem tX7_pays_0 (Rt : sx_R) : sx_T BX7_pays sx_Cal Rt 0 = sx_run bX7_pays_0 sx_Cal (sx_T BX7_pays sx_Cal Rt) Rt := sx_T_eq (fun pc => sx_BK_mon (kX7_pays pc)) Rt 0
theorem tX7_pays_14 (Rt : sx_R) : sx_T BX7_pays sx_Cal Rt 14 = sx_run bX7_pays_14 sx_Cal (sx_T BX7_pays sx_Cal Rt) Rt := sx_T_eq (fun pc => sx_BK_mon (kX7_pays pc)) Rt 14
theorem tX7_pays_52 (Rt : sx_R) : sx_T BX7_pays sx_Cal Rt 52 = sx_run bX7_pays_52 sx_Cal (sx_T BX7_pays sx_Cal Rt) Rt := sx_T_eq (fun pc => sx_BK_mon (kX7_pays pc)) Rt 52
theorem tX7_pays_56 (Rt : sx_R) : sx_T BX7_pays sx_Cal Rt 56 = sx_run bX7_pays_56 sx_Cal (sx_T BX7_pays sx_Cal Rt) Rt := sx_T_eq (fun pc => sx_BK_mon (kX7_pays pc)) Rt 56
theorem cX7_pays_c (a : List sx_V) (n : Nat) (h : sx_H) (Q : sx_Q) : sx_Cal 111 a n h Q = (sx_cat a ≤ 5 ∧ sx_T BX7_pays sx_Cal (fun r n' h' kc ks => Q r n' h' ∧ kc ≤ 0 ∧ ks ≤ 0) 0 (sx_en 5 a) [] n h 0 0) := sx_C_eq ztb_X7_pays a n h Q
theorem tX7_drawn_0 (Rt : sx_R) : sx_T BX7_drawn sx_Cal Rt 0 = sx_run bX7_drawn_0 sx_Cal (sx_T BX7_drawn sx_Cal Rt) Rt := sx_T_eq (fun pc => sx_BK_mon (kX7_drawn pc)) Rt 0
theorem tX7_drawn_13 (Rt : sx_R) : sx_T BX7_drawn sx_Cal Rt 13 = sx_run bX7_drawn_13 sx_Cal (sx_T BX7_drawn sx_Cal Rt) Rt := sx_T_eq (fun pc => sx_BK_mon (kX7_drawn pc)) Rt 13
theorem tX7_drawn_42 (Rt : sx_R) : sx_T BX7_drawn sx_Cal Rt 42 = sx_run bX7_drawn_42 sx_Cal (sx_T BX7_drawn sx_Cal Rt) Rt := sx_T_eq (fun pc => sx_BK_mon (kX7_drawn pc)) Rt 42
theorem tX7_drawn_45 (Rt : sx_R) : sx_T BX7_drawn sx_Cal Rt 45 = sx_run bX7_drawn_45 sx_Cal (sx_T BX7_drawn sx_Cal Rt) Rt := sx_T_eq (fun pc => sx_BK_mon (kX7_drawn pc)) Rt 45
theorem tX7_drawn_73 (Rt : sx_R) : sx_T BX7_drawn sx_Cal Rt 73 = sx_run bX7_drawn_73 sx_Cal (sx_T BX7_drawn sx_Cal Rt) Rt := sx_T_eq (fun pc => sx_BK_mon (kX7_drawn pc)) Rt 73
theorem tX7_drawn_75 (Rt : sx_R) : sx_T BX7_drawn sx_Cal Rt 75 = sx_run bX7_drawn_75 sx_Cal (sx_T BX7_drawn sx_Cal Rt) Rt := sx_T_eq (fun pc => sx_BK_mon (kX7_drawn pc)) Rt 75
theorem cX7_drawn_c (a : List sx_V) (n : Nat) (h : sx_H) (Q : sx_Q) : sx_Cal 112 a n h Q = (sx_cat a ≤ 5 ∧ sx_T BX7_drawn sx_Cal (fun r n' h' kc ks => Q r n' h' ∧ kc ≤ 0 ∧ ks ≤ 0) 0 (sx_en 5 a) [] n h 0 0) := sx_C_eq ztb_X7_drawn a n h Q
theorem tX7_image_0 (Rt : sx_R) : sx_T BX7_image sx_Cal Rt 0 = sx_run bX7_image_0 sx_Cal (sx_T BX7_image sx_Cal Rt) Rt := sx_T_eq (fun pc => sx_BK_mon (kX7_image pc)) Rt 0
theorem tX7_image_12 (Rt : sx_R) : sx_T BX7_image sx_Cal Rt 12 = sx_run bX7_image_12 sx_Cal (sx_T BX7_image sx_Cal Rt) Rt := sx_T_eq (fun pc => sx_BK_mon (kX7_image pc)) Rt 12
theorem tX7_image_25 (Rt : sx_R) : sx_T BX7_image sx_Cal Rt 25 = sx_run bX7_image_25 sx_Cal (sx_T BX7_image sx_Cal Rt) Rt := sx_T_eq (fun pc => sx_BK_mon (kX7_image pc)) Rt 25
theorem cX7_image_c (a : List sx_V) (n : Nat) (h : sx_H) (Q : sx_Q) : sx_Cal 113 a n h Q = (sx_cat a ≤ 2 ∧ sx_T BX7_image sx_Cal (fun r n' h' kc ks => Q r n' h' ∧ kc ≤ 0 ∧ ks ≤ 0) 0 (sx_en 2 a) [] n h 0 0) := sx_C_eq ztb_X7_image a n h Q
theorem tX7_restore_0 (Rt : sx_R) : sx_T BX7_restore sx_Cal Rt 0 = sx_run bX7_restore_0 sx_Cal (sx_T BX7_restore sx_Cal Rt) Rt := sx_T_eq (fun pc => sx_BK_mon (kX7_restore pc)) Rt 0
theorem tX7_restore_12 (Rt : sx_R) : sx_T BX7_restore sx_Cal Rt 12 = sx_run bX7_restore_12 sx_Cal (sx_T BX7_restore sx_Cal Rt) Rt := sx_T_eq (fun pc => sx_BK_mon (kX7_restore pc)) Rt 12
theorem tX7_restore_27 (Rt : sx_R) : sx_T BX7_restore sx_Cal Rt 27 = sx_run bX7_restore_27 sx_Cal (sx_T BX7_restore sx_Cal Rt) Rt := sx_T_eq (fun pc => sx_BK_mon (kX7_restore pc)) Rt 27
theorem cX7_restore_c (a : List sx_V) (n : Nat) (h : sx_H) (Q : sx_Q) : sx_Cal 114 a n h Q = (sx_cat a ≤ 2 ∧ sx_T BX7_restore sx_Cal (fun r n' h' kc ks => Q r n' h' ∧ kc ≤ 0 ∧ ks ≤ 0) 0 (sx_en 2 a) [] n h 0 0) := sx_C_eq ztb_X7_restore a n h Q
theorem tX7_kind_0 (Rt : sx_R) : sx_T BX7_kind sx_Cal Rt 0 = sx_run bX7_kind_0 sx_Cal (sx_T BX7_kind sx_Cal Rt) Rt := sx_T_eq (fun pc => sx_BK_mon (kX7_kind pc)) Rt 0
theorem tX7_kind_26 (Rt : sx_R) : sx_T BX7_kind sx_Cal Rt 26 = sx_run bX7_kind_26 sx_Cal (sx_T BX7_kind sx_Cal Rt) Rt := sx_T_eq (fun pc => sx_BK_mon (kX7_kind pc)) Rt 26
theorem tX7_kind_28 (Rt : sx_R) : sx_T BX7_kind sx_Cal Rt 28 = sx_run bX7_kind_28 sx_Cal (sx_T BX7_kind sx_Cal Rt) Rt := sx_T_eq (fun pc => sx_BK_mon (kX7_kind pc)) Rt 28
theorem cX7_kind_c (a : List sx_V) (n : Nat) (h : sx_H) (Q : sx_Q) : sx_Cal 115 a n h Q = (sx_cat a ≤ 2 ∧ sx_T BX7_kind sx_Cal (fun r n' h' kc ks => Q r n' h' ∧ kc ≤ 0 ∧ ks ≤ 0) 0 (sx_en 2 a) [] n h 0 0) := sx_C_eq ztb_X7_kind a n h Q
theorem tX7_as_0 (Rt : sx_R) : sx_T BX7_as sx_Cal Rt 0 = sx_run bX7_as_0 sx_Cal (sx_T BX7_as sx_Cal Rt) Rt := sx_T_eq (fun pc => sx_BK_mon (kX7_as pc)) Rt 0
theorem tX7_as_20 (Rt : sx_R) : sx_T BX7_as sx_Cal Rt 20 = sx_run bX7_as_20 sx_Cal (sx_T BX7_as sx_Cal Rt) Rt := sx_T_eq (fun pc => sx_BK_mon (kX7_as pc)) Rt 20
theorem tX7_as_23 (Rt : sx_R) : sx_T BX7_as sx_Cal Rt 23 = sx_run bX7_as_23 sx_Cal (sx_T BX7_as sx_Cal Rt) Rt := sx_T_eq (fun pc => sx_BK_mon (kX7_as pc)) Rt 23
theorem tX7_as_51 (Rt : sx_R) : sx_T BX7_as sx_Cal Rt 51 = sx_run bX7_as_51 sx_Cal (sx_T BX7_as sx_Cal Rt) Rt := sx_T_eq (fun pc => sx_BK_mon (kX7_as pc)) Rt 51
theorem cX7_as_c (a : List sx_V) (n : Nat) (h : sx_H) (Q : sx_Q) : sx_Cal 116 a n h Q = (sx_cat a ≤ 3 ∧ sx_T BX7_as sx_Cal (fun r n' h' kc ks => Q r n' h' ∧ kc ≤ 0 ∧ ks ≤ 0) 0 (sx_en 3 a) [] n h 0 0) := sx_C_eq ztb_X7_as a n h Q
theorem tX7_ask_0 (Rt : sx_R) : sx_T BX7_ask sx_Cal Rt 0 = sx_run bX7_ask_0 sx_Cal (sx_T BX7_ask sx_Cal Rt) Rt := sx_T_eq (fun pc => sx_BK_mon (kX7_ask pc)) Rt 0
theorem tX7_ask_20 (Rt : sx_R) : sx_T BX7_ask sx_Cal Rt 20 = sx_run bX7_ask_20 sx_Cal (sx_T BX7_ask sx_Cal Rt) Rt := sx_T_eq (fun pc => sx_BK_mon (kX7_ask pc)) Rt 20
theorem tX7_ask_23 (Rt : sx_R) : sx_T BX7_ask sx_Cal Rt 23 = sx_run bX7_ask_23 sx_Cal (sx_T BX7_ask sx_Cal Rt) Rt := sx_T_eq (fun pc => sx_BK_mon (kX7_ask pc)) Rt 23
theorem tX7_ask_46 (Rt : sx_R) : sx_T BX7_ask sx_Cal Rt 46 = sx_run bX7_ask_46 sx_Cal (sx_T BX7_ask sx_Cal Rt) Rt := sx_T_eq (fun pc => sx_BK_mon (kX7_ask pc)) Rt 46
theorem tX7_ask_54 (Rt : sx_R) : sx_T BX7_ask sx_Cal Rt 54 = sx_run bX7_ask_54 sx_Cal (sx_T BX7_ask sx_Cal Rt) Rt := sx_T_eq (fun pc => sx_BK_mon (kX7_ask pc)) Rt 54
theorem cX7_ask_c (a : List sx_V) (n : Nat) (h : sx_H) (Q : sx_Q) : sx_Cal 117 a n h Q = (sx_cat a ≤ 3 ∧ sx_T BX7_ask sx_Cal (fun r n' h' kc ks => Q r n' h' ∧ kc ≤ 0 ∧ ks ≤ 0) 0 (sx_en 3 a) [] n h 0 0) := sx_C_eq ztb_X7_ask a n h Q
theorem tX7_trace_0 (Rt : sx_R) : sx_T BX7_trace sx_Cal Rt 0 = sx_run bX7_trace_0 sx_Cal (sx_T BX7_trace sx_Cal Rt) Rt := sx_T_eq (fun pc => sx_BK_mon (kX7_trace pc)) Rt 0
theorem tX7_trace_29 (Rt : sx_R) : sx_T BX7_trace sx_Cal Rt 29 = sx_run bX7_trace_29 sx_Cal (sx_T BX7_trace sx_Cal Rt) Rt := sx_T_eq (fun pc => sx_BK_mon (kX7_trace pc)) Rt 29
theorem tX7_trace_31 (Rt : sx_R) : sx_T BX7_trace sx_Cal Rt 31 = sx_run bX7_trace_31 sx_Cal (sx_T BX7_trace sx_Cal Rt) Rt := sx_T_eq (fun pc => sx_BK_mon (kX7_trace pc)) Rt 31
theorem cX7_trace_c (a : List sx_V) (n : Nat) (h : sx_H) (Q : sx_Q) : sx_Cal 118 a n h Q = (sx_cat a ≤ 2 ∧ sx_T BX7_trace sx_Cal (fun r n' h' kc ks => Q r n' h' ∧ kc ≤ 0 ∧ ks ≤ 0) 0 (sx_en 2 a) [] n h 0 0) := sx_C_eq ztb_X7_trace a n h Q
theorem tX7_count_0 (Rt : sx_R) : sx_T BX7_count sx_Cal Rt 0 = sx_run bX7_count_0 sx_Cal (sx_T BX7_count sx_Cal Rt) Rt := sx_T_eq (fun pc => sx_BK_mon (kX7_count pc)) Rt 0
theorem tX7_count_52 (Rt : sx_R) : sx_T BX7_count sx_Cal Rt 52 = sx_run bX7_count_52 sx_Cal (sx_T BX7_count sx_Cal Rt) Rt := sx_T_eq (fun pc => sx_BK_mon (kX7_count pc)) Rt 52
theorem tX7_count_60 (Rt : sx_R) : sx_T BX7_count sx_Cal Rt 60 = sx_run bX7_count_60 sx_Cal (sx_T BX7_count sx_Cal Rt) Rt := sx_T_eq (fun pc => sx_BK_mon (kX7_count pc)) Rt 60
theorem tX7_count_71 (Rt : sx_R) : sx_T BX7_count sx_Cal Rt 71 = sx_run bX7_count_71 sx_Cal (sx_T BX7_count sx_Cal Rt) Rt := sx_T_eq (fun pc => sx_BK_mon (kX7_count pc)) Rt 71
theorem tX7_count_82 (Rt : sx_R) : sx_T BX7_count sx_Cal Rt 82 = sx_run bX7_count_82 sx_Cal (sx_T BX7_count sx_Cal Rt) Rt := sx_T_eq (fun pc => sx_BK_mon (kX7_count pc)) Rt 82
theorem tX7_count_93 (Rt : sx_R) : sx_T BX7_count sx_Cal Rt 93 = sx_run bX7_count_93 sx_Cal (sx_T BX7_count sx_Cal Rt) Rt := sx_T_eq (fun pc => sx_BK_mon (kX7_count pc)) Rt 93
theorem tX7_count_104 (Rt : sx_R) : sx_T BX7_count sx_Cal Rt 104 = sx_run bX7_count_104 sx_Cal (sx_T BX7_count sx_Cal Rt) Rt := sx_T_eq (fun pc => sx_BK_mon (kX7_count pc)) Rt 104
theorem tX7_count_114 (Rt : sx_R) : sx_T BX7_count sx_Cal Rt 114 = sx_run bX7_count_114 sx_Cal (sx_T BX7_count sx_Cal Rt) Rt := sx_T_eq (fun pc => sx_BK_mon (kX7_count pc)) Rt 114
theorem tX7_count_124 (Rt : sx_R) : sx_T BX7_count sx_Cal Rt 124 = sx_run bX7_count_124 sx_Cal (sx_T BX7_count sx_Cal Rt) Rt := sx_T_eq (fun pc => sx_BK_mon (kX7_count pc)) Rt 124
theorem tX7_count_132 (Rt : sx_R) : sx_T BX7_count sx_Cal Rt 132 = sx_run bX7_count_132 sx_Cal (sx_T BX7_count sx_Cal Rt) Rt := sx_T_eq (fun pc => sx_BK_mon (kX7_count pc)) Rt 132
theorem tX7_count_140 (Rt : sx_R) : sx_T BX7_count sx_Cal Rt 140 = sx_run bX7_count_140 sx_Cal (sx_T BX7_count sx_Cal Rt) Rt := sx_T_eq (fun pc => sx_BK_mon (kX7_count pc)) Rt 140
theorem cX7_count_c (a : List sx_V) (n : Nat) (h : sx_H) (Q : sx_Q) : sx_Cal 119 a n h Q = (sx_cat a ≤ 2 ∧ sx_T BX7_count sx_Cal (fun r n' h' kc ks => Q r n' h' ∧ kc ≤ 0 ∧ ks ≤ 0) 0 (sx_en 2 a) [] n h 0 0) := sx_C_eq ztb_X7_count a n h Q
theorem tX7_status_0 (Rt : sx_R) : sx_T BX7_status sx_Cal Rt 0 = sx_run bX7_status_0 sx_Cal (sx_T BX7_status sx_Cal Rt) Rt := sx_T_eq (fun pc => sx_BK_mon (kX7_status pc)) Rt 0
theorem cX7_status_c (a : List sx_V) (n : Nat) (h : sx_H) (Q : sx_Q) : sx_Cal 120 a n h Q = (sx_cat a ≤ 1 ∧ sx_T BX7_status sx_Cal (fun r n' h' kc ks => Q r n' h' ∧ kc ≤ 0 ∧ ks ≤ 0) 0 (sx_en 1 a) [] n h 0 0) := sx_C_eq ztb_X7_status a n h Q
theorem tX7_within_0 (Rt : sx_R) : sx_T BX7_within sx_Cal Rt 0 = sx_run bX7_within_0 sx_Cal (sx_T BX7_within sx_Cal Rt) Rt := sx_T_eq (fun pc => sx_BK_mon (kX7_within pc)) Rt 0
theorem tX7_within_14 (Rt : sx_R) : sx_T BX7_within sx_Cal Rt 14 = sx_run bX7_within_14 sx_Cal (sx_T BX7_within sx_Cal Rt) Rt := sx_T_eq (fun pc => sx_BK_mon (kX7_within pc)) Rt 14
theorem tX7_within_15 (Rt : sx_R) : sx_T BX7_within sx_Cal Rt 15 = sx_run bX7_within_15 sx_Cal (sx_T BX7_within sx_Cal Rt) Rt := sx_T_eq (fun pc => sx_BK_mon (kX7_within pc)) Rt 15
theorem cX7_within_c (a : List sx_V) (n : Nat) (h : sx_H) (Q : sx_Q) : sx_Cal 121 a n h Q = (sx_cat a ≤ 3 ∧ sx_T BX7_within sx_Cal (fun r n' h' kc ks => Q r n' h' ∧ kc ≤ 0 ∧ ks ≤ 0) 0 (sx_en 3 a) [] n h 0 0) := sx_C_eq ztb_X7_within a n h Q
theorem tX7_change_0 (Rt : sx_R) : sx_T BX7_change sx_Cal Rt 0 = sx_run bX7_change_0 sx_Cal (sx_T BX7_change sx_Cal Rt) Rt := sx_T_eq (fun pc => sx_BK_mon (kX7_change pc)) Rt 0
theorem cX7_change_c (a : List sx_V) (n : Nat) (h : sx_H) (Q : sx_Q) : sx_Cal 122 a n h Q = (sx_cat a ≤ 4 ∧ sx_T BX7_change sx_Cal (fun r n' h' kc ks => Q r n' h' ∧ kc ≤ 0 ∧ ks ≤ 0) 0 (sx_en 4 a) [] n h 0 0) := sx_C_eq ztb_X7_change a n h Q
theorem tX8_init_0 (Rt : sx_R) : sx_T BX8_init sx_Cal Rt 0 = sx_run bX8_init_0 sx_Cal (sx_T BX8_init sx_Cal Rt) Rt := sx_T_eq (fun pc => sx_BK_mon (kX8_init pc)) Rt 0
theorem cX8_init_c (a : List sx_V) (n : Nat) (h : sx_H) (Q : sx_Q) : sx_Cal 123 a n h Q = (sx_cat a ≤ 1 ∧ sx_T BX8_init sx_Cal (fun r n' h' kc ks => Q r n' h' ∧ kc ≤ 11 ∧ ks ≤ 2330) 0 (sx_en 1 a) [] n h 0 0) := sx_C_eq ztb_X8_init a n h Q
theorem tX8_in_0 (Rt : sx_R) : sx_T BX8_in sx_Cal Rt 0 = sx_run bX8_in_0 sx_Cal (sx_T BX8_in sx_Cal Rt) Rt := sx_T_eq (fun pc => sx_BK_mon (kX8_in pc)) Rt 0
theorem tX8_in_17 (Rt : sx_R) : sx_T BX8_in sx_Cal Rt 17 = sx_run bX8_in_17 sx_Cal (sx_T BX8_in sx_Cal Rt) Rt := sx_T_eq (fun pc => sx_BK_mon (kX8_in pc)) Rt 17
theorem tX8_in_18 (Rt : sx_R) : sx_T BX8_in sx_Cal Rt 18 = sx_run bX8_in_18 sx_Cal (sx_T BX8_in sx_Cal Rt) Rt := sx_T_eq (fun pc => sx_BK_mon (kX8_in pc)) Rt 18
theorem cX8_in_c (a : List sx_V) (n : Nat) (h : sx_H) (Q : sx_Q) : sx_Cal 124 a n h Q = (sx_cat a ≤ 6 ∧ sx_T BX8_in sx_Cal (fun r n' h' kc ks => Q r n' h' ∧ kc ≤ 0 ∧ ks ≤ 0) 0 (sx_en 6 a) [] n h 0 0) := sx_C_eq ztb_X8_in a n h Q
theorem tX8_finding_0 (Rt : sx_R) : sx_T BX8_finding sx_Cal Rt 0 = sx_run bX8_finding_0 sx_Cal (sx_T BX8_finding sx_Cal Rt) Rt := sx_T_eq (fun pc => sx_BK_mon (kX8_finding pc)) Rt 0
theorem cX8_finding_c (a : List sx_V) (n : Nat) (h : sx_H) (Q : sx_Q) : sx_Cal 125 a n h Q = (sx_cat a ≤ 2 ∧ sx_T BX8_finding sx_Cal (fun r n' h' kc ks => Q r n' h' ∧ kc ≤ 0 ∧ ks ≤ 0) 0 (sx_en 2 a) [] n h 0 0) := sx_C_eq ztb_X8_finding a n h Q
theorem tX8_isRow_0 (Rt : sx_R) : sx_T BX8_isRow sx_Cal Rt 0 = sx_run bX8_isRow_0 sx_Cal (sx_T BX8_isRow sx_Cal Rt) Rt := sx_T_eq (fun pc => sx_BK_mon (kX8_isRow pc)) Rt 0
theorem cX8_isRow_c (a : List sx_V) (n : Nat) (h : sx_H) (Q : sx_Q) : sx_Cal 126 a n h Q = (sx_cat a ≤ 1 ∧ sx_T BX8_isRow sx_Cal (fun r n' h' kc ks => Q r n' h' ∧ kc ≤ 0 ∧ ks ≤ 0) 0 (sx_en 1 a) [] n h 0 0) := sx_C_eq ztb_X8_isRow a n h Q
theorem tX8_row_0 (Rt : sx_R) : sx_T BX8_row sx_Cal Rt 0 = sx_run bX8_row_0 sx_Cal (sx_T BX8_row sx_Cal Rt) Rt := sx_T_eq (fun pc => sx_BK_mon (kX8_row pc)) Rt 0
theorem tX8_row_30 (Rt : sx_R) : sx_T BX8_row sx_Cal Rt 30 = sx_run bX8_row_30 sx_Cal (sx_T BX8_row sx_Cal Rt) Rt := sx_T_eq (fun pc => sx_BK_mon (kX8_row pc)) Rt 30
theorem tX8_row_33 (Rt : sx_R) : sx_T BX8_row sx_Cal Rt 33 = sx_run bX8_row_33 sx_Cal (sx_T BX8_row sx_Cal Rt) Rt := sx_T_eq (fun pc => sx_BK_mon (kX8_row pc)) Rt 33
theorem tX8_row_48 (Rt : sx_R) : sx_T BX8_row sx_Cal Rt 48 = sx_run bX8_row_48 sx_Cal (sx_T BX8_row sx_Cal Rt) Rt := sx_T_eq (fun pc => sx_BK_mon (kX8_row pc)) Rt 48
theorem tX8_row_65 (Rt : sx_R) : sx_T BX8_row sx_Cal Rt 65 = sx_run bX8_row_65 sx_Cal (sx_T BX8_row sx_Cal Rt) Rt := sx_T_eq (fun pc => sx_BK_mon (kX8_row pc)) Rt 65
theorem tX8_row_91 (Rt : sx_R) : sx_T BX8_row sx_Cal Rt 91 = sx_run bX8_row_91 sx_Cal (sx_T BX8_row sx_Cal Rt) Rt := sx_T_eq (fun pc => sx_BK_mon (kX8_row pc)) Rt 91
theorem cX8_row_c (a : List sx_V) (n : Nat) (h : sx_H) (Q : sx_Q) : sx_Cal 127 a n h Q = (sx_cat a ≤ 5 ∧ sx_T BX8_row sx_Cal (fun r n' h' kc ks => Q r n' h' ∧ kc ≤ 0 ∧ ks ≤ 0) 0 (sx_en 5 a) [] n h 0 0) := sx_C_eq ztb_X8_row a n h Q
theorem tX8_set_0 (Rt : sx_R) : sx_T BX8_set sx_Cal Rt 0 = sx_run bX8_set_0 sx_Cal (sx_T BX8_set sx_Cal Rt) Rt := sx_T_eq (fun pc => sx_BK_mon (kX8_set pc)) Rt 0
theorem tX8_set_15 (Rt : sx_R) : sx_T BX8_set sx_Cal Rt 15 = sx_run bX8_set_15 sx_Cal (sx_T BX8_set sx_Cal Rt) Rt := sx_T_eq (fun pc => sx_BK_mon (kX8_set pc)) Rt 15
theorem tX8_set_35 (Rt : sx_R) : sx_T BX8_set sx_Cal Rt 35 = sx_run bX8_set_35 sx_Cal (sx_T BX8_set sx_Cal Rt) Rt := sx_T_eq (fun pc => sx_BK_mon (kX8_set pc)) Rt 35
theorem tX8_set_59 (Rt : sx_R) : sx_T BX8_set sx_Cal Rt 59 = sx_run bX8_set_59 sx_Cal (sx_T BX8_set sx_Cal Rt) Rt := sx_T_eq (fun pc => sx_BK_mon (kX8_set pc)) Rt 59
theorem tX8_set_83 (Rt : sx_R) : sx_T BX8_set sx_Cal Rt 83 = sx_run bX8_set_83 sx_Cal (sx_T BX8_set sx_Cal Rt) Rt := sx_T_eq (fun pc => sx_BK_mon (kX8_set pc)) Rt 83
theorem tX8_set_98 (Rt : sx_R) : sx_T BX8_set sx_Cal Rt 98 = sx_run bX8_set_98 sx_Cal (sx_T BX8_set sx_Cal Rt) Rt := sx_T_eq (fun pc => sx_BK_mon (kX8_set pc)) Rt 98
theorem tX8_set_99 (Rt : sx_R) : sx_T BX8_set sx_Cal Rt 99 = sx_run bX8_set_99 sx_Cal (sx_T BX8_set sx_Cal Rt) Rt := sx_T_eq (fun pc => sx_BK_mon (kX8_set pc)) Rt 99
theorem cX8_set_c (a : List sx_V) (n : Nat) (h : sx_H) (Q : sx_Q) : sx_Cal 128 a n h Q = (sx_cat a ≤ 4 ∧ sx_T BX8_set sx_Cal (fun r n' h' kc ks => Q r n' h' ∧ kc ≤ 0 ∧ ks ≤ 0) 0 (sx_en 4 a) [] n h 0 0) := sx_C_eq ztb_X8_set a n h Q
theorem tX8_copy_0 (Rt : sx_R) : sx_T BX8_copy sx_Cal Rt 0 = sx_run bX8_copy_0 sx_Cal (sx_T BX8_copy sx_Cal Rt) Rt := sx_T_eq (fun pc => sx_BK_mon (kX8_copy pc)) Rt 0
theorem tX8_copy_19 (Rt : sx_R) : sx_T BX8_copy sx_Cal Rt 19 = sx_run bX8_copy_19 sx_Cal (sx_T BX8_copy sx_Cal Rt) Rt := sx_T_eq (fun pc => sx_BK_mon (kX8_copy pc)) Rt 19
theorem tX8_copy_22 (Rt : sx_R) : sx_T BX8_copy sx_Cal Rt 22 = sx_run bX8_copy_22 sx_Cal (sx_T BX8_copy sx_Cal Rt) Rt := sx_T_eq (fun pc => sx_BK_mon (kX8_copy pc)) Rt 22
theorem tX8_copy_45 (Rt : sx_R) : sx_T BX8_copy sx_Cal Rt 45 = sx_run bX8_copy_45 sx_Cal (sx_T BX8_copy sx_Cal Rt) Rt := sx_T_eq (fun pc => sx_BK_mon (kX8_copy pc)) Rt 45
theorem tX8_copy_51 (Rt : sx_R) : sx_T BX8_copy sx_Cal Rt 51 = sx_run bX8_copy_51 sx_Cal (sx_T BX8_copy sx_Cal Rt) Rt := sx_T_eq (fun pc => sx_BK_mon (kX8_copy pc)) Rt 51
theorem tX8_copy_72 (Rt : sx_R) : sx_T BX8_copy sx_Cal Rt 72 = sx_run bX8_copy_72 sx_Cal (sx_T BX8_copy sx_Cal Rt) Rt := sx_T_eq (fun pc => sx_BK_mon (kX8_copy pc)) Rt 72
theorem tX8_copy_121 (Rt : sx_R) : sx_T BX8_copy sx_Cal Rt 121 = sx_run bX8_copy_121 sx_Cal (sx_T BX8_copy sx_Cal Rt) Rt := sx_T_eq (fun pc => sx_BK_mon (kX8_copy pc)) Rt 121
theorem tX8_copy_127 (Rt : sx_R) : sx_T BX8_copy sx_Cal Rt 127 = sx_run bX8_copy_127 sx_Cal (sx_T BX8_copy sx_Cal Rt) Rt := sx_T_eq (fun pc => sx_BK_mon (kX8_copy pc)) Rt 127
theorem tX8_copy_137 (Rt : sx_R) : sx_T BX8_copy sx_Cal Rt 137 = sx_run bX8_copy_137 sx_Cal (sx_T BX8_copy sx_Cal Rt) Rt := sx_T_eq (fun pc => sx_BK_mon (kX8_copy pc)) Rt 137
theorem tX8_copy_138 (Rt : sx_R) : sx_T BX8_copy sx_Cal Rt 138 = sx_run bX8_copy_138 sx_Cal (sx_T BX8_copy sx_Cal Rt) Rt := sx_T_eq (fun pc => sx_BK_mon (kX8_copy pc)) Rt 138
theorem tX8_copy_143 (Rt : sx_R) : sx_T BX8_copy sx_Cal Rt 143 = sx_run bX8_copy_143 sx_Cal (sx_T BX8_copy sx_Cal Rt) Rt := sx_T_eq (fun pc => sx_BK_mon (kX8_copy pc)) Rt 143
theorem tX8_copy_160 (Rt : sx_R) : sx_T BX8_copy sx_Cal Rt 160 = sx_run bX8_copy_160 sx_Cal (sx_T BX8_copy sx_Cal Rt) Rt := sx_T_eq (fun pc => sx_BK_mon (kX8_copy pc)) Rt 160
theorem tX8_copy_167 (Rt : sx_R) : sx_T BX8_copy sx_Cal Rt 167 = sx_run bX8_copy_167 sx_Cal (sx_T BX8_copy sx_Cal Rt) Rt := sx_T_eq (fun pc => sx_BK_mon (kX8_copy pc)) Rt 167
theorem tX8_copy_204 (Rt : sx_R) : sx_T BX8_copy sx_Cal Rt 204 = sx_run bX8_copy_204 sx_Cal (sx_T BX8_copy sx_Cal Rt) Rt := sx_T_eq (fun pc => sx_BK_mon (kX8_copy pc)) Rt 204
theorem cX8_copy_c (a : List sx_V) (n : Nat) (h : sx_H) (Q : sx_Q) : sx_Cal 129 a n h Q = (sx_cat a ≤ 9 ∧ sx_T BX8_copy sx_Cal (fun r n' h' kc ks => Q r n' h' ∧ kc ≤ 0 ∧ ks ≤ 0) 0 (sx_en 9 a) [] n h 0 0) := sx_C_eq ztb_X8_copy a n h Q
theorem tX8_drop_0 (Rt : sx_R) : sx_T BX8_drop sx_Cal Rt 0 = sx_run bX8_drop_0 sx_Cal (sx_T BX8_drop sx_Cal Rt) Rt := sx_T_eq (fun pc => sx_BK_mon (kX8_drop pc)) Rt 0
theorem tX8_drop_15 (Rt : sx_R) : sx_T BX8_drop sx_Cal Rt 15 = sx_run bX8_drop_15 sx_Cal (sx_T BX8_drop sx_Cal Rt) Rt := sx_T_eq (fun pc => sx_BK_mon (kX8_drop pc)) Rt 15
theorem tX8_drop_35 (Rt : sx_R) : sx_T BX8_drop sx_Cal Rt 35 = sx_run bX8_drop_35 sx_Cal (sx_T BX8_drop sx_Cal Rt) Rt := sx_T_eq (fun pc => sx_BK_mon (kX8_drop pc)) Rt 35
theorem cX8_drop_c (a : List sx_V) (n : Nat) (h : sx_H) (Q : sx_Q) : sx_Cal 130 a n h Q = (sx_cat a ≤ 2 ∧ sx_T BX8_drop sx_Cal (fun r n' h' kc ks => Q r n' h' ∧ kc ≤ 0 ∧ ks ≤ 0) 0 (sx_en 2 a) [] n h 0 0) := sx_C_eq ztb_X8_drop a n h Q
theorem tX8_feed_0 (Rt : sx_R) : sx_T BX8_feed sx_Cal Rt 0 = sx_run bX8_feed_0 sx_Cal (sx_T BX8_feed sx_Cal Rt) Rt := sx_T_eq (fun pc => sx_BK_mon (kX8_feed pc)) Rt 0
theorem tX8_feed_20 (Rt : sx_R) : sx_T BX8_feed sx_Cal Rt 20 = sx_run bX8_feed_20 sx_Cal (sx_T BX8_feed sx_Cal Rt) Rt := sx_T_eq (fun pc => sx_BK_mon (kX8_feed pc)) Rt 20
theorem tX8_feed_32 (Rt : sx_R) : sx_T BX8_feed sx_Cal Rt 32 = sx_run bX8_feed_32 sx_Cal (sx_T BX8_feed sx_Cal Rt) Rt := sx_T_eq (fun pc => sx_BK_mon (kX8_feed pc)) Rt 32
theorem cX8_feed_c (a : List sx_V) (n : Nat) (h : sx_H) (Q : sx_Q) : sx_Cal 131 a n h Q = (sx_cat a ≤ 2 ∧ sx_T BX8_feed sx_Cal (fun r n' h' kc ks => Q r n' h' ∧ kc ≤ 0 ∧ ks ≤ 0) 0 (sx_en 2 a) [] n h 0 0) := sx_C_eq ztb_X8_feed a n h Q
theorem tX8_bad_0 (Rt : sx_R) : sx_T BX8_bad sx_Cal Rt 0 = sx_run bX8_bad_0 sx_Cal (sx_T BX8_bad sx_Cal Rt) Rt := sx_T_eq (fun pc => sx_BK_mon (kX8_bad pc)) Rt 0
theorem tX8_bad_20 (Rt : sx_R) : sx_T BX8_bad sx_Cal Rt 20 = sx_run bX8_bad_20 sx_Cal (sx_T BX8_bad sx_Cal Rt) Rt := sx_T_eq (fun pc => sx_BK_mon (kX8_bad pc)) Rt 20
theorem cX8_bad_c (a : List sx_V) (n : Nat) (h : sx_H) (Q : sx_Q) : sx_Cal 132 a n h Q = (sx_cat a ≤ 2 ∧ sx_T BX8_bad sx_Cal (fun r n' h' kc ks => Q r n' h' ∧ kc ≤ 0 ∧ ks ≤ 0) 0 (sx_en 2 a) [] n h 0 0) := sx_C_eq ztb_X8_bad a n h Q
theorem tX8_nextToken_0 (Rt : sx_R) : sx_T BX8_nextToken sx_Cal Rt 0 = sx_run bX8_nextToken_0 sx_Cal (sx_T BX8_nextToken sx_Cal Rt) Rt := sx_T_eq (fun pc => sx_BK_mon (kX8_nextToken pc)) Rt 0
theorem tX8_nextToken_32 (Rt : sx_R) : sx_T BX8_nextToken sx_Cal Rt 32 = sx_run bX8_nextToken_32 sx_Cal (sx_T BX8_nextToken sx_Cal Rt) Rt := sx_T_eq (fun pc => sx_BK_mon (kX8_nextToken pc)) Rt 32
theorem tX8_nextToken_34 (Rt : sx_R) : sx_T BX8_nextToken sx_Cal Rt 34 = sx_run bX8_nextToken_34 sx_Cal (sx_T BX8_nextToken sx_Cal Rt) Rt := sx_T_eq (fun pc => sx_BK_mon (kX8_nextToken pc)) Rt 34
theorem tX8_nextToken_53 (Rt : sx_R) : sx_T BX8_nextToken sx_Cal Rt 53 = sx_run bX8_nextToken_53 sx_Cal (sx_T BX8_nextToken sx_Cal Rt) Rt := sx_T_eq (fun pc => sx_BK_mon (kX8_nextToken pc)) Rt 53
theorem tX8_nextToken_74 (Rt : sx_R) : sx_T BX8_nextToken sx_Cal Rt 74 = sx_run bX8_nextToken_74 sx_Cal (sx_T BX8_nextToken sx_Cal Rt) Rt := sx_T_eq (fun pc => sx_BK_mon (kX8_nextToken pc)) Rt 74
theorem tX8_nextToken_95 (Rt : sx_R) : sx_T BX8_nextToken sx_Cal Rt 95 = sx_run bX8_nextToken_95 sx_Cal (sx_T BX8_nextToken sx_Cal Rt) Rt := sx_T_eq (fun pc => sx_BK_mon (kX8_nextToken pc)) Rt 95
theorem tX8_nextToken_113 (Rt : sx_R) : sx_T BX8_nextToken sx_Cal Rt 113 = sx_run bX8_nextToken_113 sx_Cal (sx_T BX8_nextToken sx_Cal Rt) Rt := sx_T_eq (fun pc => sx_BK_mon (kX8_nextToken pc)) Rt 113
theorem tX8_nextToken_117 (Rt : sx_R) : sx_T BX8_nextToken sx_Cal Rt 117 = sx_run bX8_nextToken_117 sx_Cal (sx_T BX8_nextToken sx_Cal Rt) Rt := sx_T_eq (fun pc => sx_BK_mon (kX8_nextToken pc)) Rt 117
theorem tX8_nextToken_118 (Rt : sx_R) : sx_T BX8_nextToken sx_Cal Rt 118 = sx_run bX8_nextToken_118 sx_Cal (sx_T BX8_nextToken sx_Cal Rt) Rt := sx_T_eq (fun pc => sx_BK_mon (kX8_nextToken pc)) Rt 118
theorem tX8_nextToken_141 (Rt : sx_R) : sx_T BX8_nextToken sx_Cal Rt 141 = sx_run bX8_nextToken_141 sx_Cal (sx_T BX8_nextToken sx_Cal Rt) Rt := sx_T_eq (fun pc => sx_BK_mon (kX8_nextToken pc)) Rt 141
theorem tX8_nextToken_142 (Rt : sx_R) : sx_T BX8_nextToken sx_Cal Rt 142 = sx_run bX8_nextToken_142 sx_Cal (sx_T BX8_nextToken sx_Cal Rt) Rt := sx_T_eq (fun pc => sx_BK_mon (kX8_nextToken pc)) Rt 142
theorem tX8_nextToken_165 (Rt : sx_R) : sx_T BX8_nextToken sx_Cal Rt 165 = sx_run bX8_nextToken_165 sx_Cal (sx_T BX8_nextToken sx_Cal Rt) Rt := sx_T_eq (fun pc => sx_BK_mon (kX8_nextToken pc)) Rt 165
theorem tX8_nextToken_235 (Rt : sx_R) : sx_T BX8_nextToken sx_Cal Rt 235 = sx_run bX8_nextToken_235 sx_Cal (sx_T BX8_nextToken sx_Cal Rt) Rt := sx_T_eq (fun pc => sx_BK_mon (kX8_nextToken pc)) Rt 235
theorem tX8_nextToken_239 (Rt : sx_R) : sx_T BX8_nextToken sx_Cal Rt 239 = sx_run bX8_nextToken_239 sx_Cal (sx_T BX8_nextToken sx_Cal Rt) Rt := sx_T_eq (fun pc => sx_BK_mon (kX8_nextToken pc)) Rt 239
theorem tX8_nextToken_255 (Rt : sx_R) : sx_T BX8_nextToken sx_Cal Rt 255 = sx_run bX8_nextToken_255 sx_Cal (sx_T BX8_nextToken sx_Cal Rt) Rt := sx_T_eq (fun pc => sx_BK_mon (kX8_nextToken pc)) Rt 255
theorem tX8_nextToken_273 (Rt : sx_R) : sx_T BX8_nextToken sx_Cal Rt 273 = sx_run bX8_nextToken_273 sx_Cal (sx_T BX8_nextToken sx_Cal Rt) Rt := sx_T_eq (fun pc => sx_BK_mon (kX8_nextToken pc)) Rt 273
theorem tX8_nextToken_274 (Rt : sx_R) : sx_T BX8_nextToken sx_Cal Rt 274 = sx_run bX8_nextToken_274 sx_Cal (sx_T BX8_nextToken sx_Cal Rt) Rt := sx_T_eq (fun pc => sx_BK_mon (kX8_nextToken pc)) Rt 274
theorem tX8_nextToken_277 (Rt : sx_R) : sx_T BX8_nextToken sx_Cal Rt 277 = sx_run bX8_nextToken_277 sx_Cal (sx_T BX8_nextToken sx_Cal Rt) Rt := sx_T_eq (fun pc => sx_BK_mon (kX8_nextToken pc)) Rt 277
theorem cX8_nextToken_c (a : List sx_V) (n : Nat) (h : sx_H) (Q : sx_Q) : sx_Cal 133 a n h Q = (sx_cat a ≤ 1 ∧ sx_T BX8_nextToken sx_Cal (fun r n' h' kc ks => Q r n' h' ∧ kc ≤ 0 ∧ ks ≤ 0) 0 (sx_en 1 a) [] n h 0 0) := sx_C_eq ztb_X8_nextToken a n h Q
theorem tX8_must_0 (Rt : sx_R) : sx_T BX8_must sx_Cal Rt 0 = sx_run bX8_must_0 sx_Cal (sx_T BX8_must sx_Cal Rt) Rt := sx_T_eq (fun pc => sx_BK_mon (kX8_must pc)) Rt 0
theorem tX8_must_9 (Rt : sx_R) : sx_T BX8_must sx_Cal Rt 9 = sx_run bX8_must_9 sx_Cal (sx_T BX8_must sx_Cal Rt) Rt := sx_T_eq (fun pc => sx_BK_mon (kX8_must pc)) Rt 9
theorem tX8_must_20 (Rt : sx_R) : sx_T BX8_must sx_Cal Rt 20 = sx_run bX8_must_20 sx_Cal (sx_T BX8_must sx_Cal Rt) Rt := sx_T_eq (fun pc => sx_BK_mon (kX8_must pc)) Rt 20
theorem cX8_must_c (a : List sx_V) (n : Nat) (h : sx_H) (Q : sx_Q) : sx_Cal 134 a n h Q = (sx_cat a ≤ 2 ∧ sx_T BX8_must sx_Cal (fun r n' h' kc ks => Q r n' h' ∧ kc ≤ 0 ∧ ks ≤ 0) 0 (sx_en 2 a) [] n h 0 0) := sx_C_eq ztb_X8_must a n h Q
theorem tX8_isLetter_0 (Rt : sx_R) : sx_T BX8_isLetter sx_Cal Rt 0 = sx_run bX8_isLetter_0 sx_Cal (sx_T BX8_isLetter sx_Cal Rt) Rt := sx_T_eq (fun pc => sx_BK_mon (kX8_isLetter pc)) Rt 0
theorem tX8_isLetter_27 (Rt : sx_R) : sx_T BX8_isLetter sx_Cal Rt 27 = sx_run bX8_isLetter_27 sx_Cal (sx_T BX8_isLetter sx_Cal Rt) Rt := sx_T_eq (fun pc => sx_BK_mon (kX8_isLetter pc)) Rt 27
theorem tX8_isLetter_28 (Rt : sx_R) : sx_T BX8_isLetter sx_Cal Rt 28 = sx_run bX8_isLetter_28 sx_Cal (sx_T BX8_isLetter sx_Cal Rt) Rt := sx_T_eq (fun pc => sx_BK_mon (kX8_isLetter pc)) Rt 28
theorem cX8_isLetter_c (a : List sx_V) (n : Nat) (h : sx_H) (Q : sx_Q) : sx_Cal 135 a n h Q = (sx_cat a ≤ 2 ∧ sx_T BX8_isLetter sx_Cal (fun r n' h' kc ks => Q r n' h' ∧ kc ≤ 0 ∧ ks ≤ 0) 0 (sx_en 2 a) [] n h 0 0) := sx_C_eq ztb_X8_isLetter a n h Q
theorem tX8_number_0 (Rt : sx_R) : sx_T BX8_number sx_Cal Rt 0 = sx_run bX8_number_0 sx_Cal (sx_T BX8_number sx_Cal Rt) Rt := sx_T_eq (fun pc => sx_BK_mon (kX8_number pc)) Rt 0
theorem tX8_number_20 (Rt : sx_R) : sx_T BX8_number sx_Cal Rt 20 = sx_run bX8_number_20 sx_Cal (sx_T BX8_number sx_Cal Rt) Rt := sx_T_eq (fun pc => sx_BK_mon (kX8_number pc)) Rt 20
theorem tX8_number_47 (Rt : sx_R) : sx_T BX8_number sx_Cal Rt 47 = sx_run bX8_number_47 sx_Cal (sx_T BX8_number sx_Cal Rt) Rt := sx_T_eq (fun pc => sx_BK_mon (kX8_number pc)) Rt 47
theorem tX8_number_61 (Rt : sx_R) : sx_T BX8_number sx_Cal Rt 61 = sx_run bX8_number_61 sx_Cal (sx_T BX8_number sx_Cal Rt) Rt := sx_T_eq (fun pc => sx_BK_mon (kX8_number pc)) Rt 61
theorem tX8_number_62 (Rt : sx_R) : sx_T BX8_number sx_Cal Rt 62 = sx_run bX8_number_62 sx_Cal (sx_T BX8_number sx_Cal Rt) Rt := sx_T_eq (fun pc => sx_BK_mon (kX8_number pc)) Rt 62
theorem cX8_number_c (a : List sx_V) (n : Nat) (h : sx_H) (Q : sx_Q) : sx_Cal 136 a n h Q = (sx_cat a ≤ 4 ∧ sx_T BX8_number sx_Cal (fun r n' h' kc ks => Q r n' h' ∧ kc ≤ 0 ∧ ks ≤ 0) 0 (sx_en 4 a) [] n h 0 0) := sx_C_eq ztb_X8_number a n h Q
theorem tX8_mustSign_0 (Rt : sx_R) : sx_T BX8_mustSign sx_Cal Rt 0 = sx_run bX8_mustSign_0 sx_Cal (sx_T BX8_mustSign sx_Cal Rt) Rt := sx_T_eq (fun pc => sx_BK_mon (kX8_mustSign pc)) Rt 0
theorem tX8_mustSign_21 (Rt : sx_R) : sx_T BX8_mustSign sx_Cal Rt 21 = sx_run bX8_mustSign_21 sx_Cal (sx_T BX8_mustSign sx_Cal Rt) Rt := sx_T_eq (fun pc => sx_BK_mon (kX8_mustSign pc)) Rt 21
theorem tX8_mustSign_22 (Rt : sx_R) : sx_T BX8_mustSign sx_Cal Rt 22 = sx_run bX8_mustSign_22 sx_Cal (sx_T BX8_mustSign sx_Cal Rt) Rt := sx_T_eq (fun pc => sx_BK_mon (kX8_mustSign pc)) Rt 22
theorem cX8_mustSign_c (a : List sx_V) (n : Nat) (h : sx_H) (Q : sx_Q) : sx_Cal 137 a n h Q = (sx_cat a ≤ 2 ∧ sx_T BX8_mustSign sx_Cal (fun r n' h' kc ks => Q r n' h' ∧ kc ≤ 0 ∧ ks ≤ 0) 0 (sx_en 2 a) [] n h 0 0) := sx_C_eq ztb_X8_mustSign a n h Q
theorem tX8_begin_0 (Rt : sx_R) : sx_T BX8_begin sx_Cal Rt 0 = sx_run bX8_begin_0 sx_Cal (sx_T BX8_begin sx_Cal Rt) Rt := sx_T_eq (fun pc => sx_BK_mon (kX8_begin pc)) Rt 0
theorem cX8_begin_c (a : List sx_V) (n : Nat) (h : sx_H) (Q : sx_Q) : sx_Cal 138 a n h Q = (sx_cat a ≤ 1 ∧ sx_T BX8_begin sx_Cal (fun r n' h' kc ks => Q r n' h' ∧ kc ≤ 0 ∧ ks ≤ 0) 0 (sx_en 1 a) [] n h 0 0) := sx_C_eq ztb_X8_begin a n h Q
theorem tX8_failed_0 (Rt : sx_R) : sx_T BX8_failed sx_Cal Rt 0 = sx_run bX8_failed_0 sx_Cal (sx_T BX8_failed sx_Cal Rt) Rt := sx_T_eq (fun pc => sx_BK_mon (kX8_failed pc)) Rt 0
theorem tX8_failed_20 (Rt : sx_R) : sx_T BX8_failed sx_Cal Rt 20 = sx_run bX8_failed_20 sx_Cal (sx_T BX8_failed sx_Cal Rt) Rt := sx_T_eq (fun pc => sx_BK_mon (kX8_failed pc)) Rt 20
theorem tX8_failed_40 (Rt : sx_R) : sx_T BX8_failed sx_Cal Rt 40 = sx_run bX8_failed_40 sx_Cal (sx_T BX8_failed sx_Cal Rt) Rt := sx_T_eq (fun pc => sx_BK_mon (kX8_failed pc)) Rt 40
theorem tX8_failed_44 (Rt : sx_R) : sx_T BX8_failed sx_Cal Rt 44 = sx_run bX8_failed_44 sx_Cal (sx_T BX8_failed sx_Cal Rt) Rt := sx_T_eq (fun pc => sx_BK_mon (kX8_failed pc)) Rt 44
theorem tX8_failed_58 (Rt : sx_R) : sx_T BX8_failed sx_Cal Rt 58 = sx_run bX8_failed_58 sx_Cal (sx_T BX8_failed sx_Cal Rt) Rt := sx_T_eq (fun pc => sx_BK_mon (kX8_failed pc)) Rt 58
theorem tX8_failed_59 (Rt : sx_R) : sx_T BX8_failed sx_Cal Rt 59 = sx_run bX8_failed_59 sx_Cal (sx_T BX8_failed sx_Cal Rt) Rt := sx_T_eq (fun pc => sx_BK_mon (kX8_failed pc)) Rt 59
theorem cX8_failed_c (a : List sx_V) (n : Nat) (h : sx_H) (Q : sx_Q) : sx_Cal 139 a n h Q = (sx_cat a ≤ 1 ∧ sx_T BX8_failed sx_Cal (fun r n' h' kc ks => Q r n' h' ∧ kc ≤ 0 ∧ ks ≤ 0) 0 (sx_en 1 a) [] n h 0 0) := sx_C_eq ztb_X8_failed a n h Q
theorem tX8_fault_0 (Rt : sx_R) : sx_T BX8_fault sx_Cal Rt 0 = sx_run bX8_fault_0 sx_Cal (sx_T BX8_fault sx_Cal Rt) Rt := sx_T_eq (fun pc => sx_BK_mon (kX8_fault pc)) Rt 0
theorem cX8_fault_c (a : List sx_V) (n : Nat) (h : sx_H) (Q : sx_Q) : sx_Cal 140 a n h Q = (sx_cat a ≤ 1 ∧ sx_T BX8_fault sx_Cal (fun r n' h' kc ks => Q r n' h' ∧ kc ≤ 0 ∧ ks ≤ 0) 0 (sx_en 1 a) [] n h 0 0) := sx_C_eq ztb_X8_fault a n h Q
theorem tX8_kindBy_0 (Rt : sx_R) : sx_T BX8_kindBy sx_Cal Rt 0 = sx_run bX8_kindBy_0 sx_Cal (sx_T BX8_kindBy sx_Cal Rt) Rt := sx_T_eq (fun pc => sx_BK_mon (kX8_kindBy pc)) Rt 0
theorem tX8_kindBy_10 (Rt : sx_R) : sx_T BX8_kindBy sx_Cal Rt 10 = sx_run bX8_kindBy_10 sx_Cal (sx_T BX8_kindBy sx_Cal Rt) Rt := sx_T_eq (fun pc => sx_BK_mon (kX8_kindBy pc)) Rt 10
theorem tX8_kindBy_20 (Rt : sx_R) : sx_T BX8_kindBy sx_Cal Rt 20 = sx_run bX8_kindBy_20 sx_Cal (sx_T BX8_kindBy sx_Cal Rt) Rt := sx_T_eq (fun pc => sx_BK_mon (kX8_kindBy pc)) Rt 20
theorem tX8_kindBy_30 (Rt : sx_R) : sx_T BX8_kindBy sx_Cal Rt 30 = sx_run bX8_kindBy_30 sx_Cal (sx_T BX8_kindBy sx_Cal Rt) Rt := sx_T_eq (fun pc => sx_BK_mon (kX8_kindBy pc)) Rt 30
theorem tX8_kindBy_40 (Rt : sx_R) : sx_T BX8_kindBy sx_Cal Rt 40 = sx_run bX8_kindBy_40 sx_Cal (sx_T BX8_kindBy sx_Cal Rt) Rt := sx_T_eq (fun pc => sx_BK_mon (kX8_kindBy pc)) Rt 40
theorem tX8_kindBy_50 (Rt : sx_R) : sx_T BX8_kindBy sx_Cal Rt 50 = sx_run bX8_kindBy_50 sx_Cal (sx_T BX8_kindBy sx_Cal Rt) Rt := sx_T_eq (fun pc => sx_BK_mon (kX8_kindBy pc)) Rt 50
theorem tX8_kindBy_52 (Rt : sx_R) : sx_T BX8_kindBy sx_Cal Rt 52 = sx_run bX8_kindBy_52 sx_Cal (sx_T BX8_kindBy sx_Cal Rt) Rt := sx_T_eq (fun pc => sx_BK_mon (kX8_kindBy pc)) Rt 52
theorem cX8_kindBy_c (a : List sx_V) (n : Nat) (h : sx_H) (Q : sx_Q) : sx_Cal 141 a n h Q = (sx_cat a ≤ 1 ∧ sx_T BX8_kindBy sx_Cal (fun r n' h' kc ks => Q r n' h' ∧ kc ≤ 0 ∧ ks ≤ 0) 0 (sx_en 1 a) [] n h 0 0) := sx_C_eq ztb_X8_kindBy a n h Q
theorem tX8_isSort_0 (Rt : sx_R) : sx_T BX8_isSort sx_Cal Rt 0 = sx_run bX8_isSort_0 sx_Cal (sx_T BX8_isSort sx_Cal Rt) Rt := sx_T_eq (fun pc => sx_BK_mon (kX8_isSort pc)) Rt 0
theorem tX8_isSort_31 (Rt : sx_R) : sx_T BX8_isSort sx_Cal Rt 31 = sx_run bX8_isSort_31 sx_Cal (sx_T BX8_isSort sx_Cal Rt) Rt := sx_T_eq (fun pc => sx_BK_mon (kX8_isSort pc)) Rt 31
theorem tX8_isSort_32 (Rt : sx_R) : sx_T BX8_isSort sx_Cal Rt 32 = sx_run bX8_isSort_32 sx_Cal (sx_T BX8_isSort sx_Cal Rt) Rt := sx_T_eq (fun pc => sx_BK_mon (kX8_isSort pc)) Rt 32
theorem cX8_isSort_c (a : List sx_V) (n : Nat) (h : sx_H) (Q : sx_Q) : sx_Cal 142 a n h Q = (sx_cat a ≤ 1 ∧ sx_T BX8_isSort sx_Cal (fun r n' h' kc ks => Q r n' h' ∧ kc ≤ 0 ∧ ks ≤ 0) 0 (sx_en 1 a) [] n h 0 0) := sx_C_eq ztb_X8_isSort a n h Q
theorem tX8_readDebtor_0 (Rt : sx_R) : sx_T BX8_readDebtor sx_Cal Rt 0 = sx_run bX8_readDebtor_0 sx_Cal (sx_T BX8_readDebtor sx_Cal Rt) Rt := sx_T_eq (fun pc => sx_BK_mon (kX8_readDebtor pc)) Rt 0
theorem tX8_readDebtor_24 (Rt : sx_R) : sx_T BX8_readDebtor sx_Cal Rt 24 = sx_run bX8_readDebtor_24 sx_Cal (sx_T BX8_readDebtor sx_Cal Rt) Rt := sx_T_eq (fun pc => sx_BK_mon (kX8_readDebtor pc)) Rt 24
theorem tX8_readDebtor_142 (Rt : sx_R) : sx_T BX8_readDebtor sx_Cal Rt 142 = sx_run bX8_readDebtor_142 sx_Cal (sx_T BX8_readDebtor sx_Cal Rt) Rt := sx_T_eq (fun pc => sx_BK_mon (kX8_readDebtor pc)) Rt 142
theorem cX8_readDebtor_c (a : List sx_V) (n : Nat) (h : sx_H) (Q : sx_Q) : sx_Cal 143 a n h Q = (sx_cat a ≤ 6 ∧ sx_T BX8_readDebtor sx_Cal (fun r n' h' kc ks => Q r n' h' ∧ kc ≤ 0 ∧ ks ≤ 0) 0 (sx_en 6 a) [] n h 0 0) := sx_C_eq ztb_X8_readDebtor a n h Q
theorem tX8_shop_0 (Rt : sx_R) : sx_T BX8_shop sx_Cal Rt 0 = sx_run bX8_shop_0 sx_Cal (sx_T BX8_shop sx_Cal Rt) Rt := sx_T_eq (fun pc => sx_BK_mon (kX8_shop pc)) Rt 0
theorem tX8_shop_11 (Rt : sx_R) : sx_T BX8_shop sx_Cal Rt 11 = sx_run bX8_shop_11 sx_Cal (sx_T BX8_shop sx_Cal Rt) Rt := sx_T_eq (fun pc => sx_BK_mon (kX8_shop pc)) Rt 11
theorem tX8_shop_30 (Rt : sx_R) : sx_T BX8_shop sx_Cal Rt 30 = sx_run bX8_shop_30 sx_Cal (sx_T BX8_shop sx_Cal Rt) Rt := sx_T_eq (fun pc => sx_BK_mon (kX8_shop pc)) Rt 30
theorem tX8_shop_116 (Rt : sx_R) : sx_T BX8_shop sx_Cal Rt 116 = sx_run bX8_shop_116 sx_Cal (sx_T BX8_shop sx_Cal Rt) Rt := sx_T_eq (fun pc => sx_BK_mon (kX8_shop pc)) Rt 116
theorem tX8_shop_130 (Rt : sx_R) : sx_T BX8_shop sx_Cal Rt 130 = sx_run bX8_shop_130 sx_Cal (sx_T BX8_shop sx_Cal Rt) Rt := sx_T_eq (fun pc => sx_BK_mon (kX8_shop pc)) Rt 130
theorem tX8_shop_145 (Rt : sx_R) : sx_T BX8_shop sx_Cal Rt 145 = sx_run bX8_shop_145 sx_Cal (sx_T BX8_shop sx_Cal Rt) Rt := sx_T_eq (fun pc => sx_BK_mon (kX8_shop pc)) Rt 145
theorem tX8_shop_152 (Rt : sx_R) : sx_T BX8_shop sx_Cal Rt 152 = sx_run bX8_shop_152 sx_Cal (sx_T BX8_shop sx_Cal Rt) Rt := sx_T_eq (fun pc => sx_BK_mon (kX8_shop pc)) Rt 152
theorem tX8_shop_176 (Rt : sx_R) : sx_T BX8_shop sx_Cal Rt 176 = sx_run bX8_shop_176 sx_Cal (sx_T BX8_shop sx_Cal Rt) Rt := sx_T_eq (fun pc => sx_BK_mon (kX8_shop pc)) Rt 176
theorem cX8_shop_c (a : List sx_V) (n : Nat) (h : sx_H) (Q : sx_Q) : sx_Cal 144 a n h Q = (sx_cat a ≤ 2 ∧ sx_T BX8_shop sx_Cal (fun r n' h' kc ks => Q r n' h' ∧ kc ≤ 0 ∧ ks ≤ 0) 0 (sx_en 2 a) [] n h 0 0) := sx_C_eq ztb_X8_shop a n h Q
theorem tX8_isThere_0 (Rt : sx_R) : sx_T BX8_isThere sx_Cal Rt 0 = sx_run bX8_isThere_0 sx_Cal (sx_T BX8_isThere sx_Cal Rt) Rt := sx_T_eq (fun pc => sx_BK_mon (kX8_isThere pc)) Rt 0
theorem tX8_isThere_14 (Rt : sx_R) : sx_T BX8_isThere sx_Cal Rt 14 = sx_run bX8_isThere_14 sx_Cal (sx_T BX8_isThere sx_Cal Rt) Rt := sx_T_eq (fun pc => sx_BK_mon (kX8_isThere pc)) Rt 14
theorem tX8_isThere_15 (Rt : sx_R) : sx_T BX8_isThere sx_Cal Rt 15 = sx_run bX8_isThere_15 sx_Cal (sx_T BX8_isThere sx_Cal Rt) Rt := sx_T_eq (fun pc => sx_BK_mon (kX8_isThere pc)) Rt 15
theorem cX8_isThere_c (a : List sx_V) (n : Nat) (h : sx_H) (Q : sx_Q) : sx_Cal 145 a n h Q = (sx_cat a ≤ 1 ∧ sx_T BX8_isThere sx_Cal (fun r n' h' kc ks => Q r n' h' ∧ kc ≤ 0 ∧ ks ≤ 0) 0 (sx_en 1 a) [] n h 0 0) := sx_C_eq ztb_X8_isThere a n h Q
theorem tX8_isDebtor_0 (Rt : sx_R) : sx_T BX8_isDebtor sx_Cal Rt 0 = sx_run bX8_isDebtor_0 sx_Cal (sx_T BX8_isDebtor sx_Cal Rt) Rt := sx_T_eq (fun pc => sx_BK_mon (kX8_isDebtor pc)) Rt 0
theorem cX8_isDebtor_c (a : List sx_V) (n : Nat) (h : sx_H) (Q : sx_Q) : sx_Cal 146 a n h Q = (sx_cat a ≤ 2 ∧ sx_T BX8_isDebtor sx_Cal (fun r n' h' kc ks => Q r n' h' ∧ kc ≤ 0 ∧ ks ≤ 0) 0 (sx_en 2 a) [] n h 0 0) := sx_C_eq ztb_X8_isDebtor a n h Q
theorem tX8_of_0 (Rt : sx_R) : sx_T BX8_of sx_Cal Rt 0 = sx_run bX8_of_0 sx_Cal (sx_T BX8_of sx_Cal Rt) Rt := sx_T_eq (fun pc => sx_BK_mon (kX8_of pc)) Rt 0
theorem cX8_of_c (a : List sx_V) (n : Nat) (h : sx_H) (Q : sx_Q) : sx_Cal 147 a n h Q = (sx_cat a ≤ 3 ∧ sx_T BX8_of sx_Cal (fun r n' h' kc ks => Q r n' h' ∧ kc ≤ 0 ∧ ks ≤ 0) 0 (sx_en 3 a) [] n h 0 0) := sx_C_eq ztb_X8_of a n h Q
theorem tX8_isOut_0 (Rt : sx_R) : sx_T BX8_isOut sx_Cal Rt 0 = sx_run bX8_isOut_0 sx_Cal (sx_T BX8_isOut sx_Cal Rt) Rt := sx_T_eq (fun pc => sx_BK_mon (kX8_isOut pc)) Rt 0
theorem tX8_isOut_21 (Rt : sx_R) : sx_T BX8_isOut sx_Cal Rt 21 = sx_run bX8_isOut_21 sx_Cal (sx_T BX8_isOut sx_Cal Rt) Rt := sx_T_eq (fun pc => sx_BK_mon (kX8_isOut pc)) Rt 21
theorem tX8_isOut_25 (Rt : sx_R) : sx_T BX8_isOut sx_Cal Rt 25 = sx_run bX8_isOut_25 sx_Cal (sx_T BX8_isOut sx_Cal Rt) Rt := sx_T_eq (fun pc => sx_BK_mon (kX8_isOut pc)) Rt 25
theorem tX8_isOut_26 (Rt : sx_R) : sx_T BX8_isOut sx_Cal Rt 26 = sx_run bX8_isOut_26 sx_Cal (sx_T BX8_isOut sx_Cal Rt) Rt := sx_T_eq (fun pc => sx_BK_mon (kX8_isOut pc)) Rt 26
theorem cX8_isOut_c (a : List sx_V) (n : Nat) (h : sx_H) (Q : sx_Q) : sx_Cal 148 a n h Q = (sx_cat a ≤ 2 ∧ sx_T BX8_isOut sx_Cal (fun r n' h' kc ks => Q r n' h' ∧ kc ≤ 0 ∧ ks ≤ 0) 0 (sx_en 2 a) [] n h 0 0) := sx_C_eq ztb_X8_isOut a n h Q
theorem tX8_least_0 (Rt : sx_R) : sx_T BX8_least sx_Cal Rt 0 = sx_run bX8_least_0 sx_Cal (sx_T BX8_least sx_Cal Rt) Rt := sx_T_eq (fun pc => sx_BK_mon (kX8_least pc)) Rt 0
theorem tX8_least_9 (Rt : sx_R) : sx_T BX8_least sx_Cal Rt 9 = sx_run bX8_least_9 sx_Cal (sx_T BX8_least sx_Cal Rt) Rt := sx_T_eq (fun pc => sx_BK_mon (kX8_least pc)) Rt 9
theorem tX8_least_10 (Rt : sx_R) : sx_T BX8_least sx_Cal Rt 10 = sx_run bX8_least_10 sx_Cal (sx_T BX8_least sx_Cal Rt) Rt := sx_T_eq (fun pc => sx_BK_mon (kX8_least pc)) Rt 10
theorem cX8_least_c (a : List sx_V) (n : Nat) (h : sx_H) (Q : sx_Q) : sx_Cal 149 a n h Q = (sx_cat a ≤ 2 ∧ sx_T BX8_least sx_Cal (fun r n' h' kc ks => Q r n' h' ∧ kc ≤ 0 ∧ ks ≤ 0) 0 (sx_en 2 a) [] n h 0 0) := sx_C_eq ztb_X8_least a n h Q
theorem tX8_takes_0 (Rt : sx_R) : sx_T BX8_takes sx_Cal Rt 0 = sx_run bX8_takes_0 sx_Cal (sx_T BX8_takes sx_Cal Rt) Rt := sx_T_eq (fun pc => sx_BK_mon (kX8_takes pc)) Rt 0
theorem tX8_takes_33 (Rt : sx_R) : sx_T BX8_takes sx_Cal Rt 33 = sx_run bX8_takes_33 sx_Cal (sx_T BX8_takes sx_Cal Rt) Rt := sx_T_eq (fun pc => sx_BK_mon (kX8_takes pc)) Rt 33
theorem tX8_takes_34 (Rt : sx_R) : sx_T BX8_takes sx_Cal Rt 34 = sx_run bX8_takes_34 sx_Cal (sx_T BX8_takes sx_Cal Rt) Rt := sx_T_eq (fun pc => sx_BK_mon (kX8_takes pc)) Rt 34
theorem cX8_takes_c (a : List sx_V) (n : Nat) (h : sx_H) (Q : sx_Q) : sx_Cal 150 a n h Q = (sx_cat a ≤ 5 ∧ sx_T BX8_takes sx_Cal (fun r n' h' kc ks => Q r n' h' ∧ kc ≤ 0 ∧ ks ≤ 0) 0 (sx_en 5 a) [] n h 0 0) := sx_C_eq ztb_X8_takes a n h Q
theorem tX8_payBy_0 (Rt : sx_R) : sx_T BX8_payBy sx_Cal Rt 0 = sx_run bX8_payBy_0 sx_Cal (sx_T BX8_payBy sx_Cal Rt) Rt := sx_T_eq (fun pc => sx_BK_mon (kX8_payBy pc)) Rt 0
theorem tX8_payBy_48 (Rt : sx_R) : sx_T BX8_payBy sx_Cal Rt 48 = sx_run bX8_payBy_48 sx_Cal (sx_T BX8_payBy sx_Cal Rt) Rt := sx_T_eq (fun pc => sx_BK_mon (kX8_payBy pc)) Rt 48
theorem tX8_payBy_54 (Rt : sx_R) : sx_T BX8_payBy sx_Cal Rt 54 = sx_run bX8_payBy_54 sx_Cal (sx_T BX8_payBy sx_Cal Rt) Rt := sx_T_eq (fun pc => sx_BK_mon (kX8_payBy pc)) Rt 54
theorem tX8_payBy_62 (Rt : sx_R) : sx_T BX8_payBy sx_Cal Rt 62 = sx_run bX8_payBy_62 sx_Cal (sx_T BX8_payBy sx_Cal Rt) Rt := sx_T_eq (fun pc => sx_BK_mon (kX8_payBy pc)) Rt 62
theorem tX8_payBy_79 (Rt : sx_R) : sx_T BX8_payBy sx_Cal Rt 79 = sx_run bX8_payBy_79 sx_Cal (sx_T BX8_payBy sx_Cal Rt) Rt := sx_T_eq (fun pc => sx_BK_mon (kX8_payBy pc)) Rt 79
theorem tX8_payBy_80 (Rt : sx_R) : sx_T BX8_payBy sx_Cal Rt 80 = sx_run bX8_payBy_80 sx_Cal (sx_T BX8_payBy sx_Cal Rt) Rt := sx_T_eq (fun pc => sx_BK_mon (kX8_payBy pc)) Rt 80
theorem tX8_payBy_81 (Rt : sx_R) : sx_T BX8_payBy sx_Cal Rt 81 = sx_run bX8_payBy_81 sx_Cal (sx_T BX8_payBy sx_Cal Rt) Rt := sx_T_eq (fun pc => sx_BK_mon (kX8_payBy pc)) Rt 81
theorem cX8_payBy_c (a : List sx_V) (n : Nat) (h : sx_H) (Q : sx_Q) : sx_Cal 151 a n h Q = (sx_cat a ≤ 4 ∧ sx_T BX8_payBy sx_Cal (fun r n' h' kc ks => Q r n' h' ∧ kc ≤ 0 ∧ ks ≤ 0) 0 (sx_en 4 a) [] n h 0 0) := sx_C_eq ztb_X8_payBy a n h Q
theorem tX8_payOne_0 (Rt : sx_R) : sx_T BX8_payOne sx_Cal Rt 0 = sx_run bX8_payOne_0 sx_Cal (sx_T BX8_payOne sx_Cal Rt) Rt := sx_T_eq (fun pc => sx_BK_mon (kX8_payOne pc)) Rt 0
theorem tX8_payOne_43 (Rt : sx_R) : sx_T BX8_payOne sx_Cal Rt 43 = sx_run bX8_payOne_43 sx_Cal (sx_T BX8_payOne sx_Cal Rt) Rt := sx_T_eq (fun pc => sx_BK_mon (kX8_payOne pc)) Rt 43
theorem cX8_payOne_c (a : List sx_V) (n : Nat) (h : sx_H) (Q : sx_Q) : sx_Cal 152 a n h Q = (sx_cat a ≤ 4 ∧ sx_T BX8_payOne sx_Cal (fun r n' h' kc ks => Q r n' h' ∧ kc ≤ 0 ∧ ks ≤ 0) 0 (sx_en 4 a) [] n h 0 0) := sx_C_eq ztb_X8_payOne a n h Q
theorem tX8_week_0 (Rt : sx_R) : sx_T BX8_week sx_Cal Rt 0 = sx_run bX8_week_0 sx_Cal (sx_T BX8_week sx_Cal Rt) Rt := sx_T_eq (fun pc => sx_BK_mon (kX8_week pc)) Rt 0
theorem tX8_week_7 (Rt : sx_R) : sx_T BX8_week sx_Cal Rt 7 = sx_run bX8_week_7 sx_Cal (sx_T BX8_week sx_Cal Rt) Rt := sx_T_eq (fun pc => sx_BK_mon (kX8_week pc)) Rt 7
theorem tX8_week_34 (Rt : sx_R) : sx_T BX8_week sx_Cal Rt 34 = sx_run bX8_week_34 sx_Cal (sx_T BX8_week sx_Cal Rt) Rt := sx_T_eq (fun pc => sx_BK_mon (kX8_week pc)) Rt 34
theorem tX8_week_40 (Rt : sx_R) : sx_T BX8_week sx_Cal Rt 40 = sx_run bX8_week_40 sx_Cal (sx_T BX8_week sx_Cal Rt) Rt := sx_T_eq (fun pc => sx_BK_mon (kX8_week pc)) Rt 40
theorem tX8_week_42 (Rt : sx_R) : sx_T BX8_week sx_Cal Rt 42 = sx_run bX8_week_42 sx_Cal (sx_T BX8_week sx_Cal Rt) Rt := sx_T_eq (fun pc => sx_BK_mon (kX8_week pc)) Rt 42
theorem tX8_week_69 (Rt : sx_R) : sx_T BX8_week sx_Cal Rt 69 = sx_run bX8_week_69 sx_Cal (sx_T BX8_week sx_Cal Rt) Rt := sx_T_eq (fun pc => sx_BK_mon (kX8_week pc)) Rt 69
theorem tX8_week_75 (Rt : sx_R) : sx_T BX8_week sx_Cal Rt 75 = sx_run bX8_week_75 sx_Cal (sx_T BX8_week sx_Cal Rt) Rt := sx_T_eq (fun pc => sx_BK_mon (kX8_week pc)) Rt 75
theorem tX8_week_91 (Rt : sx_R) : sx_T BX8_week sx_Cal Rt 91 = sx_run bX8_week_91 sx_Cal (sx_T BX8_week sx_Cal Rt) Rt := sx_T_eq (fun pc => sx_BK_mon (kX8_week pc)) Rt 91
theorem tX8_week_92 (Rt : sx_R) : sx_T BX8_week sx_Cal Rt 92 = sx_run bX8_week_92 sx_Cal (sx_T BX8_week sx_Cal Rt) Rt := sx_T_eq (fun pc => sx_BK_mon (kX8_week pc)) Rt 92
theorem tX8_week_139 (Rt : sx_R) : sx_T BX8_week sx_Cal Rt 139 = sx_run bX8_week_139 sx_Cal (sx_T BX8_week sx_Cal Rt) Rt := sx_T_eq (fun pc => sx_BK_mon (kX8_week pc)) Rt 139
theorem tX8_week_143 (Rt : sx_R) : sx_T BX8_week sx_Cal Rt 143 = sx_run bX8_week_143 sx_Cal (sx_T BX8_week sx_Cal Rt) Rt := sx_T_eq (fun pc => sx_BK_mon (kX8_week pc)) Rt 143
theorem tX8_week_144 (Rt : sx_R) : sx_T BX8_week sx_Cal Rt 144 = sx_run bX8_week_144 sx_Cal (sx_T BX8_week sx_Cal Rt) Rt := sx_T_eq (fun pc => sx_BK_mon (kX8_week pc)) Rt 144
theorem cX8_week_c (a : List sx_V) (n : Nat) (h : sx_H) (Q : sx_Q) : sx_Cal 153 a n h Q = (sx_cat a ≤ 2 ∧ sx_T BX8_week sx_Cal (fun r n' h' kc ks => Q r n' h' ∧ kc ≤ 0 ∧ ks ≤ 0) 0 (sx_en 2 a) [] n h 0 0) := sx_C_eq ztb_X8_week a n h Q
theorem tX8_weeksOf_0 (Rt : sx_R) : sx_T BX8_weeksOf sx_Cal Rt 0 = sx_run bX8_weeksOf_0 sx_Cal (sx_T BX8_weeksOf sx_Cal Rt) Rt := sx_T_eq (fun pc => sx_BK_mon (kX8_weeksOf pc)) Rt 0
theorem tX8_weeksOf_2 (Rt : sx_R) : sx_T BX8_weeksOf sx_Cal Rt 2 = sx_run bX8_weeksOf_2 sx_Cal (sx_T BX8_weeksOf sx_Cal Rt) Rt := sx_T_eq (fun pc => sx_BK_mon (kX8_weeksOf pc)) Rt 2
theorem tX8_weeksOf_17 (Rt : sx_R) : sx_T BX8_weeksOf sx_Cal Rt 17 = sx_run bX8_weeksOf_17 sx_Cal (sx_T BX8_weeksOf sx_Cal Rt) Rt := sx_T_eq (fun pc => sx_BK_mon (kX8_weeksOf pc)) Rt 17
theorem cX8_weeksOf_c (a : List sx_V) (n : Nat) (h : sx_H) (Q : sx_Q) : sx_Cal 154 a n h Q = (sx_cat a ≤ 3 ∧ sx_T BX8_weeksOf sx_Cal (fun r n' h' kc ks => Q r n' h' ∧ kc ≤ 0 ∧ ks ≤ 0) 0 (sx_en 3 a) [] n h 0 0) := sx_C_eq ztb_X8_weeksOf a n h Q
theorem tX8_layThen_0 (Rt : sx_R) : sx_T BX8_layThen sx_Cal Rt 0 = sx_run bX8_layThen_0 sx_Cal (sx_T BX8_layThen sx_Cal Rt) Rt := sx_T_eq (fun pc => sx_BK_mon (kX8_layThen pc)) Rt 0
theorem tX8_layThen_2 (Rt : sx_R) : sx_T BX8_layThen sx_Cal Rt 2 = sx_run bX8_layThen_2 sx_Cal (sx_T BX8_layThen sx_Cal Rt) Rt := sx_T_eq (fun pc => sx_BK_mon (kX8_layThen pc)) Rt 2
theorem tX8_layThen_26 (Rt : sx_R) : sx_T BX8_layThen sx_Cal Rt 26 = sx_run bX8_layThen_26 sx_Cal (sx_T BX8_layThen sx_Cal Rt) Rt := sx_T_eq (fun pc => sx_BK_mon (kX8_layThen pc)) Rt 26
theorem cX8_layThen_c (a : List sx_V) (n : Nat) (h : sx_H) (Q : sx_Q) : sx_Cal 155 a n h Q = (sx_cat a ≤ 2 ∧ sx_T BX8_layThen sx_Cal (fun r n' h' kc ks => Q r n' h' ∧ kc ≤ 0 ∧ ks ≤ 0) 0 (sx_en 2 a) [] n h 0 0) := sx_C_eq ztb_X8_layThen a n h Q
theorem tX8_lostOf_0 (Rt : sx_R) : sx_T BX8_lostOf sx_Cal Rt 0 = sx_run bX8_lostOf_0 sx_Cal (sx_T BX8_lostOf sx_Cal Rt) Rt := sx_T_eq (fun pc => sx_BK_mon (kX8_lostOf pc)) Rt 0
theorem tX8_lostOf_4 (Rt : sx_R) : sx_T BX8_lostOf sx_Cal Rt 4 = sx_run bX8_lostOf_4 sx_Cal (sx_T BX8_lostOf sx_Cal Rt) Rt := sx_T_eq (fun pc => sx_BK_mon (kX8_lostOf pc)) Rt 4
theorem tX8_lostOf_29 (Rt : sx_R) : sx_T BX8_lostOf sx_Cal Rt 29 = sx_run bX8_lostOf_29 sx_Cal (sx_T BX8_lostOf sx_Cal Rt) Rt := sx_T_eq (fun pc => sx_BK_mon (kX8_lostOf pc)) Rt 29
theorem tX8_lostOf_30 (Rt : sx_R) : sx_T BX8_lostOf sx_Cal Rt 30 = sx_run bX8_lostOf_30 sx_Cal (sx_T BX8_lostOf sx_Cal Rt) Rt := sx_T_eq (fun pc => sx_BK_mon (kX8_lostOf pc)) Rt 30
theorem tX8_lostOf_38 (Rt : sx_R) : sx_T BX8_lostOf sx_Cal Rt 38 = sx_run bX8_lostOf_38 sx_Cal (sx_T BX8_lostOf sx_Cal Rt) Rt := sx_T_eq (fun pc => sx_BK_mon (kX8_lostOf pc)) Rt 38
theorem cX8_lostOf_c (a : List sx_V) (n : Nat) (h : sx_H) (Q : sx_Q) : sx_Cal 156 a n h Q = (sx_cat a ≤ 3 ∧ sx_T BX8_lostOf sx_Cal (fun r n' h' kc ks => Q r n' h' ∧ kc ≤ 0 ∧ ks ≤ 0) 0 (sx_en 3 a) [] n h 0 0) := sx_C_eq ztb_X8_lostOf a n h Q
theorem tX8_debtsOf_0 (Rt : sx_R) : sx_T BX8_debtsOf sx_Cal Rt 0 = sx_run bX8_debtsOf_0 sx_Cal (sx_T BX8_debtsOf sx_Cal Rt) Rt := sx_T_eq (fun pc => sx_BK_mon (kX8_debtsOf pc)) Rt 0
theorem tX8_debtsOf_4 (Rt : sx_R) : sx_T BX8_debtsOf sx_Cal Rt 4 = sx_run bX8_debtsOf_4 sx_Cal (sx_T BX8_debtsOf sx_Cal Rt) Rt := sx_T_eq (fun pc => sx_BK_mon (kX8_debtsOf pc)) Rt 4
theorem tX8_debtsOf_27 (Rt : sx_R) : sx_T BX8_debtsOf sx_Cal Rt 27 = sx_run bX8_debtsOf_27 sx_Cal (sx_T BX8_debtsOf sx_Cal Rt) Rt := sx_T_eq (fun pc => sx_BK_mon (kX8_debtsOf pc)) Rt 27
theorem tX8_debtsOf_33 (Rt : sx_R) : sx_T BX8_debtsOf sx_Cal Rt 33 = sx_run bX8_debtsOf_33 sx_Cal (sx_T BX8_debtsOf sx_Cal Rt) Rt := sx_T_eq (fun pc => sx_BK_mon (kX8_debtsOf pc)) Rt 33
theorem tX8_debtsOf_41 (Rt : sx_R) : sx_T BX8_debtsOf sx_Cal Rt 41 = sx_run bX8_debtsOf_41 sx_Cal (sx_T BX8_debtsOf sx_Cal Rt) Rt := sx_T_eq (fun pc => sx_BK_mon (kX8_debtsOf pc)) Rt 41
theorem cX8_debtsOf_c (a : List sx_V) (n : Nat) (h : sx_H) (Q : sx_Q) : sx_Cal 157 a n h Q = (sx_cat a ≤ 3 ∧ sx_T BX8_debtsOf sx_Cal (fun r n' h' kc ks => Q r n' h' ∧ kc ≤ 0 ∧ ks ≤ 0) 0 (sx_en 3 a) [] n h 0 0) := sx_C_eq ztb_X8_debtsOf a n h Q
theorem tX8_keep_0 (Rt : sx_R) : sx_T BX8_keep sx_Cal Rt 0 = sx_run bX8_keep_0 sx_Cal (sx_T BX8_keep sx_Cal Rt) Rt := sx_T_eq (fun pc => sx_BK_mon (kX8_keep pc)) Rt 0
theorem tX8_keep_11 (Rt : sx_R) : sx_T BX8_keep sx_Cal Rt 11 = sx_run bX8_keep_11 sx_Cal (sx_T BX8_keep sx_Cal Rt) Rt := sx_T_eq (fun pc => sx_BK_mon (kX8_keep pc)) Rt 11
theorem tX8_keep_39 (Rt : sx_R) : sx_T BX8_keep sx_Cal Rt 39 = sx_run bX8_keep_39 sx_Cal (sx_T BX8_keep sx_Cal Rt) Rt := sx_T_eq (fun pc => sx_BK_mon (kX8_keep pc)) Rt 39
theorem tX8_keep_49 (Rt : sx_R) : sx_T BX8_keep sx_Cal Rt 49 = sx_run bX8_keep_49 sx_Cal (sx_T BX8_keep sx_Cal Rt) Rt := sx_T_eq (fun pc => sx_BK_mon (kX8_keep pc)) Rt 49
theorem tX8_keep_51 (Rt : sx_R) : sx_T BX8_keep sx_Cal Rt 51 = sx_run bX8_keep_51 sx_Cal (sx_T BX8_keep sx_Cal Rt) Rt := sx_T_eq (fun pc => sx_BK_mon (kX8_keep pc)) Rt 51
theorem tX8_keep_83 (Rt : sx_R) : sx_T BX8_keep sx_Cal Rt 83 = sx_run bX8_keep_83 sx_Cal (sx_T BX8_keep sx_Cal Rt) Rt := sx_T_eq (fun pc => sx_BK_mon (kX8_keep pc)) Rt 83
theorem cX8_keep_c (a : List sx_V) (n : Nat) (h : sx_H) (Q : sx_Q) : sx_Cal 158 a n h Q = (sx_cat a ≤ 2 ∧ sx_T BX8_keep sx_Cal (fun r n' h' kc ks => Q r n' h' ∧ kc ≤ 0 ∧ ks ≤ 0) 0 (sx_en 2 a) [] n h 0 0) := sx_C_eq ztb_X8_keep a n h Q
theorem tX8_weeks_0 (Rt : sx_R) : sx_T BX8_weeks sx_Cal Rt 0 = sx_run bX8_weeks_0 sx_Cal (sx_T BX8_weeks sx_Cal Rt) Rt := sx_T_eq (fun pc => sx_BK_mon (kX8_weeks pc)) Rt 0
theorem tX8_weeks_15 (Rt : sx_R) : sx_T BX8_weeks sx_Cal Rt 15 = sx_run bX8_weeks_15 sx_Cal (sx_T BX8_weeks sx_Cal Rt) Rt := sx_T_eq (fun pc => sx_BK_mon (kX8_weeks pc)) Rt 15
theorem tX8_weeks_30 (Rt : sx_R) : sx_T BX8_weeks sx_Cal Rt 30 = sx_run bX8_weeks_30 sx_Cal (sx_T BX8_weeks sx_Cal Rt) Rt := sx_T_eq (fun pc => sx_BK_mon (kX8_weeks pc)) Rt 30
theorem tX8_weeks_47 (Rt : sx_R) : sx_T BX8_weeks sx_Cal Rt 47 = sx_run bX8_weeks_47 sx_Cal (sx_T BX8_weeks sx_Cal Rt) Rt := sx_T_eq (fun pc => sx_BK_mon (kX8_weeks pc)) Rt 47
theorem tX8_weeks_49 (Rt : sx_R) : sx_T BX8_weeks sx_Cal Rt 49 = sx_run bX8_weeks_49 sx_Cal (sx_T BX8_weeks sx_Cal Rt) Rt := sx_T_eq (fun pc => sx_BK_mon (kX8_weeks pc)) Rt 49
theorem tX8_weeks_71 (Rt : sx_R) : sx_T BX8_weeks sx_Cal Rt 71 = sx_run bX8_weeks_71 sx_Cal (sx_T BX8_weeks sx_Cal Rt) Rt := sx_T_eq (fun pc => sx_BK_mon (kX8_weeks pc)) Rt 71
theorem cX8_weeks_c (a : List sx_V) (n : Nat) (h : sx_H) (Q : sx_Q) : sx_Cal 159 a n h Q = (sx_cat a ≤ 3 ∧ sx_T BX8_weeks sx_Cal (fun r n' h' kc ks => Q r n' h' ∧ kc ≤ 0 ∧ ks ≤ 0) 0 (sx_en 3 a) [] n h 0 0) := sx_C_eq ztb_X8_weeks a n h Q
theorem tX8_stop_0 (Rt : sx_R) : sx_T BX8_stop sx_Cal Rt 0 = sx_run bX8_stop_0 sx_Cal (sx_T BX8_stop sx_Cal Rt) Rt := sx_T_eq (fun pc => sx_BK_mon (kX8_stop pc)) Rt 0
theorem tX8_stop_25 (Rt : sx_R) : sx_T BX8_stop sx_Cal Rt 25 = sx_run bX8_stop_25 sx_Cal (sx_T BX8_stop sx_Cal Rt) Rt := sx_T_eq (fun pc => sx_BK_mon (kX8_stop pc)) Rt 25
theorem tX8_stop_28 (Rt : sx_R) : sx_T BX8_stop sx_Cal Rt 28 = sx_run bX8_stop_28 sx_Cal (sx_T BX8_stop sx_Cal Rt) Rt := sx_T_eq (fun pc => sx_BK_mon (kX8_stop pc)) Rt 28
theorem cX8_stop_c (a : List sx_V) (n : Nat) (h : sx_H) (Q : sx_Q) : sx_Cal 160 a n h Q = (sx_cat a ≤ 4 ∧ sx_T BX8_stop sx_Cal (fun r n' h' kc ks => Q r n' h' ∧ kc ≤ 0 ∧ ks ≤ 0) 0 (sx_en 4 a) [] n h 0 0) := sx_C_eq ztb_X8_stop a n h Q
theorem tX8_strike_0 (Rt : sx_R) : sx_T BX8_strike sx_Cal Rt 0 = sx_run bX8_strike_0 sx_Cal (sx_T BX8_strike sx_Cal Rt) Rt := sx_T_eq (fun pc => sx_BK_mon (kX8_strike pc)) Rt 0
theorem tX8_strike_15 (Rt : sx_R) : sx_T BX8_strike sx_Cal Rt 15 = sx_run bX8_strike_15 sx_Cal (sx_T BX8_strike sx_Cal Rt) Rt := sx_T_eq (fun pc => sx_BK_mon (kX8_strike pc)) Rt 15
theorem tX8_strike_30 (Rt : sx_R) : sx_T BX8_strike sx_Cal Rt 30 = sx_run bX8_strike_30 sx_Cal (sx_T BX8_strike sx_Cal Rt) Rt := sx_T_eq (fun pc => sx_BK_mon (kX8_strike pc)) Rt 30
theorem cX8_strike_c (a : List sx_V) (n : Nat) (h : sx_H) (Q : sx_Q) : sx_Cal 161 a n h Q = (sx_cat a ≤ 3 ∧ sx_T BX8_strike sx_Cal (fun r n' h' kc ks => Q r n' h' ∧ kc ≤ 0 ∧ ks ≤ 0) 0 (sx_en 3 a) [] n h 0 0) := sx_C_eq ztb_X8_strike a n h Q
theorem tX8_cross_0 (Rt : sx_R) : sx_T BX8_cross sx_Cal Rt 0 = sx_run bX8_cross_0 sx_Cal (sx_T BX8_cross sx_Cal Rt) Rt := sx_T_eq (fun pc => sx_BK_mon (kX8_cross pc)) Rt 0
theorem tX8_cross_23 (Rt : sx_R) : sx_T BX8_cross sx_Cal Rt 23 = sx_run bX8_cross_23 sx_Cal (sx_T BX8_cross sx_Cal Rt) Rt := sx_T_eq (fun pc => sx_BK_mon (kX8_cross pc)) Rt 23
theorem tX8_cross_26 (Rt : sx_R) : sx_T BX8_cross sx_Cal Rt 26 = sx_run bX8_cross_26 sx_Cal (sx_T BX8_cross sx_Cal Rt) Rt := sx_T_eq (fun pc => sx_BK_mon (kX8_cross pc)) Rt 26
theorem tX8_cross_43 (Rt : sx_R) : sx_T BX8_cross sx_Cal Rt 43 = sx_run bX8_cross_43 sx_Cal (sx_T BX8_cross sx_Cal Rt) Rt := sx_T_eq (fun pc => sx_BK_mon (kX8_cross pc)) Rt 43
theorem tX8_cross_88 (Rt : sx_R) : sx_T BX8_cross sx_Cal Rt 88 = sx_run bX8_cross_88 sx_Cal (sx_T BX8_cross sx_Cal Rt) Rt := sx_T_eq (fun pc => sx_BK_mon (kX8_cross pc)) Rt 88
theorem tX8_cross_89 (Rt : sx_R) : sx_T BX8_cross sx_Cal Rt 89 = sx_run bX8_cross_89 sx_Cal (sx_T BX8_cross sx_Cal Rt) Rt := sx_T_eq (fun pc => sx_BK_mon (kX8_cross pc)) Rt 89
theorem cX8_cross_c (a : List sx_V) (n : Nat) (h : sx_H) (Q : sx_Q) : sx_Cal 162 a n h Q = (sx_cat a ≤ 4 ∧ sx_T BX8_cross sx_Cal (fun r n' h' kc ks => Q r n' h' ∧ kc ≤ 0 ∧ ks ≤ 0) 0 (sx_en 4 a) [] n h 0 0) := sx_C_eq ztb_X8_cross a n h Q
theorem tX8_dearer_0 (Rt : sx_R) : sx_T BX8_dearer sx_Cal Rt 0 = sx_run bX8_dearer_0 sx_Cal (sx_T BX8_dearer sx_Cal Rt) Rt := sx_T_eq (fun pc => sx_BK_mon (kX8_dearer pc)) Rt 0
theorem tX8_dearer_15 (Rt : sx_R) : sx_T BX8_dearer sx_Cal Rt 15 = sx_run bX8_dearer_15 sx_Cal (sx_T BX8_dearer sx_Cal Rt) Rt := sx_T_eq (fun pc => sx_BK_mon (kX8_dearer pc)) Rt 15
theorem tX8_dearer_30 (Rt : sx_R) : sx_T BX8_dearer sx_Cal Rt 30 = sx_run bX8_dearer_30 sx_Cal (sx_T BX8_dearer sx_Cal Rt) Rt := sx_T_eq (fun pc => sx_BK_mon (kX8_dearer pc)) Rt 30
theorem cX8_dearer_c (a : List sx_V) (n : Nat) (h : sx_H) (Q : sx_Q) : sx_Cal 163 a n h Q = (sx_cat a ≤ 3 ∧ sx_T BX8_dearer sx_Cal (fun r n' h' kc ks => Q r n' h' ∧ kc ≤ 0 ∧ ks ≤ 0) 0 (sx_en 3 a) [] n h 0 0) := sx_C_eq ztb_X8_dearer a n h Q
theorem tX8_undo_0 (Rt : sx_R) : sx_T BX8_undo sx_Cal Rt 0 = sx_run bX8_undo_0 sx_Cal (sx_T BX8_undo sx_Cal Rt) Rt := sx_T_eq (fun pc => sx_BK_mon (kX8_undo pc)) Rt 0
theorem tX8_undo_15 (Rt : sx_R) : sx_T BX8_undo sx_Cal Rt 15 = sx_run bX8_undo_15 sx_Cal (sx_T BX8_undo sx_Cal Rt) Rt := sx_T_eq (fun pc => sx_BK_mon (kX8_undo pc)) Rt 15
theorem tX8_undo_27 (Rt : sx_R) : sx_T BX8_undo sx_Cal Rt 27 = sx_run bX8_undo_27 sx_Cal (sx_T BX8_undo sx_Cal Rt) Rt := sx_T_eq (fun pc => sx_BK_mon (kX8_undo pc)) Rt 27
theorem tX8_undo_59 (Rt : sx_R) : sx_T BX8_undo sx_Cal Rt 59 = sx_run bX8_undo_59 sx_Cal (sx_T BX8_undo sx_Cal Rt) Rt := sx_T_eq (fun pc => sx_BK_mon (kX8_undo pc)) Rt 59
theorem cX8_undo_c (a : List sx_V) (n : Nat) (h : sx_H) (Q : sx_Q) : sx_Cal 164 a n h Q = (sx_cat a ≤ 2 ∧ sx_T BX8_undo sx_Cal (fun r n' h' kc ks => Q r n' h' ∧ kc ≤ 0 ∧ ks ≤ 0) 0 (sx_en 2 a) [] n h 0 0) := sx_C_eq ztb_X8_undo a n h Q
theorem tX8_debtor_0 (Rt : sx_R) : sx_T BX8_debtor sx_Cal Rt 0 = sx_run bX8_debtor_0 sx_Cal (sx_T BX8_debtor sx_Cal Rt) Rt := sx_T_eq (fun pc => sx_BK_mon (kX8_debtor pc)) Rt 0
theorem tX8_debtor_25 (Rt : sx_R) : sx_T BX8_debtor sx_Cal Rt 25 = sx_run bX8_debtor_25 sx_Cal (sx_T BX8_debtor sx_Cal Rt) Rt := sx_T_eq (fun pc => sx_BK_mon (kX8_debtor pc)) Rt 25
theorem tX8_debtor_28 (Rt : sx_R) : sx_T BX8_debtor sx_Cal Rt 28 = sx_run bX8_debtor_28 sx_Cal (sx_T BX8_debtor sx_Cal Rt) Rt := sx_T_eq (fun pc => sx_BK_mon (kX8_debtor pc)) Rt 28
theorem tX8_debtor_36 (Rt : sx_R) : sx_T BX8_debtor sx_Cal Rt 36 = sx_run bX8_debtor_36 sx_Cal (sx_T BX8_debtor sx_Cal Rt) Rt := sx_T_eq (fun pc => sx_BK_mon (kX8_debtor pc)) Rt 36
theorem tX8_debtor_45 (Rt : sx_R) : sx_T BX8_debtor sx_Cal Rt 45 = sx_run bX8_debtor_45 sx_Cal (sx_T BX8_debtor sx_Cal Rt) Rt := sx_T_eq (fun pc => sx_BK_mon (kX8_debtor pc)) Rt 45
theorem tX8_debtor_48 (Rt : sx_R) : sx_T BX8_debtor sx_Cal Rt 48 = sx_run bX8_debtor_48 sx_Cal (sx_T BX8_debtor sx_Cal Rt) Rt := sx_T_eq (fun pc => sx_BK_mon (kX8_debtor pc)) Rt 48
theorem cX8_debtor_c (a : List sx_V) (n : Nat) (h : sx_H) (Q : sx_Q) : sx_Cal 165 a n h Q = (sx_cat a ≤ 4 ∧ sx_T BX8_debtor sx_Cal (fun r n' h' kc ks => Q r n' h' ∧ kc ≤ 0 ∧ ks ≤ 0) 0 (sx_en 4 a) [] n h 0 0) := sx_C_eq ztb_X8_debtor a n h Q
theorem tX8_shopHas_0 (Rt : sx_R) : sx_T BX8_shopHas sx_Cal Rt 0 = sx_run bX8_shopHas_0 sx_Cal (sx_T BX8_shopHas sx_Cal Rt) Rt := sx_T_eq (fun pc => sx_BK_mon (kX8_shopHas pc)) Rt 0
theorem tX8_shopHas_15 (Rt : sx_R) : sx_T BX8_shopHas sx_Cal Rt 15 = sx_run bX8_shopHas_15 sx_Cal (sx_T BX8_shopHas sx_Cal Rt) Rt := sx_T_eq (fun pc => sx_BK_mon (kX8_shopHas pc)) Rt 15
theorem tX8_shopHas_56 (Rt : sx_R) : sx_T BX8_shopHas sx_Cal Rt 56 = sx_run bX8_shopHas_56 sx_Cal (sx_T BX8_shopHas sx_Cal Rt) Rt := sx_T_eq (fun pc => sx_BK_mon (kX8_shopHas pc)) Rt 56
theorem tX8_shopHas_63 (Rt : sx_R) : sx_T BX8_shopHas sx_Cal Rt 63 = sx_run bX8_shopHas_63 sx_Cal (sx_T BX8_shopHas sx_Cal Rt) Rt := sx_T_eq (fun pc => sx_BK_mon (kX8_shopHas pc)) Rt 63
theorem tX8_shopHas_71 (Rt : sx_R) : sx_T BX8_shopHas sx_Cal Rt 71 = sx_run bX8_shopHas_71 sx_Cal (sx_T BX8_shopHas sx_Cal Rt) Rt := sx_T_eq (fun pc => sx_BK_mon (kX8_shopHas pc)) Rt 71
theorem tX8_shopHas_79 (Rt : sx_R) : sx_T BX8_shopHas sx_Cal Rt 79 = sx_run bX8_shopHas_79 sx_Cal (sx_T BX8_shopHas sx_Cal Rt) Rt := sx_T_eq (fun pc => sx_BK_mon (kX8_shopHas pc)) Rt 79
theorem tX8_shopHas_87 (Rt : sx_R) : sx_T BX8_shopHas sx_Cal Rt 87 = sx_run bX8_shopHas_87 sx_Cal (sx_T BX8_shopHas sx_Cal Rt) Rt := sx_T_eq (fun pc => sx_BK_mon (kX8_shopHas pc)) Rt 87
theorem tX8_shopHas_95 (Rt : sx_R) : sx_T BX8_shopHas sx_Cal Rt 95 = sx_run bX8_shopHas_95 sx_Cal (sx_T BX8_shopHas sx_Cal Rt) Rt := sx_T_eq (fun pc => sx_BK_mon (kX8_shopHas pc)) Rt 95
theorem tX8_shopHas_103 (Rt : sx_R) : sx_T BX8_shopHas sx_Cal Rt 103 = sx_run bX8_shopHas_103 sx_Cal (sx_T BX8_shopHas sx_Cal Rt) Rt := sx_T_eq (fun pc => sx_BK_mon (kX8_shopHas pc)) Rt 103
theorem cX8_shopHas_c (a : List sx_V) (n : Nat) (h : sx_H) (Q : sx_Q) : sx_Cal 166 a n h Q = (sx_cat a ≤ 2 ∧ sx_T BX8_shopHas sx_Cal (fun r n' h' kc ks => Q r n' h' ∧ kc ≤ 0 ∧ ks ≤ 0) 0 (sx_en 2 a) [] n h 0 0) := sx_C_eq ztb_X8_shopHas a n h Q
theorem tX8_ahead_0 (Rt : sx_R) : sx_T BX8_ahead sx_Cal Rt 0 = sx_run bX8_ahead_0 sx_Cal (sx_T BX8_ahead sx_Cal Rt) Rt := sx_T_eq (fun pc => sx_BK_mon (kX8_ahead pc)) Rt 0
theorem tX8_ahead_15 (Rt : sx_R) : sx_T BX8_ahead sx_Cal Rt 15 = sx_run bX8_ahead_15 sx_Cal (sx_T BX8_ahead sx_Cal Rt) Rt := sx_T_eq (fun pc => sx_BK_mon (kX8_ahead pc)) Rt 15
theorem tX8_ahead_39 (Rt : sx_R) : sx_T BX8_ahead sx_Cal Rt 39 = sx_run bX8_ahead_39 sx_Cal (sx_T BX8_ahead sx_Cal Rt) Rt := sx_T_eq (fun pc => sx_BK_mon (kX8_ahead pc)) Rt 39
theorem tX8_ahead_42 (Rt : sx_R) : sx_T BX8_ahead sx_Cal Rt 42 = sx_run bX8_ahead_42 sx_Cal (sx_T BX8_ahead sx_Cal Rt) Rt := sx_T_eq (fun pc => sx_BK_mon (kX8_ahead pc)) Rt 42
theorem tX8_ahead_67 (Rt : sx_R) : sx_T BX8_ahead sx_Cal Rt 67 = sx_run bX8_ahead_67 sx_Cal (sx_T BX8_ahead sx_Cal Rt) Rt := sx_T_eq (fun pc => sx_BK_mon (kX8_ahead pc)) Rt 67
theorem tX8_ahead_82 (Rt : sx_R) : sx_T BX8_ahead sx_Cal Rt 82 = sx_run bX8_ahead_82 sx_Cal (sx_T BX8_ahead sx_Cal Rt) Rt := sx_T_eq (fun pc => sx_BK_mon (kX8_ahead pc)) Rt 82
theorem tX8_ahead_89 (Rt : sx_R) : sx_T BX8_ahead sx_Cal Rt 89 = sx_run bX8_ahead_89 sx_Cal (sx_T BX8_ahead sx_Cal Rt) Rt := sx_T_eq (fun pc => sx_BK_mon (kX8_ahead pc)) Rt 89
theorem cX8_ahead_c (a : List sx_V) (n : Nat) (h : sx_H) (Q : sx_Q) : sx_Cal 167 a n h Q = (sx_cat a ≤ 3 ∧ sx_T BX8_ahead sx_Cal (fun r n' h' kc ks => Q r n' h' ∧ kc ≤ 0 ∧ ks ≤ 0) 0 (sx_en 3 a) [] n h 0 0) := sx_C_eq ztb_X8_ahead a n h Q
theorem tX8_debt_0 (Rt : sx_R) : sx_T BX8_debt sx_Cal Rt 0 = sx_run bX8_debt_0 sx_Cal (sx_T BX8_debt sx_Cal Rt) Rt := sx_T_eq (fun pc => sx_BK_mon (kX8_debt pc)) Rt 0
theorem tX8_debt_25 (Rt : sx_R) : sx_T BX8_debt sx_Cal Rt 25 = sx_run bX8_debt_25 sx_Cal (sx_T BX8_debt sx_Cal Rt) Rt := sx_T_eq (fun pc => sx_BK_mon (kX8_debt pc)) Rt 25
theorem tX8_debt_28 (Rt : sx_R) : sx_T BX8_debt sx_Cal Rt 28 = sx_run bX8_debt_28 sx_Cal (sx_T BX8_debt sx_Cal Rt) Rt := sx_T_eq (fun pc => sx_BK_mon (kX8_debt pc)) Rt 28
theorem cX8_debt_c (a : List sx_V) (n : Nat) (h : sx_H) (Q : sx_Q) : sx_Cal 168 a n h Q = (sx_cat a ≤ 3 ∧ sx_T BX8_debt sx_Cal (fun r n' h' kc ks => Q r n' h' ∧ kc ≤ 0 ∧ ks ≤ 0) 0 (sx_en 3 a) [] n h 0 0) := sx_C_eq ztb_X8_debt a n h Q
theorem tX8_shuts_0 (Rt : sx_R) : sx_T BX8_shuts sx_Cal Rt 0 = sx_run bX8_shuts_0 sx_Cal (sx_T BX8_shuts sx_Cal Rt) Rt := sx_T_eq (fun pc => sx_BK_mon (kX8_shuts pc)) Rt 0
theorem tX8_shuts_15 (Rt : sx_R) : sx_T BX8_shuts sx_Cal Rt 15 = sx_run bX8_shuts_15 sx_Cal (sx_T BX8_shuts sx_Cal Rt) Rt := sx_T_eq (fun pc => sx_BK_mon (kX8_shuts pc)) Rt 15
theorem tX8_shuts_21 (Rt : sx_R) : sx_T BX8_shuts sx_Cal Rt 21 = sx_run bX8_shuts_21 sx_Cal (sx_T BX8_shuts sx_Cal Rt) Rt := sx_T_eq (fun pc => sx_BK_mon (kX8_shuts pc)) Rt 21
theorem tX8_shuts_40 (Rt : sx_R) : sx_T BX8_shuts sx_Cal Rt 40 = sx_run bX8_shuts_40 sx_Cal (sx_T BX8_shuts sx_Cal Rt) Rt := sx_T_eq (fun pc => sx_BK_mon (kX8_shuts pc)) Rt 40
theorem tX8_shuts_53 (Rt : sx_R) : sx_T BX8_shuts sx_Cal Rt 53 = sx_run bX8_shuts_53 sx_Cal (sx_T BX8_shuts sx_Cal Rt) Rt := sx_T_eq (fun pc => sx_BK_mon (kX8_shuts pc)) Rt 53
theorem cX8_shuts_c (a : List sx_V) (n : Nat) (h : sx_H) (Q : sx_Q) : sx_Cal 169 a n h Q = (sx_cat a ≤ 2 ∧ sx_T BX8_shuts sx_Cal (fun r n' h' kc ks => Q r n' h' ∧ kc ≤ 0 ∧ ks ≤ 0) 0 (sx_en 2 a) [] n h 0 0) := sx_C_eq ztb_X8_shuts a n h Q
theorem tX8_bestStop_0 (Rt : sx_R) : sx_T BX8_bestStop sx_Cal Rt 0 = sx_run bX8_bestStop_0 sx_Cal (sx_T BX8_bestStop sx_Cal Rt) Rt := sx_T_eq (fun pc => sx_BK_mon (kX8_bestStop pc)) Rt 0
theorem tX8_bestStop_35 (Rt : sx_R) : sx_T BX8_bestStop sx_Cal Rt 35 = sx_run bX8_bestStop_35 sx_Cal (sx_T BX8_bestStop sx_Cal Rt) Rt := sx_T_eq (fun pc => sx_BK_mon (kX8_bestStop pc)) Rt 35
theorem tX8_bestStop_38 (Rt : sx_R) : sx_T BX8_bestStop sx_Cal Rt 38 = sx_run bX8_bestStop_38 sx_Cal (sx_T BX8_bestStop sx_Cal Rt) Rt := sx_T_eq (fun pc => sx_BK_mon (kX8_bestStop pc)) Rt 38
theorem tX8_bestStop_48 (Rt : sx_R) : sx_T BX8_bestStop sx_Cal Rt 48 = sx_run bX8_bestStop_48 sx_Cal (sx_T BX8_bestStop sx_Cal Rt) Rt := sx_T_eq (fun pc => sx_BK_mon (kX8_bestStop pc)) Rt 48
theorem tX8_bestStop_113 (Rt : sx_R) : sx_T BX8_bestStop sx_Cal Rt 113 = sx_run bX8_bestStop_113 sx_Cal (sx_T BX8_bestStop sx_Cal Rt) Rt := sx_T_eq (fun pc => sx_BK_mon (kX8_bestStop pc)) Rt 113
theorem tX8_bestStop_117 (Rt : sx_R) : sx_T BX8_bestStop sx_Cal Rt 117 = sx_run bX8_bestStop_117 sx_Cal (sx_T BX8_bestStop sx_Cal Rt) Rt := sx_T_eq (fun pc => sx_BK_mon (kX8_bestStop pc)) Rt 117
theorem tX8_bestStop_118 (Rt : sx_R) : sx_T BX8_bestStop sx_Cal Rt 118 = sx_run bX8_bestStop_118 sx_Cal (sx_T BX8_bestStop sx_Cal Rt) Rt := sx_T_eq (fun pc => sx_BK_mon (kX8_bestStop pc)) Rt 118
theorem tX8_bestStop_130 (Rt : sx_R) : sx_T BX8_bestStop sx_Cal Rt 130 = sx_run bX8_bestStop_130 sx_Cal (sx_T BX8_bestStop sx_Cal Rt) Rt := sx_T_eq (fun pc => sx_BK_mon (kX8_bestStop pc)) Rt 130
theorem tX8_bestStop_132 (Rt : sx_R) : sx_T BX8_bestStop sx_Cal Rt 132 = sx_run bX8_bestStop_132 sx_Cal (sx_T BX8_bestStop sx_Cal Rt) Rt := sx_T_eq (fun pc => sx_BK_mon (kX8_bestStop pc)) Rt 132
theorem tX8_bestStop_144 (Rt : sx_R) : sx_T BX8_bestStop sx_Cal Rt 144 = sx_run bX8_bestStop_144 sx_Cal (sx_T BX8_bestStop sx_Cal Rt) Rt := sx_T_eq (fun pc => sx_BK_mon (kX8_bestStop pc)) Rt 144
theorem tX8_bestStop_146 (Rt : sx_R) : sx_T BX8_bestStop sx_Cal Rt 146 = sx_run bX8_bestStop_146 sx_Cal (sx_T BX8_bestStop sx_Cal Rt) Rt := sx_T_eq (fun pc => sx_BK_mon (kX8_bestStop pc)) Rt 146
theorem tX8_bestStop_154 (Rt : sx_R) : sx_T BX8_bestStop sx_Cal Rt 154 = sx_run bX8_bestStop_154 sx_Cal (sx_T BX8_bestStop sx_Cal Rt) Rt := sx_T_eq (fun pc => sx_BK_mon (kX8_bestStop pc)) Rt 154
theorem tX8_bestStop_163 (Rt : sx_R) : sx_T BX8_bestStop sx_Cal Rt 163 = sx_run bX8_bestStop_163 sx_Cal (sx_T BX8_bestStop sx_Cal Rt) Rt := sx_T_eq (fun pc => sx_BK_mon (kX8_bestStop pc)) Rt 163
theorem tX8_bestStop_165 (Rt : sx_R) : sx_T BX8_bestStop sx_Cal Rt 165 = sx_run bX8_bestStop_165 sx_Cal (sx_T BX8_bestStop sx_Cal Rt) Rt := sx_T_eq (fun pc => sx_BK_mon (kX8_bestStop pc)) Rt 165
theorem cX8_bestStop_c (a : List sx_V) (n : Nat) (h : sx_H) (Q : sx_Q) : sx_Cal 170 a n h Q = (sx_cat a ≤ 9 ∧ sx_T BX8_bestStop sx_Cal (fun r n' h' kc ks => Q r n' h' ∧ kc ≤ 0 ∧ ks ≤ 0) 0 (sx_en 9 a) [] n h 0 0) := sx_C_eq ztb_X8_bestStop a n h Q
theorem tX8_bits_0 (Rt : sx_R) : sx_T BX8_bits sx_Cal Rt 0 = sx_run bX8_bits_0 sx_Cal (sx_T BX8_bits sx_Cal Rt) Rt := sx_T_eq (fun pc => sx_BK_mon (kX8_bits pc)) Rt 0
theorem tX8_bits_4 (Rt : sx_R) : sx_T BX8_bits sx_Cal Rt 4 = sx_run bX8_bits_4 sx_Cal (sx_T BX8_bits sx_Cal Rt) Rt := sx_T_eq (fun pc => sx_BK_mon (kX8_bits pc)) Rt 4
theorem tX8_bits_24 (Rt : sx_R) : sx_T BX8_bits sx_Cal Rt 24 = sx_run bX8_bits_24 sx_Cal (sx_T BX8_bits sx_Cal Rt) Rt := sx_T_eq (fun pc => sx_BK_mon (kX8_bits pc)) Rt 24
theorem cX8_bits_c (a : List sx_V) (n : Nat) (h : sx_H) (Q : sx_Q) : sx_Cal 171 a n h Q = (sx_cat a ≤ 3 ∧ sx_T BX8_bits sx_Cal (fun r n' h' kc ks => Q r n' h' ∧ kc ≤ 0 ∧ ks ≤ 0) 0 (sx_en 3 a) [] n h 0 0) := sx_C_eq ztb_X8_bits a n h Q
theorem tX8_whom_0 (Rt : sx_R) : sx_T BX8_whom sx_Cal Rt 0 = sx_run bX8_whom_0 sx_Cal (sx_T BX8_whom sx_Cal Rt) Rt := sx_T_eq (fun pc => sx_BK_mon (kX8_whom pc)) Rt 0
theorem tX8_whom_15 (Rt : sx_R) : sx_T BX8_whom sx_Cal Rt 15 = sx_run bX8_whom_15 sx_Cal (sx_T BX8_whom sx_Cal Rt) Rt := sx_T_eq (fun pc => sx_BK_mon (kX8_whom pc)) Rt 15
theorem tX8_whom_37 (Rt : sx_R) : sx_T BX8_whom sx_Cal Rt 37 = sx_run bX8_whom_37 sx_Cal (sx_T BX8_whom sx_Cal Rt) Rt := sx_T_eq (fun pc => sx_BK_mon (kX8_whom pc)) Rt 37
theorem tX8_whom_40 (Rt : sx_R) : sx_T BX8_whom sx_Cal Rt 40 = sx_run bX8_whom_40 sx_Cal (sx_T BX8_whom sx_Cal Rt) Rt := sx_T_eq (fun pc => sx_BK_mon (kX8_whom pc)) Rt 40
theorem tX8_whom_50 (Rt : sx_R) : sx_T BX8_whom sx_Cal Rt 50 = sx_run bX8_whom_50 sx_Cal (sx_T BX8_whom sx_Cal Rt) Rt := sx_T_eq (fun pc => sx_BK_mon (kX8_whom pc)) Rt 50
theorem tX8_whom_70 (Rt : sx_R) : sx_T BX8_whom sx_Cal Rt 70 = sx_run bX8_whom_70 sx_Cal (sx_T BX8_whom sx_Cal Rt) Rt := sx_T_eq (fun pc => sx_BK_mon (kX8_whom pc)) Rt 70
theorem tX8_whom_112 (Rt : sx_R) : sx_T BX8_whom sx_Cal Rt 112 = sx_run bX8_whom_112 sx_Cal (sx_T BX8_whom sx_Cal Rt) Rt := sx_T_eq (fun pc => sx_BK_mon (kX8_whom pc)) Rt 112
theorem tX8_whom_178 (Rt : sx_R) : sx_T BX8_whom sx_Cal Rt 178 = sx_run bX8_whom_178 sx_Cal (sx_T BX8_whom sx_Cal Rt) Rt := sx_T_eq (fun pc => sx_BK_mon (kX8_whom pc)) Rt 178
theorem tX8_whom_182 (Rt : sx_R) : sx_T BX8_whom sx_Cal Rt 182 = sx_run bX8_whom_182 sx_Cal (sx_T BX8_whom sx_Cal Rt) Rt := sx_T_eq (fun pc => sx_BK_mon (kX8_whom pc)) Rt 182
theorem tX8_whom_183 (Rt : sx_R) : sx_T BX8_whom sx_Cal Rt 183 = sx_run bX8_whom_183 sx_Cal (sx_T BX8_whom sx_Cal Rt) Rt := sx_T_eq (fun pc => sx_BK_mon (kX8_whom pc)) Rt 183
theorem tX8_whom_195 (Rt : sx_R) : sx_T BX8_whom sx_Cal Rt 195 = sx_run bX8_whom_195 sx_Cal (sx_T BX8_whom sx_Cal Rt) Rt := sx_T_eq (fun pc => sx_BK_mon (kX8_whom pc)) Rt 195
theorem tX8_whom_196 (Rt : sx_R) : sx_T BX8_whom sx_Cal Rt 196 = sx_run bX8_whom_196 sx_Cal (sx_T BX8_whom sx_Cal Rt) Rt := sx_T_eq (fun pc => sx_BK_mon (kX8_whom pc)) Rt 196
theorem tX8_whom_207 (Rt : sx_R) : sx_T BX8_whom sx_Cal Rt 207 = sx_run bX8_whom_207 sx_Cal (sx_T BX8_whom sx_Cal Rt) Rt := sx_T_eq (fun pc => sx_BK_mon (kX8_whom pc)) Rt 207
theorem tX8_whom_209 (Rt : sx_R) : sx_T BX8_whom sx_Cal Rt 209 = sx_run bX8_whom_209 sx_Cal (sx_T BX8_whom sx_Cal Rt) Rt := sx_T_eq (fun pc => sx_BK_mon (kX8_whom pc)) Rt 209
theorem tX8_whom_217 (Rt : sx_R) : sx_T BX8_whom sx_Cal Rt 217 = sx_run bX8_whom_217 sx_Cal (sx_T BX8_whom sx_Cal Rt) Rt := sx_T_eq (fun pc => sx_BK_mon (kX8_whom pc)) Rt 217
theorem tX8_whom_225 (Rt : sx_R) : sx_T BX8_whom sx_Cal Rt 225 = sx_run bX8_whom_225 sx_Cal (sx_T BX8_whom sx_Cal Rt) Rt := sx_T_eq (fun pc => sx_BK_mon (kX8_whom pc)) Rt 225
theorem tX8_whom_227 (Rt : sx_R) : sx_T BX8_whom sx_Cal Rt 227 = sx_run bX8_whom_227 sx_Cal (sx_T BX8_whom sx_Cal Rt) Rt := sx_T_eq (fun pc => sx_BK_mon (kX8_whom pc)) Rt 227
theorem cX8_whom_c (a : List sx_V) (n : Nat) (h : sx_H) (Q : sx_Q) : sx_Cal 172 a n h Q = (sx_cat a ≤ 8 ∧ sx_T BX8_whom sx_Cal (fun r n' h' kc ks => Q r n' h' ∧ kc ≤ 0 ∧ ks ≤ 0) 0 (sx_en 8 a) [] n h 0 0) := sx_C_eq ztb_X8_whom a n h Q
theorem tX8_stands_0 (Rt : sx_R) : sx_T BX8_stands sx_Cal Rt 0 = sx_run bX8_stands_0 sx_Cal (sx_T BX8_stands sx_Cal Rt) Rt := sx_T_eq (fun pc => sx_BK_mon (kX8_stands pc)) Rt 0
theorem tX8_stands_15 (Rt : sx_R) : sx_T BX8_stands sx_Cal Rt 15 = sx_run bX8_stands_15 sx_Cal (sx_T BX8_stands sx_Cal Rt) Rt := sx_T_eq (fun pc => sx_BK_mon (kX8_stands pc)) Rt 15
theorem tX8_stands_18 (Rt : sx_R) : sx_T BX8_stands sx_Cal Rt 18 = sx_run bX8_stands_18 sx_Cal (sx_T BX8_stands sx_Cal Rt) Rt := sx_T_eq (fun pc => sx_BK_mon (kX8_stands pc)) Rt 18
theorem tX8_stands_55 (Rt : sx_R) : sx_T BX8_stands sx_Cal Rt 55 = sx_run bX8_stands_55 sx_Cal (sx_T BX8_stands sx_Cal Rt) Rt := sx_T_eq (fun pc => sx_BK_mon (kX8_stands pc)) Rt 55
theorem tX8_stands_61 (Rt : sx_R) : sx_T BX8_stands sx_Cal Rt 61 = sx_run bX8_stands_61 sx_Cal (sx_T BX8_stands sx_Cal Rt) Rt := sx_T_eq (fun pc => sx_BK_mon (kX8_stands pc)) Rt 61
theorem cX8_stands_c (a : List sx_V) (n : Nat) (h : sx_H) (Q : sx_Q) : sx_Cal 173 a n h Q = (sx_cat a ≤ 2 ∧ sx_T BX8_stands sx_Cal (fun r n' h' kc ks => Q r n' h' ∧ kc ≤ 0 ∧ ks ≤ 0) 0 (sx_en 2 a) [] n h 0 0) := sx_C_eq ztb_X8_stands a n h Q
theorem tX8_dear_0 (Rt : sx_R) : sx_T BX8_dear sx_Cal Rt 0 = sx_run bX8_dear_0 sx_Cal (sx_T BX8_dear sx_Cal Rt) Rt := sx_T_eq (fun pc => sx_BK_mon (kX8_dear pc)) Rt 0
theorem tX8_dear_15 (Rt : sx_R) : sx_T BX8_dear sx_Cal Rt 15 = sx_run bX8_dear_15 sx_Cal (sx_T BX8_dear sx_Cal Rt) Rt := sx_T_eq (fun pc => sx_BK_mon (kX8_dear pc)) Rt 15
theorem tX8_dear_30 (Rt : sx_R) : sx_T BX8_dear sx_Cal Rt 30 = sx_run bX8_dear_30 sx_Cal (sx_T BX8_dear sx_Cal Rt) Rt := sx_T_eq (fun pc => sx_BK_mon (kX8_dear pc)) Rt 30
theorem tX8_dear_32 (Rt : sx_R) : sx_T BX8_dear sx_Cal Rt 32 = sx_run bX8_dear_32 sx_Cal (sx_T BX8_dear sx_Cal Rt) Rt := sx_T_eq (fun pc => sx_BK_mon (kX8_dear pc)) Rt 32
theorem tX8_dear_69 (Rt : sx_R) : sx_T BX8_dear sx_Cal Rt 69 = sx_run bX8_dear_69 sx_Cal (sx_T BX8_dear sx_Cal Rt) Rt := sx_T_eq (fun pc => sx_BK_mon (kX8_dear pc)) Rt 69
theorem tX8_dear_75 (Rt : sx_R) : sx_T BX8_dear sx_Cal Rt 75 = sx_run bX8_dear_75 sx_Cal (sx_T BX8_dear sx_Cal Rt) Rt := sx_T_eq (fun pc => sx_BK_mon (kX8_dear pc)) Rt 75
theorem cX8_dear_c (a : List sx_V) (n : Nat) (h : sx_H) (Q : sx_Q) : sx_Cal 174 a n h Q = (sx_cat a ≤ 3 ∧ sx_T BX8_dear sx_Cal (fun r n' h' kc ks => Q r n' h' ∧ kc ≤ 0 ∧ ks ≤ 0) 0 (sx_en 3 a) [] n h 0 0) := sx_C_eq ztb_X8_dear a n h Q
theorem tX8_rogue_0 (Rt : sx_R) : sx_T BX8_rogue sx_Cal Rt 0 = sx_run bX8_rogue_0 sx_Cal (sx_T BX8_rogue sx_Cal Rt) Rt := sx_T_eq (fun pc => sx_BK_mon (kX8_rogue pc)) Rt 0
theorem tX8_rogue_35 (Rt : sx_R) : sx_T BX8_rogue sx_Cal Rt 35 = sx_run bX8_rogue_35 sx_Cal (sx_T BX8_rogue sx_Cal Rt) Rt := sx_T_eq (fun pc => sx_BK_mon (kX8_rogue pc)) Rt 35
theorem tX8_rogue_38 (Rt : sx_R) : sx_T BX8_rogue sx_Cal Rt 38 = sx_run bX8_rogue_38 sx_Cal (sx_T BX8_rogue sx_Cal Rt) Rt := sx_T_eq (fun pc => sx_BK_mon (kX8_rogue pc)) Rt 38
theorem tX8_rogue_52 (Rt : sx_R) : sx_T BX8_rogue sx_Cal Rt 52 = sx_run bX8_rogue_52 sx_Cal (sx_T BX8_rogue sx_Cal Rt) Rt := sx_T_eq (fun pc => sx_BK_mon (kX8_rogue pc)) Rt 52
theorem tX8_rogue_85 (Rt : sx_R) : sx_T BX8_rogue sx_Cal Rt 85 = sx_run bX8_rogue_85 sx_Cal (sx_T BX8_rogue sx_Cal Rt) Rt := sx_T_eq (fun pc => sx_BK_mon (kX8_rogue pc)) Rt 85
theorem tX8_rogue_175 (Rt : sx_R) : sx_T BX8_rogue sx_Cal Rt 175 = sx_run bX8_rogue_175 sx_Cal (sx_T BX8_rogue sx_Cal Rt) Rt := sx_T_eq (fun pc => sx_BK_mon (kX8_rogue pc)) Rt 175
theorem tX8_rogue_179 (Rt : sx_R) : sx_T BX8_rogue sx_Cal Rt 179 = sx_run bX8_rogue_179 sx_Cal (sx_T BX8_rogue sx_Cal Rt) Rt := sx_T_eq (fun pc => sx_BK_mon (kX8_rogue pc)) Rt 179
theorem tX8_rogue_180 (Rt : sx_R) : sx_T BX8_rogue sx_Cal Rt 180 = sx_run bX8_rogue_180 sx_Cal (sx_T BX8_rogue sx_Cal Rt) Rt := sx_T_eq (fun pc => sx_BK_mon (kX8_rogue pc)) Rt 180
theorem tX8_rogue_192 (Rt : sx_R) : sx_T BX8_rogue sx_Cal Rt 192 = sx_run bX8_rogue_192 sx_Cal (sx_T BX8_rogue sx_Cal Rt) Rt := sx_T_eq (fun pc => sx_BK_mon (kX8_rogue pc)) Rt 192
theorem tX8_rogue_194 (Rt : sx_R) : sx_T BX8_rogue sx_Cal Rt 194 = sx_run bX8_rogue_194 sx_Cal (sx_T BX8_rogue sx_Cal Rt) Rt := sx_T_eq (fun pc => sx_BK_mon (kX8_rogue pc)) Rt 194
theorem tX8_rogue_206 (Rt : sx_R) : sx_T BX8_rogue sx_Cal Rt 206 = sx_run bX8_rogue_206 sx_Cal (sx_T BX8_rogue sx_Cal Rt) Rt := sx_T_eq (fun pc => sx_BK_mon (kX8_rogue pc)) Rt 206
theorem tX8_rogue_208 (Rt : sx_R) : sx_T BX8_rogue sx_Cal Rt 208 = sx_run bX8_rogue_208 sx_Cal (sx_T BX8_rogue sx_Cal Rt) Rt := sx_T_eq (fun pc => sx_BK_mon (kX8_rogue pc)) Rt 208
theorem tX8_rogue_216 (Rt : sx_R) : sx_T BX8_rogue sx_Cal Rt 216 = sx_run bX8_rogue_216 sx_Cal (sx_T BX8_rogue sx_Cal Rt) Rt := sx_T_eq (fun pc => sx_BK_mon (kX8_rogue pc)) Rt 216
theorem tX8_rogue_225 (Rt : sx_R) : sx_T BX8_rogue sx_Cal Rt 225 = sx_run bX8_rogue_225 sx_Cal (sx_T BX8_rogue sx_Cal Rt) Rt := sx_T_eq (fun pc => sx_BK_mon (kX8_rogue pc)) Rt 225
theorem tX8_rogue_227 (Rt : sx_R) : sx_T BX8_rogue sx_Cal Rt 227 = sx_run bX8_rogue_227 sx_Cal (sx_T BX8_rogue sx_Cal Rt) Rt := sx_T_eq (fun pc => sx_BK_mon (kX8_rogue pc)) Rt 227
theorem cX8_rogue_c (a : List sx_V) (n : Nat) (h : sx_H) (Q : sx_Q) : sx_Cal 175 a n h Q = (sx_cat a ≤ 10 ∧ sx_T BX8_rogue sx_Cal (fun r n' h' kc ks => Q r n' h' ∧ kc ≤ 0 ∧ ks ≤ 0) 0 (sx_en 10 a) [] n h 0 0) := sx_C_eq ztb_X8_rogue a n h Q
theorem tX8_who_0 (Rt : sx_R) : sx_T BX8_who sx_Cal Rt 0 = sx_run bX8_who_0 sx_Cal (sx_T BX8_who sx_Cal Rt) Rt := sx_T_eq (fun pc => sx_BK_mon (kX8_who pc)) Rt 0
theorem tX8_who_33 (Rt : sx_R) : sx_T BX8_who sx_Cal Rt 33 = sx_run bX8_who_33 sx_Cal (sx_T BX8_who sx_Cal Rt) Rt := sx_T_eq (fun pc => sx_BK_mon (kX8_who pc)) Rt 33
theorem tX8_who_36 (Rt : sx_R) : sx_T BX8_who sx_Cal Rt 36 = sx_run bX8_who_36 sx_Cal (sx_T BX8_who sx_Cal Rt) Rt := sx_T_eq (fun pc => sx_BK_mon (kX8_who pc)) Rt 36
theorem tX8_who_51 (Rt : sx_R) : sx_T BX8_who sx_Cal Rt 51 = sx_run bX8_who_51 sx_Cal (sx_T BX8_who sx_Cal Rt) Rt := sx_T_eq (fun pc => sx_BK_mon (kX8_who pc)) Rt 51
theorem tX8_who_72 (Rt : sx_R) : sx_T BX8_who sx_Cal Rt 72 = sx_run bX8_who_72 sx_Cal (sx_T BX8_who sx_Cal Rt) Rt := sx_T_eq (fun pc => sx_BK_mon (kX8_who pc)) Rt 72
theorem tX8_who_78 (Rt : sx_R) : sx_T BX8_who sx_Cal Rt 78 = sx_run bX8_who_78 sx_Cal (sx_T BX8_who sx_Cal Rt) Rt := sx_T_eq (fun pc => sx_BK_mon (kX8_who pc)) Rt 78
theorem tX8_who_89 (Rt : sx_R) : sx_T BX8_who sx_Cal Rt 89 = sx_run bX8_who_89 sx_Cal (sx_T BX8_who sx_Cal Rt) Rt := sx_T_eq (fun pc => sx_BK_mon (kX8_who pc)) Rt 89
theorem tX8_who_121 (Rt : sx_R) : sx_T BX8_who sx_Cal Rt 121 = sx_run bX8_who_121 sx_Cal (sx_T BX8_who sx_Cal Rt) Rt := sx_T_eq (fun pc => sx_BK_mon (kX8_who pc)) Rt 121
theorem tX8_who_186 (Rt : sx_R) : sx_T BX8_who sx_Cal Rt 186 = sx_run bX8_who_186 sx_Cal (sx_T BX8_who sx_Cal Rt) Rt := sx_T_eq (fun pc => sx_BK_mon (kX8_who pc)) Rt 186
theorem tX8_who_187 (Rt : sx_R) : sx_T BX8_who sx_Cal Rt 187 = sx_run bX8_who_187 sx_Cal (sx_T BX8_who sx_Cal Rt) Rt := sx_T_eq (fun pc => sx_BK_mon (kX8_who pc)) Rt 187
theorem tX8_who_195 (Rt : sx_R) : sx_T BX8_who sx_Cal Rt 195 = sx_run bX8_who_195 sx_Cal (sx_T BX8_who sx_Cal Rt) Rt := sx_T_eq (fun pc => sx_BK_mon (kX8_who pc)) Rt 195
theorem tX8_who_209 (Rt : sx_R) : sx_T BX8_who sx_Cal Rt 209 = sx_run bX8_who_209 sx_Cal (sx_T BX8_who sx_Cal Rt) Rt := sx_T_eq (fun pc => sx_BK_mon (kX8_who pc)) Rt 209
theorem tX8_who_210 (Rt : sx_R) : sx_T BX8_who sx_Cal Rt 210 = sx_run bX8_who_210 sx_Cal (sx_T BX8_who sx_Cal Rt) Rt := sx_T_eq (fun pc => sx_BK_mon (kX8_who pc)) Rt 210
theorem tX8_who_219 (Rt : sx_R) : sx_T BX8_who sx_Cal Rt 219 = sx_run bX8_who_219 sx_Cal (sx_T BX8_who sx_Cal Rt) Rt := sx_T_eq (fun pc => sx_BK_mon (kX8_who pc)) Rt 219
theorem cX8_who_c (a : List sx_V) (n : Nat) (h : sx_H) (Q : sx_Q) : sx_Cal 176 a n h Q = (sx_cat a ≤ 10 ∧ sx_T BX8_who sx_Cal (fun r n' h' kc ks => Q r n' h' ∧ kc ≤ 0 ∧ ks ≤ 0) 0 (sx_en 10 a) [] n h 0 0) := sx_C_eq ztb_X8_who a n h Q
theorem tX8_atDoor_0 (Rt : sx_R) : sx_T BX8_atDoor sx_Cal Rt 0 = sx_run bX8_atDoor_0 sx_Cal (sx_T BX8_atDoor sx_Cal Rt) Rt := sx_T_eq (fun pc => sx_BK_mon (kX8_atDoor pc)) Rt 0
theorem tX8_atDoor_15 (Rt : sx_R) : sx_T BX8_atDoor sx_Cal Rt 15 = sx_run bX8_atDoor_15 sx_Cal (sx_T BX8_atDoor sx_Cal Rt) Rt := sx_T_eq (fun pc => sx_BK_mon (kX8_atDoor pc)) Rt 15
theorem tX8_atDoor_30 (Rt : sx_R) : sx_T BX8_atDoor sx_Cal Rt 30 = sx_run bX8_atDoor_30 sx_Cal (sx_T BX8_atDoor sx_Cal Rt) Rt := sx_T_eq (fun pc => sx_BK_mon (kX8_atDoor pc)) Rt 30
theorem tX8_atDoor_38 (Rt : sx_R) : sx_T BX8_atDoor sx_Cal Rt 38 = sx_run bX8_atDoor_38 sx_Cal (sx_T BX8_atDoor sx_Cal Rt) Rt := sx_T_eq (fun pc => sx_BK_mon (kX8_atDoor pc)) Rt 38
theorem tX8_atDoor_50 (Rt : sx_R) : sx_T BX8_atDoor sx_Cal Rt 50 = sx_run bX8_atDoor_50 sx_Cal (sx_T BX8_atDoor sx_Cal Rt) Rt := sx_T_eq (fun pc => sx_BK_mon (kX8_atDoor pc)) Rt 50
theorem tX8_atDoor_86 (Rt : sx_R) : sx_T BX8_atDoor sx_Cal Rt 86 = sx_run bX8_atDoor_86 sx_Cal (sx_T BX8_atDoor sx_Cal Rt) Rt := sx_T_eq (fun pc => sx_BK_mon (kX8_atDoor pc)) Rt 86
theorem tX8_atDoor_87 (Rt : sx_R) : sx_T BX8_atDoor sx_Cal Rt 87 = sx_run bX8_atDoor_87 sx_Cal (sx_T BX8_atDoor sx_Cal Rt) Rt := sx_T_eq (fun pc => sx_BK_mon (kX8_atDoor pc)) Rt 87
theorem tX8_atDoor_122 (Rt : sx_R) : sx_T BX8_atDoor sx_Cal Rt 122 = sx_run bX8_atDoor_122 sx_Cal (sx_T BX8_atDoor sx_Cal Rt) Rt := sx_T_eq (fun pc => sx_BK_mon (kX8_atDoor pc)) Rt 122
theorem tX8_atDoor_127 (Rt : sx_R) : sx_T BX8_atDoor sx_Cal Rt 127 = sx_run bX8_atDoor_127 sx_Cal (sx_T BX8_atDoor sx_Cal Rt) Rt := sx_T_eq (fun pc => sx_BK_mon (kX8_atDoor pc)) Rt 127
theorem tX8_atDoor_128 (Rt : sx_R) : sx_T BX8_atDoor sx_Cal Rt 128 = sx_run bX8_atDoor_128 sx_Cal (sx_T BX8_atDoor sx_Cal Rt) Rt := sx_T_eq (fun pc => sx_BK_mon (kX8_atDoor pc)) Rt 128
theorem tX8_atDoor_135 (Rt : sx_R) : sx_T BX8_atDoor sx_Cal Rt 135 = sx_run bX8_atDoor_135 sx_Cal (sx_T BX8_atDoor sx_Cal Rt) Rt := sx_T_eq (fun pc => sx_BK_mon (kX8_atDoor pc)) Rt 135
theorem tX8_atDoor_146 (Rt : sx_R) : sx_T BX8_atDoor sx_Cal Rt 146 = sx_run bX8_atDoor_146 sx_Cal (sx_T BX8_atDoor sx_Cal Rt) Rt := sx_T_eq (fun pc => sx_BK_mon (kX8_atDoor pc)) Rt 146
theorem tX8_atDoor_149 (Rt : sx_R) : sx_T BX8_atDoor sx_Cal Rt 149 = sx_run bX8_atDoor_149 sx_Cal (sx_T BX8_atDoor sx_Cal Rt) Rt := sx_T_eq (fun pc => sx_BK_mon (kX8_atDoor pc)) Rt 149
theorem tX8_atDoor_157 (Rt : sx_R) : sx_T BX8_atDoor sx_Cal Rt 157 = sx_run bX8_atDoor_157 sx_Cal (sx_T BX8_atDoor sx_Cal Rt) Rt := sx_T_eq (fun pc => sx_BK_mon (kX8_atDoor pc)) Rt 157
theorem cX8_atDoor_c (a : List sx_V) (n : Nat) (h : sx_H) (Q : sx_Q) : sx_Cal 177 a n h Q = (sx_cat a ≤ 7 ∧ sx_T BX8_atDoor sx_Cal (fun r n' h' kc ks => Q r n' h' ∧ kc ≤ 0 ∧ ks ≤ 0) 0 (sx_en 7 a) [] n h 0 0) := sx_C_eq ztb_X8_atDoor a n h Q
theorem tX8_pays_0 (Rt : sx_R) : sx_T BX8_pays sx_Cal Rt 0 = sx_run bX8_pays_0 sx_Cal (sx_T BX8_pays sx_Cal Rt) Rt := sx_T_eq (fun pc => sx_BK_mon (kX8_pays pc)) Rt 0
theorem tX8_pays_16 (Rt : sx_R) : sx_T BX8_pays sx_Cal Rt 16 = sx_run bX8_pays_16 sx_Cal (sx_T BX8_pays sx_Cal Rt) Rt := sx_T_eq (fun pc => sx_BK_mon (kX8_pays pc)) Rt 16
theorem tX8_pays_22 (Rt : sx_R) : sx_T BX8_pays sx_Cal Rt 22 = sx_run bX8_pays_22 sx_Cal (sx_T BX8_pays sx_Cal Rt) Rt := sx_T_eq (fun pc => sx_BK_mon (kX8_pays pc)) Rt 22
theorem tX8_pays_51 (Rt : sx_R) : sx_T BX8_pays sx_Cal Rt 51 = sx_run bX8_pays_51 sx_Cal (sx_T BX8_pays sx_Cal Rt) Rt := sx_T_eq (fun pc => sx_BK_mon (kX8_pays pc)) Rt 51
theorem tX8_pays_52 (Rt : sx_R) : sx_T BX8_pays sx_Cal Rt 52 = sx_run bX8_pays_52 sx_Cal (sx_T BX8_pays sx_Cal Rt) Rt := sx_T_eq (fun pc => sx_BK_mon (kX8_pays pc)) Rt 52
theorem tX8_pays_61 (Rt : sx_R) : sx_T BX8_pays sx_Cal Rt 61 = sx_run bX8_pays_61 sx_Cal (sx_T BX8_pays sx_Cal Rt) Rt := sx_T_eq (fun pc => sx_BK_mon (kX8_pays pc)) Rt 61
theorem tX8_pays_95 (Rt : sx_R) : sx_T BX8_pays sx_Cal Rt 95 = sx_run bX8_pays_95 sx_Cal (sx_T BX8_pays sx_Cal Rt) Rt := sx_T_eq (fun pc => sx_BK_mon (kX8_pays pc)) Rt 95
theorem tX8_pays_99 (Rt : sx_R) : sx_T BX8_pays sx_Cal Rt 99 = sx_run bX8_pays_99 sx_Cal (sx_T BX8_pays sx_Cal Rt) Rt := sx_T_eq (fun pc => sx_BK_mon (kX8_pays pc)) Rt 99
theorem tX8_pays_108 (Rt : sx_R) : sx_T BX8_pays sx_Cal Rt 108 = sx_run bX8_pays_108 sx_Cal (sx_T BX8_pays sx_Cal Rt) Rt := sx_T_eq (fun pc => sx_BK_mon (kX8_pays pc)) Rt 108
theorem tX8_pays_123 (Rt : sx_R) : sx_T BX8_pays sx_Cal Rt 123 = sx_run bX8_pays_123 sx_Cal (sx_T BX8_pays sx_Cal Rt) Rt := sx_T_eq (fun pc => sx_BK_mon (kX8_pays pc)) Rt 123
theorem tX8_pays_148 (Rt : sx_R) : sx_T BX8_pays sx_Cal Rt 148 = sx_run bX8_pays_148 sx_Cal (sx_T BX8_pays sx_Cal Rt) Rt := sx_T_eq (fun pc => sx_BK_mon (kX8_pays pc)) Rt 148
theorem tX8_pays_153 (Rt : sx_R) : sx_T BX8_pays sx_Cal Rt 153 = sx_run bX8_pays_153 sx_Cal (sx_T BX8_pays sx_Cal Rt) Rt := sx_T_eq (fun pc => sx_BK_mon (kX8_pays pc)) Rt 153
theorem tX8_pays_162 (Rt : sx_R) : sx_T BX8_pays sx_Cal Rt 162 = sx_run bX8_pays_162 sx_Cal (sx_T BX8_pays sx_Cal Rt) Rt := sx_T_eq (fun pc => sx_BK_mon (kX8_pays pc)) Rt 162
theorem tX8_pays_185 (Rt : sx_R) : sx_T BX8_pays sx_Cal Rt 185 = sx_run bX8_pays_185 sx_Cal (sx_T BX8_pays sx_Cal Rt) Rt := sx_T_eq (fun pc => sx_BK_mon (kX8_pays pc)) Rt 185
theorem tX8_pays_186 (Rt : sx_R) : sx_T BX8_pays sx_Cal Rt 186 = sx_run bX8_pays_186 sx_Cal (sx_T BX8_pays sx_Cal Rt) Rt := sx_T_eq (fun pc => sx_BK_mon (kX8_pays pc)) Rt 186
theorem tX8_pays_195 (Rt : sx_R) : sx_T BX8_pays sx_Cal Rt 195 = sx_run bX8_pays_195 sx_Cal (sx_T BX8_pays sx_Cal Rt) Rt := sx_T_eq (fun pc => sx_BK_mon (kX8_pays pc)) Rt 195
theorem tX8_pays_203 (Rt : sx_R) : sx_T BX8_pays sx_Cal Rt 203 = sx_run bX8_pays_203 sx_Cal (sx_T BX8_pays sx_Cal Rt) Rt := sx_T_eq (fun pc => sx_BK_mon (kX8_pays pc)) Rt 203
theorem tX8_pays_228 (Rt : sx_R) : sx_T BX8_pays sx_Cal Rt 228 = sx_run bX8_pays_228 sx_Cal (sx_T BX8_pays sx_Cal Rt) Rt := sx_T_eq (fun pc => sx_BK_mon (kX8_pays pc)) Rt 228
theorem tX8_pays_237 (Rt : sx_R) : sx_T BX8_pays sx_Cal Rt 237 = sx_run bX8_pays_237 sx_Cal (sx_T BX8_pays sx_Cal Rt) Rt := sx_T_eq (fun pc => sx_BK_mon (kX8_pays pc)) Rt 237
theorem tX8_pays_239 (Rt : sx_R) : sx_T BX8_pays sx_Cal Rt 239 = sx_run bX8_pays_239 sx_Cal (sx_T BX8_pays sx_Cal Rt) Rt := sx_T_eq (fun pc => sx_BK_mon (kX8_pays pc)) Rt 239
theorem cX8_pays_c (a : List sx_V) (n : Nat) (h : sx_H) (Q : sx_Q) : sx_Cal 178 a n h Q = (sx_cat a ≤ 15 ∧ sx_T BX8_pays sx_Cal (fun r n' h' kc ks => Q r n' h' ∧ kc ≤ 0 ∧ ks ≤ 0) 0 (sx_en 15 a) [] n h 0 0) := sx_C_eq ztb_X8_pays a n h Q
theorem tX8_drawn_0 (Rt : sx_R) : sx_T BX8_drawn sx_Cal Rt 0 = sx_run bX8_drawn_0 sx_Cal (sx_T BX8_drawn sx_Cal Rt) Rt := sx_T_eq (fun pc => sx_BK_mon (kX8_drawn pc)) Rt 0
theorem tX8_drawn_15 (Rt : sx_R) : sx_T BX8_drawn sx_Cal Rt 15 = sx_run bX8_drawn_15 sx_Cal (sx_T BX8_drawn sx_Cal Rt) Rt := sx_T_eq (fun pc => sx_BK_mon (kX8_drawn pc)) Rt 15
theorem tX8_drawn_49 (Rt : sx_R) : sx_T BX8_drawn sx_Cal Rt 49 = sx_run bX8_drawn_49 sx_Cal (sx_T BX8_drawn sx_Cal Rt) Rt := sx_T_eq (fun pc => sx_BK_mon (kX8_drawn pc)) Rt 49
theorem tX8_drawn_52 (Rt : sx_R) : sx_T BX8_drawn sx_Cal Rt 52 = sx_run bX8_drawn_52 sx_Cal (sx_T BX8_drawn sx_Cal Rt) Rt := sx_T_eq (fun pc => sx_BK_mon (kX8_drawn pc)) Rt 52
theorem tX8_drawn_66 (Rt : sx_R) : sx_T BX8_drawn sx_Cal Rt 66 = sx_run bX8_drawn_66 sx_Cal (sx_T BX8_drawn sx_Cal Rt) Rt := sx_T_eq (fun pc => sx_BK_mon (kX8_drawn pc)) Rt 66
theorem tX8_drawn_123 (Rt : sx_R) : sx_T BX8_drawn sx_Cal Rt 123 = sx_run bX8_drawn_123 sx_Cal (sx_T BX8_drawn sx_Cal Rt) Rt := sx_T_eq (fun pc => sx_BK_mon (kX8_drawn pc)) Rt 123
theorem tX8_drawn_130 (Rt : sx_R) : sx_T BX8_drawn sx_Cal Rt 130 = sx_run bX8_drawn_130 sx_Cal (sx_T BX8_drawn sx_Cal Rt) Rt := sx_T_eq (fun pc => sx_BK_mon (kX8_drawn pc)) Rt 130
theorem tX8_drawn_154 (Rt : sx_R) : sx_T BX8_drawn sx_Cal Rt 154 = sx_run bX8_drawn_154 sx_Cal (sx_T BX8_drawn sx_Cal Rt) Rt := sx_T_eq (fun pc => sx_BK_mon (kX8_drawn pc)) Rt 154
theorem tX8_drawn_155 (Rt : sx_R) : sx_T BX8_drawn sx_Cal Rt 155 = sx_run bX8_drawn_155 sx_Cal (sx_T BX8_drawn sx_Cal Rt) Rt := sx_T_eq (fun pc => sx_BK_mon (kX8_drawn pc)) Rt 155
theorem tX8_drawn_164 (Rt : sx_R) : sx_T BX8_drawn sx_Cal Rt 164 = sx_run bX8_drawn_164 sx_Cal (sx_T BX8_drawn sx_Cal Rt) Rt := sx_T_eq (fun pc => sx_BK_mon (kX8_drawn pc)) Rt 164
theorem tX8_drawn_177 (Rt : sx_R) : sx_T BX8_drawn sx_Cal Rt 177 = sx_run bX8_drawn_177 sx_Cal (sx_T BX8_drawn sx_Cal Rt) Rt := sx_T_eq (fun pc => sx_BK_mon (kX8_drawn pc)) Rt 177
theorem tX8_drawn_179 (Rt : sx_R) : sx_T BX8_drawn sx_Cal Rt 179 = sx_run bX8_drawn_179 sx_Cal (sx_T BX8_drawn sx_Cal Rt) Rt := sx_T_eq (fun pc => sx_BK_mon (kX8_drawn pc)) Rt 179
theorem cX8_drawn_c (a : List sx_V) (n : Nat) (h : sx_H) (Q : sx_Q) : sx_Cal 179 a n h Q = (sx_cat a ≤ 8 ∧ sx_T BX8_drawn sx_Cal (fun r n' h' kc ks => Q r n' h' ∧ kc ≤ 0 ∧ ks ≤ 0) 0 (sx_en 8 a) [] n h 0 0) := sx_C_eq ztb_X8_drawn a n h Q
theorem tX8_image_0 (Rt : sx_R) : sx_T BX8_image sx_Cal Rt 0 = sx_run bX8_image_0 sx_Cal (sx_T BX8_image sx_Cal Rt) Rt := sx_T_eq (fun pc => sx_BK_mon (kX8_image pc)) Rt 0
theorem tX8_image_18 (Rt : sx_R) : sx_T BX8_image sx_Cal Rt 18 = sx_run bX8_image_18 sx_Cal (sx_T BX8_image sx_Cal Rt) Rt := sx_T_eq (fun pc => sx_BK_mon (kX8_image pc)) Rt 18
theorem tX8_image_28 (Rt : sx_R) : sx_T BX8_image sx_Cal Rt 28 = sx_run bX8_image_28 sx_Cal (sx_T BX8_image sx_Cal Rt) Rt := sx_T_eq (fun pc => sx_BK_mon (kX8_image pc)) Rt 28
theorem tX8_image_30 (Rt : sx_R) : sx_T BX8_image sx_Cal Rt 30 = sx_run bX8_image_30 sx_Cal (sx_T BX8_image sx_Cal Rt) Rt := sx_T_eq (fun pc => sx_BK_mon (kX8_image pc)) Rt 30
theorem tX8_image_59 (Rt : sx_R) : sx_T BX8_image sx_Cal Rt 59 = sx_run bX8_image_59 sx_Cal (sx_T BX8_image sx_Cal Rt) Rt := sx_T_eq (fun pc => sx_BK_mon (kX8_image pc)) Rt 59
theorem cX8_image_c (a : List sx_V) (n : Nat) (h : sx_H) (Q : sx_Q) : sx_Cal 180 a n h Q = (sx_cat a ≤ 3 ∧ sx_T BX8_image sx_Cal (fun r n' h' kc ks => Q r n' h' ∧ kc ≤ 0 ∧ ks ≤ 0) 0 (sx_en 3 a) [] n h 0 0) := sx_C_eq ztb_X8_image a n h Q
theorem tX8_restore_0 (Rt : sx_R) : sx_T BX8_restore sx_Cal Rt 0 = sx_run bX8_restore_0 sx_Cal (sx_T BX8_restore sx_Cal Rt) Rt := sx_T_eq (fun pc => sx_BK_mon (kX8_restore pc)) Rt 0
theorem tX8_restore_18 (Rt : sx_R) : sx_T BX8_restore sx_Cal Rt 18 = sx_run bX8_restore_18 sx_Cal (sx_T BX8_restore sx_Cal Rt) Rt := sx_T_eq (fun pc => sx_BK_mon (kX8_restore pc)) Rt 18
theorem tX8_restore_30 (Rt : sx_R) : sx_T BX8_restore sx_Cal Rt 30 = sx_run bX8_restore_30 sx_Cal (sx_T BX8_restore sx_Cal Rt) Rt := sx_T_eq (fun pc => sx_BK_mon (kX8_restore pc)) Rt 30
theorem tX8_restore_32 (Rt : sx_R) : sx_T BX8_restore sx_Cal Rt 32 = sx_run bX8_restore_32 sx_Cal (sx_T BX8_restore sx_Cal Rt) Rt := sx_T_eq (fun pc => sx_BK_mon (kX8_restore pc)) Rt 32
theorem tX8_restore_61 (Rt : sx_R) : sx_T BX8_restore sx_Cal Rt 61 = sx_run bX8_restore_61 sx_Cal (sx_T BX8_restore sx_Cal Rt) Rt := sx_T_eq (fun pc => sx_BK_mon (kX8_restore pc)) Rt 61
theorem cX8_restore_c (a : List sx_V) (n : Nat) (h : sx_H) (Q : sx_Q) : sx_Cal 181 a n h Q = (sx_cat a ≤ 3 ∧ sx_T BX8_restore sx_Cal (fun r n' h' kc ks => Q r n' h' ∧ kc ≤ 0 ∧ ks ≤ 0) 0 (sx_en 3 a) [] n h 0 0) := sx_C_eq ztb_X8_restore a n h Q
theorem tX8_isOf_0 (Rt : sx_R) : sx_T BX8_isOf sx_Cal Rt 0 = sx_run bX8_isOf_0 sx_Cal (sx_T BX8_isOf sx_Cal Rt) Rt := sx_T_eq (fun pc => sx_BK_mon (kX8_isOf pc)) Rt 0
theorem tX8_isOf_19 (Rt : sx_R) : sx_T BX8_isOf sx_Cal Rt 19 = sx_run bX8_isOf_19 sx_Cal (sx_T BX8_isOf sx_Cal Rt) Rt := sx_T_eq (fun pc => sx_BK_mon (kX8_isOf pc)) Rt 19
theorem tX8_isOf_29 (Rt : sx_R) : sx_T BX8_isOf sx_Cal Rt 29 = sx_run bX8_isOf_29 sx_Cal (sx_T BX8_isOf sx_Cal Rt) Rt := sx_T_eq (fun pc => sx_BK_mon (kX8_isOf pc)) Rt 29
theorem tX8_isOf_33 (Rt : sx_R) : sx_T BX8_isOf sx_Cal Rt 33 = sx_run bX8_isOf_33 sx_Cal (sx_T BX8_isOf sx_Cal Rt) Rt := sx_T_eq (fun pc => sx_BK_mon (kX8_isOf pc)) Rt 33
theorem tX8_isOf_34 (Rt : sx_R) : sx_T BX8_isOf sx_Cal Rt 34 = sx_run bX8_isOf_34 sx_Cal (sx_T BX8_isOf sx_Cal Rt) Rt := sx_T_eq (fun pc => sx_BK_mon (kX8_isOf pc)) Rt 34
theorem cX8_isOf_c (a : List sx_V) (n : Nat) (h : sx_H) (Q : sx_Q) : sx_Cal 182 a n h Q = (sx_cat a ≤ 2 ∧ sx_T BX8_isOf sx_Cal (fun r n' h' kc ks => Q r n' h' ∧ kc ≤ 0 ∧ ks ≤ 0) 0 (sx_en 2 a) [] n h 0 0) := sx_C_eq ztb_X8_isOf a n h Q
theorem tX8_kind_0 (Rt : sx_R) : sx_T BX8_kind sx_Cal Rt 0 = sx_run bX8_kind_0 sx_Cal (sx_T BX8_kind sx_Cal Rt) Rt := sx_T_eq (fun pc => sx_BK_mon (kX8_kind pc)) Rt 0
theorem tX8_kind_25 (Rt : sx_R) : sx_T BX8_kind sx_Cal Rt 25 = sx_run bX8_kind_25 sx_Cal (sx_T BX8_kind sx_Cal Rt) Rt := sx_T_eq (fun pc => sx_BK_mon (kX8_kind pc)) Rt 25
theorem tX8_kind_27 (Rt : sx_R) : sx_T BX8_kind sx_Cal Rt 27 = sx_run bX8_kind_27 sx_Cal (sx_T BX8_kind sx_Cal Rt) Rt := sx_T_eq (fun pc => sx_BK_mon (kX8_kind pc)) Rt 27
theorem cX8_kind_c (a : List sx_V) (n : Nat) (h : sx_H) (Q : sx_Q) : sx_Cal 183 a n h Q = (sx_cat a ≤ 2 ∧ sx_T BX8_kind sx_Cal (fun r n' h' kc ks => Q r n' h' ∧ kc ≤ 0 ∧ ks ≤ 0) 0 (sx_en 2 a) [] n h 0 0) := sx_C_eq ztb_X8_kind a n h Q
theorem tX8_as_0 (Rt : sx_R) : sx_T BX8_as sx_Cal Rt 0 = sx_run bX8_as_0 sx_Cal (sx_T BX8_as sx_Cal Rt) Rt := sx_T_eq (fun pc => sx_BK_mon (kX8_as pc)) Rt 0
theorem tX8_as_25 (Rt : sx_R) : sx_T BX8_as sx_Cal Rt 25 = sx_run bX8_as_25 sx_Cal (sx_T BX8_as sx_Cal Rt) Rt := sx_T_eq (fun pc => sx_BK_mon (kX8_as pc)) Rt 25
theorem tX8_as_28 (Rt : sx_R) : sx_T BX8_as sx_Cal Rt 28 = sx_run bX8_as_28 sx_Cal (sx_T BX8_as sx_Cal Rt) Rt := sx_T_eq (fun pc => sx_BK_mon (kX8_as pc)) Rt 28
theorem tX8_as_53 (Rt : sx_R) : sx_T BX8_as sx_Cal Rt 53 = sx_run bX8_as_53 sx_Cal (sx_T BX8_as sx_Cal Rt) Rt := sx_T_eq (fun pc => sx_BK_mon (kX8_as pc)) Rt 53
theorem tX8_as_58 (Rt : sx_R) : sx_T BX8_as sx_Cal Rt 58 = sx_run bX8_as_58 sx_Cal (sx_T BX8_as sx_Cal Rt) Rt := sx_T_eq (fun pc => sx_BK_mon (kX8_as pc)) Rt 58
theorem cX8_as_c (a : List sx_V) (n : Nat) (h : sx_H) (Q : sx_Q) : sx_Cal 184 a n h Q = (sx_cat a ≤ 3 ∧ sx_T BX8_as sx_Cal (fun r n' h' kc ks => Q r n' h' ∧ kc ≤ 0 ∧ ks ≤ 0) 0 (sx_en 3 a) [] n h 0 0) := sx_C_eq ztb_X8_as a n h Q
theorem tX8_began_0 (Rt : sx_R) : sx_T BX8_began sx_Cal Rt 0 = sx_run bX8_began_0 sx_Cal (sx_T BX8_began sx_Cal Rt) Rt := sx_T_eq (fun pc => sx_BK_mon (kX8_began pc)) Rt 0
theorem tX8_began_29 (Rt : sx_R) : sx_T BX8_began sx_Cal Rt 29 = sx_run bX8_began_29 sx_Cal (sx_T BX8_began sx_Cal Rt) Rt := sx_T_eq (fun pc => sx_BK_mon (kX8_began pc)) Rt 29
theorem cX8_began_c (a : List sx_V) (n : Nat) (h : sx_H) (Q : sx_Q) : sx_Cal 185 a n h Q = (sx_cat a ≤ 2 ∧ sx_T BX8_began sx_Cal (fun r n' h' kc ks => Q r n' h' ∧ kc ≤ 0 ∧ ks ≤ 0) 0 (sx_en 2 a) [] n h 0 0) := sx_C_eq ztb_X8_began a n h Q
theorem tX8_plainSize_0 (Rt : sx_R) : sx_T BX8_plainSize sx_Cal Rt 0 = sx_run bX8_plainSize_0 sx_Cal (sx_T BX8_plainSize sx_Cal Rt) Rt := sx_T_eq (fun pc => sx_BK_mon (kX8_plainSize pc)) Rt 0
theorem cX8_plainSize_c (a : List sx_V) (n : Nat) (h : sx_H) (Q : sx_Q) : sx_Cal 186 a n h Q = (sx_cat a ≤ 2 ∧ sx_T BX8_plainSize sx_Cal (fun r n' h' kc ks => Q r n' h' ∧ kc ≤ 0 ∧ ks ≤ 0) 0 (sx_en 2 a) [] n h 0 0) := sx_C_eq ztb_X8_plainSize a n h Q
theorem tX8_twiceSize_0 (Rt : sx_R) : sx_T BX8_twiceSize sx_Cal Rt 0 = sx_run bX8_twiceSize_0 sx_Cal (sx_T BX8_twiceSize sx_Cal Rt) Rt := sx_T_eq (fun pc => sx_BK_mon (kX8_twiceSize pc)) Rt 0
theorem tX8_twiceSize_17 (Rt : sx_R) : sx_T BX8_twiceSize sx_Cal Rt 17 = sx_run bX8_twiceSize_17 sx_Cal (sx_T BX8_twiceSize sx_Cal Rt) Rt := sx_T_eq (fun pc => sx_BK_mon (kX8_twiceSize pc)) Rt 17
theorem tX8_twiceSize_18 (Rt : sx_R) : sx_T BX8_twiceSize sx_Cal Rt 18 = sx_run bX8_twiceSize_18 sx_Cal (sx_T BX8_twiceSize sx_Cal Rt) Rt := sx_T_eq (fun pc => sx_BK_mon (kX8_twiceSize pc)) Rt 18
theorem tX8_twiceSize_29 (Rt : sx_R) : sx_T BX8_twiceSize sx_Cal Rt 29 = sx_run bX8_twiceSize_29 sx_Cal (sx_T BX8_twiceSize sx_Cal Rt) Rt := sx_T_eq (fun pc => sx_BK_mon (kX8_twiceSize pc)) Rt 29
theorem tX8_twiceSize_54 (Rt : sx_R) : sx_T BX8_twiceSize sx_Cal Rt 54 = sx_run bX8_twiceSize_54 sx_Cal (sx_T BX8_twiceSize sx_Cal Rt) Rt := sx_T_eq (fun pc => sx_BK_mon (kX8_twiceSize pc)) Rt 54
theorem tX8_twiceSize_55 (Rt : sx_R) : sx_T BX8_twiceSize sx_Cal Rt 55 = sx_run bX8_twiceSize_55 sx_Cal (sx_T BX8_twiceSize sx_Cal Rt) Rt := sx_T_eq (fun pc => sx_BK_mon (kX8_twiceSize pc)) Rt 55
theorem cX8_twiceSize_c (a : List sx_V) (n : Nat) (h : sx_H) (Q : sx_Q) : sx_Cal 187 a n h Q = (sx_cat a ≤ 4 ∧ sx_T BX8_twiceSize sx_Cal (fun r n' h' kc ks => Q r n' h' ∧ kc ≤ 0 ∧ ks ≤ 0) 0 (sx_en 4 a) [] n h 0 0) := sx_C_eq ztb_X8_twiceSize a n h Q
theorem tX8_markOf_0 (Rt : sx_R) : sx_T BX8_markOf sx_Cal Rt 0 = sx_run bX8_markOf_0 sx_Cal (sx_T BX8_markOf sx_Cal Rt) Rt := sx_T_eq (fun pc => sx_BK_mon (kX8_markOf pc)) Rt 0
theorem tX8_markOf_35 (Rt : sx_R) : sx_T BX8_markOf sx_Cal Rt 35 = sx_run bX8_markOf_35 sx_Cal (sx_T BX8_markOf sx_Cal Rt) Rt := sx_T_eq (fun pc => sx_BK_mon (kX8_markOf pc)) Rt 35
theorem tX8_markOf_51 (Rt : sx_R) : sx_T BX8_markOf sx_Cal Rt 51 = sx_run bX8_markOf_51 sx_Cal (sx_T BX8_markOf sx_Cal Rt) Rt := sx_T_eq (fun pc => sx_BK_mon (kX8_markOf pc)) Rt 51
theorem tX8_markOf_53 (Rt : sx_R) : sx_T BX8_markOf sx_Cal Rt 53 = sx_run bX8_markOf_53 sx_Cal (sx_T BX8_markOf sx_Cal Rt) Rt := sx_T_eq (fun pc => sx_BK_mon (kX8_markOf pc)) Rt 53
theorem tX8_markOf_56 (Rt : sx_R) : sx_T BX8_markOf sx_Cal Rt 56 = sx_run bX8_markOf_56 sx_Cal (sx_T BX8_markOf sx_Cal Rt) Rt := sx_T_eq (fun pc => sx_BK_mon (kX8_markOf pc)) Rt 56
theorem tX8_markOf_89 (Rt : sx_R) : sx_T BX8_markOf sx_Cal Rt 89 = sx_run bX8_markOf_89 sx_Cal (sx_T BX8_markOf sx_Cal Rt) Rt := sx_T_eq (fun pc => sx_BK_mon (kX8_markOf pc)) Rt 89
theorem tX8_markOf_102 (Rt : sx_R) : sx_T BX8_markOf sx_Cal Rt 102 = sx_run bX8_markOf_102 sx_Cal (sx_T BX8_markOf sx_Cal Rt) Rt := sx_T_eq (fun pc => sx_BK_mon (kX8_markOf pc)) Rt 102
theorem tX8_markOf_105 (Rt : sx_R) : sx_T BX8_markOf sx_Cal Rt 105 = sx_run bX8_markOf_105 sx_Cal (sx_T BX8_markOf sx_Cal Rt) Rt := sx_T_eq (fun pc => sx_BK_mon (kX8_markOf pc)) Rt 105
theorem cX8_markOf_c (a : List sx_V) (n : Nat) (h : sx_H) (Q : sx_Q) : sx_Cal 188 a n h Q = (sx_cat a ≤ 4 ∧ sx_T BX8_markOf sx_Cal (fun r n' h' kc ks => Q r n' h' ∧ kc ≤ 0 ∧ ks ≤ 0) 0 (sx_en 4 a) [] n h 0 0) := sx_C_eq ztb_X8_markOf a n h Q
theorem tX8_sizeOf_0 (Rt : sx_R) : sx_T BX8_sizeOf sx_Cal Rt 0 = sx_run bX8_sizeOf_0 sx_Cal (sx_T BX8_sizeOf sx_Cal Rt) Rt := sx_T_eq (fun pc => sx_BK_mon (kX8_sizeOf pc)) Rt 0
theorem tX8_sizeOf_21 (Rt : sx_R) : sx_T BX8_sizeOf sx_Cal Rt 21 = sx_run bX8_sizeOf_21 sx_Cal (sx_T BX8_sizeOf sx_Cal Rt) Rt := sx_T_eq (fun pc => sx_BK_mon (kX8_sizeOf pc)) Rt 21
theorem tX8_sizeOf_32 (Rt : sx_R) : sx_T BX8_sizeOf sx_Cal Rt 32 = sx_run bX8_sizeOf_32 sx_Cal (sx_T BX8_sizeOf sx_Cal Rt) Rt := sx_T_eq (fun pc => sx_BK_mon (kX8_sizeOf pc)) Rt 32
theorem tX8_sizeOf_62 (Rt : sx_R) : sx_T BX8_sizeOf sx_Cal Rt 62 = sx_run bX8_sizeOf_62 sx_Cal (sx_T BX8_sizeOf sx_Cal Rt) Rt := sx_T_eq (fun pc => sx_BK_mon (kX8_sizeOf pc)) Rt 62
theorem tX8_sizeOf_63 (Rt : sx_R) : sx_T BX8_sizeOf sx_Cal Rt 63 = sx_run bX8_sizeOf_63 sx_Cal (sx_T BX8_sizeOf sx_Cal Rt) Rt := sx_T_eq (fun pc => sx_BK_mon (kX8_sizeOf pc)) Rt 63
theorem cX8_sizeOf_c (a : List sx_V) (n : Nat) (h : sx_H) (Q : sx_Q) : sx_Cal 189 a n h Q = (sx_cat a ≤ 4 ∧ sx_T BX8_sizeOf sx_Cal (fun r n' h' kc ks => Q r n' h' ∧ kc ≤ 0 ∧ ks ≤ 0) 0 (sx_en 4 a) [] n h 0 0) := sx_C_eq ztb_X8_sizeOf a n h Q
theorem tX8_ask_0 (Rt : sx_R) : sx_T BX8_ask sx_Cal Rt 0 = sx_run bX8_ask_0 sx_Cal (sx_T BX8_ask sx_Cal Rt) Rt := sx_T_eq (fun pc => sx_BK_mon (kX8_ask pc)) Rt 0
theorem tX8_ask_23 (Rt : sx_R) : sx_T BX8_ask sx_Cal Rt 23 = sx_run bX8_ask_23 sx_Cal (sx_T BX8_ask sx_Cal Rt) Rt := sx_T_eq (fun pc => sx_BK_mon (kX8_ask pc)) Rt 23
theorem tX8_ask_26 (Rt : sx_R) : sx_T BX8_ask sx_Cal Rt 26 = sx_run bX8_ask_26 sx_Cal (sx_T BX8_ask sx_Cal Rt) Rt := sx_T_eq (fun pc => sx_BK_mon (kX8_ask pc)) Rt 26
theorem tX8_ask_43 (Rt : sx_R) : sx_T BX8_ask sx_Cal Rt 43 = sx_run bX8_ask_43 sx_Cal (sx_T BX8_ask sx_Cal Rt) Rt := sx_T_eq (fun pc => sx_BK_mon (kX8_ask pc)) Rt 43
theorem tX8_ask_48 (Rt : sx_R) : sx_T BX8_ask sx_Cal Rt 48 = sx_run bX8_ask_48 sx_Cal (sx_T BX8_ask sx_Cal Rt) Rt := sx_T_eq (fun pc => sx_BK_mon (kX8_ask pc)) Rt 48
theorem cX8_ask_c (a : List sx_V) (n : Nat) (h : sx_H) (Q : sx_Q) : sx_Cal 190 a n h Q = (sx_cat a ≤ 3 ∧ sx_T BX8_ask sx_Cal (fun r n' h' kc ks => Q r n' h' ∧ kc ≤ 0 ∧ ks ≤ 0) 0 (sx_en 3 a) [] n h 0 0) := sx_C_eq ztb_X8_ask a n h Q
theorem tX8_trace_0 (Rt : sx_R) : sx_T BX8_trace sx_Cal Rt 0 = sx_run bX8_trace_0 sx_Cal (sx_T BX8_trace sx_Cal Rt) Rt := sx_T_eq (fun pc => sx_BK_mon (kX8_trace pc)) Rt 0
theorem tX8_trace_30 (Rt : sx_R) : sx_T BX8_trace sx_Cal Rt 30 = sx_run bX8_trace_30 sx_Cal (sx_T BX8_trace sx_Cal Rt) Rt := sx_T_eq (fun pc => sx_BK_mon (kX8_trace pc)) Rt 30
theorem tX8_trace_32 (Rt : sx_R) : sx_T BX8_trace sx_Cal Rt 32 = sx_run bX8_trace_32 sx_Cal (sx_T BX8_trace sx_Cal Rt) Rt := sx_T_eq (fun pc => sx_BK_mon (kX8_trace pc)) Rt 32
theorem cX8_trace_c (a : List sx_V) (n : Nat) (h : sx_H) (Q : sx_Q) : sx_Cal 191 a n h Q = (sx_cat a ≤ 2 ∧ sx_T BX8_trace sx_Cal (fun r n' h' kc ks => Q r n' h' ∧ kc ≤ 0 ∧ ks ≤ 0) 0 (sx_en 2 a) [] n h 0 0) := sx_C_eq ztb_X8_trace a n h Q
theorem tX8_setOf_0 (Rt : sx_R) : sx_T BX8_setOf sx_Cal Rt 0 = sx_run bX8_setOf_0 sx_Cal (sx_T BX8_setOf sx_Cal Rt) Rt := sx_T_eq (fun pc => sx_BK_mon (kX8_setOf pc)) Rt 0
theorem tX8_setOf_4 (Rt : sx_R) : sx_T BX8_setOf sx_Cal Rt 4 = sx_run bX8_setOf_4 sx_Cal (sx_T BX8_setOf sx_Cal Rt) Rt := sx_T_eq (fun pc => sx_BK_mon (kX8_setOf pc)) Rt 4
theorem tX8_setOf_34 (Rt : sx_R) : sx_T BX8_setOf sx_Cal Rt 34 = sx_run bX8_setOf_34 sx_Cal (sx_T BX8_setOf sx_Cal Rt) Rt := sx_T_eq (fun pc => sx_BK_mon (kX8_setOf pc)) Rt 34
theorem cX8_setOf_c (a : List sx_V) (n : Nat) (h : sx_H) (Q : sx_Q) : sx_Cal 192 a n h Q = (sx_cat a ≤ 4 ∧ sx_T BX8_setOf sx_Cal (fun r n' h' kc ks => Q r n' h' ∧ kc ≤ 0 ∧ ks ≤ 0) 0 (sx_en 4 a) [] n h 0 0) := sx_C_eq ztb_X8_setOf a n h Q
theorem tX8_count_0 (Rt : sx_R) : sx_T BX8_count sx_Cal Rt 0 = sx_run bX8_count_0 sx_Cal (sx_T BX8_count sx_Cal Rt) Rt := sx_T_eq (fun pc => sx_BK_mon (kX8_count pc)) Rt 0
theorem tX8_count_60 (Rt : sx_R) : sx_T BX8_count sx_Cal Rt 60 = sx_run bX8_count_60 sx_Cal (sx_T BX8_count sx_Cal Rt) Rt := sx_T_eq (fun pc => sx_BK_mon (kX8_count pc)) Rt 60
theorem tX8_count_62 (Rt : sx_R) : sx_T BX8_count sx_Cal Rt 62 = sx_run bX8_count_62 sx_Cal (sx_T BX8_count sx_Cal Rt) Rt := sx_T_eq (fun pc => sx_BK_mon (kX8_count pc)) Rt 62
theorem tX8_count_82 (Rt : sx_R) : sx_T BX8_count sx_Cal Rt 82 = sx_run bX8_count_82 sx_Cal (sx_T BX8_count sx_Cal Rt) Rt := sx_T_eq (fun pc => sx_BK_mon (kX8_count pc)) Rt 82
theorem tX8_count_83 (Rt : sx_R) : sx_T BX8_count sx_Cal Rt 83 = sx_run bX8_count_83 sx_Cal (sx_T BX8_count sx_Cal Rt) Rt := sx_T_eq (fun pc => sx_BK_mon (kX8_count pc)) Rt 83
theorem tX8_count_91 (Rt : sx_R) : sx_T BX8_count sx_Cal Rt 91 = sx_run bX8_count_91 sx_Cal (sx_T BX8_count sx_Cal Rt) Rt := sx_T_eq (fun pc => sx_BK_mon (kX8_count pc)) Rt 91
theorem tX8_count_93 (Rt : sx_R) : sx_T BX8_count sx_Cal Rt 93 = sx_run bX8_count_93 sx_Cal (sx_T BX8_count sx_Cal Rt) Rt := sx_T_eq (fun pc => sx_BK_mon (kX8_count pc)) Rt 93
theorem tX8_count_100 (Rt : sx_R) : sx_T BX8_count sx_Cal Rt 100 = sx_run bX8_count_100 sx_Cal (sx_T BX8_count sx_Cal Rt) Rt := sx_T_eq (fun pc => sx_BK_mon (kX8_count pc)) Rt 100
theorem tX8_count_107 (Rt : sx_R) : sx_T BX8_count sx_Cal Rt 107 = sx_run bX8_count_107 sx_Cal (sx_T BX8_count sx_Cal Rt) Rt := sx_T_eq (fun pc => sx_BK_mon (kX8_count pc)) Rt 107
theorem tX8_count_114 (Rt : sx_R) : sx_T BX8_count sx_Cal Rt 114 = sx_run bX8_count_114 sx_Cal (sx_T BX8_count sx_Cal Rt) Rt := sx_T_eq (fun pc => sx_BK_mon (kX8_count pc)) Rt 114
theorem tX8_count_121 (Rt : sx_R) : sx_T BX8_count sx_Cal Rt 121 = sx_run bX8_count_121 sx_Cal (sx_T BX8_count sx_Cal Rt) Rt := sx_T_eq (fun pc => sx_BK_mon (kX8_count pc)) Rt 121
theorem tX8_count_128 (Rt : sx_R) : sx_T BX8_count sx_Cal Rt 128 = sx_run bX8_count_128 sx_Cal (sx_T BX8_count sx_Cal Rt) Rt := sx_T_eq (fun pc => sx_BK_mon (kX8_count pc)) Rt 128
theorem tX8_count_134 (Rt : sx_R) : sx_T BX8_count sx_Cal Rt 134 = sx_run bX8_count_134 sx_Cal (sx_T BX8_count sx_Cal Rt) Rt := sx_T_eq (fun pc => sx_BK_mon (kX8_count pc)) Rt 134
theorem tX8_count_139 (Rt : sx_R) : sx_T BX8_count sx_Cal Rt 139 = sx_run bX8_count_139 sx_Cal (sx_T BX8_count sx_Cal Rt) Rt := sx_T_eq (fun pc => sx_BK_mon (kX8_count pc)) Rt 139
theorem tX8_count_144 (Rt : sx_R) : sx_T BX8_count sx_Cal Rt 144 = sx_run bX8_count_144 sx_Cal (sx_T BX8_count sx_Cal Rt) Rt := sx_T_eq (fun pc => sx_BK_mon (kX8_count pc)) Rt 144
theorem cX8_count_c (a : List sx_V) (n : Nat) (h : sx_H) (Q : sx_Q) : sx_Cal 193 a n h Q = (sx_cat a ≤ 4 ∧ sx_T BX8_count sx_Cal (fun r n' h' kc ks => Q r n' h' ∧ kc ≤ 0 ∧ ks ≤ 0) 0 (sx_en 4 a) [] n h 0 0) := sx_C_eq ztb_X8_count a n h Q
theorem tX8_status_0 (Rt : sx_R) : sx_T BX8_status sx_Cal Rt 0 = sx_run bX8_status_0 sx_Cal (sx_T BX8_status sx_Cal Rt) Rt := sx_T_eq (fun pc => sx_BK_mon (kX8_status pc)) Rt 0
theorem cX8_status_c (a : List sx_V) (n : Nat) (h : sx_H) (Q : sx_Q) : sx_Cal 194 a n h Q = (sx_cat a ≤ 1 ∧ sx_T BX8_status sx_Cal (fun r n' h' kc ks => Q r n' h' ∧ kc ≤ 0 ∧ ks ≤ 0) 0 (sx_en 1 a) [] n h 0 0) := sx_C_eq ztb_X8_status a n h Q
theorem tJ6_bitCount_0f7a4_0 (Rt : sx_R) : sx_T BJ6_bitCount_0f7a4 sx_Cal Rt 0 = sx_run bJ6_bitCount_0f7a4_0 sx_Cal (sx_T BJ6_bitCount_0f7a4 sx_Cal Rt) Rt := sx_T_eq (fun pc => sx_BK_mon (kJ6_bitCount_0f7a4 pc)) Rt 0
theorem cJ6_bitCount_0f7a4_c (a : List sx_V) (n : Nat) (h : sx_H) (Q : sx_Q) : sx_Cal 195 a n h Q = (sx_cat a ≤ 1 ∧ sx_T BJ6_bitCount_0f7a4 sx_Cal (fun r n' h' kc ks => Q r n' h' ∧ kc ≤ 0 ∧ ks ≤ 0) 0 (sx_en 1 a) [] n h 0 0) := sx_C_eq ztb_J6_bitCount_0f7a4 a n h Q
