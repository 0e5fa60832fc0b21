theorem sx_aft {n n' nL : Nat} {ad ad' : Nat → Nat} {ls : sx_L} {st : List sx_V} {arr : Array Slot} (hwf : n' = n ∨ sx_wl n ls st) (hex : n ≤ n' ∧ (n' = n → ad' = ad) ∧ sx_ag n ad ad') (hL : sx_LO ad nL ls arr) : sx_LO ad' nL ls arr ∧ st.map (sx_cv ad') = st.map (sx_cv ad) := by
  rcases hwf with h | h
  · rw [hex.2.1 h]; exact ⟨hL, rfl⟩
  · exact ⟨hL.ag hex.2.2 h.1, sx_st_ag hex.2.2 h.2⟩
theorem sx_ag2 {n0 n n' : Nat} {ad ad' ad0 : Nat → Nat} (hn : n0 ≤ n) (hex : n ≤ n' ∧ (n' = n → ad' = ad) ∧ sx_ag n ad ad') (h : ∀ k, (k < n0 ∨ k = sx_sc) → ad k = ad0 k) : ∀ k, (k < n0 ∨ k = sx_sc) → ad' k = ad0 k := fun k hk =>
  (hex.2.2 k (hk.imp (fun q => by omega) id)).trans (h k hk)
theorem sx_hz2 {n0 n n' : Nat} {ad ad' ad0 : Nat → Nat} (hn : n0 ≤ n) (hex : n ≤ n' ∧ (n' = n → ad' = ad) ∧ sx_ag n ad ad') (h : n = n0 → ad = ad0) : n' = n0 → ad' = ad0 := fun q =>
  (hex.2.1 (by have := hex.1; omega)).trans (h (by have := hex.1; omega))
theorem sx_fr {A : Nat → Prop} {ws : va_W} {H0 H : Heap} {locs : List Loc} (hD : va_D A ws) (hS : va_S A H0 H locs) (hA : ∀ q, H0.size ≤ q → A q) : ∀ q, va_A ws H.size q → A q := by
  rintro q (⟨k, e, h⟩ | h)
  · exact hD.2 k _ h
  · exact hA q (Nat.le_trans hS.1 h)
theorem sx_bl {av : List Value} {D : va_G} {aC : Nat → ClassId} {ws ws' : va_W} {sz : Nat} {B : Nat → Prop} : FrameBlind (va_Pc av (fun U => U.heap.size = sz ∧ va_P D vwCl ws U.heap ∧ sx_KK D aC U ∧ va_D B ws')) := fun a U g mk q => by
  obtain ⟨q0, q1, qP, qK, qD⟩ := q
  exact ⟨q0, q1, qP, sx_KK.moved (u := U) (U := U.calling g mk a) (Vm.Alike.refl U.vm) qK, qD⟩
section SXC
variable {tb : List sx_M} {own : String} {cc : ByteArray} {nL : Nat} {ret : Option FieldType} {R : Room} {ct lw : Bool} {L : Nat} {xs : Nat → Int32} {pc : Nat}
theorem sn_cs_v {mi k idx mc ms mL : Nat} {y : MethodName} {bs : ByteArray} {rm : Room} (htb : tb[mi]? = some (y, bs, mL, none, rm)) (hd : decode cc pc = .ok (.invokestatic idx, 3)) (hw1 : Cond.methodLink own idx y ∈ sx_U) (hw2 : Cond.static y ∈ sx_U) (hw3 : Cond.initialized y.cls ∈ sx_U) (hw4 : Cond.code y bs mL none ∈ sx_U) (hmh : y.cls ≠ "java/lang/invoke/MethodHandle" ∧ y.cls ≠ "java/lang/invoke/VarHandle") (hpd : (parseMethodDescriptor y.desc).map (fun d => d.parameters.length) = some k) (hr1 : rm.frames + 1 ≤ R.frames) (hr2 : 8 + (mL + 11) + rm.locals ≤ R.locals) (hmc : rm.cells = mc) (hms : rm.slots = ms) : sx_I tb own cc nL ret R ct lw L xs pc 3 (si_cs mi k mc ms R.cells R.slots) := by
  intro C p l e s m args below meth c D aC A n0 ad0 Q F J Rt hC hX hR hF hJ ls st n h kc ks hh
  obtain ⟨hx, hb, hml, hown, hts, hK, hA, hct, hlw⟩ := id hX
  subst hmc; subst hms
  unfold si_cs at hh
  split at hh
  · rename_i a st' etk
    obtain ⟨h1, h2, h3, hcall⟩ := hh
    refine fun ad H locs arr hn hz hag hL hP hD hS => ?_
    obtain ⟨etk1, etk2⟩ := sx_tk_eq _ _ _ _ _ etk
    have hM : Met l y (sx_ws (y, bs, mL, none, rm)) rm (va_Pc (a.map (sx_cv ad)) (fun U => U.heap.size = H.size ∧ va_P D vwCl (sx_w aC ad n h) U.heap ∧ sx_KK D aC U ∧ va_D (fun _ => True) (sx_w aC ad n h))) (va_Qv (fun u : Nat × sx_H × (Nat → Nat) => (fun r n' h' => (n' = n ∨ sx_wl n ls st') ∧ F ls (sx_ps r st') n' h' (kc + rm.cells) (ks + rm.slots)) none u.1 u.2.1 ∧ sx_ex n ad u) (sx_B D aC (va_A (sx_w aC ad n h) H.size)) (va_A (sx_w aC ad n h) H.size)) rm.cells rm.slots (va_A (sx_w aC ad n h) H.size) := hC mi _ _ n h _ htb hcall D aC ad H.size
    have hFc : ∀ q, va_A (sx_w aC ad n h) H.size q → A q := sx_fr hD hS hA
    have hs : st.map (sx_cv ad) = (a.map (sx_cv ad)).reverse ++ st'.map (sx_cv ad) := by
      have e : st = a.reverse ++ st' := by simpa using etk1.symm
      rw [e, List.map_append, List.map_reverse]
    have hrun := va_runS (As := a.map (sx_cv ad)) (rest := st'.map (sx_cv ad)) (g := F0 m pc arr (st.map (sx_cv ad))) (nL := nL) (Ts := sx_U) (own := own) (cells := kc) (slots := ks) (e := e) (R := R) (s := s) (args := args) (below := below) (meth := meth) (locs := locs) (H := H) ⟨hx, hb, hml, hown, hts⟩ hM (va_cwS k hts (sx_gi (by
      intro w hw
      simp only [va_wsS, sx_ws, List.cons_append, List.nil_append, List.mem_cons] at hw
      rcases hw with rfl | rfl | rfl | rfl | hw
      · exact hw1
      · exact hw2
      · exact hw3
      · exact hw4
      · exact hw)) rfl rfl rfl ⟨hmh.1, hmh.2, hpd⟩ ⟨hr1, hr2⟩) ⟨sx_bl, fun U hU hW => ⟨rfl, by rw [hU], by rw [hU]; exact hP, hK.moved hW.alike, hD.weaken (fun _ _ _ _ => trivial)⟩⟩ rfl (by simpa using etk2) hL.2.1 hs (lv_room (by rw [sx_cat_eq]; exact h1)) hd ⟨h2, h3⟩
    refine va_callv hrun hS (fun q _ hq => hFc q hq) hFc (fun u t H1 locs1 ht hvm hpost hB hz1 hk1 hS1 => ?_)
    obtain ⟨⟨hwf, hF'⟩, hex⟩ := hpost
    obtain ⟨g1, g2⟩ := sx_aft hwf hex hL
    have gg := hF _ _ _ _ _ _ hF' u.2.2 H1 locs1 arr (Nat.le_trans hn hex.1) (sx_hz2 hn hex hz) (sx_ag2 hn hex hag) g1 (by rw [← ht]; exact hB.1) (hB.2.2.weaken (fun k q _ hq => hFc q.1 hq)) hS1
    simp only [sx_ps, List.map_cons, g2] at gg
    exact gg
  · exact hh.elim
theorem sn_cv_v {mi k idx mc ms mL : Nat} {y : MethodName} {bs : ByteArray} {rm : Room} (htb : tb[mi]? = some (y, bs, mL, none, rm)) {ci N : Nat} {CN : String} {T : u_T} (hd : decode cc pc = .ok (.invokevirtual idx, 3)) (hc : vwCl[ci]? = some (CN, T, N)) (hyc : y.cls = CN) (hw1 : Cond.methodLink own idx y ∈ sx_U) (hw2 : Cond.instanceMethod y ∈ sx_U) (hw5 : Cond.selects CN y y ∈ sx_U) (hw3 : Cond.initialized CN ∈ sx_U) (hw4 : Cond.code y bs mL none ∈ sx_U) (hmh : y.cls ≠ "java/lang/invoke/MethodHandle" ∧ y.cls ≠ "java/lang/invoke/VarHandle") (hpd : (parseMethodDescriptor y.desc).map (fun d => d.parameters.length) = some k) (hr1 : rm.frames + 1 ≤ R.frames) (hr2 : 8 + (mL + 11) + rm.locals ≤ R.locals) (hmc : rm.cells = mc) (hms : rm.slots = ms) : sx_I tb own cc nL ret R ct lw L xs pc 3 (si_cv ci mi k mc ms R.cells R.slots) := by
  intro C p l e s m args below meth c D aC A n0 ad0 Q F J Rt hC hX hR hF hJ ls st n h kc ks hh
  obtain ⟨hx, hb, hml, hown, hts, hK, hA, hct, hlw⟩ := id hX
  subst hmc; subst hms
  unfold si_cv at hh
  split at hh
  · rename_i b a st' etk
    obtain ⟨⟨fs, eb⟩, hbn, h1, h2, h3, hcall⟩ := hh
    refine fun ad H locs arr hn hz hag hL hP hD hS => ?_
    obtain ⟨etk1, etk2⟩ := sx_tk_eq _ _ _ _ _ etk
    have hM : Met l y (sx_ws (y, bs, mL, none, rm)) rm (va_Pc ((sx_r (some b) :: a).map (sx_cv ad)) (fun U => U.heap.size = H.size ∧ va_P D vwCl (sx_w aC ad n h) U.heap ∧ sx_KK D aC U ∧ va_D (fun _ => True) (sx_w aC ad n h))) (va_Qv (fun u : Nat × sx_H × (Nat → Nat) => (fun r n' h' => (n' = n ∨ sx_wl n ls st') ∧ F ls (sx_ps r st') n' h' (kc + rm.cells) (ks + rm.slots)) none u.1 u.2.1 ∧ sx_ex n ad u) (sx_B D aC (va_A (sx_w aC ad n h) H.size)) (va_A (sx_w aC ad n h) H.size)) rm.cells rm.slots (va_A (sx_w aC ad n h) H.size) := hC mi _ _ n h _ htb hcall D aC ad H.size
    have hFc : ∀ q, va_A (sx_w aC ad n h) H.size q → A q := sx_fr hD hS hA
    have hs : st.map (sx_cv ad) = (a.map (sx_cv ad)).reverse ++ .ref (ad b) :: st'.map (sx_cv ad) := by
      have e : st = a.reverse ++ sx_r (some b) :: st' := by simpa using etk1.symm
      rw [e, List.map_append, List.map_reverse]
      rfl
    have hrun := va_runV (As := a.map (sx_cv ad)) (b := ad b) (C := CN) (rest := st'.map (sx_cv ad)) (g := F0 m pc arr (st.map (sx_cv ad))) (nL := nL) (Ts := sx_U) (own := own) (cells := kc) (slots := ks) (e := e) (R := R) (s := s) (args := args) (below := below) (meth := meth) (locs := locs) (H := H) ⟨hx, hb, hml, hown, hts⟩ hM (cwV k hts (sx_gi (by
      intro w hw
      simp only [wsV, sx_ws, List.cons_append, List.nil_append, List.mem_cons] at hw
      rcases hw with rfl | rfl | rfl | rfl | rfl | hw
      · exact hw1
      · exact hw2
      · exact hw5
      · exact hw3
      · exact hw4
      · exact hw)) rfl rfl rfl ⟨hyc, hmh.1, hmh.2, hpd⟩ ⟨hr1, hr2⟩) ⟨sx_bl, va_recv hK.1 hP hc (sx_at_o hbn eb), fun U hU hW => ⟨rfl, by rw [hU], by rw [hU]; exact hP, hK.moved hW.alike, hD.weaken (fun _ _ _ _ => trivial)⟩⟩ rfl (by simp at etk2 ⊢; omega) hL.2.1 hs (lv_room (by rw [sx_cat_eq]; exact h1)) hd ⟨h2, h3⟩
    refine va_callv hrun hS (fun q _ hq => hFc q hq) hFc (fun u t H1 locs1 ht hvm hpost hB hz1 hk1 hS1 => ?_)
    obtain ⟨⟨hwf, hF'⟩, hex⟩ := hpost
    obtain ⟨g1, g2⟩ := sx_aft hwf hex hL
    have gg := hF _ _ _ _ _ _ hF' u.2.2 H1 locs1 arr (Nat.le_trans hn hex.1) (sx_hz2 hn hex hz) (sx_ag2 hn hex hag) g1 (by rw [← ht]; exact hB.1) (hB.2.2.weaken (fun k q _ hq => hFc q.1 hq)) hS1
    simp only [sx_ps, List.map_cons, g2] at gg
    exact gg
  · exact hh.elim
theorem sn_ci_v {mi k idx mc ms mL : Nat} {y : MethodName} {bs : ByteArray} {rm : Room} (htb : tb[mi]? = some (y, bs, mL, none, rm)) (hd : decode cc pc = .ok (.invokespecial idx, 3)) (hy1 : y.name = "<init>") (hw1 : Cond.methodLink own idx y ∈ sx_U) (hw2 : Cond.instanceMethod y ∈ sx_U) (hw3 : Cond.initialized y.cls ∈ sx_U) (hw4 : Cond.code y bs mL none ∈ sx_U) (hmh : y.cls ≠ "java/lang/invoke/MethodHandle" ∧ y.cls ≠ "java/lang/invoke/VarHandle") (hpd : (parseMethodDescriptor y.desc).map (fun d => d.parameters.length) = some k) (hr1 : rm.frames + 1 ≤ R.frames) (hr2 : 8 + (mL + 11) + rm.locals ≤ R.locals) (hmc : rm.cells = mc) (hms : rm.slots = ms) : sx_I tb own cc nL ret R ct lw L xs pc 3 (si_ci mi k mc ms R.cells R.slots) := by
  intro C p l e s m args below meth c D aC A n0 ad0 Q F J Rt hC hX hR hF hJ ls st n h kc ks hh
  obtain ⟨hx, hb, hml, hown, hts, hK, hA, hct, hlw⟩ := id hX
  subst hmc; subst hms
  unfold si_ci at hh
  split at hh
  · rename_i b a st' etk
    obtain ⟨h1, h2, h3, hcall⟩ := hh
    refine fun ad H locs arr hn hz hag hL hP hD hS => ?_
    obtain ⟨etk1, etk2⟩ := sx_tk_eq _ _ _ _ _ etk
    have hM : Met l y (sx_ws (y, bs, mL, none, rm)) rm (va_Pc ((sx_r (some b) :: a).map (sx_cv ad)) (fun U => U.heap.size = H.size ∧ va_P D vwCl (sx_w aC ad n h) U.heap ∧ sx_KK D aC U ∧ va_D (fun _ => True) (sx_w aC ad n h))) (va_Qv (fun u : Nat × sx_H × (Nat → Nat) => (fun r n' h' => (n' = n ∨ sx_wl n ls st') ∧ F ls (sx_ps r st') n' h' (kc + rm.cells) (ks + rm.slots)) none u.1 u.2.1 ∧ sx_ex n ad u) (sx_B D aC (va_A (sx_w aC ad n h) H.size)) (va_A (sx_w aC ad n h) H.size)) rm.cells rm.slots (va_A (sx_w aC ad n h) H.size) := hC mi _ _ n h _ htb hcall D aC ad H.size
    have hFc : ∀ q, va_A (sx_w aC ad n h) H.size q → A q := sx_fr hD hS hA
    have hs : st.map (sx_cv ad) = (a.map (sx_cv ad)).reverse ++ .ref (ad b) :: st'.map (sx_cv ad) := by
      have e : st = a.reverse ++ sx_r (some b) :: st' := by simpa using etk1.symm
      rw [e, List.map_append, List.map_reverse]
      rfl
    have hrun := va_runI (As := a.map (sx_cv ad)) (b := ad b) (rest := st'.map (sx_cv ad)) (g := F0 m pc arr (st.map (sx_cv ad))) (nL := nL) (Ts := sx_U) (own := own) (cells := kc) (slots := ks) (e := e) (R := R) (s := s) (args := args) (below := below) (meth := meth) (locs := locs) (H := H) ⟨hx, hb, hml, hown, hts⟩ hM (cwI k hts (sx_gi (by
      intro w hw
      simp only [sx_ws, List.mem_cons] at hw
      rcases hw with rfl | hw
      · exact hw4
      · exact hw)) rfl rfl rfl (hts _ hw3) (hts _ hw1) (hts _ hw2) hy1 ⟨hmh.1, hmh.2, hpd⟩ ⟨hr1, hr2⟩) ⟨sx_bl, fun U hU hW => ⟨rfl, by rw [hU], by rw [hU]; exact hP, hK.moved hW.alike, hD.weaken (fun _ _ _ _ => trivial)⟩⟩ rfl (by simp at etk2 ⊢; omega) hL.2.1 hs (lv_room (by rw [sx_cat_eq]; exact h1)) hd ⟨h2, h3⟩
    refine va_callv hrun hS (fun q _ hq => hFc q hq) hFc (fun u t H1 locs1 ht hvm hpost hB hz1 hk1 hS1 => ?_)
    obtain ⟨⟨hwf, hF'⟩, hex⟩ := hpost
    obtain ⟨g1, g2⟩ := sx_aft hwf hex hL
    have gg := hF _ _ _ _ _ _ hF' u.2.2 H1 locs1 arr (Nat.le_trans hn hex.1) (sx_hz2 hn hex hz) (sx_ag2 hn hex hag) g1 (by rw [← ht]; exact hB.1) (hB.2.2.weaken (fun k q _ hq => hFc q.1 hq)) hS1
    simp only [sx_ps, List.map_cons, g2] at gg
    exact gg
  · exact hh.elim
theorem sn_cs_l {mi k idx mc ms mL : Nat} {y : MethodName} {bs : ByteArray} {rm : Room} (htb : tb[mi]? = some (y, bs, mL, some .long, rm)) (hd : decode cc pc = .ok (.invokestatic idx, 3)) (hw1 : Cond.methodLink own idx y ∈ sx_U) (hw2 : Cond.static y ∈ sx_U) (hw3 : Cond.initialized y.cls ∈ sx_U) (hw4 : Cond.code y bs mL (some .long) ∈ sx_U) (hmh : y.cls ≠ "java/lang/invoke/MethodHandle" ∧ y.cls ≠ "java/lang/invoke/VarHandle") (hpd : (parseMethodDescriptor y.desc).map (fun d => d.parameters.length) = some k) (hr1 : rm.frames + 1 ≤ R.frames) (hr2 : 8 + (mL + 11) + rm.locals ≤ R.locals) (hmc : rm.cells = mc) (hms : rm.slots = ms) : sx_I tb own cc nL ret R ct lw L xs pc 3 (si_cs mi k mc ms R.cells R.slots) := by
  intro C p l e s m args below meth c D aC A n0 ad0 Q F J Rt hC hX hR hF hJ ls st n h kc ks hh
  obtain ⟨hx, hb, hml, hown, hts, hK, hA, hct, hlw⟩ := id hX
  subst hmc; subst hms
  unfold si_cs at hh
  split at hh
  · rename_i a st' etk
    obtain ⟨h1, h2, h3, hcall⟩ := hh
    refine fun ad H locs arr hn hz hag hL hP hD hS => ?_
    obtain ⟨etk1, etk2⟩ := sx_tk_eq _ _ _ _ _ etk
    have hM : Met l y (sx_ws (y, bs, mL, some .long, rm)) rm (va_Pc (a.map (sx_cv ad)) (fun U => U.heap.size = H.size ∧ va_P D vwCl (sx_w aC ad n h) U.heap ∧ sx_KK D aC U ∧ va_D (fun _ => True) (sx_w aC ad n h))) (va_Ql (fun (r : Int64) (u : Nat × sx_H × (Nat → Nat)) => (fun r n' h' => (n' = n ∨ sx_wl n ls st') ∧ F ls (sx_ps r st') n' h' (kc + rm.cells) (ks + rm.slots)) (some (sx_l r)) u.1 u.2.1 ∧ sx_ex n ad u) (sx_B D aC (va_A (sx_w aC ad n h) H.size)) (va_A (sx_w aC ad n h) H.size)) rm.cells rm.slots (va_A (sx_w aC ad n h) H.size) := hC mi _ _ n h _ htb hcall D aC ad H.size
    have hFc : ∀ q, va_A (sx_w aC ad n h) H.size q → A q := sx_fr hD hS hA
    have hs : st.map (sx_cv ad) = (a.map (sx_cv ad)).reverse ++ st'.map (sx_cv ad) := by
      have e : st = a.reverse ++ st' := by simpa using etk1.symm
      rw [e, List.map_append, List.map_reverse]
    have hrun := va_runS (As := a.map (sx_cv ad)) (rest := st'.map (sx_cv ad)) (g := F0 m pc arr (st.map (sx_cv ad))) (nL := nL) (Ts := sx_U) (own := own) (cells := kc) (slots := ks) (e := e) (R := R) (s := s) (args := args) (below := below) (meth := meth) (locs := locs) (H := H) ⟨hx, hb, hml, hown, hts⟩ hM (va_cwS k hts (sx_gi (by
      intro w hw
      simp only [va_wsS, sx_ws, List.cons_append, List.nil_append, List.mem_cons] at hw
      rcases hw with rfl | rfl | rfl | rfl | hw
      · exact hw1
      · exact hw2
      · exact hw3
      · exact hw4
      · exact hw)) rfl rfl rfl ⟨hmh.1, hmh.2, hpd⟩ ⟨hr1, hr2⟩) ⟨sx_bl, fun U hU hW => ⟨rfl, by rw [hU], by rw [hU]; exact hP, hK.moved hW.alike, hD.weaken (fun _ _ _ _ => trivial)⟩⟩ rfl (by simpa using etk2) hL.2.1 hs (lv_room (by rw [sx_cat_eq]; exact h1)) hd ⟨h2, h3⟩
    refine va_calll hrun hS (fun q _ hq => hFc q hq) hFc (fun r u t H1 locs1 ht hvm hpost hB hz1 hk1 hS1 => ?_)
    obtain ⟨⟨hwf, hF'⟩, hex⟩ := hpost
    obtain ⟨g1, g2⟩ := sx_aft hwf hex hL
    have gg := hF _ _ _ _ _ _ hF' u.2.2 H1 locs1 arr (Nat.le_trans hn hex.1) (sx_hz2 hn hex hz) (sx_ag2 hn hex hag) g1 (by rw [← ht]; exact hB.1) (hB.2.2.weaken (fun k q _ hq => hFc q.1 hq)) hS1
    simp only [sx_ps, List.map_cons, g2] at gg
    exact gg
  · exact hh.elim
theorem sn_cv_l {mi k idx mc ms mL : Nat} {y : MethodName} {bs : ByteArray} {rm : Room} (htb : tb[mi]? = some (y, bs, mL, some .long, rm)) {ci N : Nat} {CN : String} {T : u_T} (hd : decode cc pc = .ok (.invokevirtual idx, 3)) (hc : vwCl[ci]? = some (CN, T, N)) (hyc : y.cls = CN) (hw1 : Cond.methodLink own idx y ∈ sx_U) (hw2 : Cond.instanceMethod y ∈ sx_U) (hw5 : Cond.selects CN y y ∈ sx_U) (hw3 : Cond.initialized CN ∈ sx_U) (hw4 : Cond.code y bs mL (some .long) ∈ sx_U) (hmh : y.cls ≠ "java/lang/invoke/MethodHandle" ∧ y.cls ≠ "java/lang/invoke/VarHandle") (hpd : (parseMethodDescriptor y.desc).map (fun d => d.parameters.length) = some k) (hr1 : rm.frames + 1 ≤ R.frames) (hr2 : 8 + (mL + 11) + rm.locals ≤ R.locals) (hmc : rm.cells = mc) (hms : rm.slots = ms) : sx_I tb own cc nL ret R ct lw L xs pc 3 (si_cv ci mi k mc ms R.cells R.slots) := by
  intro C p l e s m args below meth c D aC A n0 ad0 Q F J Rt hC hX hR hF hJ ls st n h kc ks hh
  obtain ⟨hx, hb, hml, hown, hts, hK, hA, hct, hlw⟩ := id hX
  subst hmc; subst hms
  unfold si_cv at hh
  split at hh
  · rename_i b a st' etk
    obtain ⟨⟨fs, eb⟩, hbn, h1, h2, h3, hcall⟩ := hh
    refine fun ad H locs arr hn hz hag hL hP hD hS => ?_
    obtain ⟨etk1, etk2⟩ := sx_tk_eq _ _ _ _ _ etk
    have hM : Met l y (sx_ws (y, bs, mL, some .long, rm)) rm (va_Pc ((sx_r (some b) :: a).map (sx_cv ad)) (fun U => U.heap.size = H.size ∧ va_P D vwCl (sx_w aC ad n h) U.heap ∧ sx_KK D aC U ∧ va_D (fun _ => True) (sx_w aC ad n h))) (va_Ql (fun (r : Int64) (u : Nat × sx_H × (Nat → Nat)) => (fun r n' h' => (n' = n ∨ sx_wl n ls st') ∧ F ls (sx_ps r st') n' h' (kc + rm.cells) (ks + rm.slots)) (some (sx_l r)) u.1 u.2.1 ∧ sx_ex n ad u) (sx_B D aC (va_A (sx_w aC ad n h) H.size)) (va_A (sx_w aC ad n h) H.size)) rm.cells rm.slots (va_A (sx_w aC ad n h) H.size) := hC mi _ _ n h _ htb hcall D aC ad H.size
    have hFc : ∀ q, va_A (sx_w aC ad n h) H.size q → A q := sx_fr hD hS hA
    have hs : st.map (sx_cv ad) = (a.map (sx_cv ad)).reverse ++ .ref (ad b) :: st'.map (sx_cv ad) := by
      have e : st = a.reverse ++ sx_r (some b) :: st' := by simpa using etk1.symm
      rw [e, List.map_append, List.map_reverse]
      rfl
    have hrun := va_runV (As := a.map (sx_cv ad)) (b := ad b) (C := CN) (rest := st'.map (sx_cv ad)) (g := F0 m pc arr (st.map (sx_cv ad))) (nL := nL) (Ts := sx_U) (own := own) (cells := kc) (slots := ks) (e := e) (R := R) (s := s) (args := args) (below := below) (meth := meth) (locs := locs) (H := H) ⟨hx, hb, hml, hown, hts⟩ hM (cwV k hts (sx_gi (by
      intro w hw
      simp only [wsV, sx_ws, List.cons_append, List.nil_append, List.mem_cons] at hw
      rcases hw with rfl | rfl | rfl | rfl | rfl | hw
      · exact hw1
      · exact hw2
      · exact hw5
      · exact hw3
      · exact hw4
      · exact hw)) rfl rfl rfl ⟨hyc, hmh.1, hmh.2, hpd⟩ ⟨hr1, hr2⟩) ⟨sx_bl, va_recv hK.1 hP hc (sx_at_o hbn eb), fun U hU hW => ⟨rfl, by rw [hU], by rw [hU]; exact hP, hK.moved hW.alike, hD.weaken (fun _ _ _ _ => trivial)⟩⟩ rfl (by simp at etk2 ⊢; omega) hL.2.1 hs (lv_room (by rw [sx_cat_eq]; exact h1)) hd ⟨h2, h3⟩
    refine va_calll hrun hS (fun q _ hq => hFc q hq) hFc (fun r u t H1 locs1 ht hvm hpost hB hz1 hk1 hS1 => ?_)
    obtain ⟨⟨hwf, hF'⟩, hex⟩ := hpost
    obtain ⟨g1, g2⟩ := sx_aft hwf hex hL
    have gg := hF _ _ _ _ _ _ hF' u.2.2 H1 locs1 arr (Nat.le_trans hn hex.1) (sx_hz2 hn hex hz) (sx_ag2 hn hex hag) g1 (by rw [← ht]; exact hB.1) (hB.2.2.weaken (fun k q _ hq => hFc q.1 hq)) hS1
    simp only [sx_ps, List.map_cons, g2] at gg
    exact gg
  · exact hh.elim
theorem sn_cs_i {mi k idx mc ms mL : Nat} {y : MethodName} {bs : ByteArray} {rm : Room} (htb : tb[mi]? = some (y, bs, mL, some .int, rm)) (hd : decode cc pc = .ok (.invokestatic idx, 3)) (hw1 : Cond.methodLink own idx y ∈ sx_U) (hw2 : Cond.static y ∈ sx_U) (hw3 : Cond.initialized y.cls ∈ sx_U) (hw4 : Cond.code y bs mL (some .int) ∈ sx_U) (hmh : y.cls ≠ "java/lang/invoke/MethodHandle" ∧ y.cls ≠ "java/lang/invoke/VarHandle") (hpd : (parseMethodDescriptor y.desc).map (fun d => d.parameters.length) = some k) (hr1 : rm.frames + 1 ≤ R.frames) (hr2 : 8 + (mL + 11) + rm.locals ≤ R.locals) (hmc : rm.cells = mc) (hms : rm.slots = ms) : sx_I tb own cc nL ret R ct lw L xs pc 3 (si_cs mi k mc ms R.cells R.slots) := by
  intro C p l e s m args below meth c D aC A n0 ad0 Q F J Rt hC hX hR hF hJ ls st n h kc ks hh
  obtain ⟨hx, hb, hml, hown, hts, hK, hA, hct, hlw⟩ := id hX
  subst hmc; subst hms
  unfold si_cs at hh
  split at hh
  · rename_i a st' etk
    obtain ⟨h1, h2, h3, hcall⟩ := hh
    refine fun ad H locs arr hn hz hag hL hP hD hS => ?_
    obtain ⟨etk1, etk2⟩ := sx_tk_eq _ _ _ _ _ etk
    have hM : Met l y (sx_ws (y, bs, mL, some .int, rm)) rm (va_Pc (a.map (sx_cv ad)) (fun U => U.heap.size = H.size ∧ va_P D vwCl (sx_w aC ad n h) U.heap ∧ sx_KK D aC U ∧ va_D (fun _ => True) (sx_w aC ad n h))) (va_Qi (fun (r : Int32) (u : Nat × sx_H × (Nat → Nat)) => (fun r n' h' => (n' = n ∨ sx_wl n ls st') ∧ F ls (sx_ps r st') n' h' (kc + rm.cells) (ks + rm.slots)) (some (sx_i r)) u.1 u.2.1 ∧ sx_ex n ad u) (sx_B D aC (va_A (sx_w aC ad n h) H.size)) (va_A (sx_w aC ad n h) H.size)) rm.cells rm.slots (va_A (sx_w aC ad n h) H.size) := hC mi _ _ n h _ htb hcall D aC ad H.size
    have hFc : ∀ q, va_A (sx_w aC ad n h) H.size q → A q := sx_fr hD hS hA
    have hs : st.map (sx_cv ad) = (a.map (sx_cv ad)).reverse ++ st'.map (sx_cv ad) := by
      have e : st = a.reverse ++ st' := by simpa using etk1.symm
      rw [e, List.map_append, List.map_reverse]
    have hrun := va_runS (As := a.map (sx_cv ad)) (rest := st'.map (sx_cv ad)) (g := F0 m pc arr (st.map (sx_cv ad))) (nL := nL) (Ts := sx_U) (own := own) (cells := kc) (slots := ks) (e := e) (R := R) (s := s) (args := args) (below := below) (meth := meth) (locs := locs) (H := H) ⟨hx, hb, hml, hown, hts⟩ hM (va_cwS k hts (sx_gi (by
      intro w hw
      simp only [va_wsS, sx_ws, List.cons_append, List.nil_append, List.mem_cons] at hw
      rcases hw with rfl | rfl | rfl | rfl | hw
      · exact hw1
      · exact hw2
      · exact hw3
      · exact hw4
      · exact hw)) rfl rfl rfl ⟨hmh.1, hmh.2, hpd⟩ ⟨hr1, hr2⟩) ⟨sx_bl, fun U hU hW => ⟨rfl, by rw [hU], by rw [hU]; exact hP, hK.moved hW.alike, hD.weaken (fun _ _ _ _ => trivial)⟩⟩ rfl (by simpa using etk2) hL.2.1 hs (lv_room (by rw [sx_cat_eq]; exact h1)) hd ⟨h2, h3⟩
    refine va_calli hrun hS (fun q _ hq => hFc q hq) hFc (fun r u t H1 locs1 ht hvm hpost hB hz1 hk1 hS1 => ?_)
    obtain ⟨⟨hwf, hF'⟩, hex⟩ := hpost
    obtain ⟨g1, g2⟩ := sx_aft hwf hex hL
    have gg := hF _ _ _ _ _ _ hF' u.2.2 H1 locs1 arr (Nat.le_trans hn hex.1) (sx_hz2 hn hex hz) (sx_ag2 hn hex hag) g1 (by rw [← ht]; exact hB.1) (hB.2.2.weaken (fun k q _ hq => hFc q.1 hq)) hS1
    simp only [sx_ps, List.map_cons, g2] at gg
    exact gg
  · exact hh.elim
theorem sn_cv_i {mi k idx mc ms mL : Nat} {y : MethodName} {bs : ByteArray} {rm : Room} (htb : tb[mi]? = some (y, bs, mL, some .int, rm)) {ci N : Nat} {CN : String} {T : u_T} (hd : decode cc pc = .ok (.invokevirtual idx, 3)) (hc : vwCl[ci]? = some (CN, T, N)) (hyc : y.cls = CN) (hw1 : Cond.methodLink own idx y ∈ sx_U) (hw2 : Cond.instanceMethod y ∈ sx_U) (hw5 : Cond.selects CN y y ∈ sx_U) (hw3 : Cond.initialized CN ∈ sx_U) (hw4 : Cond.code y bs mL (some .int) ∈ sx_U) (hmh : y.cls ≠ "java/lang/invoke/MethodHandle" ∧ y.cls ≠ "java/lang/invoke/VarHandle") (hpd : (parseMethodDescriptor y.desc).map (fun d => d.parameters.length) = some k) (hr1 : rm.frames + 1 ≤ R.frames) (hr2 : 8 + (mL + 11) + rm.locals ≤ R.locals) (hmc : rm.cells = mc) (hms : rm.slots = ms) : sx_I tb own cc nL ret R ct lw L xs pc 3 (si_cv ci mi k mc ms R.cells R.slots) := by
  intro C p l e s m args below meth c D aC A n0 ad0 Q F J Rt hC hX hR hF hJ ls st n h kc ks hh
  obtain ⟨hx, hb, hml, hown, hts, hK, hA, hct, hlw⟩ := id hX
  subst hmc; subst hms
  unfold si_cv at hh
  split at hh
  · rename_i b a st' etk
    obtain ⟨⟨fs, eb⟩, hbn, h1, h2, h3, hcall⟩ := hh
    refine fun ad H locs arr hn hz hag hL hP hD hS => ?_
    obtain ⟨etk1, etk2⟩ := sx_tk_eq _ _ _ _ _ etk
    have hM : Met l y (sx_ws (y, bs, mL, some .int, rm)) rm (va_Pc ((sx_r (some b) :: a).map (sx_cv ad)) (fun U => U.heap.size = H.size ∧ va_P D vwCl (sx_w aC ad n h) U.heap ∧ sx_KK D aC U ∧ va_D (fun _ => True) (sx_w aC ad n h))) (va_Qi (fun (r : Int32) (u : Nat × sx_H × (Nat → Nat)) => (fun r n' h' => (n' = n ∨ sx_wl n ls st') ∧ F ls (sx_ps r st') n' h' (kc + rm.cells) (ks + rm.slots)) (some (sx_i r)) u.1 u.2.1 ∧ sx_ex n ad u) (sx_B D aC (va_A (sx_w aC ad n h) H.size)) (va_A (sx_w aC ad n h) H.size)) rm.cells rm.slots (va_A (sx_w aC ad n h) H.size) := hC mi _ _ n h _ htb hcall D aC ad H.size
    have hFc : ∀ q, va_A (sx_w aC ad n h) H.size q → A q := sx_fr hD hS hA
    have hs : st.map (sx_cv ad) = (a.map (sx_cv ad)).reverse ++ .ref (ad b) :: st'.map (sx_cv ad) := by
      have e : st = a.reverse ++ sx_r (some b) :: st' := by simpa using etk1.symm
      rw [e, List.map_append, List.map_reverse]
      rfl
    have hrun := va_runV (As := a.map (sx_cv ad)) (b := ad b) (C := CN) (rest := st'.map (sx_cv ad)) (g := F0 m pc arr (st.map (sx_cv ad))) (nL := nL) (Ts := sx_U) (own := own) (cells := kc) (slots := ks) (e := e) (R := R) (s := s) (args := args) (below := below) (meth := meth) (locs := locs) (H := H) ⟨hx, hb, hml, hown, hts⟩ hM (cwV k hts (sx_gi (by
      intro w hw
      simp only [wsV, sx_ws, List.cons_append, List.nil_append, List.mem_cons] at hw
      rcases hw with rfl | rfl | rfl | rfl | rfl | hw
      · exact hw1
      · exact hw2
      · exact hw5
      · exact hw3
      · exact hw4
      · exact hw)) rfl rfl rfl ⟨hyc, hmh.1, hmh.2, hpd⟩ ⟨hr1, hr2⟩) ⟨sx_bl, va_recv hK.1 hP hc (sx_at_o hbn eb), fun U hU hW => ⟨rfl, by rw [hU], by rw [hU]; exact hP, hK.moved hW.alike, hD.weaken (fun _ _ _ _ => trivial)⟩⟩ rfl (by simp at etk2 ⊢; omega) hL.2.1 hs (lv_room (by rw [sx_cat_eq]; exact h1)) hd ⟨h2, h3⟩
    refine va_calli hrun hS (fun q _ hq => hFc q hq) hFc (fun r u t H1 locs1 ht hvm hpost hB hz1 hk1 hS1 => ?_)
    obtain ⟨⟨hwf, hF'⟩, hex⟩ := hpost
    obtain ⟨g1, g2⟩ := sx_aft hwf hex hL
    have gg := hF _ _ _ _ _ _ hF' u.2.2 H1 locs1 arr (Nat.le_trans hn hex.1) (sx_hz2 hn hex hz) (sx_ag2 hn hex hag) g1 (by rw [← ht]; exact hB.1) (hB.2.2.weaken (fun k q _ hq => hFc q.1 hq)) hS1
    simp only [sx_ps, List.map_cons, g2] at gg
    exact gg
  · exact hh.elim
theorem sn_cs_z {mi k idx mc ms mL : Nat} {y : MethodName} {bs : ByteArray} {rm : Room} (htb : tb[mi]? = some (y, bs, mL, some .boolean, rm)) (hd : decode cc pc = .ok (.invokestatic idx, 3)) (hw1 : Cond.methodLink own idx y ∈ sx_U) (hw2 : Cond.static y ∈ sx_U) (hw3 : Cond.initialized y.cls ∈ sx_U) (hw4 : Cond.code y bs mL (some .boolean) ∈ sx_U) (hmh : y.cls ≠ "java/lang/invoke/MethodHandle" ∧ y.cls ≠ "java/lang/invoke/VarHandle") (hpd : (parseMethodDescriptor y.desc).map (fun d => d.parameters.length) = some k) (hr1 : rm.frames + 1 ≤ R.frames) (hr2 : 8 + (mL + 11) + rm.locals ≤ R.locals) (hmc : rm.cells = mc) (hms : rm.slots = ms) : sx_I tb own cc nL ret R ct lw L xs pc 3 (si_cs mi k mc ms R.cells R.slots) := by
  intro C p l e s m args below meth c D aC A n0 ad0 Q F J Rt hC hX hR hF hJ ls st n h kc ks hh
  obtain ⟨hx, hb, hml, hown, hts, hK, hA, hct, hlw⟩ := id hX
  subst hmc; subst hms
  unfold si_cs at hh
  split at hh
  · rename_i a st' etk
    obtain ⟨h1, h2, h3, hcall⟩ := hh
    refine fun ad H locs arr hn hz hag hL hP hD hS => ?_
    obtain ⟨etk1, etk2⟩ := sx_tk_eq _ _ _ _ _ etk
    have hM : Met l y (sx_ws (y, bs, mL, some .boolean, rm)) rm (va_Pc (a.map (sx_cv ad)) (fun U => U.heap.size = H.size ∧ va_P D vwCl (sx_w aC ad n h) U.heap ∧ sx_KK D aC U ∧ va_D (fun _ => True) (sx_w aC ad n h))) (va_Qi (fun (r : Int32) (u : Nat × sx_H × (Nat → Nat)) => (fun r n' h' => (n' = n ∨ sx_wl n ls st') ∧ F ls (sx_ps r st') n' h' (kc + rm.cells) (ks + rm.slots)) (some (sx_i r)) u.1 u.2.1 ∧ sx_ex n ad u) (sx_B D aC (va_A (sx_w aC ad n h) H.size)) (va_A (sx_w aC ad n h) H.size)) rm.cells rm.slots (va_A (sx_w aC ad n h) H.size) := hC mi _ _ n h _ htb hcall D aC ad H.size
    have hFc : ∀ q, va_A (sx_w aC ad n h) H.size q → A q := sx_fr hD hS hA
    have hs : st.map (sx_cv ad) = (a.map (sx_cv ad)).reverse ++ st'.map (sx_cv ad) := by
      have e : st = a.reverse ++ st' := by simpa using etk1.symm
      rw [e, List.map_append, List.map_reverse]
    have hrun := va_runS (As := a.map (sx_cv ad)) (rest := st'.map (sx_cv ad)) (g := F0 m pc arr (st.map (sx_cv ad))) (nL := nL) (Ts := sx_U) (own := own) (cells := kc) (slots := ks) (e := e) (R := R) (s := s) (args := args) (below := below) (meth := meth) (locs := locs) (H := H) ⟨hx, hb, hml, hown, hts⟩ hM (va_cwS k hts (sx_gi (by
      intro w hw
      simp only [va_wsS, sx_ws, List.cons_append, List.nil_append, List.mem_cons] at hw
      rcases hw with rfl | rfl | rfl | rfl | hw
      · exact hw1
      · exact hw2
      · exact hw3
      · exact hw4
      · exact hw)) rfl rfl rfl ⟨hmh.1, hmh.2, hpd⟩ ⟨hr1, hr2⟩) ⟨sx_bl, fun U hU hW => ⟨rfl, by rw [hU], by rw [hU]; exact hP, hK.moved hW.alike, hD.weaken (fun _ _ _ _ => trivial)⟩⟩ rfl (by simpa using etk2) hL.2.1 hs (lv_room (by rw [sx_cat_eq]; exact h1)) hd ⟨h2, h3⟩
    refine va_calli hrun hS (fun q _ hq => hFc q hq) hFc (fun r u t H1 locs1 ht hvm hpost hB hz1 hk1 hS1 => ?_)
    obtain ⟨⟨hwf, hF'⟩, hex⟩ := hpost
    obtain ⟨g1, g2⟩ := sx_aft hwf hex hL
    have gg := hF _ _ _ _ _ _ hF' u.2.2 H1 locs1 arr (Nat.le_trans hn hex.1) (sx_hz2 hn hex hz) (sx_ag2 hn hex hag) g1 (by rw [← ht]; exact hB.1) (hB.2.2.weaken (fun k q _ hq => hFc q.1 hq)) hS1
    simp only [sx_ps, List.map_cons, g2] at gg
    exact gg
  · exact hh.elim
theorem sn_cv_z {mi k idx mc ms mL : Nat} {y : MethodName} {bs : ByteArray} {rm : Room} (htb : tb[mi]? = some (y, bs, mL, some .boolean, rm)) {ci N : Nat} {CN : String} {T : u_T} (hd : decode cc pc = .ok (.invokevirtual idx, 3)) (hc : vwCl[ci]? = some (CN, T, N)) (hyc : y.cls = CN) (hw1 : Cond.methodLink own idx y ∈ sx_U) (hw2 : Cond.instanceMethod y ∈ sx_U) (hw5 : Cond.selects CN y y ∈ sx_U) (hw3 : Cond.initialized CN ∈ sx_U) (hw4 : Cond.code y bs mL (some .boolean) ∈ sx_U) (hmh : y.cls ≠ "java/lang/invoke/MethodHandle" ∧ y.cls ≠ "java/lang/invoke/VarHandle") (hpd : (parseMethodDescriptor y.desc).map (fun d => d.parameters.length) = some k) (hr1 : rm.frames + 1 ≤ R.frames) (hr2 : 8 + (mL + 11) + rm.locals ≤ R.locals) (hmc : rm.cells = mc) (hms : rm.slots = ms) : sx_I tb own cc nL ret R ct lw L xs pc 3 (si_cv ci mi k mc ms R.cells R.slots) := by
  intro C p l e s m args below meth c D aC A n0 ad0 Q F J Rt hC hX hR hF hJ ls st n h kc ks hh
  obtain ⟨hx, hb, hml, hown, hts, hK, hA, hct, hlw⟩ := id hX
  subst hmc; subst hms
  unfold si_cv at hh
  split at hh
  · rename_i b a st' etk
    obtain ⟨⟨fs, eb⟩, hbn, h1, h2, h3, hcall⟩ := hh
    refine fun ad H locs arr hn hz hag hL hP hD hS => ?_
    obtain ⟨etk1, etk2⟩ := sx_tk_eq _ _ _ _ _ etk
    have hM : Met l y (sx_ws (y, bs, mL, some .boolean, rm)) rm (va_Pc ((sx_r (some b) :: a).map (sx_cv ad)) (fun U => U.heap.size = H.size ∧ va_P D vwCl (sx_w aC ad n h) U.heap ∧ sx_KK D aC U ∧ va_D (fun _ => True) (sx_w aC ad n h))) (va_Qi (fun (r : Int32) (u : Nat × sx_H × (Nat → Nat)) => (fun r n' h' => (n' = n ∨ sx_wl n ls st') ∧ F ls (sx_ps r st') n' h' (kc + rm.cells) (ks + rm.slots)) (some (sx_i r)) u.1 u.2.1 ∧ sx_ex n ad u) (sx_B D aC (va_A (sx_w aC ad n h) H.size)) (va_A (sx_w aC ad n h) H.size)) rm.cells rm.slots (va_A (sx_w aC ad n h) H.size) := hC mi _ _ n h _ htb hcall D aC ad H.size
    have hFc : ∀ q, va_A (sx_w aC ad n h) H.size q → A q := sx_fr hD hS hA
    have hs : st.map (sx_cv ad) = (a.map (sx_cv ad)).reverse ++ .ref (ad b) :: st'.map (sx_cv ad) := by
      have e : st = a.reverse ++ sx_r (some b) :: st' := by simpa using etk1.symm
      rw [e, List.map_append, List.map_reverse]
      rfl
    have hrun := va_runV (As := a.map (sx_cv ad)) (b := ad b) (C := CN) (rest := st'.map (sx_cv ad)) (g := F0 m pc arr (st.map (sx_cv ad))) (nL := nL) (Ts := sx_U) (own := own) (cells := kc) (slots := ks) (e := e) (R := R) (s := s) (args := args) (below := below) (meth := meth) (locs := locs) (H := H) ⟨hx, hb, hml, hown, hts⟩ hM (cwV k hts (sx_gi (by
      intro w hw
      simp only [wsV, sx_ws, List.cons_append, List.nil_append, List.mem_cons] at hw
      rcases hw with rfl | rfl | rfl | rfl | rfl | hw
      · exact hw1
      · exact hw2
      · exact hw5
      · exact hw3
      · exact hw4
      · exact hw)) rfl rfl rfl ⟨hyc, hmh.1, hmh.2, hpd⟩ ⟨hr1, hr2⟩) ⟨sx_bl, va_recv hK.1 hP hc (sx_at_o hbn eb), fun U hU hW => ⟨rfl, by rw [hU], by rw [hU]; exact hP, hK.moved hW.alike, hD.weaken (fun _ _ _ _ => trivial)⟩⟩ rfl (by simp at etk2 ⊢; omega) hL.2.1 hs (lv_room (by rw [sx_cat_eq]; exact h1)) hd ⟨h2, h3⟩
    refine va_calli hrun hS (fun q _ hq => hFc q hq) hFc (fun r u t H1 locs1 ht hvm hpost hB hz1 hk1 hS1 => ?_)
    obtain ⟨⟨hwf, hF'⟩, hex⟩ := hpost
    obtain ⟨g1, g2⟩ := sx_aft hwf hex hL
    have gg := hF _ _ _ _ _ _ hF' u.2.2 H1 locs1 arr (Nat.le_trans hn hex.1) (sx_hz2 hn hex hz) (sx_ag2 hn hex hag) g1 (by rw [← ht]; exact hB.1) (hB.2.2.weaken (fun k q _ hq => hFc q.1 hq)) hS1
    simp only [sx_ps, List.map_cons, g2] at gg
    exact gg
  · exact hh.elim
end SXC
