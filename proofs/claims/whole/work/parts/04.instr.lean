/-! THE TABLES OF METHODS come later as a list; what a call's contract is, for a method of it -/
def sx_AOA (U : State) : Prop := (Cond.arrayOver (.array .int)).before #[] U = true
theorem sx_idx (vm : Vm) (p : Kind → Bool) : (vm.bare.classes.findIdx? fun (x : Class) => p x.kind) = (vm.classes.findIdx? fun (x : Class) => p x.kind) := by
  simp only [Vm.bare, Array.findIdx?_map]
  rfl
theorem sx_AOA.moved {u U : State} (hvm : u.vm.Alike U.vm) (h : sx_AOA u) : sx_AOA U := by
  obtain ⟨comp, c, k, h1, h2, h3, h4, h5⟩ := arrayOverA_spec h
  obtain ⟨k', hk', he⟩ := hvm.2.2 _ _ h3
  have hi : (U.vm.classes.findIdx? fun (x : Class) => match x.kind with | .array component _ => component == comp | _ => false) = some c := by
    have h2' : (u.vm.classes.findIdx? fun (x : Class) => match x.kind with | .array component _ => component == comp | _ => false) = some c := h2
    have e1 := sx_idx u.vm (fun k => match k with | .array component _ => component == comp | _ => false)
    have e2 := sx_idx U.vm (fun k => match k with | .array component _ => component == comp | _ => false)
    have e3 : u.vm.bare = U.vm.bare := by first | exact hvm.bare_eq | exact hvm.bare_eq.symm
    rw [e3] at e1
    exact (e2.symm.trans e1).trans h2'
  have hkind : k'.kind = .array comp (.array .int) := by rw [he]; exact h4
  have f1 : U.vm.findClass (FieldType.array .int).toString = some comp := by rw [hvm.findClass]; exact h1
  have f2 : U.vm.findClass ("[" ++ (FieldType.array .int).toString) = some c := by rw [hvm.findClass]; exact h5
  unfold sx_AOA Cond.before Cond.holds
  simp only [Cond.value]
  rw [f1, Option.bind_some]
  refine (congrArg (fun o : Option Nat => (o.bind (fun c => (U.vm.classes[c]?).map fun (k : Class) => match k.kind with | .array _ ty => decide (ty = FieldType.array .int) && decide (U.vm.findClass ("[" ++ (FieldType.array .int).toString) = some c) | _ => false) == some true)) hi).trans ?_
  simp [hk', hkind, f2]
abbrev sx_ty (aC : Nat → ClassId) : List (ClassId × FieldType) := [(aC 0, .int), (aC 1, .boolean), (aC 2, .object RX2), (aC 3, .array .int)]
def sx_KK (D : va_G) (aC : Nat → ClassId) (U : State) : Prop := va_K D vwCl (sx_ty aC) U ∧ va_AO RX2 U ∧ sx_AOA U
theorem sx_KK.moved {D : va_G} {aC : Nat → ClassId} {u U : State} (hvm : u.vm.Alike U.vm) (h : sx_KK D aC u) : sx_KK D aC U := ⟨va_K.moved hvm h.1, h.2.1.moved hvm, h.2.2.moved hvm⟩
/-- a method of the table: its name, words, code, locals, answer, room -/
abbrev sx_M : Type := MethodName × ByteArray × Nat × Option FieldType × Room
abbrev sx_ws (q : sx_M) : List Cond := .code q.1 q.2.1 q.2.2.1 q.2.2.2.1 :: sx_U
def sx_B (D : va_G) (aC : Nat → ClassId) (A : Nat → Prop) (u : Nat × sx_H × (Nat → Nat)) (t : State) : Prop := va_P D vwCl (sx_w aC u.2.2 u.1 u.2.1) t.heap ∧ sx_KK D aC t ∧ va_D A (sx_w aC u.2.2 u.1 u.2.1)
def sx_ex (n : Nat) (ad : Nat → Nat) (u : Nat × sx_H × (Nat → Nat)) : Prop := n ≤ u.1 ∧ (u.1 = n → u.2.2 = ad) ∧ sx_ag n ad u.2.2
def sx_Qc (ret : Option FieldType) (D : va_G) (aC : Nat → ClassId) (ad : Nat → Nat) (n : Nat) (A : Nat → Prop) (Q : sx_Q) : Array Value → State → Outcome → State → Prop := match ret with
  | none => va_Qv (fun u => Q none u.1 u.2.1 ∧ sx_ex n ad u) (sx_B D aC A) A
  | some .long => va_Ql (fun r u => Q (some (sx_l r)) u.1 u.2.1 ∧ sx_ex n ad u) (sx_B D aC A) A
  | some _ => va_Qi (fun r u => Q (some (sx_i r)) u.1 u.2.1 ∧ sx_ex n ad u) (sx_B D aC A) A
def sx_MO (l : Launch) (q : sx_M) (a : List sx_V) (n : Nat) (h : sx_H) (Q : sx_Q) : Prop := ∀ (D : va_G) (aC : Nat → ClassId) (ad : Nat → Nat) (sz : Nat),
  Met l q.1 (sx_ws q) q.2.2.2.2 (va_Pc (a.map (sx_cv ad)) (fun U => U.heap.size = sz ∧ va_P D vwCl (sx_w aC ad n h) U.heap ∧ sx_KK D aC U ∧ va_D (fun _ => True) (sx_w aC ad n h))) (sx_Qc q.2.2.2.1 D aC ad n (va_A (sx_w aC ad n h) sz) Q) q.2.2.2.2.cells q.2.2.2.2.slots (va_A (sx_w aC ad n h) sz)
def sx_CO (tb : List sx_M) (l : Launch) (C : sx_C) : Prop := ∀ (mi : Nat) (q : sx_M) (a : List sx_V) (n : Nat) (h : sx_H) (Q : sx_Q), tb[mi]? = some q → C mi a n h Q → sx_MO l q a n h Q
def sx_X (p : Program) (s : State) (m : MethodId) (args : Array Value) (meth : Method) (c : Code) (D : va_G) (aC : Nat → ClassId) (A : Nat → Prop) (ad0 : Nat → Nat) (own : String) (cc : ByteArray) (nL : Nat) (ct lw : Bool) (L : Nat) (xs : Nat → Int32) : Prop :=
  p.tables.exec = Jvm.exec ∧ c.code = cc ∧ c.maxLocals = nL ∧ s.vm.findClass own = some m.cls ∧ (∀ w ∈ sx_U, w.before args s = true) ∧ sx_KK D aC s ∧ (∀ q, s.heap.size ≤ q → A q) ∧ (ct = true → meth.name = "<init>") ∧ (lw = true → va_X (ad0 sx_sc) L xs s s.heap ∧ ad0 sx_sc < s.heap.size ∧ ¬ A (ad0 sx_sc))
def sx_Z (p : Program) (l : Launch) (e : Env) (R : Room) (s : State) (m : MethodId) (args : Array Value) (below : List Frame) (meth : Method) (c : Code) (D : va_G) (aC : Nat → ClassId) (A : Nat → Prop) (nL n0 : Nat) (ad0 : Nat → Nat) (Q : State → Prop) (pc : Nat) : sx_K := fun ls st n h kc ks => ∀ (ad : Nat → Nat) (H : Heap) (locs : List Loc) (arr : Array Slot), n0 ≤ n → (n = n0 → ad = ad0) → (∀ k, (k < n0 ∨ k = sx_sc) → ad k = ad0 k) → sx_LO ad nL ls arr → va_P D vwCl (sx_w aC ad n h) H → va_D A (sx_w aC ad n h) → va_S A s.heap H locs → W p l e R s m args below meth c H locs kc ks Q (F0 m pc arr (st.map (sx_cv ad)))
def sx_RO (p : Program) (l : Launch) (e : Env) (R : Room) (s : State) (m : MethodId) (args : Array Value) (below : List Frame) (meth : Method) (c : Code) (D : va_G) (aC : Nat → ClassId) (A : Nat → Prop) (nL n0 : Nat) (ad0 : Nat → Nat) (Q : State → Prop) (cc : ByteArray) (ret : Option FieldType) (Rt : sx_R) : Prop := ∀ (pc : Nat) (ls : sx_L) (n : Nat) (h : sx_H) (kc ks : Nat),
  (decode cc pc = .ok (.return_, 1) → ret = none → Rt none n h kc ks → sx_Z p l e R s m args below meth c D aC A nL n0 ad0 Q pc ls [] n h kc ks) ∧
  (∀ x : Int32, decode cc pc = .ok (.ireturn, 1) → (ret = some .int ∨ (ret = some .boolean ∧ (x = 0 ∨ x = 1))) → Rt (some (sx_i x)) n h kc ks → sx_Z p l e R s m args below meth c D aC A nL n0 ad0 Q pc ls [sx_i x] n h kc ks) ∧
  (∀ x : Int64, decode cc pc = .ok (.lreturn, 1) → ret = some .long → Rt (some (sx_l x)) n h kc ks → sx_Z p l e R s m args below meth c D aC A nL n0 ad0 Q pc ls [sx_l x] n h kc ks)
/-- an instruction at a place keeps what it says -/
def sx_I (tb : List sx_M) (own : String) (cc : ByteArray) (nL : Nat) (ret : Option FieldType) (R : Room) (ct lw : Bool) (L : Nat) (xs : Nat → Int32) (pc len : Nat) (I : sx_S) : Prop :=
  ∀ (C : sx_C) (p : Program) (l : Launch) (e : Env) (s : State) (m : MethodId) (args : Array Value) (below : List Frame) (meth : Method) (c : Code) (D : va_G) (aC : Nat → ClassId) (A : Nat → Prop) (n0 : Nat) (ad0 : Nat → Nat) (Q : State → Prop) (F : sx_K) (J : Nat → sx_K) (Rt : sx_R),
  sx_CO tb l C → sx_X p s m args meth c D aC A ad0 own cc nL ct lw L xs → sx_RO p l e R s m args below meth c D aC A nL n0 ad0 Q cc ret Rt →
  (∀ ls st n h kc ks, F ls st n h kc ks → sx_Z p l e R s m args below meth c D aC A nL n0 ad0 Q (pc + len) ls st n h kc ks) →
  (∀ t ls st n h kc ks, J t ls st n h kc ks → sx_Z p l e R s m args below meth c D aC A nL n0 ad0 Q t ls st n h kc ks) →
  ∀ ls st n h kc ks, I C F J Rt ls st n h kc ks → sx_Z p l e R s m args below meth c D aC A nL n0 ad0 Q pc ls st n h kc ks
section SXI
variable {tb : List sx_M} {own : String} {cc : ByteArray} {nL : Nat} {ret : Option FieldType} {R : Room} {ct lw : Bool} {L : Nat} {xs : Nat → Int32} {pc : Nat}
theorem sn_iconst {k : Int} {v : Int32} (hd : decode cc pc = .ok (.iconst k, 1)) (hv : Int32.ofInt k = v) : sx_I tb own cc nL ret R ct lw L xs pc 1 (si_const v) := by
  intro C p l e s m args below meth c D aC A n0 ad0 Q F J Rt hC hX hR hF hJ ls st n h kc ks hh
  obtain ⟨hx, hb, hml, hown, hts, hK, hA, hct, hlw⟩ := id hX
  refine fun ad H locs arr hn hz hag hL hP hD hS => ?_
  exact lv_iconst hx hb hd hv (hF _ _ _ _ _ _ hh ad H locs arr hn hz hag hL hP hD hS)
theorem sn_bipush {k : Int} {v : Int32} (hd : decode cc pc = .ok (.bipush k, 2)) (hv : (Int8.ofInt k).toInt32 = v) : sx_I tb own cc nL ret R ct lw L xs pc 2 (si_const v) := by
  intro C p l e s m args below meth c D aC A n0 ad0 Q F J Rt hC hX hR hF hJ ls st n h kc ks hh
  obtain ⟨hx, hb, hml, hown, hts, hK, hA, hct, hlw⟩ := id hX
  refine fun ad H locs arr hn hz hag hL hP hD hS => ?_
  exact lv_bipush hx hb hd hv (hF _ _ _ _ _ _ hh ad H locs arr hn hz hag hL hP hD hS)
theorem sn_sipush {k : Int} {v : Int32} (hd : decode cc pc = .ok (.sipush k, 3)) (hv : (Int16.ofInt k).toInt32 = v) : sx_I tb own cc nL ret R ct lw L xs pc 3 (si_const v) := by
  intro C p l e s m args below meth c D aC A n0 ad0 Q F J Rt hC hX hR hF hJ ls st n h kc ks hh
  obtain ⟨hx, hb, hml, hown, hts, hK, hA, hct, hlw⟩ := id hX
  refine fun ad H locs arr hn hz hag hL hP hD hS => ?_
  exact lv_sipush hx hb hd hv (hF _ _ _ _ _ _ hh ad H locs arr hn hz hag hL hP hD hS)
theorem sn_ldc {k : Nat} {v : Int32} (hd : decode cc pc = .ok (.ldc k, 2)) (hw : Cond.constant own k v ∈ sx_U) : sx_I tb own cc nL ret R ct lw L xs pc 2 (si_const v) := by
  intro C p l e s m args below meth c D aC A n0 ad0 Q F J Rt hC hX hR hF hJ ls st n h kc ks hh
  obtain ⟨hx, hb, hml, hown, hts, hK, hA, hct, hlw⟩ := id hX
  refine fun ad H locs arr hn hz hag hL hP hD hS => ?_
  exact lv_ldc hx hb hown (hts _ hw) hd (hF _ _ _ _ _ _ hh ad H locs arr hn hz hag hL hP hD hS)
theorem sn_ldcw {k : Nat} {v : Int32} (hd : decode cc pc = .ok (.ldc_w k, 3)) (hw : Cond.constant own k v ∈ sx_U) : sx_I tb own cc nL ret R ct lw L xs pc 3 (si_const v) := by
  intro C p l e s m args below meth c D aC A n0 ad0 Q F J Rt hC hX hR hF hJ ls st n h kc ks hh
  obtain ⟨hx, hb, hml, hown, hts, hK, hA, hct, hlw⟩ := id hX
  refine fun ad H locs arr hn hz hag hL hP hD hS => ?_
  exact lv_ldcw hx hb hown (hts _ hw) hd (hF _ _ _ _ _ _ hh ad H locs arr hn hz hag hL hP hD hS)
theorem sn_ldc2 {k : Nat} {v : Int64} (hd : decode cc pc = .ok (.ldc2_w k, 3)) (hw : Cond.constantLong own k v ∈ sx_U) : sx_I tb own cc nL ret R ct lw L xs pc 3 (si_lconst v) := by
  intro C p l e s m args below meth c D aC A n0 ad0 Q F J Rt hC hX hR hF hJ ls st n h kc ks hh
  obtain ⟨hx, hb, hml, hown, hts, hK, hA, hct, hlw⟩ := id hX
  refine fun ad H locs arr hn hz hag hL hP hD hS => ?_
  exact lv_ldc2 hx hb hown (hts _ hw) hd (hF _ _ _ _ _ _ hh ad H locs arr hn hz hag hL hP hD hS)
theorem sn_lconst {k : Fin 2} {v : Int64} (hd : decode cc pc = .ok (.lconst k, 1)) (hv : Int64.ofNat (k : Nat) = v) : sx_I tb own cc nL ret R ct lw L xs pc 1 (si_lconst v) := by
  intro C p l e s m args below meth c D aC A n0 ad0 Q F J Rt hC hX hR hF hJ ls st n h kc ks hh
  obtain ⟨hx, hb, hml, hown, hts, hK, hA, hct, hlw⟩ := id hX
  refine fun ad H locs arr hn hz hag hL hP hD hS => ?_
  exact lv_lconst hx hb hd hv (hF _ _ _ _ _ _ hh ad H locs arr hn hz hag hL hP hD hS)
theorem sn_iload_n {kf : Fin 4} {k : Nat} (hd : decode cc pc = .ok (.iload_n kf, 1)) (hk : (kf : Nat) = k) : sx_I tb own cc nL ret R ct lw L xs pc 1 (si_il k) := by
  intro C p l e s m args below meth c D aC A n0 ad0 Q F J Rt hC hX hR hF hJ ls st n h kc ks hh
  obtain ⟨hx, hb, hml, hown, hts, hK, hA, hct, hlw⟩ := id hX
  unfold si_il at hh
  split at hh
  · rename_i x ex
    refine fun ad H locs arr hn hz hag hL hP hD hS => ?_
    exact lv_iload_n hx hb hd hk (hL.2.2.2 k _ ex) (hF _ _ _ _ _ _ hh ad H locs arr hn hz hag hL hP hD hS)
  · exact hh.elim
theorem sn_iload {k : Nat} (hd : decode cc pc = .ok (.iload k, 2)) : sx_I tb own cc nL ret R ct lw L xs pc 2 (si_il k) := by
  intro C p l e s m args below meth c D aC A n0 ad0 Q F J Rt hC hX hR hF hJ ls st n h kc ks hh
  obtain ⟨hx, hb, hml, hown, hts, hK, hA, hct, hlw⟩ := id hX
  unfold si_il at hh
  split at hh
  · rename_i x ex
    refine fun ad H locs arr hn hz hag hL hP hD hS => ?_
    exact lv_iload hx hb hd (hL.2.2.2 k _ ex) (hF _ _ _ _ _ _ hh ad H locs arr hn hz hag hL hP hD hS)
  · exact hh.elim
theorem sn_lload_n {kf : Fin 4} {k : Nat} (hd : decode cc pc = .ok (.lload_n kf, 1)) (hk : (kf : Nat) = k) : sx_I tb own cc nL ret R ct lw L xs pc 1 (si_ll k) := by
  intro C p l e s m args below meth c D aC A n0 ad0 Q F J Rt hC hX hR hF hJ ls st n h kc ks hh
  obtain ⟨hx, hb, hml, hown, hts, hK, hA, hct, hlw⟩ := id hX
  unfold si_ll at hh
  split at hh
  · rename_i x ex
    refine fun ad H locs arr hn hz hag hL hP hD hS => ?_
    exact lv_lload_n hx hb hd hk (hL.2.2.2 k _ ex) (hF _ _ _ _ _ _ hh ad H locs arr hn hz hag hL hP hD hS)
  · exact hh.elim
theorem sn_lload {k : Nat} (hd : decode cc pc = .ok (.lload k, 2)) : sx_I tb own cc nL ret R ct lw L xs pc 2 (si_ll k) := by
  intro C p l e s m args below meth c D aC A n0 ad0 Q F J Rt hC hX hR hF hJ ls st n h kc ks hh
  obtain ⟨hx, hb, hml, hown, hts, hK, hA, hct, hlw⟩ := id hX
  unfold si_ll at hh
  split at hh
  · rename_i x ex
    refine fun ad H locs arr hn hz hag hL hP hD hS => ?_
    exact lv_lload hx hb hd (hL.2.2.2 k _ ex) (hF _ _ _ _ _ _ hh ad H locs arr hn hz hag hL hP hD hS)
  · exact hh.elim
theorem sn_aload_n {kf : Fin 4} {k : Nat} (hd : decode cc pc = .ok (.aload_n kf, 1)) (hk : (kf : Nat) = k) : sx_I tb own cc nL ret R ct lw L xs pc 1 (si_al k) := by
  intro C p l e s m args below meth c D aC A n0 ad0 Q F J Rt hC hX hR hF hJ ls st n h kc ks hh
  obtain ⟨hx, hb, hml, hown, hts, hK, hA, hct, hlw⟩ := id hX
  unfold si_al at hh
  split at hh
  · rename_i x ex
    refine fun ad H locs arr hn hz hag hL hP hD hS => ?_
    exact lv_aload_n hx hb hd hk (hL.2.2.2 k _ ex) (hF _ _ _ _ _ _ hh ad H locs arr hn hz hag hL hP hD hS)
  · exact hh.elim
theorem sn_aload {k : Nat} (hd : decode cc pc = .ok (.aload k, 2)) : sx_I tb own cc nL ret R ct lw L xs pc 2 (si_al k) := by
  intro C p l e s m args below meth c D aC A n0 ad0 Q F J Rt hC hX hR hF hJ ls st n h kc ks hh
  obtain ⟨hx, hb, hml, hown, hts, hK, hA, hct, hlw⟩ := id hX
  unfold si_al at hh
  split at hh
  · rename_i x ex
    refine fun ad H locs arr hn hz hag hL hP hD hS => ?_
    exact lv_aload hx hb hd (hL.2.2.2 k _ ex) (hF _ _ _ _ _ _ hh ad H locs arr hn hz hag hL hP hD hS)
  · exact hh.elim
theorem sn_istore_n {kf : Fin 4} {k : Nat} (hd : decode cc pc = .ok (.istore_n kf, 1)) (hk : (kf : Nat) = k) (hi : k < nL) : sx_I tb own cc nL ret R ct lw L xs pc 1 (si_is k) := by
  intro C p l e s m args below meth c D aC A n0 ad0 Q F J Rt hC hX hR hF hJ ls st n h kc ks hh
  obtain ⟨hx, hb, hml, hown, hts, hK, hA, hct, hlw⟩ := id hX
  unfold si_is at hh
  split at hh
  · refine fun ad H locs arr hn hz hag hL hP hD hS => ?_
    exact lv_istore_n hx hb hd hk hL.has hi rfl (fun ls' h' => hF _ _ _ _ _ _ hh ad H locs ls' hn hz hag (hL.set h') hP hD hS)
  · exact hh.elim
theorem sn_istore {k : Nat} (hd : decode cc pc = .ok (.istore k, 2)) (hi : k < nL) : sx_I tb own cc nL ret R ct lw L xs pc 2 (si_is k) := by
  intro C p l e s m args below meth c D aC A n0 ad0 Q F J Rt hC hX hR hF hJ ls st n h kc ks hh
  obtain ⟨hx, hb, hml, hown, hts, hK, hA, hct, hlw⟩ := id hX
  unfold si_is at hh
  split at hh
  · refine fun ad H locs arr hn hz hag hL hP hD hS => ?_
    exact lv_istore hx hb hd hL.has hi rfl (fun ls' h' => hF _ _ _ _ _ _ hh ad H locs ls' hn hz hag (hL.set h') hP hD hS)
  · exact hh.elim
theorem sn_astore_n {kf : Fin 4} {k : Nat} (hd : decode cc pc = .ok (.astore_n kf, 1)) (hk : (kf : Nat) = k) (hi : k < nL) : sx_I tb own cc nL ret R ct lw L xs pc 1 (si_as k) := by
  intro C p l e s m args below meth c D aC A n0 ad0 Q F J Rt hC hX hR hF hJ ls st n h kc ks hh
  obtain ⟨hx, hb, hml, hown, hts, hK, hA, hct, hlw⟩ := id hX
  unfold si_as at hh
  split at hh
  · refine fun ad H locs arr hn hz hag hL hP hD hS => ?_
    exact lv_astore_n hx hb hd hk hL.has hi rfl (fun ls' h' => hF _ _ _ _ _ _ hh ad H locs ls' hn hz hag (hL.set h') hP hD hS)
  · exact hh.elim
theorem sn_astore {k : Nat} (hd : decode cc pc = .ok (.astore k, 2)) (hi : k < nL) : sx_I tb own cc nL ret R ct lw L xs pc 2 (si_as k) := by
  intro C p l e s m args below meth c D aC A n0 ad0 Q F J Rt hC hX hR hF hJ ls st n h kc ks hh
  obtain ⟨hx, hb, hml, hown, hts, hK, hA, hct, hlw⟩ := id hX
  unfold si_as at hh
  split at hh
  · refine fun ad H locs arr hn hz hag hL hP hD hS => ?_
    exact lv_astore hx hb hd hL.has hi rfl (fun ls' h' => hF _ _ _ _ _ _ hh ad H locs ls' hn hz hag (hL.set h') hP hD hS)
  · exact hh.elim
theorem sn_lstore_n {kf : Fin 4} {k : Nat} (hd : decode cc pc = .ok (.lstore_n kf, 1)) (hk : (kf : Nat) = k) (hi : k + 1 < nL) : sx_I tb own cc nL ret R ct lw L xs pc 1 (si_ls k) := by
  intro C p l e s m args below meth c D aC A n0 ad0 Q F J Rt hC hX hR hF hJ ls st n h kc ks hh
  obtain ⟨hx, hb, hml, hown, hts, hK, hA, hct, hlw⟩ := id hX
  unfold si_ls at hh
  split at hh
  · refine fun ad H locs arr hn hz hag hL hP hD hS => ?_
    exact lv_lstore_n hx hb hd hk hL.has hi rfl (fun ls' h' => hF _ _ _ _ _ _ hh ad H locs ls' hn hz hag (hL.setl hi h') hP hD hS)
  · exact hh.elim
theorem sn_lstore {k : Nat} (hd : decode cc pc = .ok (.lstore k, 2)) (hi : k + 1 < nL) : sx_I tb own cc nL ret R ct lw L xs pc 2 (si_ls k) := by
  intro C p l e s m args below meth c D aC A n0 ad0 Q F J Rt hC hX hR hF hJ ls st n h kc ks hh
  obtain ⟨hx, hb, hml, hown, hts, hK, hA, hct, hlw⟩ := id hX
  unfold si_ls at hh
  split at hh
  · refine fun ad H locs arr hn hz hag hL hP hD hS => ?_
    exact lv_lstore hx hb hd hL.has hi rfl (fun ls' h' => hF _ _ _ _ _ _ hh ad H locs ls' hn hz hag (hL.setl hi h') hP hD hS)
  · exact hh.elim
theorem sn_iinc {k : Nat} {dn : Int} {d : Int32} (hd : decode cc pc = .ok (.iinc k dn, 3)) (he : Int32.ofInt dn = d) (hi : k < nL) : sx_I tb own cc nL ret R ct lw L xs pc 3 (si_inc k d) := by
  intro C p l e s m args below meth c D aC A n0 ad0 Q F J Rt hC hX hR hF hJ ls st n h kc ks hh
  obtain ⟨hx, hb, hml, hown, hts, hK, hA, hct, hlw⟩ := id hX
  unfold si_inc at hh
  split at hh
  · rename_i x ex
    refine fun ad H locs arr hn hz hag hL hP hD hS => ?_
    obtain ⟨k0, hk0⟩ := List.getElem?_of_mem (sx_mem (ad := ad) (q := (k, .int x)).mpr ⟨_, ex, rfl⟩)
    exact lv_iinc hx hb hd hL.has hk0 (by rw [he]) hi rfl (fun ls' h' => hF _ _ _ _ _ _ hh ad H locs ls' hn hz hag (hL.set h') hP hD hS)
  · exact hh.elim
theorem sn_iadd (hd : decode cc pc = .ok (.iadd, 1)) : sx_I tb own cc nL ret R ct lw L xs pc 1 (si_bin (fun x y => x + y)) := by
  intro C p l e s m args below meth c D aC A n0 ad0 Q F J Rt hC hX hR hF hJ ls st n h kc ks hh
  obtain ⟨hx, hb, hml, hown, hts, hK, hA, hct, hlw⟩ := id hX
  unfold si_bin at hh
  split at hh
  · refine fun ad H locs arr hn hz hag hL hP hD hS => ?_
    exact lv_iadd hx hb hd (hF _ _ _ _ _ _ hh ad H locs arr hn hz hag hL hP hD hS)
  · exact hh.elim
theorem sn_isub (hd : decode cc pc = .ok (.isub, 1)) : sx_I tb own cc nL ret R ct lw L xs pc 1 (si_bin (fun x y => x - y)) := by
  intro C p l e s m args below meth c D aC A n0 ad0 Q F J Rt hC hX hR hF hJ ls st n h kc ks hh
  obtain ⟨hx, hb, hml, hown, hts, hK, hA, hct, hlw⟩ := id hX
  unfold si_bin at hh
  split at hh
  · refine fun ad H locs arr hn hz hag hL hP hD hS => ?_
    exact lv_isub hx hb hd (hF _ _ _ _ _ _ hh ad H locs arr hn hz hag hL hP hD hS)
  · exact hh.elim
theorem sn_imul (hd : decode cc pc = .ok (.imul, 1)) : sx_I tb own cc nL ret R ct lw L xs pc 1 (si_bin (fun x y => x * y)) := by
  intro C p l e s m args below meth c D aC A n0 ad0 Q F J Rt hC hX hR hF hJ ls st n h kc ks hh
  obtain ⟨hx, hb, hml, hown, hts, hK, hA, hct, hlw⟩ := id hX
  unfold si_bin at hh
  split at hh
  · refine fun ad H locs arr hn hz hag hL hP hD hS => ?_
    exact lv_imul hx hb hd (hF _ _ _ _ _ _ hh ad H locs arr hn hz hag hL hP hD hS)
  · exact hh.elim
theorem sn_iand (hd : decode cc pc = .ok (.iand, 1)) : sx_I tb own cc nL ret R ct lw L xs pc 1 (si_bin (fun x y => x &&& y)) := by
  intro C p l e s m args below meth c D aC A n0 ad0 Q F J Rt hC hX hR hF hJ ls st n h kc ks hh
  obtain ⟨hx, hb, hml, hown, hts, hK, hA, hct, hlw⟩ := id hX
  unfold si_bin at hh
  split at hh
  · refine fun ad H locs arr hn hz hag hL hP hD hS => ?_
    exact lv_iand hx hb hd (hF _ _ _ _ _ _ hh ad H locs arr hn hz hag hL hP hD hS)
  · exact hh.elim
theorem sn_ior (hd : decode cc pc = .ok (.ior, 1)) : sx_I tb own cc nL ret R ct lw L xs pc 1 (si_bin (fun x y => x ||| y)) := by
  intro C p l e s m args below meth c D aC A n0 ad0 Q F J Rt hC hX hR hF hJ ls st n h kc ks hh
  obtain ⟨hx, hb, hml, hown, hts, hK, hA, hct, hlw⟩ := id hX
  unfold si_bin at hh
  split at hh
  · refine fun ad H locs arr hn hz hag hL hP hD hS => ?_
    exact lv_ior hx hb hd (hF _ _ _ _ _ _ hh ad H locs arr hn hz hag hL hP hD hS)
  · exact hh.elim
theorem sn_ishl (hd : decode cc pc = .ok (.ishl, 1)) : sx_I tb own cc nL ret R ct lw L xs pc 1 (si_bin (fun x y => x <<< (y &&& 31))) := by
  intro C p l e s m args below meth c D aC A n0 ad0 Q F J Rt hC hX hR hF hJ ls st n h kc ks hh
  obtain ⟨hx, hb, hml, hown, hts, hK, hA, hct, hlw⟩ := id hX
  unfold si_bin at hh
  split at hh
  · refine fun ad H locs arr hn hz hag hL hP hD hS => ?_
    exact lv_ishl hx hb hd (hF _ _ _ _ _ _ hh ad H locs arr hn hz hag hL hP hD hS)
  · exact hh.elim
theorem sn_ishr (hd : decode cc pc = .ok (.ishr, 1)) : sx_I tb own cc nL ret R ct lw L xs pc 1 (si_bin (fun x y => x >>> (y &&& 31))) := by
  intro C p l e s m args below meth c D aC A n0 ad0 Q F J Rt hC hX hR hF hJ ls st n h kc ks hh
  obtain ⟨hx, hb, hml, hown, hts, hK, hA, hct, hlw⟩ := id hX
  unfold si_bin at hh
  split at hh
  · refine fun ad H locs arr hn hz hag hL hP hD hS => ?_
    exact lv_ishr hx hb hd (hF _ _ _ _ _ _ hh ad H locs arr hn hz hag hL hP hD hS)
  · exact hh.elim
theorem sn_iushr (hd : decode cc pc = .ok (.iushr, 1)) : sx_I tb own cc nL ret R ct lw L xs pc 1 (si_bin (fun x y => (x.toUInt32 >>> (y.toUInt32 &&& Int32.toUInt32 31)).toInt32)) := by
  intro C p l e s m args below meth c D aC A n0 ad0 Q F J Rt hC hX hR hF hJ ls st n h kc ks hh
  obtain ⟨hx, hb, hml, hown, hts, hK, hA, hct, hlw⟩ := id hX
  unfold si_bin at hh
  split at hh
  · refine fun ad H locs arr hn hz hag hL hP hD hS => ?_
    exact lv_iushr hx hb hd rfl (hF _ _ _ _ _ _ hh ad H locs arr hn hz hag hL hP hD hS)
  · exact hh.elim
theorem sn_idiv (hd : decode cc pc = .ok (.idiv, 1)) : sx_I tb own cc nL ret R ct lw L xs pc 1 (si_div (fun x y => x / y)) := by
  intro C p l e s m args below meth c D aC A n0 ad0 Q F J Rt hC hX hR hF hJ ls st n h kc ks hh
  obtain ⟨hx, hb, hml, hown, hts, hK, hA, hct, hlw⟩ := id hX
  unfold si_div at hh
  split at hh
  · refine fun ad H locs arr hn hz hag hL hP hD hS => ?_
    obtain ⟨h0, hh⟩ := hh
    exact lv_idiv hx hb hd h0 (hF _ _ _ _ _ _ hh ad H locs arr hn hz hag hL hP hD hS)
  · exact hh.elim
theorem sn_irem (hd : decode cc pc = .ok (.irem, 1)) : sx_I tb own cc nL ret R ct lw L xs pc 1 (si_div (fun x y => x - x / y * y)) := by
  intro C p l e s m args below meth c D aC A n0 ad0 Q F J Rt hC hX hR hF hJ ls st n h kc ks hh
  obtain ⟨hx, hb, hml, hown, hts, hK, hA, hct, hlw⟩ := id hX
  unfold si_div at hh
  split at hh
  · refine fun ad H locs arr hn hz hag hL hP hD hS => ?_
    obtain ⟨h0, hh⟩ := hh
    exact lv_irem hx hb hd h0 (hF _ _ _ _ _ _ hh ad H locs arr hn hz hag hL hP hD hS)
  · exact hh.elim
theorem sn_ineg (hd : decode cc pc = .ok (.ineg, 1)) : sx_I tb own cc nL ret R ct lw L xs pc 1 (si_un (fun x => -x)) := by
  intro C p l e s m args below meth c D aC A n0 ad0 Q F J Rt hC hX hR hF hJ ls st n h kc ks hh
  obtain ⟨hx, hb, hml, hown, hts, hK, hA, hct, hlw⟩ := id hX
  unfold si_un at hh
  split at hh
  · refine fun ad H locs arr hn hz hag hL hP hD hS => ?_
    exact lv_ineg hx hb hd (hF _ _ _ _ _ _ hh ad H locs arr hn hz hag hL hP hD hS)
  · exact hh.elim
theorem sn_i2b (hd : decode cc pc = .ok (.i2b, 1)) : sx_I tb own cc nL ret R ct lw L xs pc 1 (si_un (fun x => x.toInt8.toInt32)) := by
  intro C p l e s m args below meth c D aC A n0 ad0 Q F J Rt hC hX hR hF hJ ls st n h kc ks hh
  obtain ⟨hx, hb, hml, hown, hts, hK, hA, hct, hlw⟩ := id hX
  unfold si_un at hh
  split at hh
  · refine fun ad H locs arr hn hz hag hL hP hD hS => ?_
    exact lv_i2b hx hb hd rfl (hF _ _ _ _ _ _ hh ad H locs arr hn hz hag hL hP hD hS)
  · exact hh.elim
theorem sn_i2s (hd : decode cc pc = .ok (.i2s, 1)) : sx_I tb own cc nL ret R ct lw L xs pc 1 (si_un (fun x => x.toInt16.toInt32)) := by
  intro C p l e s m args below meth c D aC A n0 ad0 Q F J Rt hC hX hR hF hJ ls st n h kc ks hh
  obtain ⟨hx, hb, hml, hown, hts, hK, hA, hct, hlw⟩ := id hX
  unfold si_un at hh
  split at hh
  · refine fun ad H locs arr hn hz hag hL hP hD hS => ?_
    exact lv_i2s hx hb hd rfl (hF _ _ _ _ _ _ hh ad H locs arr hn hz hag hL hP hD hS)
  · exact hh.elim
theorem sn_ladd (hd : decode cc pc = .ok (.ladd, 1)) : sx_I tb own cc nL ret R ct lw L xs pc 1 (si_lbin (fun x y => x + y)) := by
  intro C p l e s m args below meth c D aC A n0 ad0 Q F J Rt hC hX hR hF hJ ls st n h kc ks hh
  obtain ⟨hx, hb, hml, hown, hts, hK, hA, hct, hlw⟩ := id hX
  unfold si_lbin at hh
  split at hh
  · refine fun ad H locs arr hn hz hag hL hP hD hS => ?_
    exact lv_ladd hx hb hd (hF _ _ _ _ _ _ hh ad H locs arr hn hz hag hL hP hD hS)
  · exact hh.elim
theorem sn_lmul (hd : decode cc pc = .ok (.lmul, 1)) : sx_I tb own cc nL ret R ct lw L xs pc 1 (si_lbin (fun x y => x * y)) := by
  intro C p l e s m args below meth c D aC A n0 ad0 Q F J Rt hC hX hR hF hJ ls st n h kc ks hh
  obtain ⟨hx, hb, hml, hown, hts, hK, hA, hct, hlw⟩ := id hX
  unfold si_lbin at hh
  split at hh
  · refine fun ad H locs arr hn hz hag hL hP hD hS => ?_
    exact lv_lmul hx hb hd (hF _ _ _ _ _ _ hh ad H locs arr hn hz hag hL hP hD hS)
  · exact hh.elim
theorem sn_ldiv (hd : decode cc pc = .ok (.ldiv, 1)) : sx_I tb own cc nL ret R ct lw L xs pc 1 (si_ldiv (fun x y => x / y)) := by
  intro C p l e s m args below meth c D aC A n0 ad0 Q F J Rt hC hX hR hF hJ ls st n h kc ks hh
  obtain ⟨hx, hb, hml, hown, hts, hK, hA, hct, hlw⟩ := id hX
  unfold si_ldiv at hh
  split at hh
  · refine fun ad H locs arr hn hz hag hL hP hD hS => ?_
    obtain ⟨h0, hh⟩ := hh
    exact lv_ldiv hx hb hd h0 (hF _ _ _ _ _ _ hh ad H locs arr hn hz hag hL hP hD hS)
  · exact hh.elim
theorem sn_lrem (hd : decode cc pc = .ok (.lrem, 1)) : sx_I tb own cc nL ret R ct lw L xs pc 1 (si_ldiv (fun x y => x - x / y * y)) := by
  intro C p l e s m args below meth c D aC A n0 ad0 Q F J Rt hC hX hR hF hJ ls st n h kc ks hh
  obtain ⟨hx, hb, hml, hown, hts, hK, hA, hct, hlw⟩ := id hX
  unfold si_ldiv at hh
  split at hh
  · refine fun ad H locs arr hn hz hag hL hP hD hS => ?_
    obtain ⟨h0, hh⟩ := hh
    exact lv_lrem hx hb hd h0 (hF _ _ _ _ _ _ hh ad H locs arr hn hz hag hL hP hD hS)
  · exact hh.elim
theorem sn_lcmp (hd : decode cc pc = .ok (.lcmp, 1)) : sx_I tb own cc nL ret R ct lw L xs pc 1 (si_lcmp) := by
  intro C p l e s m args below meth c D aC A n0 ad0 Q F J Rt hC hX hR hF hJ ls st n h kc ks hh
  obtain ⟨hx, hb, hml, hown, hts, hK, hA, hct, hlw⟩ := id hX
  unfold si_lcmp at hh
  split at hh
  · refine fun ad H locs arr hn hz hag hL hP hD hS => ?_
    exact W.lcmp hx hb hd (hF _ _ _ _ _ _ hh ad H locs arr hn hz hag hL hP hD hS)
  · exact hh.elim
theorem sn_i2l (hd : decode cc pc = .ok (.i2l, 1)) : sx_I tb own cc nL ret R ct lw L xs pc 1 (si_i2l) := by
  intro C p l e s m args below meth c D aC A n0 ad0 Q F J Rt hC hX hR hF hJ ls st n h kc ks hh
  obtain ⟨hx, hb, hml, hown, hts, hK, hA, hct, hlw⟩ := id hX
  unfold si_i2l at hh
  split at hh
  · refine fun ad H locs arr hn hz hag hL hP hD hS => ?_
    exact lv_i2l hx hb hd rfl (hF _ _ _ _ _ _ hh ad H locs arr hn hz hag hL hP hD hS)
  · exact hh.elim
theorem sn_l2i (hd : decode cc pc = .ok (.l2i, 1)) : sx_I tb own cc nL ret R ct lw L xs pc 1 (si_l2i) := by
  intro C p l e s m args below meth c D aC A n0 ad0 Q F J Rt hC hX hR hF hJ ls st n h kc ks hh
  obtain ⟨hx, hb, hml, hown, hts, hK, hA, hct, hlw⟩ := id hX
  unfold si_l2i at hh
  split at hh
  · refine fun ad H locs arr hn hz hag hL hP hD hS => ?_
    exact lv_l2i hx hb hd rfl (hF _ _ _ _ _ _ hh ad H locs arr hn hz hag hL hP hD hS)
  · exact hh.elim
theorem sn_if_eq {off : Int} {t : Nat} {mk : List Bool} (hd : decode cc pc = .ok (.ifCond .eq off, 3)) (ht : (pc : Int) + off = (t : Int)) (hm : mk.length = nL) : sx_I tb own cc nL ret R ct lw L xs pc 3 (si_if1 (fun x => x = 0) t mk) := by
  intro C p l e s m args below meth c D aC A n0 ad0 Q F J Rt hC hX hR hF hJ ls st n h kc ks hh
  obtain ⟨hx, hb, hml, hown, hts, hK, hA, hct, hlw⟩ := id hX
  unfold si_if1 at hh
  split at hh
  · refine fun ad H locs arr hn hz hag hL hP hD hS => ?_
    exact lv_if_eq hx hb hd ht (fun q => hJ _ _ _ _ _ _ _ (hh.1 q) ad H locs arr hn hz hag (hL.m hm) hP hD hS) (fun q => hF _ _ _ _ _ _ (hh.2 q) ad H locs arr hn hz hag hL hP hD hS)
  · exact hh.elim
theorem sn_ic_eq {off : Int} {t : Nat} {mk : List Bool} (hd : decode cc pc = .ok (.if_icmp .eq off, 3)) (ht : (pc : Int) + off = (t : Int)) (hm : mk.length = nL) : sx_I tb own cc nL ret R ct lw L xs pc 3 (si_if2 (fun x y => x = y) t mk) := by
  intro C p l e s m args below meth c D aC A n0 ad0 Q F J Rt hC hX hR hF hJ ls st n h kc ks hh
  obtain ⟨hx, hb, hml, hown, hts, hK, hA, hct, hlw⟩ := id hX
  unfold si_if2 at hh
  split at hh
  · refine fun ad H locs arr hn hz hag hL hP hD hS => ?_
    exact lv_icmp_eq hx hb hd ht (fun q => hJ _ _ _ _ _ _ _ (hh.1 q) ad H locs arr hn hz hag (hL.m hm) hP hD hS) (fun q => hF _ _ _ _ _ _ (hh.2 q) ad H locs arr hn hz hag hL hP hD hS)
  · exact hh.elim
theorem sn_if_ne {off : Int} {t : Nat} {mk : List Bool} (hd : decode cc pc = .ok (.ifCond .ne off, 3)) (ht : (pc : Int) + off = (t : Int)) (hm : mk.length = nL) : sx_I tb own cc nL ret R ct lw L xs pc 3 (si_if1 (fun x => ¬ x = 0) t mk) := by
  intro C p l e s m args below meth c D aC A n0 ad0 Q F J Rt hC hX hR hF hJ ls st n h kc ks hh
  obtain ⟨hx, hb, hml, hown, hts, hK, hA, hct, hlw⟩ := id hX
  unfold si_if1 at hh
  split at hh
  · refine fun ad H locs arr hn hz hag hL hP hD hS => ?_
    exact lv_if_ne hx hb hd ht (fun q => hJ _ _ _ _ _ _ _ (hh.1 q) ad H locs arr hn hz hag (hL.m hm) hP hD hS) (fun q => hF _ _ _ _ _ _ (hh.2 (fun z => z q)) ad H locs arr hn hz hag hL hP hD hS)
  · exact hh.elim
theorem sn_ic_ne {off : Int} {t : Nat} {mk : List Bool} (hd : decode cc pc = .ok (.if_icmp .ne off, 3)) (ht : (pc : Int) + off = (t : Int)) (hm : mk.length = nL) : sx_I tb own cc nL ret R ct lw L xs pc 3 (si_if2 (fun x y => ¬ x = y) t mk) := by
  intro C p l e s m args below meth c D aC A n0 ad0 Q F J Rt hC hX hR hF hJ ls st n h kc ks hh
  obtain ⟨hx, hb, hml, hown, hts, hK, hA, hct, hlw⟩ := id hX
  unfold si_if2 at hh
  split at hh
  · refine fun ad H locs arr hn hz hag hL hP hD hS => ?_
    exact lv_icmp_ne hx hb hd ht (fun q => hJ _ _ _ _ _ _ _ (hh.1 q) ad H locs arr hn hz hag (hL.m hm) hP hD hS) (fun q => hF _ _ _ _ _ _ (hh.2 (fun z => z q)) ad H locs arr hn hz hag hL hP hD hS)
  · exact hh.elim
theorem sn_if_lt {off : Int} {t : Nat} {mk : List Bool} (hd : decode cc pc = .ok (.ifCond .lt off, 3)) (ht : (pc : Int) + off = (t : Int)) (hm : mk.length = nL) : sx_I tb own cc nL ret R ct lw L xs pc 3 (si_if1 (fun x => x < 0) t mk) := by
  intro C p l e s m args below meth c D aC A n0 ad0 Q F J Rt hC hX hR hF hJ ls st n h kc ks hh
  obtain ⟨hx, hb, hml, hown, hts, hK, hA, hct, hlw⟩ := id hX
  unfold si_if1 at hh
  split at hh
  · refine fun ad H locs arr hn hz hag hL hP hD hS => ?_
    exact lv_if_lt hx hb hd ht (fun q => hJ _ _ _ _ _ _ _ (hh.1 q) ad H locs arr hn hz hag (hL.m hm) hP hD hS) (fun q => hF _ _ _ _ _ _ (hh.2 q) ad H locs arr hn hz hag hL hP hD hS)
  · exact hh.elim
theorem sn_ic_lt {off : Int} {t : Nat} {mk : List Bool} (hd : decode cc pc = .ok (.if_icmp .lt off, 3)) (ht : (pc : Int) + off = (t : Int)) (hm : mk.length = nL) : sx_I tb own cc nL ret R ct lw L xs pc 3 (si_if2 (fun x y => x < y) t mk) := by
  intro C p l e s m args below meth c D aC A n0 ad0 Q F J Rt hC hX hR hF hJ ls st n h kc ks hh
  obtain ⟨hx, hb, hml, hown, hts, hK, hA, hct, hlw⟩ := id hX
  unfold si_if2 at hh
  split at hh
  · refine fun ad H locs arr hn hz hag hL hP hD hS => ?_
    exact lv_icmp_lt hx hb hd ht (fun q => hJ _ _ _ _ _ _ _ (hh.1 q) ad H locs arr hn hz hag (hL.m hm) hP hD hS) (fun q => hF _ _ _ _ _ _ (hh.2 q) ad H locs arr hn hz hag hL hP hD hS)
  · exact hh.elim
theorem sn_if_ge {off : Int} {t : Nat} {mk : List Bool} (hd : decode cc pc = .ok (.ifCond .ge off, 3)) (ht : (pc : Int) + off = (t : Int)) (hm : mk.length = nL) : sx_I tb own cc nL ret R ct lw L xs pc 3 (si_if1 (fun x => 0 ≤ x) t mk) := by
  intro C p l e s m args below meth c D aC A n0 ad0 Q F J Rt hC hX hR hF hJ ls st n h kc ks hh
  obtain ⟨hx, hb, hml, hown, hts, hK, hA, hct, hlw⟩ := id hX
  unfold si_if1 at hh
  split at hh
  · refine fun ad H locs arr hn hz hag hL hP hD hS => ?_
    exact lv_if_ge hx hb hd ht (fun q => hJ _ _ _ _ _ _ _ (hh.1 q) ad H locs arr hn hz hag (hL.m hm) hP hD hS) (fun q => hF _ _ _ _ _ _ (hh.2 q) ad H locs arr hn hz hag hL hP hD hS)
  · exact hh.elim
theorem sn_ic_ge {off : Int} {t : Nat} {mk : List Bool} (hd : decode cc pc = .ok (.if_icmp .ge off, 3)) (ht : (pc : Int) + off = (t : Int)) (hm : mk.length = nL) : sx_I tb own cc nL ret R ct lw L xs pc 3 (si_if2 (fun x y => y ≤ x) t mk) := by
  intro C p l e s m args below meth c D aC A n0 ad0 Q F J Rt hC hX hR hF hJ ls st n h kc ks hh
  obtain ⟨hx, hb, hml, hown, hts, hK, hA, hct, hlw⟩ := id hX
  unfold si_if2 at hh
  split at hh
  · refine fun ad H locs arr hn hz hag hL hP hD hS => ?_
    exact lv_icmp_ge hx hb hd ht (fun q => hJ _ _ _ _ _ _ _ (hh.1 q) ad H locs arr hn hz hag (hL.m hm) hP hD hS) (fun q => hF _ _ _ _ _ _ (hh.2 q) ad H locs arr hn hz hag hL hP hD hS)
  · exact hh.elim
theorem sn_if_gt {off : Int} {t : Nat} {mk : List Bool} (hd : decode cc pc = .ok (.ifCond .gt off, 3)) (ht : (pc : Int) + off = (t : Int)) (hm : mk.length = nL) : sx_I tb own cc nL ret R ct lw L xs pc 3 (si_if1 (fun x => 0 < x) t mk) := by
  intro C p l e s m args below meth c D aC A n0 ad0 Q F J Rt hC hX hR hF hJ ls st n h kc ks hh
  obtain ⟨hx, hb, hml, hown, hts, hK, hA, hct, hlw⟩ := id hX
  unfold si_if1 at hh
  split at hh
  · refine fun ad H locs arr hn hz hag hL hP hD hS => ?_
    exact lv_if_gt hx hb hd ht (fun q => hJ _ _ _ _ _ _ _ (hh.1 q) ad H locs arr hn hz hag (hL.m hm) hP hD hS) (fun q => hF _ _ _ _ _ _ (hh.2 q) ad H locs arr hn hz hag hL hP hD hS)
  · exact hh.elim
theorem sn_ic_gt {off : Int} {t : Nat} {mk : List Bool} (hd : decode cc pc = .ok (.if_icmp .gt off, 3)) (ht : (pc : Int) + off = (t : Int)) (hm : mk.length = nL) : sx_I tb own cc nL ret R ct lw L xs pc 3 (si_if2 (fun x y => y < x) t mk) := by
  intro C p l e s m args below meth c D aC A n0 ad0 Q F J Rt hC hX hR hF hJ ls st n h kc ks hh
  obtain ⟨hx, hb, hml, hown, hts, hK, hA, hct, hlw⟩ := id hX
  unfold si_if2 at hh
  split at hh
  · refine fun ad H locs arr hn hz hag hL hP hD hS => ?_
    exact lv_icmp_gt hx hb hd ht (fun q => hJ _ _ _ _ _ _ _ (hh.1 q) ad H locs arr hn hz hag (hL.m hm) hP hD hS) (fun q => hF _ _ _ _ _ _ (hh.2 q) ad H locs arr hn hz hag hL hP hD hS)
  · exact hh.elim
theorem sn_if_le {off : Int} {t : Nat} {mk : List Bool} (hd : decode cc pc = .ok (.ifCond .le off, 3)) (ht : (pc : Int) + off = (t : Int)) (hm : mk.length = nL) : sx_I tb own cc nL ret R ct lw L xs pc 3 (si_if1 (fun x => x ≤ 0) t mk) := by
  intro C p l e s m args below meth c D aC A n0 ad0 Q F J Rt hC hX hR hF hJ ls st n h kc ks hh
  obtain ⟨hx, hb, hml, hown, hts, hK, hA, hct, hlw⟩ := id hX
  unfold si_if1 at hh
  split at hh
  · refine fun ad H locs arr hn hz hag hL hP hD hS => ?_
    exact lv_if_le hx hb hd ht (fun q => hJ _ _ _ _ _ _ _ (hh.1 q) ad H locs arr hn hz hag (hL.m hm) hP hD hS) (fun q => hF _ _ _ _ _ _ (hh.2 q) ad H locs arr hn hz hag hL hP hD hS)
  · exact hh.elim
theorem sn_ic_le {off : Int} {t : Nat} {mk : List Bool} (hd : decode cc pc = .ok (.if_icmp .le off, 3)) (ht : (pc : Int) + off = (t : Int)) (hm : mk.length = nL) : sx_I tb own cc nL ret R ct lw L xs pc 3 (si_if2 (fun x y => x ≤ y) t mk) := by
  intro C p l e s m args below meth c D aC A n0 ad0 Q F J Rt hC hX hR hF hJ ls st n h kc ks hh
  obtain ⟨hx, hb, hml, hown, hts, hK, hA, hct, hlw⟩ := id hX
  unfold si_if2 at hh
  split at hh
  · refine fun ad H locs arr hn hz hag hL hP hD hS => ?_
    exact lv_icmp_le hx hb hd ht (fun q => hJ _ _ _ _ _ _ _ (hh.1 q) ad H locs arr hn hz hag (hL.m hm) hP hD hS) (fun q => hF _ _ _ _ _ _ (hh.2 q) ad H locs arr hn hz hag hL hP hD hS)
  · exact hh.elim
theorem sn_goto {off : Int} {t len : Nat} {mk : List Bool} (hd : decode cc pc = .ok (.goto off, 3)) (ht : (pc : Int) + off = (t : Int)) (hm : mk.length = nL) : sx_I tb own cc nL ret R ct lw L xs pc len (si_go t mk) := by
  intro C p l e s m args below meth c D aC A n0 ad0 Q F J Rt hC hX hR hF hJ ls st n h kc ks hh
  obtain ⟨hx, hb, hml, hown, hts, hK, hA, hct, hlw⟩ := id hX
  refine fun ad H locs arr hn hz hag hL hP hD hS => ?_
  exact lv_goto hx hb hd ht (hJ _ _ _ _ _ _ _ hh ad H locs arr hn hz hag (hL.m hm) hP hD hS)
theorem sn_fall {t len : Nat} {mk : List Bool} (ht : pc = t) (hm : mk.length = nL) : sx_I tb own cc nL ret R ct lw L xs pc len (si_go t mk) := by
  intro C p l e s m args below meth c D aC A n0 ad0 Q F J Rt hC hX hR hF hJ ls st n h kc ks hh
  obtain ⟨hx, hb, hml, hown, hts, hK, hA, hct, hlw⟩ := id hX
  subst ht
  refine fun ad H locs arr hn hz hag hL hP hD hS => ?_
  exact hJ _ _ _ _ _ _ _ hh ad H locs arr hn hz hag (hL.m hm) hP hD hS
theorem sn_dup (hd : decode cc pc = .ok (.dup, 1)) : sx_I tb own cc nL ret R ct lw L xs pc 1 (si_dup) := by
  intro C p l e s m args below meth c D aC A n0 ad0 Q F J Rt hC hX hR hF hJ ls st n h kc ks hh
  obtain ⟨hx, hb, hml, hown, hts, hK, hA, hct, hlw⟩ := id hX
  unfold si_dup at hh
  split at hh
  · refine fun ad H locs arr hn hz hag hL hP hD hS => ?_
    exact lv_dup hx hb hd rfl (hF _ _ _ _ _ _ hh ad H locs arr hn hz hag hL hP hD hS)
  · rename_i r _
    refine fun ad H locs arr hn hz hag hL hP hD hS => ?_
    exact lv_dup hx hb hd (by cases r <;> rfl) (hF _ _ _ _ _ _ hh ad H locs arr hn hz hag hL hP hD hS)
  · exact hh.elim
theorem sn_dup2 (hd : decode cc pc = .ok (.dup2, 1)) : sx_I tb own cc nL ret R ct lw L xs pc 1 (si_dup2) := by
  intro C p l e s m args below meth c D aC A n0 ad0 Q F J Rt hC hX hR hF hJ ls st n h kc ks hh
  obtain ⟨hx, hb, hml, hown, hts, hK, hA, hct, hlw⟩ := id hX
  unfold si_dup2 at hh
  split at hh
  · rename_i y r _
    refine fun ad H locs arr hn hz hag hL hP hD hS => ?_
    exact lv_dup2_11 hx hb hd rfl (by cases r <;> rfl) (hF _ _ _ _ _ _ hh ad H locs arr hn hz hag hL hP hD hS)
  · exact hh.elim
theorem sn_pop (hd : decode cc pc = .ok (.pop, 1)) : sx_I tb own cc nL ret R ct lw L xs pc 1 (si_pop) := by
  intro C p l e s m args below meth c D aC A n0 ad0 Q F J Rt hC hX hR hF hJ ls st n h kc ks hh
  obtain ⟨hx, hb, hml, hown, hts, hK, hA, hct, hlw⟩ := id hX
  unfold si_pop at hh
  split at hh
  · refine fun ad H locs arr hn hz hag hL hP hD hS => ?_
    exact lv_pop hx hb hd rfl (hF _ _ _ _ _ _ hh ad H locs arr hn hz hag hL hP hD hS)
  · rename_i r _
    refine fun ad H locs arr hn hz hag hL hP hD hS => ?_
    exact lv_pop hx hb hd (by cases r <;> rfl) (hF _ _ _ _ _ _ hh ad H locs arr hn hz hag hL hP hD hS)
  · exact hh.elim
end SXI
