/-! rows of rows, switches -/
theorem sx_sw_cases {x : Int32} {d : Prop} : ∀ {cs : List (Int32 × Prop)}, sx_sw x d cs → (∃ q ∈ cs, x = q.1 ∧ q.2) ∨ ((∀ q ∈ cs, ¬ x = q.1) ∧ d)
  | [], h => Or.inr ⟨fun _ hq => absurd hq List.not_mem_nil, h⟩
  | (v, P) :: t, h => by
    by_cases e : x = v
    · exact Or.inl ⟨_, List.mem_cons_self, e, h.1 e⟩
    · rcases sx_sw_cases (h.2 e) with ⟨q, hq, h2⟩ | ⟨h1, h2⟩
      · exact Or.inl ⟨q, List.mem_cons_of_mem _ hq, h2⟩
      · refine Or.inr ⟨fun q hq => ?_, h2⟩
        rcases List.mem_cons.mp hq with rfl | hq
        · exact e
        · exact h1 q hq
def sx_swk (pc nL : Nat) (lo : Int) (offs : Array Int) (cs : List (Int32 × Nat × List Bool)) : Bool := (List.range cs.length).all (fun j => match cs[j]? with
  | some q => decide (q.1.toInt = lo + j) && decide (offs[j]? = some ((q.2.1 : Int) - pc)) && decide (q.2.2.length = nL)
  | none => false)
theorem sx_swk_at {pc nL : Nat} {lo : Int} {offs : Array Int} {cs : List (Int32 × Nat × List Bool)} (h : sx_swk pc nL lo offs cs = true) {j : Nat} {q : Int32 × Nat × List Bool} (hj : cs[j]? = some q) : q.1.toInt = lo + j ∧ offs[j]? = some ((q.2.1 : Int) - pc) ∧ q.2.2.length = nL := by
  have hl := (List.getElem?_eq_some_iff.mp hj).1
  have h1 := List.all_eq_true.mp h j (List.mem_range.mpr hl)
  rw [hj] at h1
  simp only [Bool.and_eq_true, decide_eq_true_eq] at h1
  exact ⟨h1.1.1, h1.1.2, h1.2⟩
theorem sx_lk {x : Int32} {d : Prop} {P : Int32 × Nat × List Bool → Prop} {g : Int32 × Nat × List Bool → Int} {dflt : Int} : ∀ {cs : List (Int32 × Nat × List Bool)}, sx_sw x d (cs.map (fun q => (q.1, P q))) → (∃ q ∈ cs, Op.lookupswitch.offset (cs.map (fun q => (q.1.toInt, g q))) dflt x.toInt = g q ∧ P q) ∨ (Op.lookupswitch.offset (cs.map (fun q => (q.1.toInt, g q))) dflt x.toInt = dflt ∧ d)
  | [], h => Or.inr ⟨rfl, h⟩
  | q :: t, h => by
    rw [List.map_cons, Op.lookupswitch.offset_cons]
    by_cases e : x = q.1
    · rw [if_pos (by rw [e])]
      exact Or.inl ⟨q, List.mem_cons_self, rfl, h.1 e⟩
    · rw [if_neg (fun z => e (Int32.toInt_inj.mp z).symm)]
      rcases sx_lk (h.2 e) with ⟨q2, hq, h2⟩ | h2
      · exact Or.inl ⟨q2, List.mem_cons_of_mem _ hq, h2⟩
      · exact Or.inr h2
section SXB
variable {tb : List sx_M} {own : String} {cc : ByteArray} {nL : Nat} {ret : Option FieldType} {R : Room} {ct lw : Bool} {L : Nat} {xs : Nat → Int32} {pc : Nat}
theorem sn_tsw {lo hi dflt : Int} {offs : Array Int} {ln len t : Nat} {mk : List Bool} {cs : List (Int32 × Nat × List Bool)} (hd : decode cc pc = .ok (.tableswitch dflt lo hi offs, ln)) (hk : sx_swk pc nL lo offs cs = true) (hcs : lo + cs.length = hi + 1) (ht : (pc : Int) + dflt = (t : Int)) (hm : mk.length = nL) : sx_I tb own cc nL ret R ct lw L xs pc len (si_sw cs t mk) := by
  intro C p l e s m args below meth c D aC A n0 ad0 Q F J Rt hC hX hR hF hJ ls st n h kc ks hh
  obtain ⟨hx, hb, hml, hown, hts, hK, hA, hct, hlw⟩ := id hX
  unfold si_sw at hh
  split at hh
  · rename_i x st
    refine fun ad H locs arr hn hz hag hL hP hD hS => ?_
    rcases sx_sw_cases hh with ⟨q0, hq0, ex, hP'⟩ | ⟨hne, hd'⟩
    · obtain ⟨q, hq, rfl⟩ := List.mem_map.mp hq0
      obtain ⟨j, hj⟩ := List.getElem?_of_mem hq
      obtain ⟨k1, k2, k3⟩ := sx_swk_at hk hj
      have hjl := (List.getElem?_eq_some_iff.mp hj).1
      dsimp only at ex hP'
      have ex2 : x.toInt = lo + j := by rw [ex]; exact k1
      exact lv_tableIn hx hb hd (by omega) (by omega) (off := (q.2.1 : Int) - pc) (by rw [show (x.toInt - lo).toNat = j by omega]; exact k2) (tgt := q.2.1) (by omega) (hJ _ _ _ _ _ _ _ hP' ad H locs arr hn hz hag (hL.m k3) hP hD hS)
    · by_cases hr : x.toInt < lo ∨ hi < x.toInt
      · exact lv_tableOut hx hb hd hr ht (hJ _ _ _ _ _ _ _ hd' ad H locs arr hn hz hag (hL.m hm) hP hD hS)
      · exfalso
        have hjl : (x.toInt - lo).toNat < cs.length := by omega
        have hj : cs[(x.toInt - lo).toNat]? = some cs[(x.toInt - lo).toNat] := List.getElem?_eq_getElem hjl
        obtain ⟨k1, k2, k3⟩ := sx_swk_at hk hj
        exact hne _ (List.mem_map.mpr ⟨_, List.getElem_mem hjl, rfl⟩) (Int32.toInt_inj.mp (by dsimp only; omega))
  · exact hh.elim
theorem sn_lsw {dflt : Int} {ps : Array (Int × Int)} {ln len t : Nat} {mk : List Bool} {cs : List (Int32 × Nat × List Bool)} (hd : decode cc pc = .ok (.lookupswitch dflt ps, ln)) (hp : (ps.toList.zip (ps.toList.drop 1)).all (fun (a, next) => a.1 < next.1) = true) (hk : ps.toList = cs.map (fun q => (q.1.toInt, (q.2.1 : Int) - pc))) (hl : ∀ q ∈ cs, q.2.2.length = nL) (ht : (pc : Int) + dflt = (t : Int)) (hm : mk.length = nL) : sx_I tb own cc nL ret R ct lw L xs pc len (si_sw cs t mk) := by
  intro C p l e s m args below meth c D aC A n0 ad0 Q F J Rt hC hX hR hF hJ ls st n h kc ks hh
  obtain ⟨hx, hb, hml, hown, hts, hK, hA, hct, hlw⟩ := id hX
  unfold si_sw at hh
  split at hh
  · rename_i x st
    refine fun ad H locs arr hn hz hag hL hP hD hS => ?_
    rcases sx_lk (g := fun q => (q.2.1 : Int) - pc) (dflt := dflt) hh with ⟨q, hq, e, hP'⟩ | ⟨e, hd'⟩
    · exact lv_lookup hx hb hd hp (off := (q.2.1 : Int) - pc) (by rw [hk]; exact e) (tgt := q.2.1) (by omega) (hJ _ _ _ _ _ _ _ hP' ad H locs arr hn hz hag (hL.m (hl q hq)) hP hD hS)
    · exact lv_lookup hx hb hd hp (off := dflt) (by rw [hk]; exact e) ht (hJ _ _ _ _ _ _ _ hd' ad H locs arr hn hz hag (hL.m hm) hP hD hS)
  · exact hh.elim
def sx_adm (ad : Nat → Nat) (n q N : Nat) (r : Nat → Nat) : Nat → Nat := fun k => if k < n then ad k else if k = n then q else if k < n + 1 + N then r (k - (n + 1)) else ad k
def sx_hm (h : sx_H) (n N K : Nat) : sx_H := fun j => if j < n then h j else if j = n then sx_ar 3 N (fun i => if i < N then some (n + 1 + i) else none) else sx_ai K (fun _ => 0)
theorem sx_w_mna {aC : Nat → ClassId} {ad : Nat → Nat} {n q N K : Nat} {r : Nat → Nat} {h : sx_H} (hn : n + N < sx_sc) (hw : ∀ k, k < n → sx_we n (h k)) :
    (sx_w aC ad n h ++ [(q, .inl (aC 3, N, .inr (.inr (.inr (.inr (fun i => if i < N then some (r i) else none))))))]) ++ (List.range N).map (fun i => (r i, .inl (aC 0, K, .inl (fun _ => 0)))) = sx_w aC (sx_adm ad n q N r) (n + 1 + N) (sx_hm h n N K) := by
  have hag : sx_ag n ad (sx_adm ad n q N r) := fun k hk => by
    rcases hk with hk | hk
    · simp [sx_adm, hk]
    · have a1 : ¬ k < n := by omega
      have a2 : ¬ k = n := by omega
      have a3 : ¬ k < n + 1 + N := by omega
      simp [sx_adm, a1, a2, a3]
  apply List.ext_getElem?
  intro j
  by_cases h1 : j < n
  · rw [List.append_assoc, List.getElem?_append_left (by simpa [sx_w] using h1), sx_w_at h1, sx_w_at (by omega), hag j (Or.inl h1)]
    have : sx_hm h n N K j = h j := by simp [sx_hm, h1]
    rw [this, sx_ce_ag hag (hw j h1)]
  · by_cases h2 : j = n
    · subst h2
      rw [List.append_assoc, List.getElem?_append_right (by simp [sx_w]), sx_w_at (by omega)]
      have e1 : sx_adm ad j q N r j = q := by simp [sx_adm]
      have e2 : sx_hm h j N K j = sx_ar 3 N (fun i => if i < N then some (j + 1 + i) else none) := by simp [sx_hm]
      rw [e1, e2]
      have e3 : (fun i => (if i < N then some (j + 1 + i) else none : Option Nat).map (sx_adm ad j q N r)) = (fun i => if i < N then some (r i) else none) := by
        funext i
        by_cases hi : i < N
        · have a1 : ¬ j + 1 + i < j := by omega
          have a2 : ¬ j + 1 + i = j := by omega
          have a3 : j + 1 + i - (j + 1) = i := by omega
          simp [hi, sx_adm, a1, a2, a3]
        · simp [hi]
      simp only [sx_ce, e3]
      simp [sx_w]
    · by_cases h3 : j < n + 1 + N
      · rw [List.getElem?_append_right (by simp [sx_w]; omega), sx_w_at h3]
        have e1 : sx_adm ad n q N r j = r (j - (n + 1)) := by simp [sx_adm, h1, h2, h3]
        have e2 : sx_hm h n N K j = sx_ai K (fun _ => 0) := by simp [sx_hm, h1, h2]
        rw [e1, e2, List.getElem?_map, List.getElem?_range (by simp [sx_w]; omega)]
        simp [sx_w, sx_ce]
      · rw [List.getElem?_eq_none (by simp [sx_w]; omega), sx_w_ge (by omega)]
theorem sn_mna {idx : Nat} (hd : decode cc pc = .ok (.multianewarray idx 2, 4)) (hw : Cond.classLink own idx ("[" ++ (FieldType.array .int).toString) ∈ sx_U) (hw2 : Cond.arrayClass .int ∈ sx_U) : sx_I tb own cc nL ret R ct lw L xs pc 4 (si_mna R.cells R.slots) := by
  intro C p l e s m args below meth c D aC A n0 ad0 Q F J Rt hC hX hR hF hJ ls st n h kc ks hh
  obtain ⟨hx, hb, hml, hown, hts, hK, hA, hct, hlw⟩ := id hX
  unfold si_mna at hh
  split at hh
  · rename_i k0 c0 st
    obtain ⟨h1, h2, h3, h4, h5, h6, h7, ⟨w1, w2, w3⟩, hh⟩ := hh
    refine fun ad H locs arr hn hz hag hL hP hD hS => ?_
    have hcy : s.vm.findClass (FieldType.array .int).toString = some (aC 0) := (hK.1.2 0 _ rfl).2
    refine va_mna (X := sx_w aC ad n h) (L := []) (f := fun _ => .inr (0, [])) (ty := .int) (z := (k0.toNatClampNeg, .inl (fun _ => 0))) hx hb hown (hts _ hw) hK.2.2 (hts _ hw2) hcy hK.1 (by show va_P D vwCl (_ ++ []) H; rw [List.append_nil]; exact hP) (by show va_D A (_ ++ []); rw [List.append_nil]; exact hD) hS hA h1 h2 rfl rfl (by omega) (by show _ * 4 ≤ _; omega) (by omega) rfl rfl h5 h6 (fun c => arrV_new _ _ _) hd (fun q r cA H1 hri hrn hK1 hP1 hD1 hS1 => ?_)
    have eA : cA = aC 3 := sx_RA0 (fun _ q => by cases q) (hK1.2 4 _ rfl).2 (hK.1.2 3 _ rfl).2
    subst eA
    have er : va_pl ([] ++ (List.range c0.toNatClampNeg).map r) (vr_up (fun _ => .inr (0, [])) ((List.range c0.toNatClampNeg).map r) (.inl (aC 0, (k0.toNatClampNeg, .inl (fun _ => 0))))) = (List.range c0.toNatClampNeg).map (fun i => (r i, .inl (aC 0, k0.toNatClampNeg, .inl (fun _ => 0)))) := by
      unfold va_pl
      rw [List.nil_append, List.map_map]
      apply List.map_congr_left
      intro i hi
      show (r i, vr_up _ _ _ (r i)) = _
      rw [vr_up_in (List.mem_map.mpr ⟨i, hi, rfl⟩)]
    have ew := sx_w_mna (aC := aC) (ad := ad) (q := q) (K := k0.toNatClampNeg) (r := r) (h := h) h7 w3
    have hag2 : sx_ag n ad (sx_adm ad n q c0.toNatClampNeg r) := fun k hk => by
      rcases hk with hk | hk
      · simp [sx_adm, hk]
      · have a1 : ¬ k < n := by omega
        have a2 : ¬ k = n := by omega
        have a3 : ¬ k < n + 1 + c0.toNatClampNeg := by omega
        simp [sx_adm, a1, a2, a3]
    have g1 : va_P D vwCl (sx_w aC (sx_adm ad n q c0.toNatClampNeg r) (n + 1 + c0.toNatClampNeg) (sx_hm h n c0.toNatClampNeg k0.toNatClampNeg)) H1 := by rw [← ew, ← er]; exact hP1
    have g2 : va_D A (sx_w aC (sx_adm ad n q c0.toNatClampNeg r) (n + 1 + c0.toNatClampNeg) (sx_hm h n c0.toNatClampNeg k0.toNatClampNeg)) := by rw [← ew, ← er]; exact hD1
    have gg := hF _ _ _ _ _ _ hh (sx_adm ad n q c0.toNatClampNeg r) H1 locs arr (by omega) (fun q => by omega) (fun k hk => (hag2 k (hk.imp (fun q => by omega) id)).trans (hag k hk)) (hL.ag hag2 w1) g1 g2 hS1
    have es : List.map (sx_cv (sx_adm ad n q c0.toNatClampNeg r)) (sx_r (some n) :: st) = .ref q :: List.map (sx_cv ad) st := by
      rw [List.map_cons, sx_st_ag hag2 w2]
      simp [sx_cv, va_rf, sx_adm]
    rw [es] at gg
    exact gg
  · exact hh.elim
/-! a block at a place, a body, a method, the program -/
def sx_BK (tb : List sx_M) (own : String) (cc : ByteArray) (nL : Nat) (ret : Option FieldType) (R : Room) (ct lw : Bool) (L : Nat) (xs : Nat → Int32) : Nat → List sx_S → Prop
  | _, [] => True
  | pc, I :: t => ∃ len, (sx_I tb own cc nL ret R ct lw L xs pc len I ∧ sx_mon I) ∧ sx_BK tb own cc nL ret R ct lw L xs (pc + len) t
theorem sx_BK_mon {tb : List sx_M} {own : String} {cc : ByteArray} {nL : Nat} {ret : Option FieldType} {R : Room} {ct lw : Bool} {L : Nat} {xs : Nat → Int32} : ∀ {b : List sx_S} {pc : Nat}, sx_BK tb own cc nL ret R ct lw L xs pc b → ∀ I ∈ b, sx_mon I
  | [], _, _, I, h => absurd h List.not_mem_nil
  | J :: t, pc, ⟨_, h1, h2⟩, I, h => by
    rcases List.mem_cons.mp h with rfl | h
    · exact h1.2
    · exact sx_BK_mon h2 I h
theorem sx_run_ok (C : sx_C) (p : Program) (l : Launch) (e : Env) (s : State) (m : MethodId) (args : Array Value) (below : List Frame) (meth : Method) (c : Code) (D : va_G) (aC : Nat → ClassId) (A : Nat → Prop) (n0 : Nat) (ad0 : Nat → Nat) (Q : State → Prop) (J : Nat → sx_K) (Rt : sx_R)
    (hC : sx_CO tb l C) (hX : sx_X p s m args meth c D aC A ad0 own cc nL ct lw L xs) (hR : sx_RO p l e R s m args below meth c D aC A nL n0 ad0 Q cc ret Rt) (hJ : ∀ t ls st n h kc ks, J t ls st n h kc ks → sx_Z p l e R s m args below meth c D aC A nL n0 ad0 Q t ls st n h kc ks) :
    ∀ (b : List sx_S) (pc : Nat), sx_BK tb own cc nL ret R ct lw L xs pc b → ∀ ls st n h kc ks, sx_run b C J Rt ls st n h kc ks → sx_Z p l e R s m args below meth c D aC A nL n0 ad0 Q pc ls st n h kc ks
  | [], pc, _, ls, st, n, h, kc, ks, hh => hh.elim
  | I :: t, pc, ⟨len, h1, h2⟩, ls, st, n, h, kc, ks, hh => h1.1 C p l e s m args below meth c D aC A n0 ad0 Q _ J Rt hC hX hR (fun ls st n h kc ks q => sx_run_ok C p l e s m args below meth c D aC A n0 ad0 Q J Rt hC hX hR hJ t (pc + len) h2 ls st n h kc ks q) hJ ls st n h kc ks hh
theorem sx_T_ok {B : Nat → List sx_S} (hB : ∀ pc, sx_BK tb own cc nL ret R ct lw L xs pc (B pc)) (C : sx_C) (p : Program) (l : Launch) (e : Env) (s : State) (m : MethodId) (args : Array Value) (below : List Frame) (meth : Method) (c : Code) (D : va_G) (aC : Nat → ClassId) (A : Nat → Prop) (n0 : Nat) (ad0 : Nat → Nat) (Q : State → Prop) (Rt : sx_R)
    (hC : sx_CO tb l C) (hX : sx_X p s m args meth c D aC A ad0 own cc nL ct lw L xs) (hR : sx_RO p l e R s m args below meth c D aC A nL n0 ad0 Q cc ret Rt) (pc : Nat) (ls : sx_L) (st : List sx_V) (n : Nat) (h : sx_H) (kc ks : Nat) (hh : sx_T B C Rt pc ls st n h kc ks) : sx_Z p l e R s m args below meth c D aC A nL n0 ad0 Q pc ls st n h kc ks :=
  hh _ (fun pc ls st n h kc ks q => sx_run_ok C p l e s m args below meth c D aC A n0 ad0 Q _ Rt hC hX hR (fun _ _ _ _ _ _ _ q => q) (B pc) pc (hB pc) ls st n h kc ks q)
end SXB
theorem sx_en_at (ad : Nat → Nat) : ∀ (a : List sx_V) (nL k0 k : Nat) (v : sx_V), (sx_en nL a)[k]? = some (some v) → (k0 + k, sx_cv ad v) ∈ lv_args k0 (a.map (sx_cv ad))
  | [], nL, k0, k, v, h => by
    simp only [sx_en, List.getElem?_replicate] at h
    split at h <;> simp at h
  | .inl x :: t, nL, k0, k, v, h => by
    cases k with
    | zero => simp [sx_en] at h; subst h; exact List.mem_cons_self
    | succ k =>
      have h2 := sx_en_at ad t (nL - 1) (k0 + 1) k v (by simpa [sx_en] using h)
      have e : k0 + (k + 1) = k0 + 1 + k := by omega
      rw [e]
      exact List.mem_cons_of_mem _ h2
  | .inr (.inl x) :: t, nL, k0, k, v, h => by
    match k with
    | 0 => simp [sx_en] at h; subst h; exact List.mem_cons_self
    | 1 => simp [sx_en] at h
    | k + 2 =>
      have h2 := sx_en_at ad t (nL - 2) (k0 + 2) k v (by simpa [sx_en] using h)
      have e : k0 + (k + 2) = k0 + 2 + k := by omega
      rw [e]
      exact List.mem_cons_of_mem _ h2
  | .inr (.inr x) :: t, nL, k0, k, v, h => by
    cases k with
    | zero => simp [sx_en] at h; subst h; exact List.mem_cons_self
    | succ k =>
      have h2 := sx_en_at ad t (nL - 1) (k0 + 1) k v (by simpa [sx_en] using h)
      have e : k0 + (k + 1) = k0 + 1 + k := by omega
      rw [e]
      refine List.mem_cons_of_mem _ ?_
      have ec : (sx_cv ad (.inr (.inr x))).category = 1 := by cases x <;> rfl
      rw [ec]
      exact h2
theorem sx_en_len : ∀ (a : List sx_V) (nL : Nat), sx_cat a ≤ nL → (sx_en nL a).length = nL
  | [], nL, _ => by simp [sx_en]
  | .inl x :: t, nL, h => by simp only [sx_cat] at h; simp [sx_en, sx_en_len t (nL - 1) (by omega)]; omega
  | .inr (.inl x) :: t, nL, h => by simp only [sx_cat] at h; simp [sx_en, sx_en_len t (nL - 2) (by omega)]; omega
  | .inr (.inr x) :: t, nL, h => by simp only [sx_cat] at h; simp [sx_en, sx_en_len t (nL - 1) (by omega)]; omega
theorem sx_sl_len (ad : Nat → Nat) : ∀ a : List sx_V, (lg_sl (a.map (sx_cv ad))).length = sx_cat a
  | [] => rfl
  | .inl x :: t => by have h := sx_sl_len ad t; unfold lg_sl at h ⊢; simp only [List.map_cons, List.flatMap_cons, List.length_append, h, sx_cat]; show 1 + _ = _; omega
  | .inr (.inl x) :: t => by have h := sx_sl_len ad t; unfold lg_sl at h ⊢; simp only [List.map_cons, List.flatMap_cons, List.length_append, h, sx_cat]; show 2 + _ = _; omega
  | .inr (.inr none) :: t => by have h := sx_sl_len ad t; unfold lg_sl at h ⊢; simp only [List.map_cons, List.flatMap_cons, List.length_append, h, sx_cat]; show 1 + _ = _; omega
  | .inr (.inr (some k)) :: t => by have h := sx_sl_len ad t; unfold lg_sl at h ⊢; simp only [List.map_cons, List.flatMap_cons, List.length_append, h, sx_cat]; show 1 + _ = _; omega
/-- a method whose body is told keeps its contract -/
theorem sx_met {tb : List sx_M} {y : MethodName} {bs : ByteArray} {mL : Nat} {ret : Option FieldType} {rm : Room} {ct : Bool} {B : Nat → List sx_S} (hret : ret = none ∨ ret = some .int ∨ ret = some .boolean ∨ ret = some .long) (hy : plainName y.cls = true) (hct : ct = true → y.name = "<init>")
    (hB : ∀ pc, sx_BK tb y.cls bs mL ret rm ct false 0 (fun _ => 0) pc (B pc)) (l : Launch) (C : sx_C) (hC : sx_CO tb l C) (a : List sx_V) (n : Nat) (h : sx_H) (Q : sx_Q) (hcat : sx_cat a ≤ mL)
    (hh : sx_T B C (fun r n' h' kc ks => Q r n' h' ∧ kc ≤ rm.cells ∧ ks ≤ rm.slots) 0 (sx_en mL a) [] n h 0 0) : sx_MO l (y, bs, mL, ret, rm) a n h Q := by
  intro D aC ad sz
  refine Met.ofW (cc := bs) (maxL := mL) (ret := ret) hy rfl ?_
  intro p e s m args below meth c s₁ B0 hml hv
  obtain ⟨rfl, hsz, hP, hK, hD0⟩ := hv
  have hts := atoms_spec (ws := sx_ws (y, bs, mL, ret, rm)) B0.pre
  have hown : s.vm.findClass y.cls = some m.cls := findClass_of_methodNamed B0.named
  have hlocks := B0.notSynchronized
  have hin : meth.name = y.name := (name_of_methodNamed B0.named B0.method).1
  subst hsz
  have hD := hD0.self (sz := s.heap.size)
  have hX : sx_X p s m (List.toArray (a.map (sx_cv ad))) meth c D aC (va_A (sx_w aC ad n h) s.heap.size) ad y.cls bs mL ct false 0 (fun _ => 0) := ⟨B0.exec, B0.bytes, hml, hown, fun w hw => hts w (List.mem_cons_of_mem _ hw), hK, fun q hq => Or.inr hq, fun q => hin.trans (hct q), fun q => by cases q⟩
  have hl := lv_entry (a.map (sx_cv ad)) (n := mL) (by rw [sx_sl_len]; exact hcat)
  have hL : sx_LO ad mL (sx_en mL a) ((lg_sl (a.map (sx_cv ad)) ++ List.replicate (mL - (lg_sl (a.map (sx_cv ad))).length) Slot.unset).toArray) := ⟨sx_en_len a mL hcat, hl.1, hl.2.1, fun k v hk => hl.2.2 (k, sx_cv ad v) (by have := sx_en_at ad a mL 0 k v hk; rwa [Nat.zero_add] at this)⟩
  rw [lg_entry_eq]
  refine sx_T_ok hB C p l e s m _ below meth c D aC _ n ad (MQ below (sx_Qc ret D aC ad n (va_A (sx_w aC ad n h) s.heap.size) Q) (List.toArray (a.map (sx_cv ad))) s rm.cells rm.slots (va_A (sx_w aC ad n h) s.heap.size)) _ hC hX ?_ 0 _ [] n h 0 0 hh ad s.heap [] _ (Nat.le_refl n) (fun _ => rfl) (fun _ _ => rfl) hL hP hD va_S.rf
  intro pc ls n' h' kc ks
  refine ⟨fun hd hr hq => ?_, fun x hd hr hq => ?_, fun x hd hr hq => ?_⟩
  · subst hr
    refine fun ad' H locs arr hn hz hag hL hP hD hS => ?_
    refine W.widen hq.2.1 hq.2.2 (W.vret B0.exec B0.bytes B0.returns (fun t ht hW => ⟨⟨(n', h', ad'), rfl, ⟨hq.1, hn, hz, fun k hk => hag k hk⟩, by show va_P D vwCl (sx_w aC ad' n' h') t.heap; rw [ht]; exact hP, hK.moved hW.alike, hD⟩, hS.F ht⟩) hS.2.2 hd)
  · refine fun ad' H locs arr hn hz hag hL hP hD hS => ?_
    rcases hr with hr | ⟨hr, hx01⟩
    · subst hr
      refine W.widen hq.2.1 hq.2.2 (W.iret (v := x) B0.exec B0.bytes B0.returns (fun t ht hW => ⟨⟨x, (n', h', ad'), rfl, ⟨hq.1, hn, hz, fun k hk => hag k hk⟩, by show va_P D vwCl (sx_w aC ad' n' h') t.heap; rw [ht]; exact hP, hK.moved hW.alike, hD⟩, hS.F ht⟩) hS.2.2 hd)
    · subst hr
      refine W.widen hq.2.1 hq.2.2 (W.zret (v := x) B0.exec B0.bytes B0.returns (by rcases hx01 with rfl | rfl <;> rfl) (fun t ht hW => ⟨⟨x, (n', h', ad'), rfl, ⟨hq.1, hn, hz, fun k hk => hag k hk⟩, by show va_P D vwCl (sx_w aC ad' n' h') t.heap; rw [ht]; exact hP, hK.moved hW.alike, hD⟩, hS.F ht⟩) hS.2.2 hd)
  · subst hr
    refine fun ad' H locs arr hn hz hag hL hP hD hS => ?_
    refine W.widen hq.2.1 hq.2.2 (W.lret (v := x) B0.exec B0.bytes B0.returns (fun t ht hW => ⟨⟨x, (n', h', ad'), rfl, ⟨hq.1, hn, hz, fun k hk => hag k hk⟩, by show va_P D vwCl (sx_w aC ad' n' h') t.heap; rw [ht]; exact hP, hK.moved hW.alike, hD⟩, hS.F ht⟩) hS.2.2 hd)
/-- all calls: the least that keeps every body -/
def sx_Call (tb : List sx_M) (BT : Nat → Nat → List sx_S) : sx_C := fun mi a n h Q => ∀ P : sx_C, (∀ (mi : Nat) (q : sx_M) (a : List sx_V) (n : Nat) (h : sx_H) (Q : sx_Q), tb[mi]? = some q → sx_cat a ≤ q.2.2.1 → sx_T (BT mi) P (fun r n' h' kc ks => Q r n' h' ∧ kc ≤ q.2.2.2.2.cells ∧ ks ≤ q.2.2.2.2.slots) 0 (sx_en q.2.2.1 a) [] n h 0 0 → P mi a n h Q) → P mi a n h Q
theorem sx_Call_mon {tb : List sx_M} {BT : Nat → Nat → List sx_S} (hm : ∀ mi pc, ∀ I ∈ BT mi pc, sx_mon I) (mi : Nat) (a : List sx_V) (n : Nat) (h : sx_H) (Q Q' : sx_Q) (hQ : ∀ r n h, Q r n h → Q' r n h) (hh : sx_Call tb BT mi a n h Q) : sx_Call tb BT mi a n h Q' := fun P hP =>
  hh (fun mi a n h Q => ∀ Q' : sx_Q, (∀ r n h, Q r n h → Q' r n h) → P mi a n h Q') (fun mi q a n h Q hq hc ht Q' hQ => hP mi q a n h Q' hq hc (sx_T_mon (hm mi) (fun mi a n h Q Q' hQ hp => hp Q' hQ) (fun r n h kc ks z => ⟨hQ _ _ _ z.1, z.2⟩) ht)) Q' hQ
theorem sx_Call_in {tb : List sx_M} {BT : Nat → Nat → List sx_S} (hm : ∀ mi pc, ∀ I ∈ BT mi pc, sx_mon I) {mi : Nat} {q : sx_M} {a : List sx_V} {n : Nat} {h : sx_H} {Q : sx_Q} (hq : tb[mi]? = some q) (hc : sx_cat a ≤ q.2.2.1)
    (hh : sx_T (BT mi) (sx_Call tb BT) (fun r n' h' kc ks => Q r n' h' ∧ kc ≤ q.2.2.2.2.cells ∧ ks ≤ q.2.2.2.2.slots) 0 (sx_en q.2.2.1 a) [] n h 0 0) : sx_Call tb BT mi a n h Q := fun P hP =>
  hP mi q a n h Q hq hc (sx_T_mon (hm mi) (fun mi a n h Q Q' hQ hp => sx_Call_mon hm mi a n h Q Q' hQ hp P hP) (fun _ _ _ _ _ z => z) hh)
/-- what is to be shown of each method of the table -/
def sx_ok (tb : List sx_M) (B : Nat → List sx_S) (q : sx_M) : Prop := (q.2.2.2.1 = none ∨ q.2.2.2.1 = some .int ∨ q.2.2.2.1 = some .boolean ∨ q.2.2.2.1 = some .long) ∧ plainName q.1.cls = true ∧ ∃ ct : Bool, (ct = true → q.1.name = "<init>") ∧ ∀ pc, sx_BK tb q.1.cls q.2.1 q.2.2.1 q.2.2.2.1 q.2.2.2.2 ct false 0 (fun _ => 0) pc (B pc)
theorem sx_all {tb : List sx_M} {BT : Nat → Nat → List sx_S} (hok : ∀ mi q, tb[mi]? = some q → sx_ok tb (BT mi) q) (l : Launch) : sx_CO tb l (sx_Call tb BT) := fun mi q a n h Q hq hh =>
  hh (fun mi a n h Q => ∀ q, tb[mi]? = some q → sx_MO l q a n h Q) (fun mi q a n h Q hq hc ht q' hq' => by
    cases hq.symm.trans hq'
    obtain ⟨h1, h2, ct, h3, h4⟩ := hok mi q hq
    exact sx_met h1 h2 h3 h4 l _ (fun mi q a n h Q hq hp => hp q hq) a n h Q hc ht) q hq
