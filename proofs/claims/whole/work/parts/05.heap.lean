def va_AOA (t : FieldType) (U : State) : Prop := (Cond.arrayOver (.array t)).before #[] U = true
theorem va_AOA.use {t : FieldType} {a : Array Value} {U : State} (h : va_AOA t U) : (Cond.arrayOver (.array t)).before a U = true := h
/-! ===== BEGIN new T[n][m]: the outer array a place, the inner ones among the pooled ===== -/
/-- f, but v at every address of l -/
def vr_up {α : Type} (f : Nat → α) (l : List Nat) (v : α) : Nat → α := fun a => if a ∈ l then v else f a
theorem vr_up_in {α : Type} {f : Nat → α} {l : List Nat} {v : α} {a : Nat} (h : a ∈ l) : vr_up f l v a = v := if_pos h
theorem vr_up_ne {α : Type} {f : Nat → α} {l : List Nat} {v : α} {a : Nat} (h : a ∉ l) : vr_up f l v a = f a := if_neg h
theorem vr_rows {L l : List Nat} {f : Nat → va_E} {e : va_E} (h : ∀ a, a ∈ l → a ∉ L) : va_pl L f ++ l.map (fun a => (a, e)) = va_pl (L ++ l) (vr_up f l e) := by
  unfold va_pl
  rw [List.map_append]
  congr 1
  · apply List.map_congr_left
    intro a ha
    rw [vr_up_ne (fun q => h a q ha)]
  · apply List.map_congr_left
    intro a ha
    rw [vr_up_in ha]
theorem vr_lay {X rows : va_W} {x : Nat × va_E} {pl : va_W} {D : va_G} {cl : List vw_C} {H : Heap} (hP : va_P D cl (((X ++ pl) ++ [x]) ++ rows) H) : va_P D cl ((X ++ [x]) ++ (pl ++ rows)) H := by
  rw [List.append_assoc (X ++ pl)] at hP
  have h := va_P.swap hP
  rw [← List.append_assoc X] at h
  have h2 := va_P.swap h
  rw [List.append_assoc (X ++ [x])] at h2
  exact h2
theorem vr_layD {X rows : va_W} {x : Nat × va_E} {pl : va_W} {A : Nat → Prop} (hD : va_D A (((X ++ pl) ++ [x]) ++ rows)) : va_D A ((X ++ [x]) ++ (pl ++ rows)) := by
  rw [List.append_assoc (X ++ pl)] at hD
  have h := va_D.swap hD
  rw [← List.append_assoc X] at h
  have h2 := va_D.swap h
  rw [List.append_assoc (X ++ [x])] at h2
  exact h2
theorem vr_outer (c : ClassId) (N h0 : Nat) : ∀ i : Nat, Jvm.Free.Multi.outerC c N h0 i = arrV c N (fun j => va_rf (if j < i then some (h0 + 1 + j) else none))
  | 0 => by
    show ({ cls := c, slots := Array.replicate N .null, vm := .none } : Cell) = _
    rw [arrV_new]
    refine congrArg (arrV c N) (funext fun j => ?_)
    simp [va_rf]
  | i + 1 => by
    show (Jvm.Free.Multi.outerC c N h0 i).setSlot i (.ref (h0 + 1 + i)) = _
    rw [vr_outer c N h0 i, arrV_store]
    refine congrArg (arrV c N) (funext fun j => ?_)
    by_cases e : j = i
    · subst e
      simp [updV, va_rf]
    · by_cases h : j < i
      · simp [updV, e, h, Nat.lt_succ_of_lt h]
      · simp [updV, e, h, show ¬ j < i + 1 by omega]
section VGM
variable {p : Program} {l : Launch} {e : Env} {R : Room} {s : State} {m : MethodId} {args : Array Value} {below : List Frame} {meth : Method} {c : Code} {H : Heap} {locs : List Loc} {cells slots : Nat} {Q : State → Prop}
variable {cc : ByteArray} {pc : Nat} {ls : Array Slot} {rest : List Value} {D : va_G} {cl : List vw_C} {A : Nat → Prop} {a : Nat} {tys : List (ClassId × FieldType)} {ws : va_W} {H0 : Heap}
theorem va_mna {X : va_W} {L : List Nat} {f : Nat → va_E} {cc : ByteArray} (hexec : p.tables.exec = Jvm.exec) (hb : c.code = cc) {own : String} {index : Nat} {ty : FieldType} {cy : ClassId} (hown : s.vm.findClass own = some m.cls) (hclink : (Cond.classLink own index ("[" ++ (FieldType.array ty).toString)).before args s = true) (hover : va_AOA ty s) (harr : (Cond.arrayClass ty).before args s = true) (hcy : s.vm.findClass (FieldType.array ty).toString = some cy)
    (hK : va_K D cl tys s) (hP : va_P D cl (X ++ va_pl L f) H) (hD : va_D A (X ++ va_pl L f)) (hS : va_S A H0 H locs) (hA : ∀ q, H0.size ≤ q → A q) {n k : Int32} {N' K' : Nat} {z : vp_A} (hn : ¬ n < 0) (hk : ¬ k < 0) (hN : n.toNatClampNeg = N') (hM : k.toNatClampNeg = K')
    (hb1 : N' * 4 ≤ 536870912) (hb2 : K' * componentBytes ty ≤ 536870912) (hb3 : K' ≤ 536870912) (hdf : fits ty (defaultValue ty) = true) (hdd : (defaultValue ty).isDefault = true) (hcells : cells + (1 + N') ≤ R.cells) (hslots : slots + (N' + N' * K') ≤ R.slots) (hz : ∀ c : ClassId, Jvm.Free.Multi.innerC c K' (defaultValue ty) = vp_cell c z) (hdg : decode cc pc = .ok (.multianewarray index 2, 4))
    (kk : ∀ (q : Nat) (r : Nat → Nat) (cA : ClassId) (H1 : Heap), (∀ i j : Nat, i < N' → j < N' → r i = r j → i = j) → (∀ i : Nat, i < N' → r i ∉ L) → va_K D cl (tys ++ [(cA, .array ty)]) s →
      va_P D cl ((X ++ [(q, .inl (cA, N', .inr (.inr (.inr (.inr (fun i => if i < N' then some (r i) else none))))))]) ++ va_pl (L ++ (List.range N').map r) (vr_up f ((List.range N').map r) (.inl (cy, z)))) H1 → va_D A ((X ++ [(q, .inl (cA, N', .inr (.inr (.inr (.inr (fun i => if i < N' then some (r i) else none))))))]) ++ va_pl (L ++ (List.range N').map r) (vr_up f ((List.range N').map r) (.inl (cy, z)))) → va_S A H0 H1 locs →
      W p l e R s m args below meth c H1 locs (cells + 1 + N') (slots + N' + N' * K') Q (F0 m (pc + 4) ls (.ref q :: rest))) : W p l e R s m args below meth c H locs cells slots Q (F0 m pc ls (.int k :: .int n :: rest)) := by
  subst hN
  subst hM
  intro T hT Xs
  obtain ⟨vm₁, cA, comp, -, fA, fC, hO, -, X', step⟩ := Xs.multianewarray2F hexec hown hclink (va_AOA.use hover) harr (g := F0 m pc ls (.int k :: .int n :: rest)) rfl (by rw [hb]; exact hdg) rfl hn hk hb1 hb2 hb3 hdf hdd hcells hslots
  have ec : some cy = some comp := hcy.symm.trans fC
  cases ec
  generalize hF : Jvm.Free.Multi.fill (T.setVm vm₁) cA cy n.toNatClampNeg k.toNatClampNeg (defaultValue ty) n.toNatClampNeg = F at X' step
  have hTh : (T.setVm vm₁).heap = H := hT
  obtain ⟨f1, f2, -, -⟩ := Jvm.Free.Multi.fill_facts (T.setVm vm₁) cA cy n.toNatClampNeg k.toNatClampNeg (defaultValue ty) n.toNatClampNeg
  rw [hF, hTh] at f1 f2
  have hold : ∀ x : Nat, x < H.size → F.heap[x]? = H[x]? := fun x hx => by
    have := Jvm.Free.Multi.fill_old (T.setVm vm₁) cA cy n.toNatClampNeg k.toNatClampNeg (defaultValue ty) (a := x) (by rw [hTh]; exact hx) n.toNatClampNeg
    rw [hF, hTh] at this
    exact this
  have hrow : ∀ j : Nat, j < n.toNatClampNeg → F.heap[H.size + 1 + j]? = some (vp_cell cy z) := fun j hj => by
    have := Jvm.Free.Multi.fill_inner (T.setVm vm₁) cA cy n.toNatClampNeg k.toNatClampNeg (defaultValue ty) n.toNatClampNeg j hj
    rw [hF, hTh, hz] at this
    exact this
  have hout : Jvm.Free.Multi.outerC cA n.toNatClampNeg H.size n.toNatClampNeg = vp_cell cA (n.toNatClampNeg, .inr (.inr (.inr (.inr (fun i => if i < n.toNatClampNeg then some (H.size + 1 + i) else none))))) := by
    rw [vp_cell_q]
    exact vr_outer cA n.toNatClampNeg H.size n.toNatClampNeg
  rw [hout] at f2
  have hlt : ∀ a, a ∈ L → a < H.size := fun a ha => by
    obtain ⟨k9, hk9⟩ := va_pl_get (X := X) (f := f) ha
    exact (hP k9 _ hk9).lt
  have hnl : ∀ i : Nat, i < n.toNatClampNeg → H.size + 1 + i ∉ L := fun i _ h => by
    have := hlt _ h
    omega
  have hnm : ∀ a, a ∈ (List.range n.toNatClampNeg).map (fun i => H.size + 1 + i) → a ∉ L := fun a ha h => by
    obtain ⟨i, -, rfl⟩ := List.mem_map.mp ha
    have := hlt _ h
    omega
  have hP0 : va_P D cl (X ++ va_pl L f) F.heap := hP.kept (fun k9 x hx => hold x.1 ((hP k9 x hx).lt))
  have hP1 : va_P D cl ((X ++ va_pl L f) ++ [(H.size, .inl (cA, n.toNatClampNeg, .inr (.inr (.inr (.inr (fun i => if i < n.toNatClampNeg then some (H.size + 1 + i) else none))))))]) F.heap := hP0.app (fun k9 x hx => by
    have h0 : k9 < 1 := (List.getElem?_eq_some_iff.mp hx).1
    rw [show k9 = 0 by omega] at hx
    cases hx
    exact f2)
  have hP2 : va_P D cl (((X ++ va_pl L f) ++ [(H.size, .inl (cA, n.toNatClampNeg, .inr (.inr (.inr (.inr (fun i => if i < n.toNatClampNeg then some (H.size + 1 + i) else none))))))]) ++ ((List.range n.toNatClampNeg).map (fun i => H.size + 1 + i)).map (fun a => (a, .inl (cy, z)))) F.heap := hP1.app (fun k9 x hx => by
    obtain ⟨a, ha, rfl⟩ := List.mem_map.mp (List.mem_of_getElem? hx)
    obtain ⟨i, hi, rfl⟩ := List.mem_map.mp ha
    exact hrow i (List.mem_range.mp hi))
  have hD2 : va_D A (((X ++ va_pl L f) ++ [(H.size, .inl (cA, n.toNatClampNeg, .inr (.inr (.inr (.inr (fun i => if i < n.toNatClampNeg then some (H.size + 1 + i) else none))))))]) ++ ((List.range n.toNatClampNeg).map (fun i => H.size + 1 + i)).map (fun a => (a, .inl (cy, z)))) := by
    have hD1 := hD.push (e := .inl (cA, n.toNatClampNeg, .inr (.inr (.inr (.inr (fun i => if i < n.toNatClampNeg then some (H.size + 1 + i) else none)))))) hP rfl (hA _ hS.1)
    generalize hW1 : (X ++ va_pl L f) ++ [(H.size, .inl (cA, n.toNatClampNeg, .inr (.inr (.inr (.inr (fun i => if i < n.toNatClampNeg then some (H.size + 1 + i) else none))))))] = W1 at hD1 hP1 ⊢
    have hle : ∀ (k9 : Nat) (x : Nat × va_E), W1[k9]? = some x → x.1 ≤ H.size := fun k9 x hx => by
      rw [← hW1] at hx
      by_cases hl : k9 < (X ++ va_pl L f).length
      · rw [List.getElem?_append_left hl] at hx
        exact Nat.le_of_lt ((hP k9 x hx).lt)
      · rw [List.getElem?_append_right (by omega)] at hx
        have h0 : k9 - (X ++ va_pl L f).length < 1 := (List.getElem?_eq_some_iff.mp hx).1
        rw [show k9 - (X ++ va_pl L f).length = 0 by omega] at hx
        cases hx
        exact Nat.le_refl _
    have hr : ∀ (k9 : Nat) (x : Nat × va_E), (((List.range n.toNatClampNeg).map (fun i => H.size + 1 + i)).map (fun a => ((a, .inl (cy, z)) : Nat × va_E)))[k9]? = some x → x.1 = H.size + 1 + k9 := fun k9 x hx => by
      rw [List.getElem?_map, List.getElem?_map] at hx
      by_cases h9 : k9 < n.toNatClampNeg
      · rw [List.getElem?_range h9] at hx
        cases hx
        rfl
      · have hn0 : (List.range n.toNatClampNeg)[k9]? = none := List.getElem?_eq_none (by rw [List.length_range]; omega)
        rw [hn0] at hx
        cases hx
    refine ⟨fun i j x y hi hj hxy => ?_, fun k9 x hx => ?_⟩
    · by_cases h1 : i < W1.length <;> by_cases h2 : j < W1.length
      · rw [List.getElem?_append_left h1] at hi
        rw [List.getElem?_append_left h2] at hj
        exact hD1.1 i j x y hi hj hxy
      · rw [List.getElem?_append_left h1] at hi
        rw [List.getElem?_append_right (by omega)] at hj
        have := hle _ _ hi
        have := hr _ _ hj
        omega
      · rw [List.getElem?_append_right (by omega)] at hi
        rw [List.getElem?_append_left h2] at hj
        have := hle _ _ hj
        have := hr _ _ hi
        omega
      · rw [List.getElem?_append_right (by omega)] at hi hj
        have := hr _ _ hi
        have := hr _ _ hj
        omega
    · by_cases h1 : k9 < W1.length
      · rw [List.getElem?_append_left h1] at hx
        exact hD1.2 k9 x hx
      · rw [List.getElem?_append_right (by omega)] at hx
        have := hr _ _ hx
        exact hA _ (by have := hS.1; omega)
  have hAr : ArrOfT s cA (.array ty) := fun N9 z9 => by
    obtain ⟨-, k9, hk9, cm9, hkk9⟩ := (hO 0 0 0).1
    exact ⟨(fun q hq => by cases hq), k9, hk9, cm9, hkk9⟩
  have hK2 : va_K D cl (tys ++ [(cA, .array ty)]) s := ⟨hK.1, fun k9 x hx => by
    by_cases hl : k9 < tys.length
    · rw [List.getElem?_append_left hl] at hx
      exact hK.2 k9 x hx
    · rw [List.getElem?_append_right (by omega)] at hx
      have h0 : k9 - tys.length < 1 := (List.getElem?_eq_some_iff.mp hx).1
      rw [show k9 - tys.length = 0 by omega] at hx
      cases hx
      exact ⟨hAr, fA⟩⟩
  obtain ⟨t, a1, b1⟩ := kk H.size (fun i => H.size + 1 + i) cA F.heap (fun i j _ _ h => by have h9 : H.size + 1 + i = H.size + 1 + j := h; omega) hnl hK2 (by rw [← vr_rows hnm]; exact vr_lay hP2) (by rw [← vr_rows hnm]; exact vr_layD hD2) ⟨by rw [f1]; have := hS.1; omega, fun x h1 h2 => (hold x (Nat.lt_of_lt_of_le h1 hS.1)).trans (hS.2.1 x h1 h2), hS.2.2⟩ F rfl X'
  refine ⟨t, step t ?_, b1⟩
  have e : T.heap.size = H.size := by rw [hT]
  rw [e]
  exact a1
end VGM
/-! ===== END ===== -/
def sx_fk : Nat → FieldType → Prop
  | 0, .int => True
  | 1, .object _ => True
  | 1, .array _ => True
  | _, _ => False
theorem sx_ft_ok {k : Nat} {v : sx_V} {ty : FieldType} (ad : Nat → Nat) (h : sx_ft k v) (h2 : sx_fk k ty) : narrow ty (sx_cv ad v) = sx_cv ad v ∧ fits ty (sx_cv ad v) = true := by
  match k, v, ty, h, h2 with
  | 0, .inl x, .int, _, _ => exact ⟨rfl, rfl⟩
  | 1, .inr (.inr none), .object _, _, _ => exact ⟨rfl, rfl⟩
  | 1, .inr (.inr (some _)), .object _, _, _ => exact ⟨rfl, rfl⟩
  | 1, .inr (.inr none), .array _, _, _ => exact ⟨rfl, rfl⟩
  | 1, .inr (.inr (some _)), .array _, _, _ => exact ⟨rfl, rfl⟩
theorem sx_gi {ws : List Cond} (h : ∀ w ∈ ws, w ∈ sx_U) : GoodIn sx_U ws := fun w hw => ⟨h w hw, good_of_word (sx_Ug w (h w hw))⟩
theorem sx_at_o {aC : Nat → ClassId} {ad : Nat → Nat} {n a c : Nat} {h : sx_H} {fs : List sx_V} (hl : a < n) (e : h a = .inr (c, fs)) : (sx_w aC ad n h)[a]? = some (ad a, .inr (c, fs.map (sx_cv ad))) := by rw [sx_w_at hl, e]; rfl
theorem sx_at_i {aC : Nat → ClassId} {ad : Nat → Nat} {n a k len : Nat} {h : sx_H} {f : Nat → Int32} (hl : a < n) (e : h a = .inl (k, len, .inl f)) : (sx_w aC ad n h)[a]? = some (ad a, .inl (aC k, len, .inl f)) := by rw [sx_w_at hl, e]; rfl
theorem sx_at_r {aC : Nat → ClassId} {ad : Nat → Nat} {n a k len : Nat} {h : sx_H} {g : Nat → Option Nat} (hl : a < n) (e : h a = .inl (k, len, .inr g)) : (sx_w aC ad n h)[a]? = some (ad a, .inl (aC k, len, .inr (.inr (.inr (.inr (fun i => (g i).map ad)))))) := by rw [sx_w_at hl, e]; rfl
theorem sx_RA0 {t : FieldType} {s : State} {cA cB : ClassId} (ht : ∀ C, t ≠ .object C) (h1 : va_RA s cA t) (h2 : va_RA s cB t) : cA = cB := by
  cases t with
  | object C => exact absurd rfl (ht C)
  | _ => exact Option.some.inj (Eq.trans (Eq.symm h1) h2)
theorem sx_RA1 {C : String} {s : State} {cA cB : ClassId} (h1 : va_RA s cA (.object C)) (h2 : va_RA s cB (.object C)) : cA = cB := by
  obtain ⟨_, _, _, _, _, e1⟩ := h1
  obtain ⟨_, _, _, _, _, e2⟩ := h2
  exact Option.some.inj (Eq.trans (Eq.symm e1) e2)
theorem sx_ag0 {n0 n q : Nat} {ad ad0 : Nat → Nat} (hn : n0 ≤ n) (hsc : n < sx_sc) (h : ∀ k, (k < n0 ∨ k = sx_sc) → ad k = ad0 k) : ∀ k, (k < n0 ∨ k = sx_sc) → va_up ad n q k = ad0 k := fun k hk => by
  have : k ≠ n := by rcases hk with h | h <;> omega
  rw [← h k hk]
  simp [va_up, this]
section SXH
variable {tb : List sx_M} {own : String} {cc : ByteArray} {nL : Nat} {ret : Option FieldType} {R : Room} {ct lw : Bool} {L : Nat} {xs : Nat → Int32} {pc : Nat}
theorem sn_get {ci k idx N : Nat} {C : String} {T : u_T} (hd : decode cc pc = .ok (.getfield idx, 3)) (hc : vwCl[ci]? = some (C, T, N)) (hin : ∀ w ∈ u_ws C T N, w ∈ sx_U) (hk : k < N) (hw : Cond.fieldLink own idx (T k).1 (T k).2.1 (T k).2.2.1 ∈ sx_U) : sx_I tb own cc nL ret R ct lw L xs pc 3 (si_get ci k) := by
  intro C p l e s m args below meth c D aC A n0 ad0 Q F J Rt hC hX hR hF hJ ls st n h kc ks hh
  obtain ⟨hx, hb, hml, hown, hts, hK, hA, hct, hlw⟩ := id hX
  unfold si_get at hh
  split at hh
  · split at hh
    · rename_i ea
      obtain ⟨rfl, han, hh⟩ := hh
      split at hh
      · rename_i ev
        refine fun ad H locs arr hn hz hag hL hP hD hS => ?_
        exact va_get (D := D) hx hb hts hin hown hK.1 hP _ (sx_at_o han ea) hc k hk (hts _ hw) (fun _ q => q) (by rw [List.getElem?_map, ev]; rfl) hd (hF _ _ _ _ _ _ hh ad H locs arr hn hz hag hL hP hD hS)
      · exact hh.elim
    · exact hh.elim
  · exact hh.elim
theorem sn_put {ci k idx N tk : Nat} {C : String} {T : u_T} {ty : FieldType} {ty0 : Nat → FieldType} (hd : decode cc pc = .ok (.putfield idx, 3)) (hc : vwCl[ci]? = some (C, T, N)) (hin : ∀ w ∈ u_ws C T N, w ∈ sx_U) (ht0 : ∀ k, k < N → parseFieldDescriptor (T k).2.2.1 = some (ty0 k)) (hnm : ∀ a, a < N → ∀ b, b < N → a ≠ b → (T a).2.1 ≠ (T b).2.1) (hk : k < N) (hw : Cond.fieldLink own idx (T k).1 (T k).2.1 (T k).2.2.1 ∈ sx_U) (hfin : (T k).2.2.2 = false) (hp : parseFieldDescriptor (T k).2.2.1 = some ty) (hf : sx_fk tk ty) : sx_I tb own cc nL ret R ct lw L xs pc 3 (si_put ci k tk) := by
  intro C p l e s m args below meth c D aC A n0 ad0 Q F J Rt hC hX hR hF hJ ls st n h kc ks hh
  obtain ⟨hx, hb, hml, hown, hts, hK, hA, hct, hlw⟩ := id hX
  unfold si_put at hh
  split at hh
  · rename_i v a st
    split at hh
    · rename_i cx fs ea
      obtain ⟨rfl, han, hl, hft, hh⟩ := hh
      refine fun ad H locs arr hn hz hag hL hP hD hS => ?_
      obtain ⟨g1, g2⟩ := sx_ft_ok ad hft hf
      have ew : (sx_w aC ad n h).set a (ad a, .inr (cx, (fs.map (sx_cv ad)).set k (sx_cv ad v))) = sx_w aC ad n (sx_up h a (.inr (cx, fs.set k v))) := by
        rw [← sx_w_set han, ← List.map_set]; rfl
      exact va_put hx hb hts hin ty0 ht0 hnm hown hK.1 hP hD hS a (sx_at_o han ea) hc k hk (hts _ hw) (fun _ q => q) hfin hp g1 g2 (by rw [List.length_map]; exact hl) hd (fun H1 locs1 hP1 hD1 hS1 => hF _ _ _ _ _ _ hh ad H1 locs1 arr hn hz hag hL (by rw [← ew]; exact hP1) (by rw [← ew]; exact hD1) hS1)
    · exact hh.elim
  · exact hh.elim
theorem sn_putF {ci k idx N tk : Nat} {C : String} {T : u_T} {ty : FieldType} {ty0 : Nat → FieldType} (hd : decode cc pc = .ok (.putfield idx, 3)) (hc : vwCl[ci]? = some (C, T, N)) (hin : ∀ w ∈ u_ws C T N, w ∈ sx_U) (ht0 : ∀ k, k < N → parseFieldDescriptor (T k).2.2.1 = some (ty0 k)) (hnm : ∀ a, a < N → ∀ b, b < N → a ≠ b → (T a).2.1 ≠ (T b).2.1) (hk : k < N) (hw : Cond.fieldLink own idx (T k).1 (T k).2.1 (T k).2.2.1 ∈ sx_U) (hfin : (T k).2.2.2 = true) (hct0 : ct = true) (hdc : (T k).1 = own) (hp : parseFieldDescriptor (T k).2.2.1 = some ty) (hf : sx_fk tk ty) : sx_I tb own cc nL ret R ct lw L xs pc 3 (si_put ci k tk) := by
  intro C p l e s m args below meth c D aC A n0 ad0 Q F J Rt hC hX hR hF hJ ls st n h kc ks hh
  obtain ⟨hx, hb, hml, hown, hts, hK, hA, hct, hlw⟩ := id hX
  unfold si_put at hh
  split at hh
  · rename_i v a st
    split at hh
    · rename_i cx fs ea
      obtain ⟨rfl, han, hl, hft, hh⟩ := hh
      refine fun ad H locs arr hn hz hag hL hP hD hS => ?_
      obtain ⟨g1, g2⟩ := sx_ft_ok ad hft hf
      have ew : (sx_w aC ad n h).set a (ad a, .inr (cx, (fs.map (sx_cv ad)).set k (sx_cv ad v))) = sx_w aC ad n (sx_up h a (.inr (cx, fs.set k v))) := by
        rw [← sx_w_set han, ← List.map_set]; rfl
      exact va_putF hx hb hts hin ty0 ht0 hnm hown hK.1 hP hD hS a (sx_at_o han ea) hc k hk (hts _ hw) (fun _ q => q) hfin (hct hct0) hdc hp g1 g2 (by rw [List.length_map]; exact hl) hd (fun H1 locs1 hP1 hD1 hS1 => hF _ _ _ _ _ _ hh ad H1 locs1 arr hn hz hag hL (by rw [← ew]; exact hP1) (by rw [← ew]; exact hD1) hS1)
    · exact hh.elim
  · exact hh.elim
theorem sn_iald (hd : decode cc pc = .ok (.iaload, 1)) : sx_I tb own cc nL ret R ct lw L xs pc 1 (si_iald) := by
  intro C p l e s m args below meth c D aC A n0 ad0 Q F J Rt hC hX hR hF hJ ls st n h kc ks hh
  obtain ⟨hx, hb, hml, hown, hts, hK, hA, hct, hlw⟩ := id hX
  unfold si_iald at hh
  split at hh
  · split at hh
    · rename_i ea
      obtain ⟨han, hin, hh⟩ := hh
      refine fun ad H locs arr hn hz hag hL hP hD hS => ?_
      exact va_iald hx hb hK.1 hP _ 0 (sx_at_i han ea) rfl hin hd (hF _ _ _ _ _ _ hh ad H locs arr hn hz hag hL hP hD hS)
    · exact hh.elim
  · exact hh.elim
theorem sn_zald (hd : decode cc pc = .ok (.baload, 1)) : sx_I tb own cc nL ret R ct lw L xs pc 1 (si_zald) := by
  intro C p l e s m args below meth c D aC A n0 ad0 Q F J Rt hC hX hR hF hJ ls st n h kc ks hh
  obtain ⟨hx, hb, hml, hown, hts, hK, hA, hct, hlw⟩ := id hX
  unfold si_zald at hh
  split at hh
  · split at hh
    · rename_i ea
      obtain ⟨han, hin, hh⟩ := hh
      refine fun ad H locs arr hn hz hag hL hP hD hS => ?_
      exact va_zald hx hb hK.1 hP _ 1 (sx_at_i han ea) rfl hin hd (hF _ _ _ _ _ _ hh ad H locs arr hn hz hag hL hP hD hS)
    · exact hh.elim
  · exact hh.elim
theorem sn_iast (hd : decode cc pc = .ok (.iastore, 1)) : sx_I tb own cc nL ret R ct lw L xs pc 1 (si_iast) := by
  intro C p l e s m args below meth c D aC A n0 ad0 Q F J Rt hC hX hR hF hJ ls st n h kc ks hh
  obtain ⟨hx, hb, hml, hown, hts, hK, hA, hct, hlw⟩ := id hX
  unfold si_iast at hh
  split at hh
  · split at hh
    · rename_i ea
      obtain ⟨han, hin, hh⟩ := hh
      refine fun ad H locs arr hn hz hag hL hP hD hS => ?_
      exact va_iast hx hb hK.1 hP hD hS _ 0 (sx_at_i han ea) rfl hin hd (fun H1 locs1 hP1 hD1 hS1 => hF _ _ _ _ _ _ hh ad H1 locs1 arr hn hz hag hL (by rw [← sx_w_set han]; exact hP1) (by rw [← sx_w_set han]; exact hD1) hS1)
    · exact hh.elim
  · exact hh.elim
theorem sn_zast (hd : decode cc pc = .ok (.bastore, 1)) : sx_I tb own cc nL ret R ct lw L xs pc 1 (si_zast) := by
  intro C p l e s m args below meth c D aC A n0 ad0 Q F J Rt hC hX hR hF hJ ls st n h kc ks hh
  obtain ⟨hx, hb, hml, hown, hts, hK, hA, hct, hlw⟩ := id hX
  unfold si_zast at hh
  split at hh
  · split at hh
    · rename_i ea
      obtain ⟨han, hin, rfl, hh⟩ := hh
      refine fun ad H locs arr hn hz hag hL hP hD hS => ?_
      exact va_zast hx hb hK.1 hP hD hS _ 1 (sx_at_i han ea) rfl hin hd (fun H1 locs1 hP1 hD1 hS1 => hF _ _ _ _ _ _ hh ad H1 locs1 arr hn hz hag hL (by rw [← sx_w_set han]; exact hP1) (by rw [← sx_w_set han]; exact hD1) hS1)
    · exact hh.elim
  · exact hh.elim
theorem sn_aald2 (hd : decode cc pc = .ok (.aaload, 1)) : sx_I tb own cc nL ret R ct lw L xs pc 1 (si_aald 2) := by
  intro C p l e s m args below meth c D aC A n0 ad0 Q F J Rt hC hX hR hF hJ ls st n h kc ks hh
  obtain ⟨hx, hb, hml, hown, hts, hK, hA, hct, hlw⟩ := id hX
  unfold si_aald at hh
  split at hh
  · split at hh
    · rename_i ea
      obtain ⟨rfl, han, hin, hh⟩ := hh
      refine fun ad H locs arr hn hz hag hL hP hD hS => ?_
      exact va_aldq hx hb hK.1 hP _ 2 (sx_at_r han ea) rfl hin hd (hF _ _ _ _ _ _ hh ad H locs arr hn hz hag hL hP hD hS)
    · exact hh.elim
  · exact hh.elim
theorem sn_aald3 (hd : decode cc pc = .ok (.aaload, 1)) : sx_I tb own cc nL ret R ct lw L xs pc 1 (si_aald 3) := by
  intro C p l e s m args below meth c D aC A n0 ad0 Q F J Rt hC hX hR hF hJ ls st n h kc ks hh
  obtain ⟨hx, hb, hml, hown, hts, hK, hA, hct, hlw⟩ := id hX
  unfold si_aald at hh
  split at hh
  · split at hh
    · rename_i ea
      rename_i i a st x9 k len g
      obtain ⟨rfl, han, hin, hh⟩ := hh
      refine fun ad H locs arr hn hz hag hL hP hD hS => ?_
      have hlt : i.toNatClampNeg < len := Nat.not_le.mp fun q => hin (Or.inr q)
      exact W.aald (v := va_rf ((g i.toNatClampNeg).map ad)) (ty := .array .int) hx hb (hP a _ (sx_at_r han ea)) ((hK.1.2 3 _ rfl).1 len (fun j => va_rf ((g j).map ad))) rfl (fun q => by cases q) (by show ¬ (i < 0 ∨ (arrV _ _ _).slots.size ≤ _); rw [arrV_size]; exact hin) (by show (arrV _ _ _).slots[_]? = _; rw [arrV_read _ _ hlt]) rfl rfl hd (hF _ _ _ _ _ _ hh ad H locs arr hn hz hag hL hP hD hS)
    · exact hh.elim
  · exact hh.elim
theorem sn_aast (hd : decode cc pc = .ok (.aastore, 1)) : sx_I tb own cc nL ret R ct lw L xs pc 1 (si_aast) := by
  intro C p l e s m args below meth c D aC A n0 ad0 Q F J Rt hC hX hR hF hJ ls st n h kc ks hh
  obtain ⟨hx, hb, hml, hown, hts, hK, hA, hct, hlw⟩ := id hX
  unfold si_aast at hh
  split at hh
  · split at hh
    · rename_i ea
      rename_i v i a st x9 len g
      obtain ⟨han, hvn, hin, ⟨fs, ev⟩, hh⟩ := hh
      refine fun ad H locs arr hn hz hag hL hP hD hS => ?_
      have eg : (fun j => (va_up g i.toNatClampNeg (some v) j).map ad) = va_up (fun j => (g j).map ad) i.toNatClampNeg (some (ad v)) := by
        funext j
        by_cases hj : j = i.toNatClampNeg <;> simp [va_up, hj]
      have ew : (sx_w aC ad n h).set a (ad a, .inl (aC 2, len, .inr (.inr (.inr (.inr (va_up (fun j => (g j).map ad) i.toNatClampNeg (some (ad v)))))))) = sx_w aC ad n (sx_up h a (sx_ar 2 len (va_up g i.toNatClampNeg (some v)))) := by
        rw [← sx_w_set han, ← eg]; rfl
      exact va_astq hx hb hK.1 hP hD hS a 2 v 2 (r := (RX2, TX2, 1)) (sx_at_r han ea) rfl (sx_at_o hvn ev) rfl hin hd (fun H1 locs1 hP1 hD1 hS1 => hF _ _ _ _ _ _ hh ad H1 locs1 arr hn hz hag hL (by rw [← ew]; exact hP1) (by rw [← ew]; exact hD1) hS1)
    · exact hh.elim
  · exact hh.elim
theorem sn_sld (hlw0 : lw = true) (hd : decode cc pc = .ok (.iaload, 1)) : sx_I tb own cc nL ret R ct lw L xs pc 1 (si_sld L xs) := by
  intro C p l e s m args below meth c D aC A n0 ad0 Q F J Rt hC hX hR hF hJ ls st n h kc ks hh
  obtain ⟨hx, hb, hml, hown, hts, hK, hA, hct, hlw⟩ := id hX
  unfold si_sld at hh
  split at hh
  · obtain ⟨rfl, hin, hh⟩ := hh
    refine fun ad H locs arr hn hz hag hL hP hD hS => ?_
    obtain ⟨g1, g2, g3⟩ := hlw hlw0
    have ea : ad sx_sc = ad0 sx_sc := hag _ (Or.inr rfl)
    exact va_sld hx hb (b := ad sx_sc) (by rw [ea]; exact g1) (by rw [ea]; exact g2) (by rw [ea]; exact g3) hS hin hd (hF _ _ _ _ _ _ hh ad H locs arr hn hz hag hL hP hD hS)
  · exact hh.elim
theorem sn_slen (hlw0 : lw = true) (hd : decode cc pc = .ok (.arraylength, 1)) : sx_I tb own cc nL ret R ct lw L xs pc 1 (si_slen L) := by
  intro C p l e s m args below meth c D aC A n0 ad0 Q F J Rt hC hX hR hF hJ ls st n h kc ks hh
  obtain ⟨hx, hb, hml, hown, hts, hK, hA, hct, hlw⟩ := id hX
  unfold si_slen at hh
  split at hh
  · obtain ⟨rfl, hh⟩ := hh
    refine fun ad H locs arr hn hz hag hL hP hD hS => ?_
    obtain ⟨g1, g2, g3⟩ := hlw hlw0
    have ea : ad sx_sc = ad0 sx_sc := hag _ (Or.inr rfl)
    exact va_slen hx hb (b := ad sx_sc) (by rw [ea]; exact g1) (by rw [ea]; exact g2) (by rw [ea]; exact g3) hS hd (hF _ _ _ _ _ _ hh ad H locs arr hn hz hag hL hP hD hS)
  · exact hh.elim
theorem sn_newa0 (hd : decode cc pc = .ok (.newarray .int, 2)) (hw : Cond.arrayClass .int ∈ sx_U) : sx_I tb own cc nL ret R ct lw L xs pc 2 (si_newa 0 R.cells R.slots) := by
  intro C p l e s m args below meth c D aC A n0 ad0 Q F J Rt hC hX hR hF hJ ls st n h kc ks hh
  obtain ⟨hx, hb, hml, hown, hts, hK, hA, hct, hlw⟩ := id hX
  unfold si_newa at hh
  split at hh
  · rename_i c0 st
    obtain ⟨h1, h2, h3, h4, h5, ⟨w1, w2, w3⟩, hh⟩ := hh
    refine fun ad H locs arr hn hz hag hL hP hD hS => ?_
    refine va_newa (atype := .int) (ty := .int) (a0 := (c0.toNatClampNeg, .inl (fun _ => 0))) hx hb (hts _ hw) rfl hK.1 hP hD hS hA (fun _ => rfl) h1 rfl (by show _ * 4 ≤ _; omega) h3 h4 hd (fun q cA H1 hK1 hP1 hD1 hS1 => ?_)
    have eA : cA = aC 0 := sx_RA0 (fun _ q => by cases q) (hK1.2 4 _ rfl).2 (hK.1.2 0 _ rfl).2
    subst eA
    have ew := sx_w_push (aC := aC) (ad := ad) (q := q) (e := .inl (0, c0.toNatClampNeg, .inl (fun _ => 0))) h5 w3 rfl
    have g1 : va_P D vwCl (sx_w aC (va_up ad n q) (n + 1) (sx_up h n (.inl (0, c0.toNatClampNeg, .inl (fun _ => 0))))) H1 := by rw [← ew]; exact hP1
    have g2 : va_D A (sx_w aC (va_up ad n q) (n + 1) (sx_up h n (.inl (0, c0.toNatClampNeg, .inl (fun _ => 0))))) := by rw [← ew]; exact hD1
    have gg := hF _ _ _ _ _ _ hh (va_up ad n q) H1 locs arr (by omega) (fun q => by omega) (sx_ag0 hn h5 hag) (hL.ag (sx_ag_up h5) w1) g1 g2 hS1
    have es : List.map (sx_cv (va_up ad n q)) (sx_r (some n) :: st) = .ref q :: List.map (sx_cv ad) st := by
      rw [List.map_cons, sx_st_ag (sx_ag_up h5) w2]
      simp [sx_cv, va_rf, va_up]
    rw [es] at gg
    exact gg
  · exact hh.elim
theorem sn_newa1 (hd : decode cc pc = .ok (.newarray .boolean, 2)) (hw : Cond.arrayClass .boolean ∈ sx_U) : sx_I tb own cc nL ret R ct lw L xs pc 2 (si_newa 1 R.cells R.slots) := by
  intro C p l e s m args below meth c D aC A n0 ad0 Q F J Rt hC hX hR hF hJ ls st n h kc ks hh
  obtain ⟨hx, hb, hml, hown, hts, hK, hA, hct, hlw⟩ := id hX
  unfold si_newa at hh
  split at hh
  · rename_i c0 st
    obtain ⟨h1, h2, h3, h4, h5, ⟨w1, w2, w3⟩, hh⟩ := hh
    refine fun ad H locs arr hn hz hag hL hP hD hS => ?_
    refine va_newa (atype := .boolean) (ty := .boolean) (a0 := (c0.toNatClampNeg, .inl (fun _ => 0))) hx hb (hts _ hw) rfl hK.1 hP hD hS hA (fun _ => rfl) h1 rfl (by show _ * 1 ≤ _; omega) h3 h4 hd (fun q cA H1 hK1 hP1 hD1 hS1 => ?_)
    have eA : cA = aC 1 := sx_RA0 (fun _ q => by cases q) (hK1.2 4 _ rfl).2 (hK.1.2 1 _ rfl).2
    subst eA
    have ew := sx_w_push (aC := aC) (ad := ad) (q := q) (e := .inl (1, c0.toNatClampNeg, .inl (fun _ => 0))) h5 w3 rfl
    have g1 : va_P D vwCl (sx_w aC (va_up ad n q) (n + 1) (sx_up h n (.inl (1, c0.toNatClampNeg, .inl (fun _ => 0))))) H1 := by rw [← ew]; exact hP1
    have g2 : va_D A (sx_w aC (va_up ad n q) (n + 1) (sx_up h n (.inl (1, c0.toNatClampNeg, .inl (fun _ => 0))))) := by rw [← ew]; exact hD1
    have gg := hF _ _ _ _ _ _ hh (va_up ad n q) H1 locs arr (by omega) (fun q => by omega) (sx_ag0 hn h5 hag) (hL.ag (sx_ag_up h5) w1) g1 g2 hS1
    have es : List.map (sx_cv (va_up ad n q)) (sx_r (some n) :: st) = .ref q :: List.map (sx_cv ad) st := by
      rw [List.map_cons, sx_st_ag (sx_ag_up h5) w2]
      simp [sx_cv, va_rf, va_up]
    rw [es] at gg
    exact gg
  · exact hh.elim
theorem sn_newq {idx : Nat} (hd : decode cc pc = .ok (.anewarray idx, 3)) (hw : Cond.classLink own idx RX2 ∈ sx_U) : sx_I tb own cc nL ret R ct lw L xs pc 3 (si_newq R.cells R.slots) := by
  intro C p l e s m args below meth c D aC A n0 ad0 Q F J Rt hC hX hR hF hJ ls st n h kc ks hh
  obtain ⟨hx, hb, hml, hown, hts, hK, hA, hct, hlw⟩ := id hX
  unfold si_newq at hh
  split at hh
  · rename_i c0 st
    obtain ⟨h1, h2, h3, h4, h5, ⟨w1, w2, w3⟩, hh⟩ := hh
    refine fun ad H locs arr hn hz hag hL hP hD hS => ?_
    refine va_newq hx hb hown (hts _ hw) hK.2.1 hK.1 hP hD hS hA h1 rfl (by omega) h3 h4 hd (fun q cA H1 hK1 hP1 hD1 hS1 => ?_)
    have eA : cA = aC 2 := sx_RA1 (hK1.2 4 _ rfl).2 (hK.1.2 2 _ rfl).2
    subst eA
    have ew := sx_w_push (aC := aC) (ad := ad) (q := q) (e := sx_ar 2 c0.toNatClampNeg (fun _ => none)) h5 w3 rfl
    have g1 : va_P D vwCl (sx_w aC (va_up ad n q) (n + 1) (sx_up h n (sx_ar 2 c0.toNatClampNeg (fun _ => none)))) H1 := by rw [← ew]; exact hP1
    have g2 : va_D A (sx_w aC (va_up ad n q) (n + 1) (sx_up h n (sx_ar 2 c0.toNatClampNeg (fun _ => none)))) := by rw [← ew]; exact hD1
    have gg := hF _ _ _ _ _ _ hh (va_up ad n q) H1 locs arr (by omega) (fun q => by omega) (sx_ag0 hn h5 hag) (hL.ag (sx_ag_up h5) w1) g1 g2 hS1
    have es : List.map (sx_cv (va_up ad n q)) (sx_r (some n) :: st) = .ref q :: List.map (sx_cv ad) st := by
      rw [List.map_cons, sx_st_ag (sx_ag_up h5) w2]
      simp [sx_cv, va_rf, va_up]
    rw [es] at gg
    exact gg
  · exact hh.elim
theorem sn_new {ci N idx : Nat} {C : String} {T : u_T} {ty0 : Nat → FieldType} {ds : List sx_V} (hd : decode cc pc = .ok (.new idx, 3)) (hc : vwCl[ci]? = some (C, T, N)) (hin : ∀ w ∈ u_ws C T N, w ∈ sx_U) (ht0 : ∀ k, k < N → parseFieldDescriptor (T k).2.2.1 = some (ty0 k)) (hw1 : Cond.classLink own idx C ∈ sx_U) (hw2 : Cond.instantiable C N ∈ sx_U) (hw3 : Cond.initialized C ∈ sx_U) (hdq : ∀ ad ad', ds.map (sx_cv ad') = ds.map (sx_cv ad)) (hds : ∀ ad, ∀ j, j < N → defaultValue (ty0 j) = vp_V (ds.map (sx_cv ad)) j) : sx_I tb own cc nL ret R ct lw L xs pc 3 (si_new ci N ds R.cells R.slots) := by
  intro C p l e s m args below meth c D aC A n0 ad0 Q F J Rt hC hX hR hF hJ ls st n h kc ks hh
  obtain ⟨hx, hb, hml, hown, hts, hK, hA, hct, hlw⟩ := id hX
  unfold si_new at hh
  obtain ⟨h3, h4, h5, ⟨w1, w2, w3⟩, hh⟩ := hh
  refine fun ad H locs arr hn hz hag hL hP hD hS => ?_
  refine va_new hx hb hts hin ty0 ht0 hown (hts _ hw1) (hts _ hw2) (hts _ hw3) hK.1 hP hD hS hA hc (hds ad) h3 h4 hd (fun q H1 hP1 hD1 hS1 => ?_)
  have ed : ds.map (sx_cv (va_up ad n q)) = ds.map (sx_cv (va_up ad n q)) := rfl
  have ew := sx_w_push (aC := aC) (ad := ad) (q := q) (e := .inr (ci, ds)) h5 w3 rfl
  have hd0 : ds.map (sx_cv (va_up ad n q)) = ds.map (sx_cv ad) := hdq ad (va_up ad n q)
  have g1 : va_P D vwCl (sx_w aC (va_up ad n q) (n + 1) (sx_up h n (.inr (ci, ds)))) H1 := by rw [← ew]; show va_P D vwCl (_ ++ [(q, .inr (ci, ds.map (sx_cv (va_up ad n q))))]) H1; rw [hd0]; exact hP1
  have g2 : va_D A (sx_w aC (va_up ad n q) (n + 1) (sx_up h n (.inr (ci, ds)))) := by rw [← ew]; show va_D A (_ ++ [(q, .inr (ci, ds.map (sx_cv (va_up ad n q))))]); rw [hd0]; exact hD1
  have gg := hF _ _ _ _ _ _ hh (va_up ad n q) H1 locs arr (by omega) (fun q => by omega) (sx_ag0 hn h5 hag) (hL.ag (sx_ag_up h5) w1) g1 g2 hS1
  have es : List.map (sx_cv (va_up ad n q)) (sx_r (some n) :: st) = .ref q :: List.map (sx_cv ad) st := by
    rw [List.map_cons, sx_st_ag (sx_ag_up h5) w2]
    simp [sx_cv, va_rf, va_up]
  rw [es] at gg
  exact gg
theorem sn_oi {idx : Nat} (hd : decode cc pc = .ok (.invokespecial idx, 3)) (hw1 : Cond.methodLink own idx objectInit ∈ sx_U) (hw2 : Cond.instanceMethod objectInit ∈ sx_U) (hw3 : Cond.code objectInit ⟨#[0xb1]⟩ 1 none ∈ sx_U) (hR1 : 1 ≤ R.frames) (hR2 : 20 ≤ R.locals) : sx_I tb own cc nL ret R ct lw L xs pc 3 (si_oi) := by
  intro C p l e s m args below meth c D aC A n0 ad0 Q F J Rt hC hX hR hF hJ ls st n h kc ks hh
  obtain ⟨hx, hb, hml, hown, hts, hK, hA, hct, hlw⟩ := id hX
  unfold si_oi at hh
  split at hh
  · obtain ⟨h1, hh⟩ := hh
    refine fun ad H locs arr hn hz hag hL hP hD hS => ?_
    exact W.objInit hx hb hown (hts _ hw1) (hts _ hw2) (hts _ hw3) rfl (by show arr.size = _; rw [hml]; exact hL.2.1) rfl hd hR1 (by rw [sx_cat_eq]; show 2 * 0 + _ + 12 ≤ _; omega) (hF _ _ _ _ _ _ hh ad H locs arr hn hz hag hL hP hD hS)
  · exact hh.elim
theorem sn_min {idx : Nat} (hd : decode cc pc = .ok (.invokestatic idx, 3)) (hw1 : Cond.methodLink own idx Lib.Math.min.name ∈ sx_U) (hw2 : Cond.static Lib.Math.min.name ∈ sx_U) (hw3 : Cond.initialized "java/lang/Math" ∈ sx_U) (hw4 : Cond.code Lib.Math.min.name Lib.Math.min.code 2 (some .int) ∈ sx_U) (hR1 : 1 ≤ R.frames) (hR2 : 21 ≤ R.locals) : sx_I tb own cc nL ret R ct lw L xs pc 3 (si_min R.cells R.slots) := by
  intro C p l e s m args below meth c D aC A n0 ad0 Q F J Rt hC hX hR hF hJ ls st n h kc ks hh
  obtain ⟨hx, hb, hml, hown, hts, hK, hA, hct, hlw⟩ := id hX
  unfold si_min at hh
  split at hh
  · obtain ⟨h1, h2, h3, hh⟩ := hh
    refine fun ad H locs arr hn hz hag hL hP hD hS => ?_
    exact va_mmin hx hb (by rw [hml]; exact hL.2.1.symm) hown (hts _ hw1) (hts _ hw2) (hts _ hw3) (hts _ hw4) hR1 (by rw [sx_cat_eq]; omega) h2 h3 hd (hF _ _ _ _ _ _ hh ad H locs arr hn hz hag hL hP hD hS)
  · exact hh.elim
theorem sn_max {idx : Nat} (hd : decode cc pc = .ok (.invokestatic idx, 3)) (hw1 : Cond.methodLink own idx Lib.Math.max.name ∈ sx_U) (hw2 : Cond.static Lib.Math.max.name ∈ sx_U) (hw3 : Cond.initialized "java/lang/Math" ∈ sx_U) (hw4 : Cond.code Lib.Math.max.name Lib.Math.max.code 2 (some .int) ∈ sx_U) (hR1 : 1 ≤ R.frames) (hR2 : 21 ≤ R.locals) : sx_I tb own cc nL ret R ct lw L xs pc 3 (si_max R.cells R.slots) := by
  intro C p l e s m args below meth c D aC A n0 ad0 Q F J Rt hC hX hR hF hJ ls st n h kc ks hh
  obtain ⟨hx, hb, hml, hown, hts, hK, hA, hct, hlw⟩ := id hX
  unfold si_max at hh
  split at hh
  · obtain ⟨h1, h2, h3, hh⟩ := hh
    refine fun ad H locs arr hn hz hag hL hP hD hS => ?_
    exact va_mmax hx hb (by rw [hml]; exact hL.2.1.symm) hown (hts _ hw1) (hts _ hw2) (hts _ hw3) (hts _ hw4) hR1 (by rw [sx_cat_eq]; omega) h2 h3 hd (hF _ _ _ _ _ _ hh ad H locs arr hn hz hag hL hP hD hS)
  · exact hh.elim
theorem sn_copy {idx : Nat} (hd : decode cc pc = .ok (.invokestatic idx, 3)) (hw1 : Cond.methodLink own idx arraycopyName ∈ sx_U) (hw2 : Cond.native arraycopyName ∈ sx_U) (hw3 : Cond.static arraycopyName ∈ sx_U) (hw4 : Cond.initialized "java/lang/System" ∈ sx_U) (hR1 : 1 ≤ R.frames) (hR2 : 8 + (nativeFrameWords "java/lang/System" "arraycopy" 5 + 11) ≤ R.locals) : sx_I tb own cc nL ret R ct lw L xs pc 3 (si_copy) := by
  intro C p l e s m args below meth c D aC A n0 ad0 Q F J Rt hC hX hR hF hJ ls st n h kc ks hh
  obtain ⟨hx, hb, hml, hown, hts, hK, hA, hct, hlw⟩ := id hX
  unfold si_copy at hh
  split at hh
  · split at hh
    · rename_i ea eb
      obtain ⟨h1, h2, h3, h4, h5, h6, h7, h8, hh⟩ := hh
      refine fun ad H locs arr hn hz hag hL hP hD hS => ?_
      exact va_copyi hx hb (by rw [hml]; exact hL.2.1.symm) hown (hts _ hw1) (hts _ hw2) (hts _ hw3) (hts _ hw4) hK.1 hP hD hS _ _ 0 0 (sx_at_i h1 ea) (sx_at_i h2 eb) rfl rfl rfl h3 h4 h5 h6 h7 (fun _ _ => rfl) hR1 (by rw [sx_cat_eq]; omega) hd (fun H1 locs1 hP1 hD1 hS1 => hF _ _ _ _ _ _ hh ad H1 locs1 arr hn hz hag hL (by rw [← sx_w_set h2]; exact hP1) (by rw [← sx_w_set h2]; exact hD1) hS1)
    · exact hh.elim
  · exact hh.elim
theorem sn_rv {len : Nat} (hd : decode cc pc = .ok (.return_, 1)) (hr : ret = none) : sx_I tb own cc nL ret R ct lw L xs pc len (si_rv) := by
  intro C p l e s m args below meth c D aC A n0 ad0 Q F J Rt hC hX hR hF hJ ls st n h kc ks hh
  obtain ⟨hx, hb, hml, hown, hts, hK, hA, hct, hlw⟩ := id hX
  unfold si_rv at hh
  split at hh
  · exact (hR _ _ _ _ _ _).1 hd hr hh
  · exact hh.elim
theorem sn_ri {len : Nat} (hd : decode cc pc = .ok (.ireturn, 1)) (hr : ret = some .int) : sx_I tb own cc nL ret R ct lw L xs pc len (si_ri) := by
  intro C p l e s m args below meth c D aC A n0 ad0 Q F J Rt hC hX hR hF hJ ls st n h kc ks hh
  obtain ⟨hx, hb, hml, hown, hts, hK, hA, hct, hlw⟩ := id hX
  unfold si_ri at hh
  split at hh
  · exact (hR _ _ _ _ _ _).2.1 _ hd (Or.inl hr) hh
  · exact hh.elim
theorem sn_rz {len : Nat} (hd : decode cc pc = .ok (.ireturn, 1)) (hr : ret = some .boolean) : sx_I tb own cc nL ret R ct lw L xs pc len (si_rz) := by
  intro C p l e s m args below meth c D aC A n0 ad0 Q F J Rt hC hX hR hF hJ ls st n h kc ks hh
  obtain ⟨hx, hb, hml, hown, hts, hK, hA, hct, hlw⟩ := id hX
  unfold si_rz at hh
  split at hh
  · exact (hR _ _ _ _ _ _).2.1 _ hd (Or.inr ⟨hr, hh.1⟩) hh.2
  · exact hh.elim
theorem sn_rl {len : Nat} (hd : decode cc pc = .ok (.lreturn, 1)) (hr : ret = some .long) : sx_I tb own cc nL ret R ct lw L xs pc len (si_rl) := by
  intro C p l e s m args below meth c D aC A n0 ad0 Q F J Rt hC hX hR hF hJ ls st n h kc ks hh
  obtain ⟨hx, hb, hml, hown, hts, hK, hA, hct, hlw⟩ := id hX
  unfold si_rl at hh
  split at hh
  · exact (hR _ _ _ _ _ _).2.2 _ hd hr hh
  · exact hh.elim
end SXH
