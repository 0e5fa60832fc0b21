/-! what the abstract machine's cells and locals are on the machine -/
def sx_LO (ad : Nat → Nat) (nL : Nat) (ls : sx_L) (arr : Array Slot) : Prop := ls.length = nL ∧ arr.size = nL ∧ lv_wf arr ∧ ∀ (k : Nat) (v : sx_V), ls[k]? = some (some v) → arr[k]? = some (.val (sx_cv ad v))
def sx_lc (ad : Nat → Nat) (ls : sx_L) : List (Nat × Value) := (List.range ls.length).filterMap (fun k => (ls[k]?.join).map (fun v => (k, sx_cv ad v)))
theorem sx_mem {ad : Nat → Nat} {ls : sx_L} {q : Nat × Value} : q ∈ sx_lc ad ls ↔ ∃ v, ls[q.1]? = some (some v) ∧ q.2 = sx_cv ad v := by
  unfold sx_lc
  rw [List.mem_filterMap]
  constructor
  · rintro ⟨k, hk, e⟩
    cases h : ls[k]? with
    | none => rw [h] at e; cases e
    | some o =>
      cases o with
      | none => rw [h] at e; cases e
      | some v => rw [h] at e; cases e; exact ⟨v, h, rfl⟩
  · rintro ⟨v, h, e⟩
    obtain ⟨k, w⟩ := q
    refine ⟨k, List.mem_range.mpr (List.getElem?_eq_some_iff.mp h).1, ?_⟩
    dsimp only at h e
    rw [h, e]; rfl
theorem sx_LO.has {ad : Nat → Nat} {nL : Nat} {ls : sx_L} {arr : Array Slot} (h : sx_LO ad nL ls arr) : lv_has arr nL (sx_lc ad ls) :=
  ⟨h.2.1, h.2.2.1, fun q hq => by obtain ⟨v, h1, h2⟩ := sx_mem.mp hq; rw [h2]; exact h.2.2.2 _ _ h1⟩
theorem sx_set_len (ls : sx_L) : ∀ (i : Nat) (v : sx_V), (sx_set ls i v).length = ls.length := by
  induction ls with
  | nil => intro i v; simp [sx_set]
  | cons a t ih => intro i v; cases i with
    | zero => simp [sx_set]
    | succ i => simp [sx_set, ih]
theorem sx_dl_eq {a : Option sx_V} {v : sx_V} (h : sx_dl a = some v) : a = some v ∧ (∀ ad, (sx_cv ad v).category = 1) := by
  match a, h with
  | some (.inl x), h => cases h; exact ⟨rfl, fun _ => rfl⟩
  | some (.inr (.inl x)), h => cases h
  | some (.inr (.inr x)), h => cases h; exact ⟨rfl, fun ad => by cases x <;> rfl⟩
theorem sx_set_at (ls : sx_L) : ∀ (i : Nat) (v0 : sx_V) (k : Nat) (v : sx_V), (sx_set ls i v0)[k]? = some (some v) → (k = i ∧ v = v0) ∨ (k ≠ i ∧ ls[k]? = some (some v) ∧ (k + 1 = i → ∀ ad, (sx_cv ad v).category = 1)) := by
  induction ls with
  | nil => intro i v0 k v h; simp [sx_set] at h
  | cons a t ih =>
    intro i v0 k v h
    cases i with
    | zero =>
      cases k with
      | zero => simp [sx_set] at h; exact Or.inl ⟨rfl, h.symm⟩
      | succ k => simp [sx_set] at h; exact Or.inr ⟨by omega, by simpa using h, fun e => by omega⟩
    | succ i =>
      cases k with
      | zero =>
        cases i with
        | zero =>
          simp [sx_set] at h
          obtain ⟨e, c⟩ := sx_dl_eq h
          exact Or.inr ⟨by omega, by simp [e], fun _ => c⟩
        | succ i => simp [sx_set] at h; exact Or.inr ⟨by omega, by simp [h], fun e => by omega⟩
      | succ k =>
        rcases ih i v0 k v (by simpa [sx_set] using h) with ⟨e, e2⟩ | ⟨e, e2, e3⟩
        · exact Or.inl ⟨by omega, e2⟩
        · exact Or.inr ⟨by omega, by simpa using e2, fun q => e3 (by omega)⟩
theorem sx_setl_len (ls : sx_L) : ∀ (i : Nat) (v : sx_V), (sx_setl ls i v).length = ls.length := by
  induction ls with
  | nil => intro i v; simp [sx_setl]
  | cons a t ih => intro i v; cases i with
    | zero => cases t <;> simp [sx_setl]
    | succ i => simp [sx_setl, ih]
theorem sx_setl_at (ls : sx_L) : ∀ (i : Nat) (v0 : sx_V) (k : Nat) (v : sx_V), i + 1 < ls.length → (sx_setl ls i v0)[k]? = some (some v) → (k = i ∧ v = v0) ∨ (k ≠ i ∧ k ≠ i + 1 ∧ ls[k]? = some (some v) ∧ (k + 1 = i → ∀ ad, (sx_cv ad v).category = 1)) := by
  induction ls with
  | nil => intro i v0 k v hi h; simp [sx_setl] at h
  | cons a t ih =>
    intro i v0 k v hi h
    cases i with
    | zero =>
      cases t with
      | nil => simp at hi
      | cons b t =>
        match k with
        | 0 => simp [sx_setl] at h; exact Or.inl ⟨rfl, h.symm⟩
        | 1 => simp [sx_setl] at h
        | k + 2 => simp [sx_setl] at h; exact Or.inr ⟨by omega, by omega, by simpa using h, fun e => by omega⟩
    | succ i =>
      cases k with
      | zero =>
        cases i with
        | zero =>
          simp [sx_setl] at h
          obtain ⟨e, c⟩ := sx_dl_eq h
          exact Or.inr ⟨by omega, by omega, by simp [e], fun _ => c⟩
        | succ i => simp [sx_setl] at h; exact Or.inr ⟨by omega, by omega, by simp [h], fun e => by omega⟩
      | succ k =>
        rcases ih i v0 k v (by simpa using hi) (by simpa [sx_setl] using h) with ⟨e, e2⟩ | ⟨e, e2, e3, e4⟩
        · exact Or.inl ⟨by omega, e2⟩
        · exact Or.inr ⟨by omega, by omega, by simpa using e3, fun q => e4 (by omega)⟩
theorem sx_LO.set {ad : Nat → Nat} {nL i : Nat} {ls : sx_L} {arr arr' : Array Slot} {v : sx_V} (h : sx_LO ad nL ls arr) (h' : lv_has arr' nL ((i, sx_cv ad v) :: (sx_lc ad ls).filter (fun q => !(q.1 == i) && !(q.1 + 1 == i && q.2.category == 2)))) : sx_LO ad nL (sx_set ls i v) arr' := by
  refine ⟨(sx_set_len ls i v).trans h.1, h'.1, h'.2.1, fun k w hk => ?_⟩
  rcases sx_set_at ls i v k w hk with ⟨rfl, rfl⟩ | ⟨e1, e2, e3⟩
  · exact h'.2.2 (k, sx_cv ad w) List.mem_cons_self
  · refine h'.2.2 (k, sx_cv ad w) (List.mem_cons_of_mem _ (List.mem_filter.mpr ⟨sx_mem.mpr ⟨w, e2, rfl⟩, ?_⟩))
    by_cases hk : k + 1 = i
    · simp [e1, e3 hk ad]
    · simp [e1, hk]
theorem sx_LO.setl {ad : Nat → Nat} {nL i : Nat} {ls : sx_L} {arr arr' : Array Slot} {v : sx_V} (h : sx_LO ad nL ls arr) (hi : i + 1 < nL) (h' : lv_has arr' nL ((i, sx_cv ad v) :: (sx_lc ad ls).filter (fun q => !(q.1 == i) && (!(q.1 == i + 1) && !(q.1 + 1 == i && q.2.category == 2))))) : sx_LO ad nL (sx_setl ls i v) arr' := by
  refine ⟨(sx_setl_len ls i v).trans h.1, h'.1, h'.2.1, fun k w hk => ?_⟩
  rcases sx_setl_at ls i v k w (by rw [h.1]; exact hi) hk with ⟨rfl, rfl⟩ | ⟨e1, e0, e2, e3⟩
  · exact h'.2.2 (k, sx_cv ad w) List.mem_cons_self
  · refine h'.2.2 (k, sx_cv ad w) (List.mem_cons_of_mem _ (List.mem_filter.mpr ⟨sx_mem.mpr ⟨w, e2, rfl⟩, ?_⟩))
    by_cases hk : k + 1 = i
    · simp [e1, e0, e3 hk ad]
    · simp [e1, e0, hk]
theorem sx_m_len : ∀ (m : List Bool) (ls : sx_L), m.length = ls.length → (sx_m m ls).length = ls.length
  | [], [], _ => rfl
  | true :: m, a :: t, h => by simp [sx_m, sx_m_len m t (by simpa using h)]
  | false :: m, a :: t, h => by simp [sx_m, sx_m_len m t (by simpa using h)]
theorem sx_m_at : ∀ (m : List Bool) (ls : sx_L) (k : Nat) (v : sx_V), (sx_m m ls)[k]? = some (some v) → ls[k]? = some (some v)
  | [], [], k, v, h => by simp [sx_m] at h
  | [], _ :: _, k, v, h => by simp [sx_m] at h
  | true :: m, [], k, v, h => by simp [sx_m] at h
  | false :: m, [], k, v, h => by simp [sx_m] at h
  | true :: m, a :: t, 0, v, h => by simpa [sx_m] using h
  | true :: m, a :: t, k + 1, v, h => by have := sx_m_at m t k v (by simpa [sx_m] using h); simpa using this
  | false :: m, a :: t, 0, v, h => by simp [sx_m] at h
  | false :: m, a :: t, k + 1, v, h => by have := sx_m_at m t k v (by simpa [sx_m] using h); simpa using this
theorem sx_LO.m {ad : Nat → Nat} {nL : Nat} {ls : sx_L} {arr : Array Slot} {m : List Bool} (h : sx_LO ad nL ls arr) (hm : m.length = nL) : sx_LO ad nL (sx_m m ls) arr :=
  ⟨(sx_m_len m ls (hm.trans h.1.symm)).trans h.1, h.2.1, h.2.2.1, fun k v hk => h.2.2.2 k v (sx_m_at m ls k v hk)⟩
theorem sx_cat_eq (ad : Nat → Nat) : ∀ st : List sx_V, ((st.map (sx_cv ad)).map fun v => v.category).sum = sx_cat st
  | [] => rfl
  | .inl x :: t => by
    have h := sx_cat_eq ad t
    rw [List.map_cons, List.map_cons, List.sum_cons, h]
    show 1 + _ = _ + 1
    omega
  | .inr (.inl x) :: t => by
    have h := sx_cat_eq ad t
    rw [List.map_cons, List.map_cons, List.sum_cons, h]
    show 2 + _ = _ + 2
    omega
  | .inr (.inr none) :: t => by
    have h := sx_cat_eq ad t
    rw [List.map_cons, List.map_cons, List.sum_cons, h]
    show 1 + _ = _ + 1
    omega
  | .inr (.inr (some k)) :: t => by
    have h := sx_cat_eq ad t
    rw [List.map_cons, List.map_cons, List.sum_cons, h]
    show 1 + _ = _ + 1
    omega
theorem sx_tk_eq : ∀ (k : Nat) (acc st a r : List sx_V), sx_tk k acc st = some (a, r) → a.reverse ++ r = acc.reverse ++ st ∧ a.length = acc.length + k
  | 0, acc, st, a, r, h => by cases h; exact ⟨rfl, rfl⟩
  | k + 1, acc, [], a, r, h => by cases h
  | k + 1, acc, v :: st, a, r, h => by
    obtain ⟨h1, h2⟩ := sx_tk_eq k (v :: acc) st a r h
    exact ⟨by rw [h1]; simp, by rw [h2]; simp; omega⟩
/-! the cells as the kit's worlds have them -/
theorem sx_w_at {aC : Nat → ClassId} {ad : Nat → Nat} {n k : Nat} {h : sx_H} (hk : k < n) : (sx_w aC ad n h)[k]? = some (ad k, sx_ce aC ad (h k)) := by
  simp [sx_w, List.getElem?_map, List.getElem?_range hk]
theorem sx_w_ge {aC : Nat → ClassId} {ad : Nat → Nat} {n k : Nat} {h : sx_H} (hk : n ≤ k) : (sx_w aC ad n h)[k]? = none := by
  simp [sx_w, hk]
theorem sx_w_set {aC : Nat → ClassId} {ad : Nat → Nat} {n k : Nat} {h : sx_H} {e : sx_E} (hk : k < n) : (sx_w aC ad n h).set k (ad k, sx_ce aC ad e) = sx_w aC ad n (sx_up h k e) := by
  apply List.ext_getElem?
  intro j
  by_cases hj : j < n
  · by_cases e1 : j = k
    · subst e1
      rw [List.getElem?_set_self (by simpa [sx_w] using hj), sx_w_at hj]
      simp [sx_up]
    · rw [List.getElem?_set_ne (Ne.symm e1), sx_w_at hj, sx_w_at hj]
      simp [sx_up, e1]
  · rw [List.getElem?_eq_none (by simp [sx_w]; omega), sx_w_ge (by omega)]
def sx_ag (n : Nat) (ad ad' : Nat → Nat) : Prop := ∀ k, (k < n ∨ k = sx_sc) → ad' k = ad k
theorem sx_cv_ag {n : Nat} {ad ad' : Nat → Nat} (h : sx_ag n ad ad') {v : sx_V} (hv : sx_wv n v) : sx_cv ad' v = sx_cv ad v := by
  match v, hv with
  | .inl _, _ => rfl
  | .inr (.inl _), _ => rfl
  | .inr (.inr none), _ => rfl
  | .inr (.inr (some k)), hv => simp [sx_cv, va_rf, h k hv]
theorem sx_ce_ag {n : Nat} {aC : Nat → ClassId} {ad ad' : Nat → Nat} (h : sx_ag n ad ad') {e : sx_E} (he : sx_we n e) : sx_ce aC ad' e = sx_ce aC ad e := by
  match e, he with
  | .inl (k, m, .inl f), _ => rfl
  | .inl (k, m, .inr g), he =>
    have : (fun i => (g i).map ad') = (fun i => (g i).map ad) := by
      funext i
      cases hg : g i with
      | none => rfl
      | some j => simp [h j (he i j hg)]
    simp only [sx_ce, this]
  | .inr (c, fs), he =>
    have : fs.map (sx_cv ad') = fs.map (sx_cv ad) := List.map_congr_left fun v hv => sx_cv_ag h (he v hv)
    simp only [sx_ce, this]
theorem sx_w_ag {n : Nat} {aC : Nat → ClassId} {ad ad' : Nat → Nat} {h : sx_H} (ha : sx_ag n ad ad') (hw : ∀ k, k < n → sx_we n (h k)) : sx_w aC ad' n h = sx_w aC ad n h := by
  apply List.map_congr_left
  intro k hk
  have hk := List.mem_range.mp hk
  rw [ha k (Or.inl hk), sx_ce_ag ha (hw k hk)]
theorem sx_ag_up {n q : Nat} {ad : Nat → Nat} (hn : n < sx_sc) : sx_ag n ad (va_up ad n q) := fun k hk => by
  have : k ≠ n := by rcases hk with h | h <;> omega
  simp [va_up, this]
theorem sx_w_push {n q : Nat} {aC : Nat → ClassId} {ad : Nat → Nat} {h : sx_H} {e : sx_E} {v : va_E} (hn : n < sx_sc) (hw : ∀ k, k < n → sx_we n (h k)) (hv : v = sx_ce aC (va_up ad n q) e) : sx_w aC ad n h ++ [(q, v)] = sx_w aC (va_up ad n q) (n + 1) (sx_up h n e) := by
  subst hv
  have h1 : sx_w aC (va_up ad n q) (n + 1) (sx_up h n e) = sx_w aC (va_up ad n q) n (sx_up h n e) ++ [(va_up ad n q n, sx_ce aC (va_up ad n q) (sx_up h n e n))] := by
    unfold sx_w; rw [List.range_succ, List.map_append]; rfl
  have h2 : sx_w aC (va_up ad n q) n (sx_up h n e) = sx_w aC (va_up ad n q) n h := by
    apply List.map_congr_left
    intro k hk
    have : k ≠ n := by have := List.mem_range.mp hk; omega
    simp [sx_up, this]
  rw [h1, h2, sx_w_ag (sx_ag_up hn) hw]
  simp [va_up, sx_up]
theorem sx_LO.ag {n : Nat} {ad ad' : Nat → Nat} {nL : Nat} {ls : sx_L} {arr : Array Slot} (h : sx_LO ad nL ls arr) (ha : sx_ag n ad ad') (hw : ∀ v, some v ∈ ls → sx_wv n v) : sx_LO ad' nL ls arr :=
  ⟨h.1, h.2.1, h.2.2.1, fun k v hk => by rw [sx_cv_ag ha (hw v (List.mem_of_getElem? hk))]; exact h.2.2.2 k v hk⟩
theorem sx_st_ag {n : Nat} {ad ad' : Nat → Nat} (ha : sx_ag n ad ad') {st : List sx_V} (hw : ∀ v ∈ st, sx_wv n v) : st.map (sx_cv ad') = st.map (sx_cv ad) := List.map_congr_left fun v hv => sx_cv_ag ha (hw v hv)
