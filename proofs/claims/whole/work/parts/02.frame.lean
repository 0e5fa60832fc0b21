/-! THE ABSTRACT MACHINE: values, cells, and what an instruction asks of them (a predicate transformer each) -/
abbrev sx_V : Type := Int32 ⊕ Int64 ⊕ Option Nat
abbrev sx_E : Type := (Nat × Nat × ((Nat → Int32) ⊕ (Nat → Option Nat))) ⊕ (Nat × List sx_V)
abbrev sx_i (x : Int32) : sx_V := .inl x
abbrev sx_l (x : Int64) : sx_V := .inr (.inl x)
abbrev sx_r (r : Option Nat) : sx_V := .inr (.inr r)
abbrev sx_H : Type := Nat → sx_E
abbrev sx_L : Type := List (Option sx_V)
abbrev sx_K : Type := sx_L → List sx_V → Nat → sx_H → Nat → Nat → Prop
abbrev sx_R : Type := Option sx_V → Nat → sx_H → Nat → Nat → Prop
abbrev sx_Q : Type := Option sx_V → Nat → sx_H → Prop
abbrev sx_C : Type := Nat → List sx_V → Nat → sx_H → sx_Q → Prop
abbrev sx_S : Type := sx_C → sx_K → (Nat → sx_K) → sx_R → sx_K
/-- arrays: of ints (0), of booleans (1), of books (2), of rows of ints (3) -/
abbrev sx_ai (n : Nat) (f : Nat → Int32) : sx_E := .inl (0, n, .inl f)
abbrev sx_az (n : Nat) (f : Nat → Int32) : sx_E := .inl (1, n, .inl f)
abbrev sx_ar (k n : Nat) (g : Nat → Option Nat) : sx_E := .inl (k, n, .inr g)
abbrev sx_o (c : Nat) (fs : List sx_V) : sx_E := .inr (c, fs)
def sx_up (h : sx_H) (k : Nat) (e : sx_E) : sx_H := fun j => if j = k then e else h j
/-- where the script is kept among the addresses -/
abbrev sx_sc : Nat := 1000000
def sx_cv (ad : Nat → Nat) : sx_V → Value
  | .inl x => .int x
  | .inr (.inl x) => .long x
  | .inr (.inr r) => va_rf (r.map ad)
def sx_ce (aC : Nat → ClassId) (ad : Nat → Nat) : sx_E → va_E
  | .inl (k, n, .inl f) => .inl (aC k, n, .inl f)
  | .inl (k, n, .inr g) => .inl (aC k, n, .inr (.inr (.inr (.inr (fun i => (g i).map ad)))))
  | .inr (c, fs) => .inr (c, fs.map (sx_cv ad))
def sx_w (aC : Nat → ClassId) (ad : Nat → Nat) (n : Nat) (h : sx_H) : va_W := (List.range n).map (fun k => (ad k, sx_ce aC ad (h k)))
/-- the locals: a store, a long's store, a jump's mask -/
def sx_dl : Option sx_V → Option sx_V
  | some (.inr (.inl _)) => none
  | a => a
def sx_set : sx_L → Nat → sx_V → sx_L
  | [], _, _ => []
  | _ :: t, 0, v => some v :: t
  | a :: t, i + 1, v => (match i with | 0 => sx_dl a | _ + 1 => a) :: sx_set t i v
def sx_setl : sx_L → Nat → sx_V → sx_L
  | [], _, _ => []
  | a :: t, 0, v => (match t with | [] => [a] | _ :: t => some v :: none :: t)
  | a :: t, i + 1, v => (match i with | 0 => sx_dl a | _ + 1 => a) :: sx_setl t i v
def sx_m : List Bool → sx_L → sx_L
  | true :: m, a :: t => a :: sx_m m t
  | false :: m, _ :: t => none :: sx_m m t
  | _, _ => []
def sx_cat : List sx_V → Nat
  | [] => 0
  | .inl _ :: t => sx_cat t + 1
  | .inr (.inl _) :: t => sx_cat t + 2
  | .inr (.inr _) :: t => sx_cat t + 1
def sx_tk : Nat → List sx_V → List sx_V → Option (List sx_V × List sx_V)
  | 0, acc, st => some (acc, st)
  | _ + 1, _, [] => none
  | k + 1, acc, v :: st => sx_tk k (v :: acc) st
def sx_ps : Option sx_V → List sx_V → List sx_V
  | none, st => st
  | some v, st => v :: st
def sx_wv (n : Nat) : sx_V → Prop
  | .inr (.inr (some k)) => k < n ∨ k = sx_sc
  | _ => True
def sx_we (n : Nat) : sx_E → Prop
  | .inl (_, _, .inr g) => ∀ i k, g i = some k → k < n ∨ k = sx_sc
  | .inr (_, fs) => ∀ v ∈ fs, sx_wv n v
  | _ => True
def sx_wf (n : Nat) (ls : sx_L) (st : List sx_V) (h : sx_H) : Prop := (∀ v, some v ∈ ls → sx_wv n v) ∧ (∀ v ∈ st, sx_wv n v) ∧ ∀ k, k < n → sx_we n (h k)
def sx_wl (n : Nat) (ls : sx_L) (st : List sx_V) : Prop := (∀ v, some v ∈ ls → sx_wv n v) ∧ ∀ v ∈ st, sx_wv n v
/-! instructions -/
def si_const (v : Int32) : sx_S := fun _ F _ _ ls st n h kc ks => F ls (sx_i v :: st) n h kc ks
def si_lconst (v : Int64) : sx_S := fun _ F _ _ ls st n h kc ks => F ls (sx_l v :: st) n h kc ks
def si_il (k : Nat) : sx_S := fun _ F _ _ ls st n h kc ks => match ls[k]? with | some (some (.inl x)) => F ls (sx_i x :: st) n h kc ks | _ => False
def si_ll (k : Nat) : sx_S := fun _ F _ _ ls st n h kc ks => match ls[k]? with | some (some (.inr (.inl x))) => F ls (sx_l x :: st) n h kc ks | _ => False
def si_al (k : Nat) : sx_S := fun _ F _ _ ls st n h kc ks => match ls[k]? with | some (some (.inr (.inr (some x)))) => F ls (sx_r (some x) :: st) n h kc ks | _ => False
def si_is (k : Nat) : sx_S := fun _ F _ _ ls st n h kc ks => match st with | .inl x :: st => F (sx_set ls k (sx_i x)) st n h kc ks | _ => False
def si_as (k : Nat) : sx_S := fun _ F _ _ ls st n h kc ks => match st with | .inr (.inr (some x)) :: st => F (sx_set ls k (sx_r (some x))) st n h kc ks | _ => False
def si_ls (k : Nat) : sx_S := fun _ F _ _ ls st n h kc ks => match st with | .inr (.inl x) :: st => F (sx_setl ls k (sx_l x)) st n h kc ks | _ => False
def si_inc (k : Nat) (d : Int32) : sx_S := fun _ F _ _ ls st n h kc ks => match ls[k]? with | some (some (.inl x)) => F (sx_set ls k (sx_i (x + d))) st n h kc ks | _ => False
def si_bin (f : Int32 → Int32 → Int32) : sx_S := fun _ F _ _ ls st n h kc ks => match st with | .inl y :: .inl x :: st => F ls (sx_i (f x y) :: st) n h kc ks | _ => False
def si_div (f : Int32 → Int32 → Int32) : sx_S := fun _ F _ _ ls st n h kc ks => match st with | .inl y :: .inl x :: st => ¬ y = 0 ∧ F ls (sx_i (f x y) :: st) n h kc ks | _ => False
def si_un (f : Int32 → Int32) : sx_S := fun _ F _ _ ls st n h kc ks => match st with | .inl x :: st => F ls (sx_i (f x) :: st) n h kc ks | _ => False
def si_lbin (f : Int64 → Int64 → Int64) : sx_S := fun _ F _ _ ls st n h kc ks => match st with | .inr (.inl y) :: .inr (.inl x) :: st => F ls (sx_l (f x y) :: st) n h kc ks | _ => False
def si_ldiv (f : Int64 → Int64 → Int64) : sx_S := fun _ F _ _ ls st n h kc ks => match st with | .inr (.inl y) :: .inr (.inl x) :: st => ¬ y = 0 ∧ F ls (sx_l (f x y) :: st) n h kc ks | _ => False
def si_lcmp : sx_S := fun _ F _ _ ls st n h kc ks => match st with | .inr (.inl y) :: .inr (.inl x) :: st => F ls (sx_i (lg_cmp x y) :: st) n h kc ks | _ => False
def si_i2l : sx_S := fun _ F _ _ ls st n h kc ks => match st with | .inl x :: st => F ls (sx_l x.toInt64 :: st) n h kc ks | _ => False
def si_l2i : sx_S := fun _ F _ _ ls st n h kc ks => match st with | .inr (.inl x) :: st => F ls (sx_i x.toInt32 :: st) n h kc ks | _ => False
def si_if1 (p : Int32 → Prop) (t : Nat) (m : List Bool) : sx_S := fun _ F J _ ls st n h kc ks => match st with | .inl x :: st => (p x → J t (sx_m m ls) st n h kc ks) ∧ (¬ p x → F ls st n h kc ks) | _ => False
def si_if2 (p : Int32 → Int32 → Prop) (t : Nat) (m : List Bool) : sx_S := fun _ F J _ ls st n h kc ks => match st with | .inl y :: .inl x :: st => (p x y → J t (sx_m m ls) st n h kc ks) ∧ (¬ p x y → F ls st n h kc ks) | _ => False
def si_go (t : Nat) (m : List Bool) : sx_S := fun _ _ J _ ls st n h kc ks => J t (sx_m m ls) st n h kc ks
def sx_sw (x : Int32) (d : Prop) : List (Int32 × Prop) → Prop
  | [] => d
  | (v, P) :: t => (x = v → P) ∧ (¬ x = v → sx_sw x d t)
def si_sw (cs : List (Int32 × Nat × List Bool)) (d : Nat) (m : List Bool) : sx_S := fun _ _ J _ ls st n h kc ks => match st with | .inl x :: st => sx_sw x (J d (sx_m m ls) st n h kc ks) (cs.map (fun q => (q.1, J q.2.1 (sx_m q.2.2 ls) st n h kc ks))) | _ => False
def si_dup : sx_S := fun _ F _ _ ls st n h kc ks => match st with | .inl x :: st => F ls (sx_i x :: sx_i x :: st) n h kc ks | .inr (.inr x) :: st => F ls (sx_r x :: sx_r x :: st) n h kc ks | _ => False
def si_dup2 : sx_S := fun _ F _ _ ls st n h kc ks => match st with | .inl y :: .inr (.inr x) :: st => F ls (sx_i y :: sx_r x :: sx_i y :: sx_r x :: st) n h kc ks | _ => False
def si_pop : sx_S := fun _ F _ _ ls st n h kc ks => match st with | .inl _ :: st => F ls st n h kc ks | .inr (.inr _) :: st => F ls st n h kc ks | _ => False
def si_get (ci k : Nat) : sx_S := fun _ F _ _ ls st n h kc ks => match st with
  | .inr (.inr (some a)) :: st => (match h a with
    | .inr (c, fs) => c = ci ∧ a < n ∧ (match fs[k]? with | some v => F ls (v :: st) n h kc ks | none => False)
    | _ => False)
  | _ => False
/-- is a value of a field's type: int 0, reference 1 -/
def sx_ft : Nat → sx_V → Prop
  | 0, .inl _ => True
  | 1, .inr (.inr _) => True
  | _, _ => False
def si_put (ci k ty : Nat) : sx_S := fun _ F _ _ ls st n h kc ks => match st with
  | v :: .inr (.inr (some a)) :: st => (match h a with
    | .inr (c, fs) => c = ci ∧ a < n ∧ k < fs.length ∧ sx_ft ty v ∧ F ls st n (sx_up h a (.inr (c, fs.set k v))) kc ks
    | _ => False)
  | _ => False
def si_iald : sx_S := fun _ F _ _ ls st n h kc ks => match st with
  | .inl i :: .inr (.inr (some a)) :: st => (match h a with
    | .inl (0, len, .inl f) => a < n ∧ vp_in i len ∧ F ls (sx_i (f i.toNatClampNeg) :: st) n h kc ks
    | _ => False)
  | _ => False
def si_iast : sx_S := fun _ F _ _ ls st n h kc ks => match st with
  | .inl x :: .inl i :: .inr (.inr (some a)) :: st => (match h a with
    | .inl (0, len, .inl f) => a < n ∧ vp_in i len ∧ F ls st n (sx_up h a (sx_ai len (upd f i.toNatClampNeg x))) kc ks
    | _ => False)
  | _ => False
def si_zald : sx_S := fun _ F _ _ ls st n h kc ks => match st with
  | .inl i :: .inr (.inr (some a)) :: st => (match h a with
    | .inl (1, len, .inl f) => a < n ∧ vp_in i len ∧ F ls (sx_i (f i.toNatClampNeg) :: st) n h kc ks
    | _ => False)
  | _ => False
def si_zast : sx_S := fun _ F _ _ ls st n h kc ks => match st with
  | .inl x :: .inl i :: .inr (.inr (some a)) :: st => (match h a with
    | .inl (1, len, .inl f) => a < n ∧ vp_in i len ∧ x = 1 ∧ F ls st n (sx_up h a (sx_az len (upd f i.toNatClampNeg x))) kc ks
    | _ => False)
  | _ => False
def si_aald (kd : Nat) : sx_S := fun _ F _ _ ls st n h kc ks => match st with
  | .inl i :: .inr (.inr (some a)) :: st => (match h a with
    | .inl (k, len, .inr g) => k = kd ∧ a < n ∧ vp_in i len ∧ F ls (sx_r (g i.toNatClampNeg) :: st) n h kc ks
    | _ => False)
  | _ => False
/-- a book into a row of books -/
def si_aast : sx_S := fun _ F _ _ ls st n h kc ks => match st with
  | .inr (.inr (some v)) :: .inl i :: .inr (.inr (some a)) :: st => (match h a with
    | .inl (2, len, .inr g) => a < n ∧ v < n ∧ vp_in i len ∧ (∃ fs, h v = .inr (2, fs)) ∧ F ls st n (sx_up h a (sx_ar 2 len (va_up g i.toNatClampNeg (some v)))) kc ks
    | _ => False)
  | _ => False
def si_sld (L : Nat) (xs : Nat → Int32) : sx_S := fun _ F _ _ ls st n h kc ks => match st with
  | .inl i :: .inr (.inr (some a)) :: st => a = sx_sc ∧ vp_in i L ∧ F ls (sx_i (xs i.toNatClampNeg) :: st) n h kc ks
  | _ => False
def si_slen (L : Nat) : sx_S := fun _ F _ _ ls st n h kc ks => match st with
  | .inr (.inr (some a)) :: st => a = sx_sc ∧ F ls (sx_i (Int32.ofNat L) :: st) n h kc ks
  | _ => False
/-- new cells: what is there ahead of it speaks of old cells alone, and there is room -/
def si_newa (kd Rc Rs : Nat) : sx_S := fun _ F _ _ ls st n h kc ks => match st with
  | .inl c :: st => ¬ c < 0 ∧ c.toNatClampNeg ≤ 100000 ∧ kc + 1 ≤ Rc ∧ ks + c.toNatClampNeg ≤ Rs ∧ n < sx_sc ∧ sx_wf n ls st h ∧ F ls (sx_r (some n) :: st) (n + 1) (sx_up h n (.inl (kd, c.toNatClampNeg, .inl (fun _ => 0)))) (kc + 1) (ks + c.toNatClampNeg)
  | _ => False
def si_newq (Rc Rs : Nat) : sx_S := fun _ F _ _ ls st n h kc ks => match st with
  | .inl c :: st => ¬ c < 0 ∧ c.toNatClampNeg ≤ 100000 ∧ kc + 1 ≤ Rc ∧ ks + c.toNatClampNeg ≤ Rs ∧ n < sx_sc ∧ sx_wf n ls st h ∧ F ls (sx_r (some n) :: st) (n + 1) (sx_up h n (sx_ar 2 c.toNatClampNeg (fun _ => none))) (kc + 1) (ks + c.toNatClampNeg)
  | _ => False
def si_mna (Rc Rs : Nat) : sx_S := fun _ F _ _ ls st n h kc ks => match st with
  | .inl k :: .inl c :: st => ¬ c < 0 ∧ ¬ k < 0 ∧ c.toNatClampNeg ≤ 1000 ∧ k.toNatClampNeg ≤ 1000 ∧ kc + (1 + c.toNatClampNeg) ≤ Rc ∧ ks + (c.toNatClampNeg + c.toNatClampNeg * k.toNatClampNeg) ≤ Rs ∧ n + c.toNatClampNeg < sx_sc ∧ sx_wf n ls st h ∧
      F ls (sx_r (some n) :: st) (n + 1 + c.toNatClampNeg) (fun j => if j < n then h j else if j = n then sx_ar 3 c.toNatClampNeg (fun i => if i < c.toNatClampNeg then some (n + 1 + i) else none) else sx_ai k.toNatClampNeg (fun _ => 0)) (kc + 1 + c.toNatClampNeg) (ks + c.toNatClampNeg + c.toNatClampNeg * k.toNatClampNeg)
  | _ => False
def si_new (ci N : Nat) (ds : List sx_V) (Rc Rs : Nat) : sx_S := fun _ F _ _ ls st n h kc ks =>
  kc + 1 ≤ Rc ∧ ks + N ≤ Rs ∧ n < sx_sc ∧ sx_wf n ls st h ∧ F ls (sx_r (some n) :: st) (n + 1) (sx_up h n (.inr (ci, ds))) (kc + 1) (ks + N)
def si_oi : sx_S := fun _ F _ _ ls st n h kc ks => match st with
  | .inr (.inr (some _)) :: st => sx_cat st ≤ 8 ∧ F ls st n h kc ks
  | _ => False
/-- a call: of a static method, of an object's (its class's number), of a constructor -/
def si_cs (mi k mc ms Rc Rs : Nat) : sx_S := fun C F _ _ ls st n h kc ks => match sx_tk k [] st with
  | some (a, st) => sx_cat st ≤ 8 ∧ kc + mc ≤ Rc ∧ ks + ms ≤ Rs ∧ C mi a n h (fun r n' h' => (n' = n ∨ sx_wl n ls st) ∧ F ls (sx_ps r st) n' h' (kc + mc) (ks + ms))
  | none => False
def si_cv (ci mi k mc ms Rc Rs : Nat) : sx_S := fun C F _ _ ls st n h kc ks => match sx_tk (k + 1) [] st with
  | some (.inr (.inr (some b)) :: a, st) => (∃ fs, h b = .inr (ci, fs)) ∧ b < n ∧ sx_cat st ≤ 8 ∧ kc + mc ≤ Rc ∧ ks + ms ≤ Rs ∧ C mi (sx_r (some b) :: a) n h (fun r n' h' => (n' = n ∨ sx_wl n ls st) ∧ F ls (sx_ps r st) n' h' (kc + mc) (ks + ms))
  | _ => False
def si_ci (mi k mc ms Rc Rs : Nat) : sx_S := fun C F _ _ ls st n h kc ks => match sx_tk (k + 1) [] st with
  | some (.inr (.inr (some b)) :: a, st) => sx_cat st ≤ 8 ∧ kc + mc ≤ Rc ∧ ks + ms ≤ Rs ∧ C mi (sx_r (some b) :: a) n h (fun r n' h' => (n' = n ∨ sx_wl n ls st) ∧ F ls (sx_ps r st) n' h' (kc + mc) (ks + ms))
  | _ => False
def sx_mn (x y : Int32) : Int32 := if y < x then y else x
def sx_mx (x y : Int32) : Int32 := if x < y then y else x
def si_min (Rc Rs : Nat) : sx_S := fun _ F _ _ ls st n h kc ks => match st with | .inl y :: .inl x :: st => sx_cat st ≤ 8 ∧ kc ≤ Rc ∧ ks ≤ Rs ∧ F ls (sx_i (sx_mn x y) :: st) n h kc ks | _ => False
def si_max (Rc Rs : Nat) : sx_S := fun _ F _ _ ls st n h kc ks => match st with | .inl y :: .inl x :: st => sx_cat st ≤ 8 ∧ kc ≤ Rc ∧ ks ≤ Rs ∧ F ls (sx_i (sx_mx x y) :: st) n h kc ks | _ => False
def si_copy : sx_S := fun _ F _ _ ls st n h kc ks => match st with
  | .inl c :: .inl dp :: .inr (.inr (some b)) :: .inl sp :: .inr (.inr (some a)) :: st => (match h a, h b with
    | .inl (0, n0, .inl f), .inl (0, n1, .inl g) => a < n ∧ b < n ∧ ¬ sp < 0 ∧ ¬ dp < 0 ∧ ¬ c < 0 ∧ sp.toNatClampNeg + c.toNatClampNeg ≤ n0 ∧ dp.toNatClampNeg + c.toNatClampNeg ≤ n1 ∧ sx_cat st ≤ 8 ∧
        F ls st n (sx_up h b (sx_ai n1 (va_cpy f g sp.toNatClampNeg dp.toNatClampNeg c.toNatClampNeg))) kc ks
    | _, _ => False)
  | _ => False
def si_rv : sx_S := fun _ _ _ Rt _ st n h kc ks => match st with | [] => Rt none n h kc ks | _ => False
def si_ri : sx_S := fun _ _ _ Rt _ st n h kc ks => match st with | [.inl x] => Rt (some (sx_i x)) n h kc ks | _ => False
def si_rz : sx_S := fun _ _ _ Rt _ st n h kc ks => match st with | [.inl x] => (x = 0 ∨ x = 1) ∧ Rt (some (sx_i x)) n h kc ks | _ => False
def si_rl : sx_S := fun _ _ _ Rt _ st n h kc ks => match st with | [.inr (.inl x)] => Rt (some (sx_l x)) n h kc ks | _ => False
/-! a block, a body, a call -/
def sx_run : List sx_S → sx_C → (Nat → sx_K) → sx_R → sx_K
  | [], _, _, _ => fun _ _ _ _ _ _ => False
  | I :: t, C, J, Rt => I C (sx_run t C J Rt) J Rt
def sx_T (B : Nat → List sx_S) (C : sx_C) (Rt : sx_R) (pc : Nat) : sx_K := fun ls st n h kc ks =>
  ∀ P : Nat → sx_K, (∀ pc ls st n h kc ks, sx_run (B pc) C P Rt ls st n h kc ks → P pc ls st n h kc ks) → P pc ls st n h kc ks
/-- an instruction asks no more of more -/
def sx_mon (I : sx_S) : Prop := ∀ (C C' : sx_C) (F F' : sx_K) (J J' : Nat → sx_K) (Rt Rt' : sx_R), (∀ mi a n h (Q Q' : sx_Q), (∀ r n h, Q r n h → Q' r n h) → C mi a n h Q → C' mi a n h Q') → (∀ ls st n h kc ks, F ls st n h kc ks → F' ls st n h kc ks) → (∀ t ls st n h kc ks, J t ls st n h kc ks → J' t ls st n h kc ks) → (∀ r n h kc ks, Rt r n h kc ks → Rt' r n h kc ks) → ∀ ls st n h kc ks, I C F J Rt ls st n h kc ks → I C' F' J' Rt' ls st n h kc ks
theorem sx_run_mon : ∀ (b : List sx_S), (∀ I ∈ b, sx_mon I) → ∀ (C C' : sx_C) (J J' : Nat → sx_K) (Rt Rt' : sx_R), (∀ mi a n h (Q Q' : sx_Q), (∀ r n h, Q r n h → Q' r n h) → C mi a n h Q → C' mi a n h Q') → (∀ t ls st n h kc ks, J t ls st n h kc ks → J' t ls st n h kc ks) → (∀ r n h kc ks, Rt r n h kc ks → Rt' r n h kc ks) → ∀ ls st n h kc ks, sx_run b C J Rt ls st n h kc ks → sx_run b C' J' Rt' ls st n h kc ks
  | [], _, _, _, _, _, _, _, _, _, _, _, _, _, _, _, _, hh => hh
  | I :: t, hm, C, C', J, J', Rt, Rt', hC, hJ, hR, ls, st, n, h, kc, ks, hh => hm I List.mem_cons_self C C' _ _ J J' Rt Rt' hC (fun ls st n h kc ks => sx_run_mon t (fun I h => hm I (List.mem_cons_of_mem _ h)) C C' J J' Rt Rt' hC hJ hR ls st n h kc ks) hJ hR ls st n h kc ks hh
theorem sx_T_in {B : Nat → List sx_S} (hm : ∀ pc, ∀ I ∈ B pc, sx_mon I) {C : sx_C} (hC : ∀ mi a n h (Q Q' : sx_Q), (∀ r n h, Q r n h → Q' r n h) → C mi a n h Q → C mi a n h Q') {Rt : sx_R} {pc : Nat} {ls : sx_L} {st : List sx_V} {n : Nat} {h : sx_H} {kc ks : Nat} (hh : sx_run (B pc) C (sx_T B C Rt) Rt ls st n h kc ks) : sx_T B C Rt pc ls st n h kc ks := fun P hP =>
  hP _ _ _ _ _ _ _ (sx_run_mon (B pc) (hm pc) C C _ _ Rt Rt hC (fun t ls st n h kc ks q => q P hP) (fun _ _ _ _ _ q => q) _ _ _ _ _ _ hh)
theorem sx_T_mon {B : Nat → List sx_S} (hm : ∀ pc, ∀ I ∈ B pc, sx_mon I) {C C' : sx_C} (hC : ∀ mi a n h (Q Q' : sx_Q), (∀ r n h, Q r n h → Q' r n h) → C mi a n h Q → C' mi a n h Q') {Rt Rt' : sx_R} (hR : ∀ r n h kc ks, Rt r n h kc ks → Rt' r n h kc ks) {pc : Nat} {ls : sx_L} {st : List sx_V} {n : Nat} {h : sx_H} {kc ks : Nat} (hh : sx_T B C Rt pc ls st n h kc ks) : sx_T B C' Rt' pc ls st n h kc ks := fun P hP =>
  hh P (fun pc ls st n h kc ks q => hP _ _ _ _ _ _ _ (sx_run_mon (B pc) (hm pc) C C' _ _ Rt Rt' hC (fun _ _ _ _ _ _ _ q => q) hR _ _ _ _ _ _ q))
/-- the locals at a method's entry -/
def sx_en : Nat → List sx_V → sx_L
  | k, [] => List.replicate k none
  | k, .inr (.inl x) :: t => some (.inr (.inl x)) :: none :: sx_en (k - 2) t
  | k, .inl x :: t => some (.inl x) :: sx_en (k - 1) t
  | k, .inr (.inr x) :: t => some (.inr (.inr x)) :: sx_en (k - 1) t
/-! each asks no more of more -/
theorem sm_const (v : Int32) : sx_mon (si_const v) := by
  intro C C' F F' J J' Rt Rt' hC hF hJ hR ls st n h kc ks hh
  exact hF _ _ _ _ _ _ hh
theorem sm_lconst (v : Int64) : sx_mon (si_lconst v) := by
  intro C C' F F' J J' Rt Rt' hC hF hJ hR ls st n h kc ks hh
  exact hF _ _ _ _ _ _ hh
theorem sm_il (k : Nat) : sx_mon (si_il k) := by
  intro C C' F F' J J' Rt Rt' hC hF hJ hR ls st n h kc ks hh
  unfold si_il at hh ⊢
  split at hh
  · rename_i e; (try simp only [e]); exact hF _ _ _ _ _ _ hh
  · exact hh.elim
theorem sm_ll (k : Nat) : sx_mon (si_ll k) := by
  intro C C' F F' J J' Rt Rt' hC hF hJ hR ls st n h kc ks hh
  unfold si_ll at hh ⊢
  split at hh
  · rename_i e; (try simp only [e]); exact hF _ _ _ _ _ _ hh
  · exact hh.elim
theorem sm_al (k : Nat) : sx_mon (si_al k) := by
  intro C C' F F' J J' Rt Rt' hC hF hJ hR ls st n h kc ks hh
  unfold si_al at hh ⊢
  split at hh
  · rename_i e; (try simp only [e]); exact hF _ _ _ _ _ _ hh
  · exact hh.elim
theorem sm_inc (k : Nat) (d : Int32) : sx_mon (si_inc k d) := by
  intro C C' F F' J J' Rt Rt' hC hF hJ hR ls st n h kc ks hh
  unfold si_inc at hh ⊢
  split at hh
  · rename_i e; (try simp only [e]); exact hF _ _ _ _ _ _ hh
  · exact hh.elim
theorem sm_is (k : Nat) : sx_mon (si_is k) := by
  intro C C' F F' J J' Rt Rt' hC hF hJ hR ls st n h kc ks hh
  unfold si_is at hh ⊢
  split at hh
  · exact hF _ _ _ _ _ _ hh
  · exact hh.elim
theorem sm_as (k : Nat) : sx_mon (si_as k) := by
  intro C C' F F' J J' Rt Rt' hC hF hJ hR ls st n h kc ks hh
  unfold si_as at hh ⊢
  split at hh
  · exact hF _ _ _ _ _ _ hh
  · exact hh.elim
theorem sm_ls (k : Nat) : sx_mon (si_ls k) := by
  intro C C' F F' J J' Rt Rt' hC hF hJ hR ls st n h kc ks hh
  unfold si_ls at hh ⊢
  split at hh
  · exact hF _ _ _ _ _ _ hh
  · exact hh.elim
theorem sm_bin (f : Int32 → Int32 → Int32) : sx_mon (si_bin f) := by
  intro C C' F F' J J' Rt Rt' hC hF hJ hR ls st n h kc ks hh
  unfold si_bin at hh ⊢
  split at hh
  · exact hF _ _ _ _ _ _ hh
  · exact hh.elim
theorem sm_un (f : Int32 → Int32) : sx_mon (si_un f) := by
  intro C C' F F' J J' Rt Rt' hC hF hJ hR ls st n h kc ks hh
  unfold si_un at hh ⊢
  split at hh
  · exact hF _ _ _ _ _ _ hh
  · exact hh.elim
theorem sm_lbin (f : Int64 → Int64 → Int64) : sx_mon (si_lbin f) := by
  intro C C' F F' J J' Rt Rt' hC hF hJ hR ls st n h kc ks hh
  unfold si_lbin at hh ⊢
  split at hh
  · exact hF _ _ _ _ _ _ hh
  · exact hh.elim
theorem sm_lcmp  : sx_mon (si_lcmp ) := by
  intro C C' F F' J J' Rt Rt' hC hF hJ hR ls st n h kc ks hh
  unfold si_lcmp at hh ⊢
  split at hh
  · exact hF _ _ _ _ _ _ hh
  · exact hh.elim
theorem sm_i2l  : sx_mon (si_i2l ) := by
  intro C C' F F' J J' Rt Rt' hC hF hJ hR ls st n h kc ks hh
  unfold si_i2l at hh ⊢
  split at hh
  · exact hF _ _ _ _ _ _ hh
  · exact hh.elim
theorem sm_l2i  : sx_mon (si_l2i ) := by
  intro C C' F F' J J' Rt Rt' hC hF hJ hR ls st n h kc ks hh
  unfold si_l2i at hh ⊢
  split at hh
  · exact hF _ _ _ _ _ _ hh
  · exact hh.elim
theorem sm_dup2  : sx_mon (si_dup2 ) := by
  intro C C' F F' J J' Rt Rt' hC hF hJ hR ls st n h kc ks hh
  unfold si_dup2 at hh ⊢
  split at hh
  · exact hF _ _ _ _ _ _ hh
  · exact hh.elim
theorem sm_div (f : Int32 → Int32 → Int32) : sx_mon (si_div f) := by
  intro C C' F F' J J' Rt Rt' hC hF hJ hR ls st n h kc ks hh
  unfold si_div at hh ⊢
  split at hh
  · exact ⟨hh.1, hF _ _ _ _ _ _ hh.2⟩
  · exact hh.elim
theorem sm_ldiv (f : Int64 → Int64 → Int64) : sx_mon (si_ldiv f) := by
  intro C C' F F' J J' Rt Rt' hC hF hJ hR ls st n h kc ks hh
  unfold si_ldiv at hh ⊢
  split at hh
  · exact ⟨hh.1, hF _ _ _ _ _ _ hh.2⟩
  · exact hh.elim
theorem sm_dup  : sx_mon (si_dup) := by
  intro C C' F F' J J' Rt Rt' hC hF hJ hR ls st n h kc ks hh
  unfold si_dup at hh ⊢
  split at hh
  · exact hF _ _ _ _ _ _ hh
  · exact hF _ _ _ _ _ _ hh
  · exact hh.elim
theorem sm_pop  : sx_mon (si_pop) := by
  intro C C' F F' J J' Rt Rt' hC hF hJ hR ls st n h kc ks hh
  unfold si_pop at hh ⊢
  split at hh
  · exact hF _ _ _ _ _ _ hh
  · exact hF _ _ _ _ _ _ hh
  · exact hh.elim
theorem sm_if1 (p : Int32 → Prop) (t : Nat) (m : List Bool) : sx_mon (si_if1 p t m) := by
  intro C C' F F' J J' Rt Rt' hC hF hJ hR ls st n h kc ks hh
  unfold si_if1 at hh ⊢
  split at hh
  · exact ⟨fun q => hJ _ _ _ _ _ _ _ (hh.1 q), fun q => hF _ _ _ _ _ _ (hh.2 q)⟩
  · exact hh.elim
theorem sm_if2 (p : Int32 → Int32 → Prop) (t : Nat) (m : List Bool) : sx_mon (si_if2 p t m) := by
  intro C C' F F' J J' Rt Rt' hC hF hJ hR ls st n h kc ks hh
  unfold si_if2 at hh ⊢
  split at hh
  · exact ⟨fun q => hJ _ _ _ _ _ _ _ (hh.1 q), fun q => hF _ _ _ _ _ _ (hh.2 q)⟩
  · exact hh.elim
theorem sm_go (t : Nat) (m : List Bool) : sx_mon (si_go t m) := by
  intro C C' F F' J J' Rt Rt' hC hF hJ hR ls st n h kc ks hh
  exact hJ _ _ _ _ _ _ _ hh
theorem sx_sw_mon (x : Int32) {d d' : Prop} (hd : d → d') {f g : Int32 × Nat × List Bool → Prop} (hf : ∀ q, f q → g q) : ∀ cs : List (Int32 × Nat × List Bool), sx_sw x d (cs.map (fun q => (q.1, f q))) → sx_sw x d' (cs.map (fun q => (q.1, g q)))
  | [], h => hd h
  | q :: t, h => ⟨fun e => hf q (h.1 e), fun e => sx_sw_mon x hd hf t (h.2 e)⟩
theorem sm_sw (cs : List (Int32 × Nat × List Bool)) (d : Nat) (m : List Bool) : sx_mon (si_sw cs d m) := by
  intro C C' F F' J J' Rt Rt' hC hF hJ hR ls st n h kc ks hh
  unfold si_sw at hh ⊢
  split at hh
  · exact sx_sw_mon _ (hJ _ _ _ _ _ _ _) (fun q => hJ _ _ _ _ _ _ _) cs hh
  · exact hh.elim
theorem sm_get (ci k : Nat) : sx_mon (si_get ci k) := by
  intro C C' F F' J J' Rt Rt' hC hF hJ hR ls st n h kc ks hh
  unfold si_get at hh ⊢
  split at hh
  · split at hh
    · rename_i e
      obtain ⟨h1, h2, hh⟩ := hh
      split at hh
      · rename_i e2
        try simp only [e, e2]
        exact ⟨h1, h2, hF _ _ _ _ _ _ hh⟩
      · exact hh.elim
    · exact hh.elim
  · exact hh.elim
theorem sm_put (ci k ty : Nat) : sx_mon (si_put ci k ty) := by
  intro C C' F F' J J' Rt Rt' hC hF hJ hR ls st n h kc ks hh
  unfold si_put at hh ⊢
  split at hh
  · split at hh
    · rename_i e
      try simp only [e]
      exact ⟨hh.1, hh.2.1, hh.2.2.1, hh.2.2.2.1, hF _ _ _ _ _ _ hh.2.2.2.2⟩
    · exact hh.elim
  · exact hh.elim
theorem sm_iald  : sx_mon (si_iald) := by
  intro C C' F F' J J' Rt Rt' hC hF hJ hR ls st n h kc ks hh
  unfold si_iald at hh ⊢
  split at hh
  · split at hh
    · rename_i e
      try simp only [e]
      exact ⟨hh.1, hh.2.1, hF _ _ _ _ _ _ hh.2.2⟩
    · exact hh.elim
  · exact hh.elim
theorem sm_iast  : sx_mon (si_iast) := by
  intro C C' F F' J J' Rt Rt' hC hF hJ hR ls st n h kc ks hh
  unfold si_iast at hh ⊢
  split at hh
  · split at hh
    · rename_i e
      try simp only [e]
      exact ⟨hh.1, hh.2.1, hF _ _ _ _ _ _ hh.2.2⟩
    · exact hh.elim
  · exact hh.elim
theorem sm_zald  : sx_mon (si_zald) := by
  intro C C' F F' J J' Rt Rt' hC hF hJ hR ls st n h kc ks hh
  unfold si_zald at hh ⊢
  split at hh
  · split at hh
    · rename_i e
      try simp only [e]
      exact ⟨hh.1, hh.2.1, hF _ _ _ _ _ _ hh.2.2⟩
    · exact hh.elim
  · exact hh.elim
theorem sm_zast  : sx_mon (si_zast) := by
  intro C C' F F' J J' Rt Rt' hC hF hJ hR ls st n h kc ks hh
  unfold si_zast at hh ⊢
  split at hh
  · split at hh
    · rename_i e
      try simp only [e]
      exact ⟨hh.1, hh.2.1, hh.2.2.1, hF _ _ _ _ _ _ hh.2.2.2⟩
    · exact hh.elim
  · exact hh.elim
theorem sm_aald (kd : Nat) : sx_mon (si_aald kd) := by
  intro C C' F F' J J' Rt Rt' hC hF hJ hR ls st n h kc ks hh
  unfold si_aald at hh ⊢
  split at hh
  · split at hh
    · rename_i e
      try simp only [e]
      exact ⟨hh.1, hh.2.1, hh.2.2.1, hF _ _ _ _ _ _ hh.2.2.2⟩
    · exact hh.elim
  · exact hh.elim
theorem sm_aast  : sx_mon (si_aast) := by
  intro C C' F F' J J' Rt Rt' hC hF hJ hR ls st n h kc ks hh
  unfold si_aast at hh ⊢
  split at hh
  · split at hh
    · rename_i e
      try simp only [e]
      exact ⟨hh.1, hh.2.1, hh.2.2.1, hh.2.2.2.1, hF _ _ _ _ _ _ hh.2.2.2.2⟩
    · exact hh.elim
  · exact hh.elim
theorem sm_copy  : sx_mon (si_copy) := by
  intro C C' F F' J J' Rt Rt' hC hF hJ hR ls st n h kc ks hh
  unfold si_copy at hh ⊢
  split at hh
  · split at hh
    · rename_i e
      try simp only [e]
      exact ⟨hh.1, hh.2.1, hh.2.2.1, hh.2.2.2.1, hh.2.2.2.2.1, hh.2.2.2.2.2.1, hh.2.2.2.2.2.2.1, hh.2.2.2.2.2.2.2.1, hF _ _ _ _ _ _ hh.2.2.2.2.2.2.2.2⟩
    · exact hh.elim
  · exact hh.elim
theorem sm_sld (L : Nat) (xs : Nat → Int32) : sx_mon (si_sld L xs) := by
  intro C C' F F' J J' Rt Rt' hC hF hJ hR ls st n h kc ks hh
  unfold si_sld at hh ⊢
  split at hh
  · exact ⟨hh.1, hh.2.1, hF _ _ _ _ _ _ hh.2.2⟩
  · exact hh.elim
theorem sm_slen (L : Nat) : sx_mon (si_slen L) := by
  intro C C' F F' J J' Rt Rt' hC hF hJ hR ls st n h kc ks hh
  unfold si_slen at hh ⊢
  split at hh
  · exact ⟨hh.1, hF _ _ _ _ _ _ hh.2⟩
  · exact hh.elim
theorem sm_newa (kd Rc Rs : Nat) : sx_mon (si_newa kd Rc Rs) := by
  intro C C' F F' J J' Rt Rt' hC hF hJ hR ls st n h kc ks hh
  unfold si_newa at hh ⊢
  split at hh
  · exact ⟨hh.1, hh.2.1, hh.2.2.1, hh.2.2.2.1, hh.2.2.2.2.1, hh.2.2.2.2.2.1, hF _ _ _ _ _ _ hh.2.2.2.2.2.2⟩
  · exact hh.elim
theorem sm_newq (Rc Rs : Nat) : sx_mon (si_newq Rc Rs) := by
  intro C C' F F' J J' Rt Rt' hC hF hJ hR ls st n h kc ks hh
  unfold si_newq at hh ⊢
  split at hh
  · exact ⟨hh.1, hh.2.1, hh.2.2.1, hh.2.2.2.1, hh.2.2.2.2.1, hh.2.2.2.2.2.1, hF _ _ _ _ _ _ hh.2.2.2.2.2.2⟩
  · exact hh.elim
theorem sm_mna (Rc Rs : Nat) : sx_mon (si_mna Rc Rs) := by
  intro C C' F F' J J' Rt Rt' hC hF hJ hR ls st n h kc ks hh
  unfold si_mna at hh ⊢
  split at hh
  · exact ⟨hh.1, hh.2.1, hh.2.2.1, hh.2.2.2.1, hh.2.2.2.2.1, hh.2.2.2.2.2.1, hh.2.2.2.2.2.2.1, hh.2.2.2.2.2.2.2.1, hF _ _ _ _ _ _ hh.2.2.2.2.2.2.2.2⟩
  · exact hh.elim
theorem sm_new (ci N : Nat) (ds : List sx_V) (Rc Rs : Nat) : sx_mon (si_new ci N ds Rc Rs) := by
  intro C C' F F' J J' Rt Rt' hC hF hJ hR ls st n h kc ks hh
  exact ⟨hh.1, hh.2.1, hh.2.2.1, hh.2.2.2.1, hF _ _ _ _ _ _ hh.2.2.2.2⟩
theorem sm_oi  : sx_mon (si_oi) := by
  intro C C' F F' J J' Rt Rt' hC hF hJ hR ls st n h kc ks hh
  unfold si_oi at hh ⊢
  split at hh
  · exact ⟨hh.1, hF _ _ _ _ _ _ hh.2⟩
  · exact hh.elim
theorem sm_cs (mi k mc ms Rc Rs : Nat) : sx_mon (si_cs mi k mc ms Rc Rs) := by
  intro C C' F F' J J' Rt Rt' hC hF hJ hR ls st n h kc ks hh
  unfold si_cs at hh ⊢
  split at hh
  · rename_i e
    try simp only [e]
    exact ⟨hh.1, hh.2.1, hh.2.2.1, hC _ _ _ _ _ _ (fun _ _ _ q => ⟨q.1, hF _ _ _ _ _ _ q.2⟩) hh.2.2.2⟩
  · exact hh.elim
theorem sm_cv (ci mi k mc ms Rc Rs : Nat) : sx_mon (si_cv ci mi k mc ms Rc Rs) := by
  intro C C' F F' J J' Rt Rt' hC hF hJ hR ls st n h kc ks hh
  unfold si_cv at hh ⊢
  split at hh
  · rename_i e
    try simp only [e]
    exact ⟨hh.1, hh.2.1, hh.2.2.1, hh.2.2.2.1, hh.2.2.2.2.1, hC _ _ _ _ _ _ (fun _ _ _ q => ⟨q.1, hF _ _ _ _ _ _ q.2⟩) hh.2.2.2.2.2⟩
  · exact hh.elim
theorem sm_ci (mi k mc ms Rc Rs : Nat) : sx_mon (si_ci mi k mc ms Rc Rs) := by
  intro C C' F F' J J' Rt Rt' hC hF hJ hR ls st n h kc ks hh
  unfold si_ci at hh ⊢
  split at hh
  · rename_i e
    try simp only [e]
    exact ⟨hh.1, hh.2.1, hh.2.2.1, hC _ _ _ _ _ _ (fun _ _ _ q => ⟨q.1, hF _ _ _ _ _ _ q.2⟩) hh.2.2.2⟩
  · exact hh.elim
theorem sm_min (Rc Rs : Nat) : sx_mon (si_min Rc Rs) := by
  intro C C' F F' J J' Rt Rt' hC hF hJ hR ls st n h kc ks hh
  unfold si_min at hh ⊢
  split at hh
  · exact ⟨hh.1, hh.2.1, hh.2.2.1, hF _ _ _ _ _ _ hh.2.2.2⟩
  · exact hh.elim
theorem sm_max (Rc Rs : Nat) : sx_mon (si_max Rc Rs) := by
  intro C C' F F' J J' Rt Rt' hC hF hJ hR ls st n h kc ks hh
  unfold si_max at hh ⊢
  split at hh
  · exact ⟨hh.1, hh.2.1, hh.2.2.1, hF _ _ _ _ _ _ hh.2.2.2⟩
  · exact hh.elim
theorem sm_rv  : sx_mon (si_rv) := by
  intro C C' F F' J J' Rt Rt' hC hF hJ hR ls st n h kc ks hh
  unfold si_rv at hh ⊢
  split at hh
  · exact hR _ _ _ _ _ hh
  · exact hh.elim
theorem sm_ri  : sx_mon (si_ri) := by
  intro C C' F F' J J' Rt Rt' hC hF hJ hR ls st n h kc ks hh
  unfold si_ri at hh ⊢
  split at hh
  · exact hR _ _ _ _ _ hh
  · exact hh.elim
theorem sm_rz  : sx_mon (si_rz) := by
  intro C C' F F' J J' Rt Rt' hC hF hJ hR ls st n h kc ks hh
  unfold si_rz at hh ⊢
  split at hh
  · exact ⟨hh.1, hR _ _ _ _ _ hh.2⟩
  · exact hh.elim
theorem sm_rl  : sx_mon (si_rl) := by
  intro C C' F F' J J' Rt Rt' hC hF hJ hR ls st n h kc ks hh
  unfold si_rl at hh ⊢
  split at hh
  · exact hR _ _ _ _ _ hh
  · exact hh.elim
