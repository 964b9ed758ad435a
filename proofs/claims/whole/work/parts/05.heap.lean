/-! The small machine's cells, and that the real machine follows the instructions that read and write them. -/
def dx_ty : Nat → FieldType
  | 0 => .int
  | 1 => .long
  | 2 => .char
  | _ => .byte
def dx_e (tc : Nat → ClassId) (kd : Nat → Option Nat) (ad : Nat → Nat) : dx_E → va_E
  | .inl x => .inl (tc x.1, x.2)
  | .inr x => .inr (x.1, x.2.map (dx_v kd ad))
def dx_w (tc : Nat → ClassId) (kd : Nat → Option Nat) (ad : Nat → Nat) (σ : dx_S) : va_W := σ.mapIdx (fun i x => (ad i, dx_e tc kd ad x))
theorem dx_w_at {tc : Nat → ClassId} {kd : Nat → Option Nat} {ad : Nat → Nat} {σ : dx_S} {i : Nat} {x : dx_E} (h : σ[i]? = some x) : (dx_w tc kd ad σ)[i]? = some (ad i, dx_e tc kd ad x) := by
  simp [dx_w, List.getElem?_mapIdx, h]
theorem dx_w_set {tc : Nat → ClassId} {kd : Nat → Option Nat} {ad : Nat → Nat} {σ : dx_S} {i : Nat} {x : dx_E} : (dx_w tc kd ad σ).set i (ad i, dx_e tc kd ad x) = dx_w tc kd ad (σ.set i x) := by
  apply List.ext_getElem?
  intro j
  simp only [dx_w, List.getElem?_set, List.getElem?_mapIdx, List.length_mapIdx]
  by_cases hj : i = j
  · subst hj
    simp only [if_true]
    split <;> rfl
  · simp only [hj, if_false]
/-- a value's cell is there -/
def dx_kv (n : Nat) : Value → Prop
  | .ref i => i < n
  | _ => True
def dx_ke (n : Nat) : dx_E → Prop
  | .inl _ => True
  | .inr x => ∀ v ∈ x.2, dx_kv n v
def dx_ks (n : Nat) (σ : dx_S) : Prop := ∀ x ∈ σ, dx_ke n x
def dx_kl (n : Nat) (l : dx_L) : Prop := ∀ q ∈ l, dx_kv n q.2
def dx_kt (n : Nat) (st : List Value) : Prop := ∀ v ∈ st, dx_kv n v
theorem dx_kv_le {n k : Nat} (h : n ≤ k) {v : Value} (hv : dx_kv n v) : dx_kv k v := by
  cases v <;> first | exact trivial | exact Nat.lt_of_lt_of_le hv h
theorem dx_ks_le {n k : Nat} (h : n ≤ k) {σ : dx_S} (hv : dx_ks n σ) : dx_ks k σ := fun x hx => by
  have := hv x hx
  cases x with
  | inl _ => exact trivial
  | inr x => exact fun v h1 => dx_kv_le h (this v h1)
theorem dx_kl_le {n k : Nat} (h : n ≤ k) {l : dx_L} (hv : dx_kl n l) : dx_kl k l := fun q hq => dx_kv_le h (hv q hq)
theorem dx_kt_le {n k : Nat} (h : n ≤ k) {l : List Value} (hv : dx_kt n l) : dx_kt k l := fun q hq => dx_kv_le h (hv q hq)
theorem dx_v_eq {kd : Nat → Option Nat} {ad ad' : Nat → Nat} {n : Nat} (h : ∀ i, i < n → ad' i = ad i) {v : Value} (hv : dx_kv n v) : dx_v kd ad' v = dx_v kd ad v := by
  cases v <;> first | rfl | (show Value.ref _ = Value.ref _; rw [h _ hv])
theorem dx_vl_eq {kd : Nat → Option Nat} {ad ad' : Nat → Nat} {n : Nat} (h : ∀ i, i < n → ad' i = ad i) {l : dx_L} (hv : dx_kl n l) : dx_vl kd ad' l = dx_vl kd ad l :=
  List.map_congr_left fun q hq => by rw [dx_v_eq h (hv q hq)]
theorem dx_vt_eq {kd : Nat → Option Nat} {ad ad' : Nat → Nat} {n : Nat} (h : ∀ i, i < n → ad' i = ad i) {l : List Value} (hv : dx_kt n l) : l.map (dx_v kd ad') = l.map (dx_v kd ad) :=
  List.map_congr_left fun q hq => dx_v_eq h (hv q hq)
theorem dx_e_eq {tc : Nat → ClassId} {kd : Nat → Option Nat} {ad ad' : Nat → Nat} {n : Nat} (h : ∀ i, i < n → ad' i = ad i) {x : dx_E} (hv : dx_ke n x) : dx_e tc kd ad' x = dx_e tc kd ad x := by
  cases x with
  | inl _ => rfl
  | inr x => exact congrArg (fun z => Sum.inr (x.1, z)) (List.map_congr_left fun v h1 => dx_v_eq h (hv v h1))
theorem dx_w_eq {tc : Nat → ClassId} {kd : Nat → Option Nat} {ad ad' : Nat → Nat} {n : Nat} (h : ∀ i, i < n → ad' i = ad i) {σ : dx_S} (hn : σ.length ≤ n) (hv : dx_ks n σ) : dx_w tc kd ad' σ = dx_w tc kd ad σ := by
  apply List.ext_getElem?
  intro j
  simp only [dx_w, List.getElem?_mapIdx]
  cases hj : σ[j]? with
  | none => rfl
  | some x =>
    have hl := (List.getElem?_eq_some_iff.mp hj).1
    simp only [Option.map_some, h j (by omega), dx_e_eq h (hv x (List.mem_of_getElem? hj))]
theorem dx_w_push {tc : Nat → ClassId} {kd : Nat → Option Nat} {ad : Nat → Nat} {σ : dx_S} {q : Nat} {x : dx_E} (hs : dx_ks σ.length σ) (hx : dx_ke σ.length x) : dx_w tc kd ad σ ++ [(q, dx_e tc kd ad x)] = dx_w tc kd (fun i => if i = σ.length then q else ad i) (σ ++ [x]) := by
  have h : ∀ i, i < σ.length → (fun i => if i = σ.length then q else ad i) i = ad i := fun i hi => if_neg (by omega)
  rw [← dx_w_eq h (Nat.le_refl _) hs, ← dx_e_eq h hx]
  simp [dx_w, List.mapIdx_append]
def dx_gf (K σ : dx_S) (o : Value) (ci k : Nat) : Option Value := match o with
  | .ref a => (match σ[a]? with
    | some (.inr x) => if x.1 = ci then x.2[k]? else none
    | _ => none)
  | .retAddr a => (match K[a]? with
    | some (.inr x) => if x.1 = ci then x.2[k]? else none
    | _ => none)
  | _ => none
def dx_ar (K σ : dx_S) (o : Value) : Option (Nat × vp_A) := match o with
  | .ref a => (match σ[a]? with
    | some (.inl x) => some x
    | _ => none)
  | .retAddr a => (match K[a]? with
    | some (.inl x) => some x
    | _ => none)
  | _ => none
/-- an element of an array of ints of type t; of longs -/
def dx_ei (K σ : dx_S) (t : Nat) (o : Value) (i : Int32) : Option Int32 := match dx_ar K σ o with
  | some (t', n, .inl f) => if t' = t ∧ ¬ (i < 0 ∨ n ≤ i.toNatClampNeg) then some (f i.toNatClampNeg) else none
  | _ => none
def dx_el (K σ : dx_S) (o : Value) (i : Int32) : Option Int64 := match dx_ar K σ o with
  | some (t', n, .inr (.inl f)) => if t' = 1 ∧ ¬ (i < 0 ∨ n ≤ i.toNatClampNeg) then some (f i.toNatClampNeg) else none
  | _ => none
def dx_in (K σ : dx_S) (o : Value) : Option Int32 := match dx_ar K σ o with
  | some (t', n, _) => if t' < 4 then some (Int32.ofNat n) else none
  | none => none
def dx_ob {α β : Type} (x : Option α) (k : α → Option β) : Option β := match x with
  | some v => k v
  | none => none
theorem dx_ob_e {α β : Type} {x : Option α} {k : α → Option β} {z : β} (h : dx_ob x k = some z) : ∃ v, x = some v ∧ k v = some z := by
  cases x with
  | none => cases h
  | some v => exact ⟨v, rfl, h⟩
def dx_iv {α : Type} (st : List Value) (k : Int32 → Value → List Value → Option α) : Option α := match st with
  | .int i :: o :: r => k i o r
  | _ => none
theorem dx_iv_e {α : Type} {st : List Value} {k : Int32 → Value → List Value → Option α} {z : α} (h : dx_iv st k = some z) : ∃ i o r, st = .int i :: o :: r ∧ k i o r = some z := by
  unfold dx_iv at h
  split at h
  · exact ⟨_, _, _, rfl, h⟩
  · cases h
/-- the instructions that read cells and tables -/
def dx_b (K : dx_S) (x : dx_I) (pc : Nat) (lv : dx_L) (st : List Value) (σ : dx_S) : Option dx_R := match x.1 with
  | .getfield _ => dx_v1 st fun o r => dx_ob (dx_gf K σ o x.2.1 x.2.2.1) fun v => some (pc + 3, lv, v :: r)
  | .iaload => dx_iv st fun i o r => dx_ob (dx_ei K σ 0 o i) fun v => some (pc + 1, lv, .int v :: r)
  | .caload => dx_iv st fun i o r => dx_ob (dx_ei K σ 2 o i) fun v => some (pc + 1, lv, .int v :: r)
  | .baload => dx_iv st fun i o r => dx_ob (dx_ei K σ 3 o i) fun v => some (pc + 1, lv, .int v :: r)
  | .laload => dx_iv st fun i o r => dx_ob (dx_el K σ o i) fun v => some (pc + 1, lv, .long v :: r)
  | .arraylength => dx_v1 st fun o r => dx_ob (dx_in K σ o) fun v => some (pc + 1, lv, .int v :: r)
  | .getstatic _ => some (pc + 3, lv, x.2.2.2.2 :: st)
  | .ldc _ => some (pc + 2, lv, x.2.2.2.2 :: st)
  | .ldc2_w _ => some (pc + 3, lv, x.2.2.2.2 :: st)
  | .ldc_w _ => some (pc + 3, lv, x.2.2.2.2 :: st)
  | _ => none
/-- may a value be laid into a field whose type has this number? 0 int, 1 long, 2 boolean, 3 a reference -/
def dx_ft (t : Nat) (v : Value) : Bool := match t, v with
  | 0, .int _ => true
  | 1, .long _ => true
  | 2, .int x => x == 0 || x == 1
  | 3, .ref _ => true
  | 3, .retAddr _ => true
  | _, _ => false
def dx_fty (t : Nat) : FieldType → Bool
  | .int => t == 0
  | .long => t == 1
  | .boolean => t == 2
  | .object _ => t == 3
  | .array _ => t == 3
  | _ => false
theorem dx_ft_ok {kd : Nat → Option Nat} {ad : Nat → Nat} {t : Nat} {ty : FieldType} {v : Value} (h1 : dx_fty t ty = true) (h2 : dx_ft t v = true) : narrow ty (dx_v kd ad v) = dx_v kd ad v ∧ fits ty (dx_v kd ad v) = true := by
  cases ty <;> simp only [dx_fty, beq_iff_eq, Bool.false_eq_true] at h1 <;> subst h1 <;> cases v with
    | int x => first
      | (cases h2; done)
      | exact ⟨rfl, rfl⟩
      | (simp only [dx_ft, Bool.or_eq_true, beq_iff_eq] at h2
         rcases h2 with rfl | rfl
         · exact ⟨show narrow .boolean (.int 0) = .int 0 by decide, show fits .boolean (.int 0) = true by decide⟩
         · exact ⟨show narrow .boolean (.int 1) = .int 1 by decide, show fits .boolean (.int 1) = true by decide⟩)
    | retAddr i => first
      | (cases h2; done)
      | (simp only [dx_v]
         cases kd i <;> exact ⟨rfl, rfl⟩)
    | _ => first
      | (cases h2; done)
      | exact ⟨rfl, rfl⟩
def dx_pf (σ : dx_S) (o : Value) (ci k t : Nat) (v : Value) : Option dx_S := match o with
  | .ref a => (match σ[a]? with
    | some (.inr x) => if x.1 = ci ∧ k < x.2.length ∧ dx_ft t v = true then some (σ.set a (.inr (x.1, x.2.set k v))) else none
    | _ => none)
  | _ => none
/-- an array of ints of type t: element i becomes x -/
def dx_pi (σ : dx_S) (t : Nat) (o : Value) (i x : Int32) : Option dx_S := match o with
  | .ref a => (match σ[a]? with
    | some (.inl (t', n, .inl f)) => if t' = t ∧ ¬ (i < 0 ∨ n ≤ i.toNatClampNeg) then some (σ.set a (.inl (t', n, .inl (upd f i.toNatClampNeg x)))) else none
    | _ => none)
  | _ => none
def dx_pl (σ : dx_S) (o : Value) (i : Int32) (x : Int64) : Option dx_S := match o with
  | .ref a => (match σ[a]? with
    | some (.inl (t', n, .inr (.inl f))) => if t' = 1 ∧ ¬ (i < 0 ∨ n ≤ i.toNatClampNeg) then some (σ.set a (.inl (t', n, .inr (.inl (vp_updL f i.toNatClampNeg x))))) else none
    | _ => none)
  | _ => none
def dx_iiv {α : Type} (st : List Value) (k : Int32 → Int32 → Value → List Value → Option α) : Option α := match st with
  | .int x :: .int i :: o :: r => k x i o r
  | _ => none
theorem dx_iiv_e {α : Type} {st : List Value} {k : Int32 → Int32 → Value → List Value → Option α} {z : α} (h : dx_iiv st k = some z) : ∃ x i o r, st = .int x :: .int i :: o :: r ∧ k x i o r = some z := by
  unfold dx_iiv at h
  split at h
  · exact ⟨_, _, _, _, rfl, h⟩
  · cases h
def dx_liv {α : Type} (st : List Value) (k : Int64 → Int32 → Value → List Value → Option α) : Option α := match st with
  | .long x :: .int i :: o :: r => k x i o r
  | _ => none
theorem dx_liv_e {α : Type} {st : List Value} {k : Int64 → Int32 → Value → List Value → Option α} {z : α} (h : dx_liv st k = some z) : ∃ x i o r, st = .long x :: .int i :: o :: r ∧ k x i o r = some z := by
  unfold dx_liv at h
  split at h
  · exact ⟨_, _, _, _, rfl, h⟩
  · cases h
/-- the instructions that write into cells -/
def dx_c (x : dx_I) (pc : Nat) (lv : dx_L) (st : List Value) (σ : dx_S) : Option (dx_R × dx_S) := match x.1 with
  | .putfield _ => dx_v2 st fun v o r => dx_ob (dx_pf σ o x.2.1 x.2.2.1 (x.2.2.2.1 % 10) v) fun σ' => some ((pc + 3, lv, r), σ')
  | .iastore => dx_iiv st fun v i o r => dx_ob (dx_pi σ 0 o i v) fun σ' => some ((pc + 1, lv, r), σ')
  | .castore => dx_iiv st fun v i o r => dx_ob (dx_pi σ 2 o i (vp_nar .char v)) fun σ' => some ((pc + 1, lv, r), σ')
  | .lastore => dx_liv st fun v i o r => dx_ob (dx_pl σ o i v) fun σ' => some ((pc + 1, lv, r), σ')
  | _ => none
def dx_tys (tc : Nat → ClassId) : List (ClassId × FieldType) := [(tc 0, .int), (tc 1, .long), (tc 2, .char), (tc 3, .byte)]
theorem dx_tys_at {tc : Nat → ClassId} {t : Nat} (h : t < 4) : (dx_tys tc)[t]? = some (tc t, dx_ty t) := by
  match t, h with
  | 0, _ => rfl
  | 1, _ => rfl
  | 2, _ => rfl
  | 3, _ => rfl
/-- the constants: arrays and objects that were there before the first step, and that nothing changes -/
def dx_C (ql : Nat → Option vw_C) (K : dx_S) (kd : Nat → Option Nat) (A : Nat → Prop) (s : State) : Prop := ∀ (i : Nat) (x : dx_E), K[i]? = some x → match x with
  | .inl (t, n, .inl f) => ∃ a : Nat, kd i = some a ∧ va_T (dx_ty t) a n (fun j => .int (f j)) A s s.heap
  | .inl (t, n, .inr (.inl f)) => ∃ a : Nat, kd i = some a ∧ va_T (dx_ty t) a n (fun j => .long (f j)) A s s.heap
  | .inl _ => False
  | .inr y => y.2 ≠ [] → ∃ (a : Nat) (r : vw_C), kd i = some a ∧ ql y.1 = some r ∧ va_O r.1 a A s s.heap ∧ ∀ (k : Nat) (v : Value), y.2[k]? = some v → ∀ ad : Nat → Nat, va_OF (r.2.1 k).1 (r.2.1 k).2.1 (r.2.1 k).2.2.1 (dx_v kd ad v) a A s s.heap
def dx_fl (s : State) (args : Array Value) (own : String) (k : Nat) (q : String × String × String × Bool) : Prop :=
  (Cond.fieldLink own k q.1 q.2.1 q.2.2.1).before args s = true ∨ ∃ host : String, (Cond.fieldLinkNest own k q.1 q.2.1 q.2.2.1 host).before args s = true
/-- what the tables and the start say of what an instruction names -/
def dx_kB (cl : List vw_C) (ql : Nat → Option vw_C) (kd : Nat → Option Nat) (A : Nat → Prop) (s : State) (args : Array Value) (own : String) (x : dx_I) : Prop := match x.1 with
  | .getfield k => (∃ (C : String) (T : u_T) (N : Nat), cl[x.2.1]? = some (C, T, N) ∧ ql x.2.1 = none ∧ x.2.2.1 < N ∧ (∀ w ∈ u_ws C T N, w.before args s = true) ∧ dx_fl s args own k (T x.2.2.1)) ∨ ∃ r : vw_C, cl[x.2.1]? = none ∧ ql x.2.1 = some r ∧ dx_fl s args own k (r.2.1 x.2.2.1)
  | .getstatic k => ∃ (C n d : String), (∀ ad : Nat → Nat, va_Z C n d (dx_v kd ad x.2.2.2.2) A s s.heap) ∧ dx_fl s args own k (C, n, d, false)
  | .ldc k => (∃ y : Int32, x.2.2.2.2 = .int y ∧ (Cond.constant own k y).before args s = true) ∨ ∃ (j : Nat) (tx : String), x.2.2.2.2 = .retAddr j ∧ (∃ a : Nat, kd j = some a ∧ vk_R own k tx a s)
  | .ldc2_w k => ∃ y : Int64, x.2.2.2.2 = .long y ∧ (Cond.constantLong own k y).before args s = true
  | .ldc_w k => ∃ y : Int32, x.2.2.2.2 = .int y ∧ (Cond.constant own k y).before args s = true
  | _ => True
theorem dx_ar_e {K σ : dx_S} {o : Value} {y : Nat × vp_A} (h : dx_ar K σ o = some y) : (∃ a, o = .ref a ∧ σ[a]? = some (.inl y)) ∨ ∃ a, o = .retAddr a ∧ K[a]? = some (.inl y) := by
  unfold dx_ar at h
  split at h
  · split at h
    · cases h
      exact Or.inl ⟨_, rfl, by assumption⟩
    · cases h
  · split at h
    · cases h
      exact Or.inr ⟨_, rfl, by assumption⟩
    · cases h
  · cases h
theorem dx_ei_e {K σ : dx_S} {t : Nat} {o : Value} {i v : Int32} (h : dx_ei K σ t o i = some v) : ∃ (n : Nat) (f : Nat → Int32), dx_ar K σ o = some (t, n, .inl f) ∧ vp_in i n ∧ f i.toNatClampNeg = v := by
  unfold dx_ei at h
  split at h
  · split at h
    · rename_i h1 h2
      cases h
      obtain ⟨rfl, h3⟩ := h2
      exact ⟨_, _, h1, h3, rfl⟩
    · cases h
  · cases h
theorem dx_el_e {K σ : dx_S} {o : Value} {i : Int32} {v : Int64} (h : dx_el K σ o i = some v) : ∃ (n : Nat) (f : Nat → Int64), dx_ar K σ o = some (1, n, .inr (.inl f)) ∧ vp_in i n ∧ f i.toNatClampNeg = v := by
  unfold dx_el at h
  split at h
  · split at h
    · rename_i h1 h2
      cases h
      obtain ⟨rfl, h3⟩ := h2
      exact ⟨_, _, h1, h3, rfl⟩
    · cases h
  · cases h
theorem dx_in_e {K σ : dx_S} {o : Value} {v : Int32} (h : dx_in K σ o = some v) : ∃ (t : Nat) (x : vp_A), dx_ar K σ o = some (t, x) ∧ t < 4 ∧ Int32.ofNat x.1 = v := by
  unfold dx_in at h
  split at h
  · split at h
    · rename_i h1 h2
      cases h
      exact ⟨_, _, h1, h2, rfl⟩
    · cases h
  · cases h
theorem dx_gf_e {K σ : dx_S} {o v : Value} {ci k : Nat} (h : dx_gf K σ o ci k = some v) : (∃ a fs, o = .ref a ∧ σ[a]? = some (.inr (ci, fs)) ∧ fs[k]? = some v) ∨ ∃ a fs, o = .retAddr a ∧ K[a]? = some (.inr (ci, fs)) ∧ fs[k]? = some v := by
  unfold dx_gf at h
  split at h
  · split at h
    · split at h
      · rename_i x h1 h2
        subst h2
        exact Or.inl ⟨_, x.2, rfl, h1, h⟩
      · cases h
    · cases h
  · split at h
    · split at h
      · rename_i x h1 h2
        subst h2
        exact Or.inr ⟨_, x.2, rfl, h1, h⟩
      · cases h
    · cases h
  · cases h
section DXB
variable {p : Program} {l : Launch} {e : Env} {R : Room} {s : State} {m : MethodId} {args : Array Value} {below : List Frame} {meth : Method} {c : Code} {H : Heap} {locs : List Loc} {cells slots : Nat} {Q : State → Prop}
variable {D : va_G} {cl : List vw_C} {ql : Nat → Option vw_C} {tc : Nat → ClassId} {kd : Nat → Option Nat} {ad : Nat → Nat} {K σ : dx_S} {A : Nat → Prop} {own : String}
set_option maxHeartbeats 4000000 in
/-- the real machine follows the reading instructions -/
theorem dx_b_snd {cc : ByteArray} {x : dx_I} {pc len : Nat} {lv : dx_L} {st : List Value} {r : dx_R} {ls : Array Slot} (hx : p.tables.exec = Jvm.exec) (hb : c.code = cc) (hd : decode cc pc = .ok (x.1, len)) (hn : dx_len x.1 = 0 ∨ len = dx_len x.1) (hown : s.vm.findClass own = some m.cls)
    (hK : va_K D cl (dx_tys tc) s) (hP : va_P D cl (dx_w tc kd ad σ) H) (hS : va_S A s.heap H locs) (hC : dx_C ql K kd A s) (hB : dx_kB cl ql kd A s args own x) (h : dx_b K x pc lv st σ = some r)
    (kk : r.2.1 = lv → W p l e R s m args below meth c H locs cells slots Q (F0 m r.1 ls (r.2.2.map (dx_v kd ad)))) : W p l e R s m args below meth c H locs cells slots Q (F0 m pc ls (st.map (dx_v kd ad))) := by
  obtain ⟨i, xa, xb, xf, xv⟩ := x
  dsimp only at hd hn
  cases i with
  | getfield k =>
    have hn := dx_ln hn (by simp [dx_len])
    subst hn
    replace h := dx_v1_e h
    obtain ⟨o, q, rfl, h⟩ := h
    replace h := dx_ob_e h
    obtain ⟨v, hv, h⟩ := h
    cases h
    rcases dx_gf_e hv with ⟨a, fs, rfl, g1, g2⟩ | ⟨a, fs, rfl, g1, g2⟩
    · have g3 : (fs.map (dx_v kd ad))[xb]? = some (dx_v kd ad v) := by rw [List.getElem?_map, g2]; rfl
      rcases hB with ⟨C, T, N, h1, -, h2, h3, h4⟩ | ⟨r, h1, -⟩
      · rcases h4 with h4 | ⟨host, h4⟩
        · exact va_get hx hb h3 (fun _ z => z) hown hK hP a (dx_w_at g1) h1 xb h2 h4 (fun _ z => z) g3 hd (kk rfl)
        · exact va_getN hx hb h3 (fun _ z => z) hown hK hP a (dx_w_at g1) h1 xb h2 h4 (fun _ z => z) g3 hd (kk rfl)
      · obtain ⟨q2, h2, -⟩ := hP a _ (dx_w_at g1)
        cases h1.symm.trans h2
    · obtain ⟨b, r, r0, r1, r2, r3⟩ := hC a _ g1 (fun z => by rw [show fs = [] from z] at g2; cases g2)
      dsimp only at r1
      rcases hB with ⟨C, T, N, -, h1, -⟩ | ⟨r', -, h1, h4⟩
      · cases h1.symm.trans r1
      · cases h1.symm.trans r1
        show W p l e R s m args below meth c H locs cells slots Q (F0 m pc ls (va_rf (kd a) :: _))
        rw [r0]
        obtain ⟨cf, k1, fi, f, cell, f1, f2, f3, f4, f5, f6⟩ := (r3 xb v g2 ad).kept hS.2.1
        rcases h4 with h4 | ⟨host, h4⟩
        · exact W.getf hx hb hown h4 f1 f2 f3 f4 f5 rfl rfl hd (kk rfl)
        · exact va_Wgetf hx hb hown h4 f1 f2 f3 f4 f5 rfl rfl hd (kk rfl)
  | iaload =>
    have hn := dx_ln hn (by simp [dx_len])
    subst hn
    replace h := dx_iv_e h
    obtain ⟨i, o, q, rfl, h⟩ := h
    replace h := dx_ob_e h
    obtain ⟨v, hv, h⟩ := h
    cases h
    obtain ⟨n, f, h1, h2, rfl⟩ := dx_ei_e hv
    rcases dx_ar_e h1 with ⟨a, rfl, g1⟩ | ⟨a, rfl, g1⟩
    · exact va_iald hx hb hK hP a 0 (dx_w_at g1) rfl h2 hd (kk rfl)
    · obtain ⟨b, r0, hT⟩ := hC a _ g1
      show W p l e R s m args below meth c H locs cells slots Q (F0 m pc ls (.int i :: va_rf (kd a) :: _))
      rw [r0]
      exact va_ti hx hb hT hS h2 rfl hd (kk rfl)
  | caload =>
    have hn := dx_ln hn (by simp [dx_len])
    subst hn
    replace h := dx_iv_e h
    obtain ⟨i, o, q, rfl, h⟩ := h
    replace h := dx_ob_e h
    obtain ⟨v, hv, h⟩ := h
    cases h
    obtain ⟨n, f, h1, h2, rfl⟩ := dx_ei_e hv
    rcases dx_ar_e h1 with ⟨a, rfl, g1⟩ | ⟨a, rfl, g1⟩
    · exact va_cald hx hb hK hP a 2 (dx_w_at g1) rfl h2 hd (kk rfl)
    · obtain ⟨b, r0, hT⟩ := hC a _ g1
      show W p l e R s m args below meth c H locs cells slots Q (F0 m pc ls (.int i :: va_rf (kd a) :: _))
      rw [r0]
      exact va_tc hx hb hT hS h2 rfl hd (kk rfl)
  | baload =>
    have hn := dx_ln hn (by simp [dx_len])
    subst hn
    replace h := dx_iv_e h
    obtain ⟨i, o, q, rfl, h⟩ := h
    replace h := dx_ob_e h
    obtain ⟨v, hv, h⟩ := h
    cases h
    obtain ⟨n, f, h1, h2, rfl⟩ := dx_ei_e hv
    rcases dx_ar_e h1 with ⟨a, rfl, g1⟩ | ⟨a, rfl, g1⟩
    · exact va_bald hx hb hK hP a 3 (dx_w_at g1) rfl h2 hd (kk rfl)
    · obtain ⟨b, r0, hT⟩ := hC a _ g1
      show W p l e R s m args below meth c H locs cells slots Q (F0 m pc ls (.int i :: va_rf (kd a) :: _))
      rw [r0]
      exact va_tb hx hb hT hS h2 rfl hd (kk rfl)
  | laload =>
    have hn := dx_ln hn (by simp [dx_len])
    subst hn
    replace h := dx_iv_e h
    obtain ⟨i, o, q, rfl, h⟩ := h
    replace h := dx_ob_e h
    obtain ⟨v, hv, h⟩ := h
    cases h
    obtain ⟨n, f, h1, h2, rfl⟩ := dx_el_e hv
    rcases dx_ar_e h1 with ⟨a, rfl, g1⟩ | ⟨a, rfl, g1⟩
    · exact va_lald hx hb hK hP a 1 (dx_w_at g1) rfl h2 hd (kk rfl)
    · obtain ⟨b, r0, hT⟩ := hC a _ g1
      show W p l e R s m args below meth c H locs cells slots Q (F0 m pc ls (.int i :: va_rf (kd a) :: _))
      rw [r0]
      exact va_tl hx hb hT hS h2 rfl hd (kk rfl)
  | arraylength =>
    have hn := dx_ln hn (by simp [dx_len])
    subst hn
    replace h := dx_v1_e h
    obtain ⟨o, q, rfl, h⟩ := h
    replace h := dx_ob_e h
    obtain ⟨v, hv, h⟩ := h
    cases h
    obtain ⟨t, y, h1, h2, rfl⟩ := dx_in_e hv
    rcases dx_ar_e h1 with ⟨a, rfl, g1⟩ | ⟨a, rfl, g1⟩
    · exact va_alen hx hb hK hP a t (dx_w_at g1) (dx_tys_at h2) rfl hd (kk rfl)
    · have hT := hC a _ g1
      show W p l e R s m args below meth c H locs cells slots Q (F0 m pc ls (va_rf (kd a) :: _))
      obtain ⟨n, f | f | f⟩ := y
      · obtain ⟨b, r0, hT⟩ := hT
        rw [r0]
        exact va_tlen hx hb hT hS rfl hd (kk rfl)
      · obtain ⟨b, r0, hT⟩ := hT
        rw [r0]
        exact va_tlen hx hb hT hS rfl hd (kk rfl)
      · exact hT.elim
  | getstatic k =>
    have hn := dx_ln hn (by simp [dx_len])
    subst hn
    cases h
    obtain ⟨C, n, d, h1, h2 | ⟨host, h2⟩⟩ := hB
    · exact va_gets hx hb (h1 ad) hS hown h2 (fun _ z => z) hd (kk rfl)
    · exact va_getsN hx hb (h1 ad) hS hown h2 (fun _ z => z) hd (kk rfl)
  | ldc k =>
    have hn := dx_ln hn (by simp [dx_len])
    subst hn
    cases h
    rcases hB with ⟨y, h1, h2⟩ | ⟨j, tx, h1, h2⟩
    · dsimp only at h1
      subst h1
      exact lv_ldc hx hb hown h2 hd (kk rfl)
    · dsimp only at h1
      subst h1
      obtain ⟨b, r0, h2⟩ := h2
      have k1 := kk rfl
      change W p l e R s m args below meth c H locs cells slots Q (F0 m (pc + 2) ls (va_rf (kd j) :: _)) at k1
      rw [r0] at k1
      exact va_ldcS hx hb hown h2 hd k1
  | ldc2_w k =>
    have hn := dx_ln hn (by simp [dx_len])
    subst hn
    cases h
    obtain ⟨y, h1, h2⟩ := hB
    dsimp only at h1
    subst h1
    exact lv_ldc2 hx hb hown h2 hd (kk rfl)
  | ldc_w k =>
    have hn := dx_ln hn (by simp [dx_len])
    subst hn
    cases h
    obtain ⟨y, h1, h2⟩ := hB
    dsimp only at h1
    subst h1
    exact lv_ldcw hx hb hown h2 hd (kk rfl)
  | _ => cases h
end DXB
theorem dx_pf_e {σ σ' : dx_S} {o v : Value} {ci k t : Nat} (h : dx_pf σ o ci k t v = some σ') : ∃ a fs, o = .ref a ∧ σ[a]? = some (.inr (ci, fs)) ∧ k < fs.length ∧ dx_ft t v = true ∧ σ' = σ.set a (.inr (ci, fs.set k v)) := by
  unfold dx_pf at h
  split at h
  · split at h
    · split at h
      · rename_i x h1 h2
        cases h
        obtain ⟨rfl, h3, h4⟩ := h2
        exact ⟨_, x.2, rfl, h1, h3, h4, rfl⟩
      · cases h
    · cases h
  · cases h
theorem dx_pi_e {σ σ' : dx_S} {t : Nat} {o : Value} {i x : Int32} (h : dx_pi σ t o i x = some σ') : ∃ (a n : Nat) (f : Nat → Int32), o = .ref a ∧ σ[a]? = some (.inl (t, n, .inl f)) ∧ vp_in i n ∧ σ' = σ.set a (.inl (t, n, .inl (upd f i.toNatClampNeg x))) := by
  unfold dx_pi at h
  split at h
  · split at h
    · split at h
      · rename_i h1 h2
        cases h
        obtain ⟨rfl, h3⟩ := h2
        exact ⟨_, _, _, rfl, h1, h3, rfl⟩
      · cases h
    · cases h
  · cases h
theorem dx_pl_e {σ σ' : dx_S} {o : Value} {i : Int32} {x : Int64} (h : dx_pl σ o i x = some σ') : ∃ (a n : Nat) (f : Nat → Int64), o = .ref a ∧ σ[a]? = some (.inl (1, n, .inr (.inl f))) ∧ vp_in i n ∧ σ' = σ.set a (.inl (1, n, .inr (.inl (vp_updL f i.toNatClampNeg x)))) := by
  unfold dx_pl at h
  split at h
  · split at h
    · split at h
      · rename_i h1 h2
        cases h
        obtain ⟨rfl, h3⟩ := h2
        exact ⟨_, _, _, rfl, h1, h3, rfl⟩
      · cases h
    · cases h
  · cases h
/-- what the tables say of a field that is written -/
def dx_kC (cl : List vw_C) (s : State) (args : Array Value) (own nm : String) (x : dx_I) : Prop := match x.1 with
  | .putfield k => ∃ (C : String) (T : u_T) (N : Nat) (ty : Nat → FieldType), cl[x.2.1]? = some (C, T, N) ∧ x.2.2.1 < N ∧ (∀ w ∈ u_ws C T N, w.before args s = true) ∧ (∀ k, k < N → parseFieldDescriptor (T k).2.2.1 = some (ty k)) ∧ (∀ a, a < N → ∀ b, b < N → a ≠ b → (T a).2.1 ≠ (T b).2.1) ∧ dx_fty (x.2.2.2.1 % 10) (ty x.2.2.1) = true ∧
      (((T x.2.2.1).2.2.2 = false ∧ dx_fl s args own k (T x.2.2.1)) ∨ ((T x.2.2.1).2.2.2 = true ∧ (Cond.fieldLink own k (T x.2.2.1).1 (T x.2.2.1).2.1 (T x.2.2.1).2.2.1).before args s = true ∧ nm = "<init>" ∧ (T x.2.2.1).1 = own))
  | _ => True
section DXC
variable {p : Program} {l : Launch} {e : Env} {R : Room} {s : State} {m : MethodId} {args : Array Value} {below : List Frame} {meth : Method} {c : Code} {H : Heap} {locs : List Loc} {cells slots : Nat} {Q : State → Prop}
variable {D : va_G} {cl : List vw_C} {tc : Nat → ClassId} {kd : Nat → Option Nat} {ad : Nat → Nat} {K σ : dx_S} {A : Nat → Prop} {own : String}
set_option maxHeartbeats 4000000 in
/-- the real machine follows the writing instructions -/
theorem dx_c_snd {cc : ByteArray} {x : dx_I} {pc len : Nat} {lv : dx_L} {st : List Value} {r : dx_R} {σ' : dx_S} {ls : Array Slot} (hx : p.tables.exec = Jvm.exec) (hb : c.code = cc) (hd : decode cc pc = .ok (x.1, len)) (hn : dx_len x.1 = 0 ∨ len = dx_len x.1) (hown : s.vm.findClass own = some m.cls)
    (hK : va_K D cl (dx_tys tc) s) (hP : va_P D cl (dx_w tc kd ad σ) H) (hD : va_D A (dx_w tc kd ad σ)) (hS : va_S A s.heap H locs) (hB : dx_kC cl s args own meth.name x) (h : dx_c x pc lv st σ = some (r, σ'))
    (kk : ∀ (H1 : Heap) (locs1 : List Loc), r.2.1 = lv → va_P D cl (dx_w tc kd ad σ') H1 → va_D A (dx_w tc kd ad σ') → va_S A s.heap H1 locs1 → W p l e R s m args below meth c H1 locs1 cells slots Q (F0 m r.1 ls (r.2.2.map (dx_v kd ad)))) : W p l e R s m args below meth c H locs cells slots Q (F0 m pc ls (st.map (dx_v kd ad))) := by
  obtain ⟨i, xa, xb, xf, xv⟩ := x
  dsimp only at hd hn
  cases i with
  | putfield k =>
    have hn := dx_ln hn (by simp [dx_len])
    subst hn
    replace h := dx_v2_e h
    obtain ⟨v, o, q, rfl, h⟩ := h
    replace h := dx_ob_e h
    obtain ⟨σ1, hv, h⟩ := h
    cases h
    obtain ⟨C, T, N, ty, h1, h2, h3, h4, h5, h6, h7⟩ := hB
    obtain ⟨a, fs, rfl, g1, g2, g3, rfl⟩ := dx_pf_e hv
    obtain ⟨n1, n2⟩ := dx_ft_ok (kd := kd) (ad := ad) h6 g3
    have ew : (dx_w tc kd ad σ).set a (ad a, .inr (xa, (fs.map (dx_v kd ad)).set xb (dx_v kd ad v))) = dx_w tc kd ad (σ.set a (.inr (xa, fs.set xb v))) := by
      rw [← dx_w_set]
      simp only [dx_e, List.map_set]
    have hl : xb < (fs.map (dx_v kd ad)).length := by rw [List.length_map]; exact g2
    rcases h7 with ⟨f1, f2 | ⟨host, f2⟩⟩ | ⟨f1, f2, f3, f4⟩
    · exact va_put hx hb h3 (fun _ z => z) ty h4 h5 hown hK hP hD hS a (dx_w_at g1) h1 xb h2 f2 (fun _ z => z) f1 (h4 xb h2) n1 n2 hl hd (fun H1 locs1 k1 k2 k3 => kk H1 locs1 rfl (by rw [← ew]; exact k1) (by rw [← ew]; exact k2) k3)
    · exact va_putN hx hb h3 (fun _ z => z) ty h4 h5 hown hK hP hD hS a (dx_w_at g1) h1 xb h2 f2 (fun _ z => z) f1 (h4 xb h2) n1 n2 hl hd (fun H1 locs1 k1 k2 k3 => kk H1 locs1 rfl (by rw [← ew]; exact k1) (by rw [← ew]; exact k2) k3)
    · exact va_putF hx hb h3 (fun _ z => z) ty h4 h5 hown hK hP hD hS a (dx_w_at g1) h1 xb h2 f2 (fun _ z => z) f1 f3 f4 (h4 xb h2) n1 n2 hl hd (fun H1 locs1 k1 k2 k3 => kk H1 locs1 rfl (by rw [← ew]; exact k1) (by rw [← ew]; exact k2) k3)
  | iastore =>
    have hn := dx_ln hn (by simp [dx_len])
    subst hn
    replace h := dx_iiv_e h
    obtain ⟨v, i, o, q, rfl, h⟩ := h
    replace h := dx_ob_e h
    obtain ⟨σ1, hv, h⟩ := h
    cases h
    obtain ⟨a, n, f, rfl, g1, g2, rfl⟩ := dx_pi_e hv
    exact va_iast hx hb hK hP hD hS a 0 (dx_w_at g1) rfl g2 hd (fun H1 locs1 k1 k2 k3 => kk H1 locs1 rfl (by rw [← dx_w_set]; exact k1) (by rw [← dx_w_set]; exact k2) k3)
  | castore =>
    have hn := dx_ln hn (by simp [dx_len])
    subst hn
    replace h := dx_iiv_e h
    obtain ⟨v, i, o, q, rfl, h⟩ := h
    replace h := dx_ob_e h
    obtain ⟨σ1, hv, h⟩ := h
    cases h
    obtain ⟨a, n, f, rfl, g1, g2, rfl⟩ := dx_pi_e hv
    exact va_cast hx hb hK hP hD hS a 2 (dx_w_at g1) rfl g2 hd (fun H1 locs1 k1 k2 k3 => kk H1 locs1 rfl (by rw [← dx_w_set]; exact k1) (by rw [← dx_w_set]; exact k2) k3)
  | lastore =>
    have hn := dx_ln hn (by simp [dx_len])
    subst hn
    replace h := dx_liv_e h
    obtain ⟨v, i, o, q, rfl, h⟩ := h
    replace h := dx_ob_e h
    obtain ⟨σ1, hv, h⟩ := h
    cases h
    obtain ⟨a, n, f, rfl, g1, g2, rfl⟩ := dx_pl_e hv
    exact va_last hx hb hK hP hD hS a 1 (dx_w_at g1) rfl g2 hd (fun H1 locs1 k1 k2 k3 => kk H1 locs1 rfl (by rw [← dx_w_set]; exact k1) (by rw [← dx_w_set]; exact k2) k3)
  | _ => cases h
end DXC
theorem dx_kt_cons {n : Nat} {v : Value} {st : List Value} : dx_kt n (v :: st) ↔ dx_kv n v ∧ dx_kt n st := by simp [dx_kt]
theorem dx_kl_lk {n : Nat} {l : dx_L} {i : Nat} {v : Value} (h : dx_kl n l) (hv : dx_lk l i = some v) : dx_kv n v := h (i, v) (dx_lk_mem hv)
theorem dx_kl_s1 {n : Nat} {l : dx_L} {i : Nat} {v : Value} (h : dx_kl n l) (hv : dx_kv n v) : dx_kl n (dx_s1 l i v) := fun q hq => by
  rcases List.mem_cons.mp hq with rfl | hq
  · exact hv
  · exact h q (List.mem_filter.mp hq).1
theorem dx_kl_s2 {n : Nat} {l : dx_L} {i : Nat} {v : Value} (h : dx_kl n l) (hv : dx_kv n v) : dx_kl n (dx_s2 l i v) := fun q hq => by
  rcases List.mem_cons.mp hq with rfl | hq
  · exact hv
  · exact h q (List.mem_filter.mp hq).1
