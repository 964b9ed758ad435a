/-! The real machine follows the small one: a method's contract out of a run of it. -/
/-- what is known at an invocation's start, of tables, constants and statics; it stays known in what the invocation calls -/
def dx_Gok (G : (Nat → Prop) → State → Prop) : Prop := ∀ (A A' : Nat → Prop) (s U : State), G A s → s.heap.size ≤ U.heap.size → (∀ q : Nat, q < s.heap.size → ¬ A q → U.heap[q]? = s.heap[q]?) → s.WarmedH U.vm → (∀ q, A' q → A q) → G A' U
/-- a word that stays true in whatever an invocation calls -/
def dx_wk (w : Cond) : Prop := ∀ (a b : Array Value) (s U : State), s.WarmedH U.vm → w.before a s = true → w.before b U = true
def dx_gw : Cond → Bool
  | .fieldLinkNest .. => true
  | .methodLinkNest .. => true
  | .castable .. => true
  | .declares _ => true
  | w => goodWord w
theorem dx_gw_ok {w : Cond} (h : dx_gw w = true) : dx_wk w := by
  intro a b s U hW hw
  unfold dx_gw at h
  split at h
  · exact va_Nw.use rfl ((va_Nw.of rfl hw).warmF hW)
  · exact va_Nw.use rfl ((va_Nw.of rfl hw).warmM hW)
  · exact va_Nw.use rfl ((va_Nw.of rfl hw).warmC hW)
  · exact va_Nw.use rfl ((va_Nw.of rfl hw).warmD hW)
  · exact word_at hW (good_of_word h) hw
def dx_rm (d k n : Nat) : Room := { frames := d + 8, cells := k, slots := n, locals := 64 * d + 200 }
def dx_oc (kd : Nat → Option Nat) (ad : Nat → Nat) : dx_O → Outcome
  | .inl v => .returned (v.map (dx_v kd ad))
  | .inr i => .threw (ad i)
def dx_ko (n : Nat) : dx_O → Prop
  | .inl (some v) => dx_kv n v
  | .inl none => True
  | .inr i => i < n
def dx_Pc (D : va_G) (cl : List vw_C) (tc : Nat → ClassId) (kd : Nat → Option Nat) (G : (Nat → Prop) → State → Prop) (av : List Value) (σ : dx_S) (ad : Nat → Nat) (sz : Nat) : Array Value → State → Prop := fun a U =>
  a = (av.map (dx_v kd ad)).toArray ∧ U.heap.size = sz ∧ G (va_A (dx_w tc kd ad σ) sz) U ∧ va_P D cl (dx_w tc kd ad σ) U.heap ∧ va_D (fun _ => True) (dx_w tc kd ad σ)
def dx_Qc (D : va_G) (cl : List vw_C) (tc : Nat → ClassId) (kd : Nat → Option Nat) (σ : dx_S) (o : dx_O) (σ' : dx_S) (ad : Nat → Nat) (sz : Nat) : Array Value → State → Outcome → State → Prop := fun _ st oc t =>
  ∃ ad' : Nat → Nat, (∀ i, i < σ.length → ad' i = ad i) ∧ oc = dx_oc kd ad' o ∧ va_P D cl (dx_w tc kd ad' σ') t.heap ∧ va_D (va_A (dx_w tc kd ad σ) sz) (dx_w tc kd ad' σ') ∧ va_F (va_A (dx_w tc kd ad σ) sz) st t
/-- a method's contract, of one run of the small machine -/
def dx_Ct (l : Launch) (D : va_G) (cl : List vw_C) (tc : Nat → ClassId) (kd : Nat → Option Nat) (Z : dx_Z) (G : (Nat → Prop) → State → Prop) (WS : List Cond) (y : MethodName) (d : Nat) (av : List Value) (σ : dx_S) (o : dx_O) (σ' : dx_S) : Prop :=
  ∀ (ad : Nat → Nat) (sz : Nat), dt_Met l y WS (dx_rm d (σ'.length - σ.length) (dx_sl Z σ' - dx_sl Z σ)) (dx_Pc D cl tc kd G av σ ad sz) (dx_Qc D cl tc kd σ o σ' ad sz) (σ'.length - σ.length) (dx_sl Z σ' - dx_sl Z σ) (va_A (dx_w tc kd ad σ) sz)
/-- what a run of the small machine leaves -/
def dx_Lf (Z : dx_Z) (σ : dx_S) (o : dx_O) (σ' : dx_S) : Prop := σ.length ≤ σ'.length ∧ dx_sl Z σ ≤ dx_sl Z σ' ∧ dx_ks σ'.length σ' ∧ dx_ko σ'.length o
/-- what the tables say of a new object's class -/
def dx_kN (cl : List vw_C) (Z : dx_Z) (s : State) (args : Array Value) (own : String) (x : dx_I) : Prop := match x.1 with
  | .new k => x.2.2.2.1 = 0 → ∃ (C : String) (T : u_T) (N : Nat) (ty : Nat → FieldType), cl[x.2.1]? = some (C, T, N) ∧ (∀ w ∈ u_ws C T N, w.before args s = true) ∧ (∀ k, k < N → parseFieldDescriptor (T k).2.2.1 = some (ty k)) ∧ (Cond.classLink own k C).before args s = true ∧ (Cond.instantiable C N).before args s = true ∧ (Cond.initialized C).before args s = true ∧ (∀ j, j < N → defaultValue (ty j) = vp_V (Z.2.2.2.1 x.2.1) j) ∧ (∀ v ∈ Z.2.2.2.1 x.2.1, v = .int 0 ∨ v = .long 0 ∨ v = .null) ∧ Z.2.2.2.2.1 x.2.1 = N
  | .newarray t => (Cond.arrayClass (newarray.typeOf t)).before args s = true
  | _ => True
def dx_lk2 (s : State) (args : Array Value) (own : String) (k : Nat) (y : MethodName) : Prop :=
  (Cond.methodLink own k y).before args s = true ∨ ∃ host : String, (Cond.methodLinkNest own k y host).before args s = true
/-- what the tables say of an invoked method -/
def dx_kI (cl : List vw_C) (ql : Nat → Option vw_C) (s : State) (args : Array Value) (own : String) (y : MethodName) (ret : Option FieldType) (x : dx_I) : Prop := match x.1 with
  | .invokevirtual k => (∃ q : vw_C, ((cl[x.2.2.2.1]? = some q ∧ ql x.2.2.2.1 = none) ∨ (cl[x.2.2.2.1]? = none ∧ ql x.2.2.2.1 = some q)) ∧ (Cond.selects q.1 y y).before args s = true) ∧ (Cond.instanceMethod y).before args s = true ∧ dx_lk2 s args own k y ∧ ∀ sig, parseMethodDescriptor y.desc = some sig → x.2.2.1 = sig.parameters.length + 1
  | .invokestatic k => (Cond.static y).before args s = true ∧ dx_lk2 s args own k y ∧ ∀ sig, parseMethodDescriptor y.desc = some sig → x.2.2.1 = sig.parameters.length
  | .invokespecial k => if x.2.2.2.1 = 0 then y.name = "<init>" ∧ ret = none ∧ (Cond.instanceMethod y).before args s = true ∧ dx_lk2 s args own k y ∧ ∀ sig, parseMethodDescriptor y.desc = some sig → x.2.2.1 = sig.parameters.length + 1 else (Cond.methodLink own k objectInit).before args s = true ∧ (Cond.instanceMethod objectInit).before args s = true ∧ (Cond.code objectInit ⟨#[0xb1]⟩ 1 none).before args s = true
  | _ => True
/-- throw new X(): the four instructions, and what the tables say of X -/
def dx_kT (cl : List vw_C) (Z : dx_Z) (s : State) (args : Array Value) (own : String) (cc : ByteArray) (pc : Nat) (x : dx_I) : Prop := match x.1 with
  | .new k => x.2.2.2.1 ≠ 0 → ∃ (C : String) (T : u_T) (ic : Nat) (names : List String), cl[x.2.1]? = some (C, T, 0) ∧ Z.2.2.2.2.1 x.2.1 = 6 ∧ decode cc (pc + 3) = .ok (.dup, 1) ∧ decode cc (pc + 4) = .ok (.invokespecial ic, 3) ∧ decode cc (pc + 7) = .ok (.athrow, 1) ∧ (Cond.classLink own k C).before args s = true ∧ (Cond.instantiable C 6).before args s = true ∧ (Cond.initialized C).before args s = true ∧ Bundle.fit C = true ∧ (∀ n ∈ names, Bundle.fit n = true) ∧ names.length ≤ 2 ∧ ∀ a ∈ Bundle.ownAtoms0 own ic C names, a.before args s = true
  | _ => True
/-- all that is known of an instruction of a method, at an invocation's start -/
def dx_gd (cl : List vw_C) (ql : Nat → Option vw_C) (kd : Nat → Option Nat) (Z : dx_Z) (G : (Nat → Prop) → State → Prop) (WS : List Cond) (Y : Nat → MethodName) (Bt : Nat → ByteArray) (M pc : Nat) (x : dx_I) : Prop :=
  (∃ len : Nat, decode (Bt M) pc = .ok (x.1, len) ∧ (dx_len x.1 = 0 ∨ len = dx_len x.1)) ∧ dx_kv 0 x.2.2.2.2 ∧
  ∀ (A : Nat → Prop) (s : State) (args : Array Value), (∀ w ∈ WS, w.before args s = true) → G A s →
    dx_kB cl ql kd A s args (Y M).cls x ∧ dx_kC cl s args (Y M).cls (Y M).name x ∧ dx_kN cl Z s args (Y M).cls x ∧ dx_kI cl ql s args (Y M).cls (Y x.2.1) (Z.2.2.2.2.2 x.2.1) x ∧ dx_kT cl Z s args (Y M).cls (Bt M) pc x
/-- all that is known of a method -/
def dx_gm (WS : List Cond) (Y : Nat → MethodName) (Bt : Nat → ByteArray) (Z : dx_Z) (M : Nat) : Prop :=
  plainFor (Y M) = true ∧ Cond.code (Y M) (Bt M) (Z.2.2.1 M) (Z.2.2.2.2.2 M) ∈ WS ∧ Cond.initialized (Y M).cls ∈ WS ∧ ((Y M).cls ≠ "java/lang/invoke/MethodHandle" ∧ (Y M).cls ≠ "java/lang/invoke/VarHandle") ∧ Z.2.2.1 M ≤ 45
theorem dx_sl_app (Z : dx_Z) (σ : dx_S) (x : dx_E) : dx_sl Z (σ ++ [x]) = dx_sl Z σ + dx_sz Z x := by simp [dx_sl]
theorem dx_sl_set {Z : dx_Z} {σ : dx_S} {a : Nat} {x y : dx_E} (h : σ[a]? = some y) (hs : dx_sz Z x = dx_sz Z y) : dx_sl Z (σ.set a x) = dx_sl Z σ := by
  have hl := (List.getElem?_eq_some_iff.mp h).1
  have hy : σ[a] = y := (List.getElem?_eq_some_iff.mp h).2
  unfold dx_sl
  congr 1
  rw [List.map_set]
  apply List.ext_getElem?
  intro j
  rw [List.getElem?_set]
  by_cases hj : a = j
  · subst hj
    simp [hl, hs, hy]
  · simp [hj]
theorem dx_c_sl {Z : dx_Z} {σ σ' : dx_S} {x : dx_I} {pc : Nat} {lv : dx_L} {st : List Value} {r : dx_R} (h : dx_c x pc lv st σ = some (r, σ')) : dx_sl Z σ' = dx_sl Z σ := by
  obtain ⟨i, xa, xb, xf, xv⟩ := x
  cases i with
  | putfield k =>
    replace h := dx_v2_e h
    obtain ⟨v, o, q, rfl, h⟩ := h
    replace h := dx_ob_e h
    obtain ⟨σ1, hv, h⟩ := h
    cases h
    obtain ⟨a, fs, rfl, g1, g2, g3, rfl⟩ := dx_pf_e hv
    exact dx_sl_set g1 rfl
  | iastore =>
    replace h := dx_iiv_e h
    obtain ⟨v, i, o, q, rfl, h⟩ := h
    replace h := dx_ob_e h
    obtain ⟨σ1, hv, h⟩ := h
    cases h
    obtain ⟨a, n1, f, rfl, g1, g2, rfl⟩ := dx_pi_e hv
    exact dx_sl_set g1 rfl
  | castore =>
    replace h := dx_iiv_e h
    obtain ⟨v, i, o, q, rfl, h⟩ := h
    replace h := dx_ob_e h
    obtain ⟨σ1, hv, h⟩ := h
    cases h
    obtain ⟨a, n1, f, rfl, g1, g2, rfl⟩ := dx_pi_e hv
    exact dx_sl_set g1 rfl
  | lastore =>
    replace h := dx_liv_e h
    obtain ⟨v, i, o, q, rfl, h⟩ := h
    replace h := dx_ob_e h
    obtain ⟨σ1, hv, h⟩ := h
    cases h
    obtain ⟨a, n1, f, rfl, g1, g2, rfl⟩ := dx_pl_e hv
    exact dx_sl_set g1 rfl
  | _ => cases h
theorem dx_n_ok {Z : dx_Z} {σ : dx_S} {x : dx_I} {pc : Nat} {lv : dx_L} {st : List Value} {r : dx_R × dx_E} (h : dx_n Z x pc lv st σ = some r) (hd : ∀ v ∈ Z.2.2.2.1 x.2.1, dx_kv 0 v) (ht : dx_kt σ.length st) : r.1.2.1 = lv ∧ dx_kt (σ.length + 1) r.1.2.2 ∧ dx_ke σ.length r.2 := by
  obtain ⟨i, xa, xb, xf, xv⟩ := x
  cases i with
  | new k =>
    cases h
    exact ⟨rfl, dx_kt_cons.mpr ⟨Nat.lt_succ_self _, dx_kt_le (Nat.le_succ _) ht⟩, fun v hv => dx_kv_le (Nat.zero_le _) (hd v hv)⟩
  | newarray t =>
    replace h := dx_i1_e h
    obtain ⟨n, q, rfl, h⟩ := h
    split at h
    case isTrue => cases h
    replace h := dx_ob_e h
    obtain ⟨y, hy, h⟩ := h
    cases h
    refine ⟨rfl, dx_kt_cons.mpr ⟨Nat.lt_succ_self _, dx_kt_le (Nat.le_succ _) (dx_kt_cons.mp ht).2⟩, ?_⟩
    cases t <;> cases hy <;> exact trivial
  | _ => cases h
