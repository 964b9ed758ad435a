/-! Runs of the small machine, and what must hold at a point for a run from there to end well. -/
/-- code of each method; constants; each method's locals; a new object's fields, and its slots, by its class; what a method returns -/
abbrev dx_Z : Type := (Nat → Nat → Option dx_I) × dx_S × (Nat → Nat) × (Nat → List Value) × (Nat → Nat) × (Nat → Option FieldType)
def dx_sz (Z : dx_Z) : dx_E → Nat
  | .inl x => x.2.1
  | .inr x => Z.2.2.2.2.1 x.1
def dx_sl (Z : dx_Z) (σ : dx_S) : Nat := (σ.map (dx_sz Z)).sum
def dx_na (t : ArrayType) (N : Nat) : Option dx_E := match t with
  | .int => some (.inl (0, N, .inl fun _ => 0))
  | .long => some (.inl (1, N, .inr (.inl fun _ => 0)))
  | .char => some (.inl (2, N, .inl fun _ => 0))
  | .byte => some (.inl (3, N, .inl fun _ => 0))
  | _ => none
/-- the instructions that make a cell -/
def dx_n (Z : dx_Z) (x : dx_I) (pc : Nat) (lv : dx_L) (st : List Value) (σ : dx_S) : Option (dx_R × dx_E) := match x.1 with
  | .new _ => some ((pc + 3, lv, .ref σ.length :: st), .inr (x.2.1, Z.2.2.2.1 x.2.1))
  | .newarray t => dx_i1 st fun n r => if n < 0 ∨ 1000000 < n.toNatClampNeg then none else dx_ob (dx_na t n.toNatClampNeg) fun y => some ((pc + 2, lv, .ref σ.length :: r), y)
  | _ => none
def dx_rt (ty : Option FieldType) (i : Instr) (st : List Value) : Option (Option Value) := match i with
  | .ireturn => (match st with
    | [.int x] => (match ty with
      | some t => if narrow t (.int x) = .int x then some (some (.int x)) else none
      | none => none)
    | _ => none)
  | .lreturn => (match st with
    | [.long x] => if ty = some .long then some (some (.long x)) else none
    | _ => none)
  | .return_ => (match st with
    | [] => if ty = none then some none else none
    | _ => none)
  | _ => none
def dx_ct (st : List Value) : Nat := (st.map fun v => v.category).sum
/-- the class of the object that a value names -/
def dx_ci (K σ : dx_S) (v : Value) : Option Nat := match v with
  | .ref a => (match σ[a]? with
    | some (.inr y) => some y.1
    | _ => none)
  | .retAddr a => (match K[a]? with
    | some (.inr y) => (match y.2 with
      | [] => none
      | _ => some y.1)
    | _ => none)
  | _ => none
/-- is the receiver as the invoking instruction wants it? -/
def dx_rv (K σ : dx_S) (x : dx_I) (av : List Value) : Bool := match x.1 with
  | .invokevirtual _ => (match av with
    | v :: _ => decide (dx_ci K σ v = some x.2.2.2.1)
    | [] => false)
  | .invokespecial _ => (match av with
    | .ref _ :: _ => true
    | _ => false)
  | .invokestatic _ => true
  | _ => false
/-- the arguments of a call and what lies below -/
def dx_sp (K σ : dx_S) (x : dx_I) (st : List Value) : Option (List Value × List Value) := if x.2.2.1 ≤ st.length ∧ dx_ct (st.drop x.2.2.1) ≤ 8 ∧ dx_rv K σ x (st.take x.2.2.1).reverse = true then some ((st.take x.2.2.1).reverse, st.drop x.2.2.1) else none
/-- what an instruction is: 0 pure, 1 reads, 2 writes, 3 makes a cell, 4 returns, 5 calls, 6 Object's constructor, 7 the whole of throw new .. -/
def dx_kd (x : dx_I) : Nat := match x.1 with
  | .getfield _ => 1
  | .iaload => 1
  | .caload => 1
  | .baload => 1
  | .laload => 1
  | .arraylength => 1
  | .getstatic _ => 1
  | .ldc _ => 1
  | .ldc2_w _ => 1
  | .ldc_w _ => 1
  | .putfield _ => 2
  | .iastore => 2
  | .castore => 2
  | .lastore => 2
  | .new _ => if x.2.2.2.1 = 0 then 3 else 7
  | .newarray _ => 3
  | .ireturn => 4
  | .lreturn => 4
  | .return_ => 4
  | .invokevirtual _ => 5
  | .invokestatic _ => 5
  | .invokespecial _ => if x.2.2.2.1 = 0 then 5 else 6
  | _ => 0
def dx_af (o : dx_O) (k : Option Value → Prop) (t : Nat → Prop) : Prop := match o with
  | .inl v => k v
  | .inr y => t y
/-- n steps at most from here to the end o, σ' of this invocation; calls: by 'call' -/
def dx_X (Z : dx_Z) (call : Nat → List Value → dx_S → dx_O → dx_S → Prop) (M : Nat) : Nat → Nat → dx_L → List Value → dx_S → dx_O → dx_S → Prop
  | 0, _, _, _, _, _, _ => False
  | n + 1, pc, lv, st, σ, o, σ' => ∃ x : dx_I, Z.1 M pc = some x ∧ match dx_kd x with
    | 0 => ∃ r : dx_R, dx_a (Z.2.2.1 M) x.1 pc lv st = some r ∧ dx_X Z call M n r.1 r.2.1 r.2.2 σ o σ'
    | 1 => ∃ r : dx_R, dx_b Z.2.1 x pc lv st σ = some r ∧ dx_X Z call M n r.1 r.2.1 r.2.2 σ o σ'
    | 2 => ∃ r : dx_R × dx_S, dx_c x pc lv st σ = some r ∧ dx_X Z call M n r.1.1 r.1.2.1 r.1.2.2 r.2 o σ'
    | 3 => ∃ r : dx_R × dx_E, dx_n Z x pc lv st σ = some r ∧ dx_X Z call M n r.1.1 r.1.2.1 r.1.2.2 (σ ++ [r.2]) o σ'
    | 4 => ∃ v : Option Value, dx_rt (Z.2.2.2.2.2 M) x.1 st = some v ∧ o = .inl v ∧ σ' = σ
    | 5 => ∃ q : List Value × List Value, dx_sp Z.2.1 σ x st = some q ∧ ∃ (o1 : dx_O) (σ1 : dx_S), call x.2.1 q.1 σ o1 σ1 ∧ dx_af o1 (fun v => dx_X Z call M n (pc + 3) lv (v.toList ++ q.2) σ1 o σ') (fun y => o = .inr y ∧ σ' = σ1)
    | 6 => ∃ (a : Nat) (r : List Value), st = .ref a :: r ∧ dx_ct r ≤ 8 ∧ dx_X Z call M n (pc + 3) lv r σ o σ'
    | _ => dx_ct st ≤ 8 ∧ o = .inr σ.length ∧ σ' = σ ++ [.inr (x.2.1, [])]
/-- runs of a method with at most d invocations one within the other -/
def dx_V (Z : dx_Z) : Nat → Nat → List Value → dx_S → dx_O → dx_S → Prop
  | 0 => fun _ _ _ _ _ => False
  | d + 1 => fun M av σ o σ' => dx_ct av ≤ Z.2.2.1 M ∧ ∃ n, dx_X Z (dx_V Z d) M n 0 (lv_args 0 av) [] σ o σ'
/-- from here the invocation ends, with Q -/
def dx_W (Z : dx_Z) (d M pc : Nat) (lv : dx_L) (st : List Value) (σ : dx_S) (Q : dx_O → dx_S → Prop) : Prop := ∃ (n : Nat) (o : dx_O) (σ' : dx_S), dx_X Z (dx_V Z d) M n pc lv st σ o σ' ∧ Q o σ'
/-- the method, invoked, ends with Q -/
def dx_M (Z : dx_Z) (d M : Nat) (av : List Value) (σ : dx_S) (Q : dx_O → dx_S → Prop) : Prop := ∃ (o : dx_O) (σ' : dx_S), dx_V Z d M av σ o σ' ∧ Q o σ'
section DXW
variable {Z : dx_Z} {d M pc : Nat} {lv : dx_L} {st : List Value} {σ : dx_S} {Q : dx_O → dx_S → Prop} {x : dx_I}
theorem dx_M_in {av : List Value} (hc : dx_ct av ≤ Z.2.2.1 M) : dx_M Z (d + 1) M av σ Q ↔ dx_W Z d M 0 (lv_args 0 av) [] σ Q := by
  constructor
  · rintro ⟨o, σ', ⟨-, n, h⟩, q⟩
    exact ⟨n, o, σ', h, q⟩
  · rintro ⟨n, o, σ', h, q⟩
    exact ⟨o, σ', ⟨hc, n, h⟩, q⟩
theorem dx_W_a {r : dx_R} (h : Z.1 M pc = some x) (hk : dx_kd x = 0) (hr : dx_a (Z.2.2.1 M) x.1 pc lv st = some r) : dx_W Z d M pc lv st σ Q ↔ dx_W Z d M r.1 r.2.1 r.2.2 σ Q := by
  constructor
  · rintro ⟨n, o, σ', g, q⟩
    cases n with
    | zero => exact g.elim
    | succ n =>
      obtain ⟨y, e, g⟩ := g
      cases h.symm.trans e
      rw [hk] at g
      obtain ⟨r', e, g⟩ := g
      cases hr.symm.trans e
      exact ⟨n, o, σ', g, q⟩
  · rintro ⟨n, o, σ', g, q⟩
    refine ⟨n + 1, o, σ', ⟨x, h, ?_⟩, q⟩
    rw [hk]
    exact ⟨r, hr, g⟩
theorem dx_W_b {r : dx_R} (h : Z.1 M pc = some x) (hk : dx_kd x = 1) (hr : dx_b Z.2.1 x pc lv st σ = some r) : dx_W Z d M pc lv st σ Q ↔ dx_W Z d M r.1 r.2.1 r.2.2 σ Q := by
  constructor
  · rintro ⟨n, o, σ', g, q⟩
    cases n with
    | zero => exact g.elim
    | succ n =>
      obtain ⟨y, e, g⟩ := g
      cases h.symm.trans e
      rw [hk] at g
      obtain ⟨r', e, g⟩ := g
      cases hr.symm.trans e
      exact ⟨n, o, σ', g, q⟩
  · rintro ⟨n, o, σ', g, q⟩
    refine ⟨n + 1, o, σ', ⟨x, h, ?_⟩, q⟩
    rw [hk]
    exact ⟨r, hr, g⟩
theorem dx_W_c {r : dx_R × dx_S} (h : Z.1 M pc = some x) (hk : dx_kd x = 2) (hr : dx_c x pc lv st σ = some r) : dx_W Z d M pc lv st σ Q ↔ dx_W Z d M r.1.1 r.1.2.1 r.1.2.2 r.2 Q := by
  constructor
  · rintro ⟨n, o, σ', g, q⟩
    cases n with
    | zero => exact g.elim
    | succ n =>
      obtain ⟨y, e, g⟩ := g
      cases h.symm.trans e
      rw [hk] at g
      obtain ⟨r', e, g⟩ := g
      cases hr.symm.trans e
      exact ⟨n, o, σ', g, q⟩
  · rintro ⟨n, o, σ', g, q⟩
    refine ⟨n + 1, o, σ', ⟨x, h, ?_⟩, q⟩
    rw [hk]
    exact ⟨r, hr, g⟩
theorem dx_W_n {r : dx_R × dx_E} (h : Z.1 M pc = some x) (hk : dx_kd x = 3) (hr : dx_n Z x pc lv st σ = some r) : dx_W Z d M pc lv st σ Q ↔ dx_W Z d M r.1.1 r.1.2.1 r.1.2.2 (σ ++ [r.2]) Q := by
  constructor
  · rintro ⟨n, o, σ', g, q⟩
    cases n with
    | zero => exact g.elim
    | succ n =>
      obtain ⟨y, e, g⟩ := g
      cases h.symm.trans e
      rw [hk] at g
      obtain ⟨r', e, g⟩ := g
      cases hr.symm.trans e
      exact ⟨n, o, σ', g, q⟩
  · rintro ⟨n, o, σ', g, q⟩
    refine ⟨n + 1, o, σ', ⟨x, h, ?_⟩, q⟩
    rw [hk]
    exact ⟨r, hr, g⟩
theorem dx_W_r {v : Option Value} (h : Z.1 M pc = some x) (hk : dx_kd x = 4) (hr : dx_rt (Z.2.2.2.2.2 M) x.1 st = some v) : dx_W Z d M pc lv st σ Q ↔ Q (.inl v) σ := by
  constructor
  · rintro ⟨n, o, σ', g, q⟩
    cases n with
    | zero => exact g.elim
    | succ n =>
      obtain ⟨y, e, g⟩ := g
      cases h.symm.trans e
      rw [hk] at g
      obtain ⟨v', e, rfl, rfl⟩ := g
      cases hr.symm.trans e
      exact q
  · intro q
    refine ⟨1, _, _, ⟨x, h, ?_⟩, q⟩
    rw [hk]
    exact ⟨v, hr, rfl, rfl⟩
theorem dx_W_k {av rest : List Value} (h : Z.1 M pc = some x) (hk : dx_kd x = 5) (hr : dx_sp Z.2.1 σ x st = some (av, rest)) : dx_W Z d M pc lv st σ Q ↔ dx_M Z d x.2.1 av σ (fun o σ1 => dx_af o (fun v => dx_W Z d M (pc + 3) lv (v.toList ++ rest) σ1 Q) (fun y => Q (.inr y) σ1)) := by
  constructor
  · rintro ⟨n, o, σ', g, q⟩
    cases n with
    | zero => exact g.elim
    | succ n =>
      obtain ⟨y, e, g⟩ := g
      cases h.symm.trans e
      rw [hk] at g
      obtain ⟨q', e, o1, σ1, g1, g2⟩ := g
      cases hr.symm.trans e
      refine ⟨o1, σ1, g1, ?_⟩
      cases o1 with
      | inl v => exact ⟨n, o, σ', g2, q⟩
      | inr y =>
        obtain ⟨rfl, rfl⟩ := g2
        exact q
  · rintro ⟨o1, σ1, g1, g2⟩
    cases o1 with
    | inl v =>
      obtain ⟨n, o, σ', g, q⟩ := g2
      refine ⟨n + 1, o, σ', ⟨x, h, ?_⟩, q⟩
      rw [hk]
      exact ⟨(av, rest), hr, _, σ1, g1, g⟩
    | inr y =>
      refine ⟨1, .inr y, σ1, ⟨x, h, ?_⟩, g2⟩
      rw [hk]
      exact ⟨(av, rest), hr, _, σ1, g1, rfl, rfl⟩
theorem dx_W_o {a : Nat} {r : List Value} (h : Z.1 M pc = some x) (hk : dx_kd x = 6) (hr : dx_ct r ≤ 8) : dx_W Z d M pc lv (.ref a :: r) σ Q ↔ dx_W Z d M (pc + 3) lv r σ Q := by
  constructor
  · rintro ⟨n, o, σ', g, q⟩
    cases n with
    | zero => exact g.elim
    | succ n =>
      obtain ⟨y, e, g⟩ := g
      cases h.symm.trans e
      rw [hk] at g
      obtain ⟨a', r', e, -, g⟩ := g
      cases e
      exact ⟨n, o, σ', g, q⟩
  · rintro ⟨n, o, σ', g, q⟩
    refine ⟨n + 1, o, σ', ⟨x, h, ?_⟩, q⟩
    rw [hk]
    exact ⟨a, r, rfl, hr, g⟩
theorem dx_W_t (h : Z.1 M pc = some x) (hk : dx_kd x = 7) (hr : dx_ct st ≤ 8) : dx_W Z d M pc lv st σ Q ↔ Q (.inr σ.length) (σ ++ [.inr (x.2.1, [])]) := by
  constructor
  · rintro ⟨n, o, σ', g, q⟩
    cases n with
    | zero => exact g.elim
    | succ n =>
      obtain ⟨y, e, g⟩ := g
      cases h.symm.trans e
      rw [hk] at g
      obtain ⟨-, rfl, rfl⟩ := g
      exact q
  · intro q
    refine ⟨1, _, _, ⟨x, h, ?_⟩, q⟩
    rw [hk]
    exact ⟨hr, rfl, rfl⟩
theorem dx_M_mono {P : dx_O → dx_S → Prop} {av : List Value} (h : dx_M Z d M av σ P) (hq : ∀ o σ', P o σ' → Q o σ') : dx_M Z d M av σ Q := by
  obtain ⟨o, σ', g, q⟩ := h
  exact ⟨o, σ', g, hq _ _ q⟩
theorem dx_W_mono {P : dx_O → dx_S → Prop} (h : dx_W Z d M pc lv st σ P) (hq : ∀ o σ', P o σ' → Q o σ') : dx_W Z d M pc lv st σ Q := by
  obtain ⟨n, o, σ', g, q⟩ := h
  exact ⟨n, o, σ', g, hq _ _ q⟩
end DXW
