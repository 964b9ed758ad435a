/-! The rules, with any relation for the calls: for the law. -/
def lx_W (Z : dx_Z) (cal : Nat → List Value → dx_S → dx_O → dx_S → Prop) (M pc : Nat) (lv : dx_L) (st : List Value) (σ : dx_S) (Q : dx_O → dx_S → Prop) : Prop := ∃ (n : Nat) (o : dx_O) (σ' : dx_S), dx_X Z cal M n pc lv st σ o σ' ∧ Q o σ'
def lx_M (cal : Nat → List Value → dx_S → dx_O → dx_S → Prop) (M : Nat) (av : List Value) (σ : dx_S) (Q : dx_O → dx_S → Prop) : Prop := ∃ (o : dx_O) (σ' : dx_S), cal M av σ o σ' ∧ Q o σ'
section LXW
variable {Z : dx_Z} {cal : Nat → List Value → dx_S → dx_O → dx_S → Prop} {M pc : Nat} {lv : dx_L} {st : List Value} {σ : dx_S} {Q : dx_O → dx_S → Prop} {x : dx_I}
theorem lx_W_a {r : dx_R} (h : Z.1 M pc = some x) (hk : dx_kd x = 0) (hr : dx_a (Z.2.2.1 M) x.1 pc lv st = some r) : lx_W Z cal M pc lv st σ Q ↔ lx_W Z cal M r.1 r.2.1 r.2.2 σ Q := by
  constructor
  · rintro ⟨n, o, σ', g, q⟩
    cases n with
    | zero => exact g.elim
    | succ n =>
      obtain ⟨y, e, g⟩ := g
      cases h.symm.trans e
      rw [hk] at g
      obtain ⟨r', e, g⟩ := g
      cases hr.symm.trans e
      exact ⟨n, o, σ', g, q⟩
  · rintro ⟨n, o, σ', g, q⟩
    refine ⟨n + 1, o, σ', ⟨x, h, ?_⟩, q⟩
    rw [hk]
    exact ⟨r, hr, g⟩
theorem lx_W_b {r : dx_R} (h : Z.1 M pc = some x) (hk : dx_kd x = 1) (hr : dx_b Z.2.1 x pc lv st σ = some r) : lx_W Z cal M pc lv st σ Q ↔ lx_W Z cal M r.1 r.2.1 r.2.2 σ Q := by
  constructor
  · rintro ⟨n, o, σ', g, q⟩
    cases n with
    | zero => exact g.elim
    | succ n =>
      obtain ⟨y, e, g⟩ := g
      cases h.symm.trans e
      rw [hk] at g
      obtain ⟨r', e, g⟩ := g
      cases hr.symm.trans e
      exact ⟨n, o, σ', g, q⟩
  · rintro ⟨n, o, σ', g, q⟩
    refine ⟨n + 1, o, σ', ⟨x, h, ?_⟩, q⟩
    rw [hk]
    exact ⟨r, hr, g⟩
theorem lx_W_c {r : dx_R × dx_S} (h : Z.1 M pc = some x) (hk : dx_kd x = 2) (hr : dx_c x pc lv st σ = some r) : lx_W Z cal M pc lv st σ Q ↔ lx_W Z cal M r.1.1 r.1.2.1 r.1.2.2 r.2 Q := by
  constructor
  · rintro ⟨n, o, σ', g, q⟩
    cases n with
    | zero => exact g.elim
    | succ n =>
      obtain ⟨y, e, g⟩ := g
      cases h.symm.trans e
      rw [hk] at g
      obtain ⟨r', e, g⟩ := g
      cases hr.symm.trans e
      exact ⟨n, o, σ', g, q⟩
  · rintro ⟨n, o, σ', g, q⟩
    refine ⟨n + 1, o, σ', ⟨x, h, ?_⟩, q⟩
    rw [hk]
    exact ⟨r, hr, g⟩
theorem lx_W_n {r : dx_R × dx_E} (h : Z.1 M pc = some x) (hk : dx_kd x = 3) (hr : dx_n Z x pc lv st σ = some r) : lx_W Z cal M pc lv st σ Q ↔ lx_W Z cal M r.1.1 r.1.2.1 r.1.2.2 (σ ++ [r.2]) Q := by
  constructor
  · rintro ⟨n, o, σ', g, q⟩
    cases n with
    | zero => exact g.elim
    | succ n =>
      obtain ⟨y, e, g⟩ := g
      cases h.symm.trans e
      rw [hk] at g
      obtain ⟨r', e, g⟩ := g
      cases hr.symm.trans e
      exact ⟨n, o, σ', g, q⟩
  · rintro ⟨n, o, σ', g, q⟩
    refine ⟨n + 1, o, σ', ⟨x, h, ?_⟩, q⟩
    rw [hk]
    exact ⟨r, hr, g⟩
theorem lx_W_r {v : Option Value} (h : Z.1 M pc = some x) (hk : dx_kd x = 4) (hr : dx_rt (Z.2.2.2.2.2 M) x.1 st = some v) : lx_W Z cal M pc lv st σ Q ↔ Q (.inl v) σ := by
  constructor
  · rintro ⟨n, o, σ', g, q⟩
    cases n with
    | zero => exact g.elim
    | succ n =>
      obtain ⟨y, e, g⟩ := g
      cases h.symm.trans e
      rw [hk] at g
      obtain ⟨v', e, rfl, rfl⟩ := g
      cases hr.symm.trans e
      exact q
  · intro q
    refine ⟨1, _, _, ⟨x, h, ?_⟩, q⟩
    rw [hk]
    exact ⟨v, hr, rfl, rfl⟩
theorem lx_W_k {av rest : List Value} (h : Z.1 M pc = some x) (hk : dx_kd x = 5) (hr : dx_sp Z.2.1 σ x st = some (av, rest)) : lx_W Z cal M pc lv st σ Q ↔ lx_M cal x.2.1 av σ (fun o σ1 => dx_af o (fun v => lx_W Z cal M (pc + 3) lv (v.toList ++ rest) σ1 Q) (fun y => Q (.inr y) σ1)) := by
  constructor
  · rintro ⟨n, o, σ', g, q⟩
    cases n with
    | zero => exact g.elim
    | succ n =>
      obtain ⟨y, e, g⟩ := g
      cases h.symm.trans e
      rw [hk] at g
      obtain ⟨q', e, o1, σ1, g1, g2⟩ := g
      cases hr.symm.trans e
      refine ⟨o1, σ1, g1, ?_⟩
      cases o1 with
      | inl v => exact ⟨n, o, σ', g2, q⟩
      | inr y =>
        obtain ⟨rfl, rfl⟩ := g2
        exact q
  · rintro ⟨o1, σ1, g1, g2⟩
    cases o1 with
    | inl v =>
      obtain ⟨n, o, σ', g, q⟩ := g2
      refine ⟨n + 1, o, σ', ⟨x, h, ?_⟩, q⟩
      rw [hk]
      exact ⟨(av, rest), hr, _, σ1, g1, g⟩
    | inr y =>
      refine ⟨1, .inr y, σ1, ⟨x, h, ?_⟩, g2⟩
      rw [hk]
      exact ⟨(av, rest), hr, _, σ1, g1, rfl, rfl⟩
theorem lx_W_o {a : Nat} {r : List Value} (h : Z.1 M pc = some x) (hk : dx_kd x = 6) (hr : dx_ct r ≤ 8) : lx_W Z cal M pc lv (.ref a :: r) σ Q ↔ lx_W Z cal M (pc + 3) lv r σ Q := by
  constructor
  · rintro ⟨n, o, σ', g, q⟩
    cases n with
    | zero => exact g.elim
    | succ n =>
      obtain ⟨y, e, g⟩ := g
      cases h.symm.trans e
      rw [hk] at g
      obtain ⟨a', r', e, -, g⟩ := g
      cases e
      exact ⟨n, o, σ', g, q⟩
  · rintro ⟨n, o, σ', g, q⟩
    refine ⟨n + 1, o, σ', ⟨x, h, ?_⟩, q⟩
    rw [hk]
    exact ⟨a, r, rfl, hr, g⟩
theorem lx_W_t (h : Z.1 M pc = some x) (hk : dx_kd x = 7) (hr : dx_ct st ≤ 8) : lx_W Z cal M pc lv st σ Q ↔ Q (.inr σ.length) (σ ++ [.inr (x.2.1, [])]) := by
  constructor
  · rintro ⟨n, o, σ', g, q⟩
    cases n with
    | zero => exact g.elim
    | succ n =>
      obtain ⟨y, e, g⟩ := g
      cases h.symm.trans e
      rw [hk] at g
      obtain ⟨-, rfl, rfl⟩ := g
      exact q
  · intro q
    refine ⟨1, _, _, ⟨x, h, ?_⟩, q⟩
    rw [hk]
    exact ⟨hr, rfl, rfl⟩
theorem lx_M_mono {P : dx_O → dx_S → Prop} {av : List Value} (h : lx_M cal M av σ P) (hq : ∀ o σ', P o σ' → Q o σ') : lx_M cal M av σ Q := by
  obtain ⟨o, σ', g, q⟩ := h
  exact ⟨o, σ', g, hq _ _ q⟩
theorem lx_W_mono {P : dx_O → dx_S → Prop} (h : lx_W Z cal M pc lv st σ P) (hq : ∀ o σ', P o σ' → Q o σ') : lx_W Z cal M pc lv st σ Q := by
  obtain ⟨n, o, σ', g, q⟩ := h
  exact ⟨n, o, σ', g, hq _ _ q⟩
end LXW
section LRL
variable {Z : dx_Z} {cal : Nat → List Value → dx_S → dx_O → dx_S → Prop} {M pc : Nat} {lv : dx_L} {st : List Value} {σ : dx_S} {Q : dx_O → dx_S → Prop} {a b f : Nat} {v0 : Value}
theorem lr_no {x : dx_I} (h : Z.1 M pc = some x) (hn : ∀ n o σ', ¬ dx_X Z cal M (n + 1) pc lv st σ o σ') : ¬ lx_W Z cal M pc lv st σ Q := by
  rintro ⟨n, o, σ', g, -⟩
  cases n with
  | zero => exact g
  | succ n => exact hn n o σ' g
theorem lr_a0 {x : dx_I} (h : Z.1 M pc = some x) (hk : dx_kd x = 0) (hr : dx_a (Z.2.2.1 M) x.1 pc lv st = none) : ¬ lx_W Z cal M pc lv st σ Q := lr_no h (by
  rintro n o σ' ⟨y, e, g⟩
  cases h.symm.trans e
  rw [hk] at g
  obtain ⟨r, e, -⟩ := g
  cases hr.symm.trans e)
theorem lr_b0 {x : dx_I} (h : Z.1 M pc = some x) (hk : dx_kd x = 1) (hr : dx_b Z.2.1 x pc lv st σ = none) : ¬ lx_W Z cal M pc lv st σ Q := lr_no h (by
  rintro n o σ' ⟨y, e, g⟩
  cases h.symm.trans e
  rw [hk] at g
  obtain ⟨r, e, -⟩ := g
  cases hr.symm.trans e)
theorem lr_c0 {x : dx_I} (h : Z.1 M pc = some x) (hk : dx_kd x = 2) (hr : dx_c x pc lv st σ = none) : ¬ lx_W Z cal M pc lv st σ Q := lr_no h (by
  rintro n o σ' ⟨y, e, g⟩
  cases h.symm.trans e
  rw [hk] at g
  obtain ⟨r, e, -⟩ := g
  cases hr.symm.trans e)
theorem lr_k0 {x : dx_I} (h : Z.1 M pc = some x) (hk : dx_kd x = 5) (hr : dx_sp Z.2.1 σ x st = none) : ¬ lx_W Z cal M pc lv st σ Q := lr_no h (by
  rintro n o σ' ⟨y, e, g⟩
  cases h.symm.trans e
  rw [hk] at g
  obtain ⟨r, e, -⟩ := g
  cases hr.symm.trans e)
theorem lr_iconst {n : Int} (h : Z.1 M pc = some (.iconst n, a, b, f, v0)) : lx_W Z cal M pc lv st σ Q ↔ lx_W Z cal M (pc + 1) lv (.int (Int32.ofInt n) :: st) σ Q := lx_W_a (lv := lv) (st := st) (r := ((pc + 1), lv, (.int (Int32.ofInt n) :: st))) h rfl rfl
theorem lr_bipush {n : Int} (h : Z.1 M pc = some (.bipush n, a, b, f, v0)) : lx_W Z cal M pc lv st σ Q ↔ lx_W Z cal M (pc + 2) lv (.int ((Int8.ofInt n).toInt32) :: st) σ Q := lx_W_a (lv := lv) (st := st) (r := ((pc + 2), lv, (.int ((Int8.ofInt n).toInt32) :: st))) h rfl rfl
theorem lr_sipush {n : Int} (h : Z.1 M pc = some (.sipush n, a, b, f, v0)) : lx_W Z cal M pc lv st σ Q ↔ lx_W Z cal M (pc + 3) lv (.int ((Int16.ofInt n).toInt32) :: st) σ Q := lx_W_a (lv := lv) (st := st) (r := ((pc + 3), lv, (.int ((Int16.ofInt n).toInt32) :: st))) h rfl rfl
theorem lr_lconst {n : Fin 2} (h : Z.1 M pc = some (.lconst n, a, b, f, v0)) : lx_W Z cal M pc lv st σ Q ↔ lx_W Z cal M (pc + 1) lv (.long (Int64.ofNat n.val) :: st) σ Q := lx_W_a (lv := lv) (st := st) (r := ((pc + 1), lv, (.long (Int64.ofNat n.val) :: st))) h rfl rfl
theorem lr_iload_n {k : Fin 4} (h : Z.1 M pc = some (.iload_n k, a, b, f, v0)) : lx_W Z cal M pc lv st σ Q ↔ wI (dx_lk lv k.val) (fun y => lx_W Z cal M (pc + 1) lv (.int y :: st) σ Q) := by
  have e : dx_a (Z.2.2.1 M) (.iload_n k) pc lv st = dx_ld lv k.val fun v => dx_vi v fun x => some (pc + 1, lv, .int x :: st) := rfl
  unfold dx_ld at e
  cases hl : dx_lk lv k.val with
  | none =>
    rw [hl] at e
    exact ⟨fun z => lr_a0 h rfl e z, False.elim⟩
  | some v =>
    rw [hl] at e
    cases v with
    | int y => exact lx_W_a h rfl e
    | _ => exact ⟨fun z => lr_a0 h rfl e z, False.elim⟩
theorem lr_iload {k : Nat} (h : Z.1 M pc = some (.iload k, a, b, f, v0)) : lx_W Z cal M pc lv st σ Q ↔ wI (dx_lk lv k) (fun y => lx_W Z cal M (pc + 2) lv (.int y :: st) σ Q) := by
  have e : dx_a (Z.2.2.1 M) (.iload k) pc lv st = dx_ld lv k fun v => dx_vi v fun x => some (pc + 2, lv, .int x :: st) := rfl
  unfold dx_ld at e
  cases hl : dx_lk lv k with
  | none =>
    rw [hl] at e
    exact ⟨fun z => lr_a0 h rfl e z, False.elim⟩
  | some v =>
    rw [hl] at e
    cases v with
    | int y => exact lx_W_a h rfl e
    | _ => exact ⟨fun z => lr_a0 h rfl e z, False.elim⟩
theorem lr_lload_n {k : Fin 4} (h : Z.1 M pc = some (.lload_n k, a, b, f, v0)) : lx_W Z cal M pc lv st σ Q ↔ wJ (dx_lk lv k.val) (fun y => lx_W Z cal M (pc + 1) lv (.long y :: st) σ Q) := by
  have e : dx_a (Z.2.2.1 M) (.lload_n k) pc lv st = dx_ld lv k.val fun v => dx_vj v fun x => some (pc + 1, lv, .long x :: st) := rfl
  unfold dx_ld at e
  cases hl : dx_lk lv k.val with
  | none =>
    rw [hl] at e
    exact ⟨fun z => lr_a0 h rfl e z, False.elim⟩
  | some v =>
    rw [hl] at e
    cases v with
    | long y => exact lx_W_a h rfl e
    | _ => exact ⟨fun z => lr_a0 h rfl e z, False.elim⟩
theorem lr_lload {k : Nat} (h : Z.1 M pc = some (.lload k, a, b, f, v0)) : lx_W Z cal M pc lv st σ Q ↔ wJ (dx_lk lv k) (fun y => lx_W Z cal M (pc + 2) lv (.long y :: st) σ Q) := by
  have e : dx_a (Z.2.2.1 M) (.lload k) pc lv st = dx_ld lv k fun v => dx_vj v fun x => some (pc + 2, lv, .long x :: st) := rfl
  unfold dx_ld at e
  cases hl : dx_lk lv k with
  | none =>
    rw [hl] at e
    exact ⟨fun z => lr_a0 h rfl e z, False.elim⟩
  | some v =>
    rw [hl] at e
    cases v with
    | long y => exact lx_W_a h rfl e
    | _ => exact ⟨fun z => lr_a0 h rfl e z, False.elim⟩
theorem lr_aload_n {k : Fin 4} (h : Z.1 M pc = some (.aload_n k, a, b, f, v0)) : lx_W Z cal M pc lv st σ Q ↔ wR (dx_lk lv k.val) (fun y => lx_W Z cal M (pc + 1) lv (y :: st) σ Q) := by
  have e : dx_a (Z.2.2.1 M) (.aload_n k) pc lv st = dx_ld lv k.val fun v => dx_vr v (some (pc + 1, lv, v :: st)) := rfl
  unfold dx_ld at e
  cases hl : dx_lk lv k.val with
  | none =>
    rw [hl] at e
    exact ⟨fun z => lr_a0 h rfl e z, False.elim⟩
  | some v =>
    rw [hl] at e
    cases v with
    | ref y => exact lx_W_a h rfl e
    | retAddr y => exact lx_W_a h rfl e
    | _ => exact ⟨fun z => lr_a0 h rfl e z, False.elim⟩
theorem lr_aload {k : Nat} (h : Z.1 M pc = some (.aload k, a, b, f, v0)) : lx_W Z cal M pc lv st σ Q ↔ wR (dx_lk lv k) (fun y => lx_W Z cal M (pc + 2) lv (y :: st) σ Q) := by
  have e : dx_a (Z.2.2.1 M) (.aload k) pc lv st = dx_ld lv k fun v => dx_vr v (some (pc + 2, lv, v :: st)) := rfl
  unfold dx_ld at e
  cases hl : dx_lk lv k with
  | none =>
    rw [hl] at e
    exact ⟨fun z => lr_a0 h rfl e z, False.elim⟩
  | some v =>
    rw [hl] at e
    cases v with
    | ref y => exact lx_W_a h rfl e
    | retAddr y => exact lx_W_a h rfl e
    | _ => exact ⟨fun z => lr_a0 h rfl e z, False.elim⟩
theorem lr_istore_n {k : Fin 4} {x : Int32} (h : Z.1 M pc = some (.istore_n k, a, b, f, v0)) (hk : k.val < Z.2.2.1 M) : lx_W Z cal M pc lv (.int x :: st) σ Q ↔ lx_W Z cal M (pc + 1) (dx_s1 lv k.val (.int x)) st σ Q := lx_W_a (lv := lv) (st := (.int x :: st)) (r := ((pc + 1), (dx_s1 lv k.val (.int x)), st)) h rfl (if_pos hk)
theorem lr_istore {k : Nat} {x : Int32} (h : Z.1 M pc = some (.istore k, a, b, f, v0)) (hk : k < Z.2.2.1 M) : lx_W Z cal M pc lv (.int x :: st) σ Q ↔ lx_W Z cal M (pc + 2) (dx_s1 lv k (.int x)) st σ Q := lx_W_a (lv := lv) (st := (.int x :: st)) (r := ((pc + 2), (dx_s1 lv k (.int x)), st)) h rfl (if_pos hk)
theorem lr_lstore_n {k : Fin 4} {x : Int64} (h : Z.1 M pc = some (.lstore_n k, a, b, f, v0)) (hk : k.val + 1 < Z.2.2.1 M) : lx_W Z cal M pc lv (.long x :: st) σ Q ↔ lx_W Z cal M (pc + 1) (dx_s2 lv k.val (.long x)) st σ Q := lx_W_a (lv := lv) (st := (.long x :: st)) (r := ((pc + 1), (dx_s2 lv k.val (.long x)), st)) h rfl (if_pos hk)
theorem lr_lstore {k : Nat} {x : Int64} (h : Z.1 M pc = some (.lstore k, a, b, f, v0)) (hk : k + 1 < Z.2.2.1 M) : lx_W Z cal M pc lv (.long x :: st) σ Q ↔ lx_W Z cal M (pc + 2) (dx_s2 lv k (.long x)) st σ Q := lx_W_a (lv := lv) (st := (.long x :: st)) (r := ((pc + 2), (dx_s2 lv k (.long x)), st)) h rfl (if_pos hk)
theorem lr_astore_n_ref {k : Fin 4} {x : Nat} (h : Z.1 M pc = some (.astore_n k, a, b, f, v0)) (hk : k.val < Z.2.2.1 M) : lx_W Z cal M pc lv (.ref x :: st) σ Q ↔ lx_W Z cal M (pc + 1) (dx_s1 lv k.val (.ref x)) st σ Q := lx_W_a (lv := lv) (st := (.ref x :: st)) (r := ((pc + 1), (dx_s1 lv k.val (.ref x)), st)) h rfl (if_pos hk)
theorem lr_astore_n_retAddr {k : Fin 4} {x : Nat} (h : Z.1 M pc = some (.astore_n k, a, b, f, v0)) (hk : k.val < Z.2.2.1 M) : lx_W Z cal M pc lv (.retAddr x :: st) σ Q ↔ lx_W Z cal M (pc + 1) (dx_s1 lv k.val (.retAddr x)) st σ Q := lx_W_a (lv := lv) (st := (.retAddr x :: st)) (r := ((pc + 1), (dx_s1 lv k.val (.retAddr x)), st)) h rfl (if_pos hk)
theorem lr_astore_ref {k : Nat} {x : Nat} (h : Z.1 M pc = some (.astore k, a, b, f, v0)) (hk : k < Z.2.2.1 M) : lx_W Z cal M pc lv (.ref x :: st) σ Q ↔ lx_W Z cal M (pc + 2) (dx_s1 lv k (.ref x)) st σ Q := lx_W_a (lv := lv) (st := (.ref x :: st)) (r := ((pc + 2), (dx_s1 lv k (.ref x)), st)) h rfl (if_pos hk)
theorem lr_astore_retAddr {k : Nat} {x : Nat} (h : Z.1 M pc = some (.astore k, a, b, f, v0)) (hk : k < Z.2.2.1 M) : lx_W Z cal M pc lv (.retAddr x :: st) σ Q ↔ lx_W Z cal M (pc + 2) (dx_s1 lv k (.retAddr x)) st σ Q := lx_W_a (lv := lv) (st := (.retAddr x :: st)) (r := ((pc + 2), (dx_s1 lv k (.retAddr x)), st)) h rfl (if_pos hk)
theorem lr_iinc {k : Nat} {n : Int} (h : Z.1 M pc = some (.iinc k n, a, b, f, v0)) (hk : k < Z.2.2.1 M) : lx_W Z cal M pc lv st σ Q ↔ wI (dx_lk lv k) (fun y => lx_W Z cal M (pc + 3) (dx_s1 lv k (.int (y + Int32.ofInt n))) st σ Q) := by
  have e : dx_a (Z.2.2.1 M) (.iinc k n) pc lv st = dx_ld lv k fun v => dx_vi v fun x => if k < Z.2.2.1 M then some (pc + 3, dx_s1 lv k (.int (x + Int32.ofInt n)), st) else none := rfl
  unfold dx_ld at e
  cases hl : dx_lk lv k with
  | none =>
    rw [hl] at e
    exact ⟨fun z => lr_a0 h rfl e z, False.elim⟩
  | some v =>
    rw [hl] at e
    cases v with
    | int y => exact lx_W_a h rfl (e.trans (if_pos hk))
    | _ => exact ⟨fun z => lr_a0 h rfl e z, False.elim⟩
theorem lr_iincv {k : Nat} {n : Int} {v : Int32} (h : Z.1 M pc = some (.iinc k n, a, b, f, v0)) (hk : k < Z.2.2.1 M) (hv : Int32.ofInt n = v) : lx_W Z cal M pc lv st σ Q ↔ wI (dx_lk lv k) (fun y => lx_W Z cal M (pc + 3) (dx_s1 lv k (.int (y + v))) st σ Q) := by
  subst hv
  exact lr_iinc h hk
theorem lr_iadd {x y : Int32} (h : Z.1 M pc = some (.iadd, a, b, f, v0)) : lx_W Z cal M pc lv (.int y :: .int x :: st) σ Q ↔ lx_W Z cal M (pc + 1) lv (.int (x + y) :: st) σ Q := lx_W_a (lv := lv) (st := (.int y :: .int x :: st)) (r := ((pc + 1), lv, (.int (x + y) :: st))) h rfl rfl
theorem lr_isub {x y : Int32} (h : Z.1 M pc = some (.isub, a, b, f, v0)) : lx_W Z cal M pc lv (.int y :: .int x :: st) σ Q ↔ lx_W Z cal M (pc + 1) lv (.int (x - y) :: st) σ Q := lx_W_a (lv := lv) (st := (.int y :: .int x :: st)) (r := ((pc + 1), lv, (.int (x - y) :: st))) h rfl rfl
theorem lr_imul {x y : Int32} (h : Z.1 M pc = some (.imul, a, b, f, v0)) : lx_W Z cal M pc lv (.int y :: .int x :: st) σ Q ↔ lx_W Z cal M (pc + 1) lv (.int (x * y) :: st) σ Q := lx_W_a (lv := lv) (st := (.int y :: .int x :: st)) (r := ((pc + 1), lv, (.int (x * y) :: st))) h rfl rfl
theorem lr_iand {x y : Int32} (h : Z.1 M pc = some (.iand, a, b, f, v0)) : lx_W Z cal M pc lv (.int y :: .int x :: st) σ Q ↔ lx_W Z cal M (pc + 1) lv (.int (x &&& y) :: st) σ Q := lx_W_a (lv := lv) (st := (.int y :: .int x :: st)) (r := ((pc + 1), lv, (.int (x &&& y) :: st))) h rfl rfl
theorem lr_ior {x y : Int32} (h : Z.1 M pc = some (.ior, a, b, f, v0)) : lx_W Z cal M pc lv (.int y :: .int x :: st) σ Q ↔ lx_W Z cal M (pc + 1) lv (.int (x ||| y) :: st) σ Q := lx_W_a (lv := lv) (st := (.int y :: .int x :: st)) (r := ((pc + 1), lv, (.int (x ||| y) :: st))) h rfl rfl
theorem lr_ishl {x y : Int32} (h : Z.1 M pc = some (.ishl, a, b, f, v0)) : lx_W Z cal M pc lv (.int y :: .int x :: st) σ Q ↔ lx_W Z cal M (pc + 1) lv (.int (x <<< (y &&& 31)) :: st) σ Q := lx_W_a (lv := lv) (st := (.int y :: .int x :: st)) (r := ((pc + 1), lv, (.int (x <<< (y &&& 31)) :: st))) h rfl rfl
theorem lr_ishr {x y : Int32} (h : Z.1 M pc = some (.ishr, a, b, f, v0)) : lx_W Z cal M pc lv (.int y :: .int x :: st) σ Q ↔ lx_W Z cal M (pc + 1) lv (.int (x >>> (y &&& 31)) :: st) σ Q := lx_W_a (lv := lv) (st := (.int y :: .int x :: st)) (r := ((pc + 1), lv, (.int (x >>> (y &&& 31)) :: st))) h rfl rfl
theorem lr_idiv {x y : Int32} (h : Z.1 M pc = some (.idiv, a, b, f, v0)) (hy : ¬ y = 0) : lx_W Z cal M pc lv (.int y :: .int x :: st) σ Q ↔ lx_W Z cal M (pc + 1) lv (.int (x / y) :: st) σ Q := lx_W_a (lv := lv) (st := (.int y :: .int x :: st)) (r := ((pc + 1), lv, (.int (x / y) :: st))) h rfl (if_neg hy)
theorem lr_irem {x y : Int32} (h : Z.1 M pc = some (.irem, a, b, f, v0)) (hy : ¬ y = 0) : lx_W Z cal M pc lv (.int y :: .int x :: st) σ Q ↔ lx_W Z cal M (pc + 1) lv (.int (x - x / y * y) :: st) σ Q := lx_W_a (lv := lv) (st := (.int y :: .int x :: st)) (r := ((pc + 1), lv, (.int (x - x / y * y) :: st))) h rfl (if_neg hy)
theorem lr_ladd {x y : Int64} (h : Z.1 M pc = some (.ladd, a, b, f, v0)) : lx_W Z cal M pc lv (.long y :: .long x :: st) σ Q ↔ lx_W Z cal M (pc + 1) lv (.long (x + y) :: st) σ Q := lx_W_a (lv := lv) (st := (.long y :: .long x :: st)) (r := ((pc + 1), lv, (.long (x + y) :: st))) h rfl rfl
theorem lr_lsub {x y : Int64} (h : Z.1 M pc = some (.lsub, a, b, f, v0)) : lx_W Z cal M pc lv (.long y :: .long x :: st) σ Q ↔ lx_W Z cal M (pc + 1) lv (.long (x - y) :: st) σ Q := lx_W_a (lv := lv) (st := (.long y :: .long x :: st)) (r := ((pc + 1), lv, (.long (x - y) :: st))) h rfl rfl
theorem lr_lmul {x y : Int64} (h : Z.1 M pc = some (.lmul, a, b, f, v0)) : lx_W Z cal M pc lv (.long y :: .long x :: st) σ Q ↔ lx_W Z cal M (pc + 1) lv (.long (x * y) :: st) σ Q := lx_W_a (lv := lv) (st := (.long y :: .long x :: st)) (r := ((pc + 1), lv, (.long (x * y) :: st))) h rfl rfl
theorem lr_land {x y : Int64} (h : Z.1 M pc = some (.land, a, b, f, v0)) : lx_W Z cal M pc lv (.long y :: .long x :: st) σ Q ↔ lx_W Z cal M (pc + 1) lv (.long (x &&& y) :: st) σ Q := lx_W_a (lv := lv) (st := (.long y :: .long x :: st)) (r := ((pc + 1), lv, (.long (x &&& y) :: st))) h rfl rfl
theorem lr_lor {x y : Int64} (h : Z.1 M pc = some (.lor, a, b, f, v0)) : lx_W Z cal M pc lv (.long y :: .long x :: st) σ Q ↔ lx_W Z cal M (pc + 1) lv (.long (x ||| y) :: st) σ Q := lx_W_a (lv := lv) (st := (.long y :: .long x :: st)) (r := ((pc + 1), lv, (.long (x ||| y) :: st))) h rfl rfl
theorem lr_ldiv {x y : Int64} (h : Z.1 M pc = some (.ldiv, a, b, f, v0)) (hy : ¬ y = 0) : lx_W Z cal M pc lv (.long y :: .long x :: st) σ Q ↔ lx_W Z cal M (pc + 1) lv (.long (x / y) :: st) σ Q := lx_W_a (lv := lv) (st := (.long y :: .long x :: st)) (r := ((pc + 1), lv, (.long (x / y) :: st))) h rfl (if_neg hy)
theorem lr_lrem {x y : Int64} (h : Z.1 M pc = some (.lrem, a, b, f, v0)) (hy : ¬ y = 0) : lx_W Z cal M pc lv (.long y :: .long x :: st) σ Q ↔ lx_W Z cal M (pc + 1) lv (.long (x - x / y * y) :: st) σ Q := lx_W_a (lv := lv) (st := (.long y :: .long x :: st)) (r := ((pc + 1), lv, (.long (x - x / y * y) :: st))) h rfl (if_neg hy)
theorem lr_ineg {x : Int32} (h : Z.1 M pc = some (.ineg, a, b, f, v0)) : lx_W Z cal M pc lv (.int x :: st) σ Q ↔ lx_W Z cal M (pc + 1) lv (.int (-x) :: st) σ Q := lx_W_a (lv := lv) (st := (.int x :: st)) (r := ((pc + 1), lv, (.int (-x) :: st))) h rfl rfl
theorem lr_lneg {x : Int64} (h : Z.1 M pc = some (.lneg, a, b, f, v0)) : lx_W Z cal M pc lv (.long x :: st) σ Q ↔ lx_W Z cal M (pc + 1) lv (.long (-x) :: st) σ Q := lx_W_a (lv := lv) (st := (.long x :: st)) (r := ((pc + 1), lv, (.long (-x) :: st))) h rfl rfl
theorem lr_lshl {x : Int64} {y : Int32} (h : Z.1 M pc = some (.lshl, a, b, f, v0)) : lx_W Z cal M pc lv (.int y :: .long x :: st) σ Q ↔ lx_W Z cal M (pc + 1) lv (.long (x <<< (y.toInt64 &&& 63)) :: st) σ Q := lx_W_a (lv := lv) (st := (.int y :: .long x :: st)) (r := ((pc + 1), lv, (.long (x <<< (y.toInt64 &&& 63)) :: st))) h rfl rfl
theorem lr_lshr {x : Int64} {y : Int32} (h : Z.1 M pc = some (.lshr, a, b, f, v0)) : lx_W Z cal M pc lv (.int y :: .long x :: st) σ Q ↔ lx_W Z cal M (pc + 1) lv (.long (x >>> (y.toInt64 &&& 63)) :: st) σ Q := lx_W_a (lv := lv) (st := (.int y :: .long x :: st)) (r := ((pc + 1), lv, (.long (x >>> (y.toInt64 &&& 63)) :: st))) h rfl rfl
theorem lr_lcmp {x y : Int64} (h : Z.1 M pc = some (.lcmp, a, b, f, v0)) : lx_W Z cal M pc lv (.long y :: .long x :: st) σ Q ↔ lx_W Z cal M (pc + 1) lv (.int (lg_cmp x y) :: st) σ Q := lx_W_a (lv := lv) (st := (.long y :: .long x :: st)) (r := ((pc + 1), lv, (.int (lg_cmp x y) :: st))) h rfl rfl
theorem lr_i2l {x : Int32} (h : Z.1 M pc = some (.i2l, a, b, f, v0)) : lx_W Z cal M pc lv (.int x :: st) σ Q ↔ lx_W Z cal M (pc + 1) lv (.long x.toInt64 :: st) σ Q := lx_W_a (lv := lv) (st := (.int x :: st)) (r := ((pc + 1), lv, (.long x.toInt64 :: st))) h rfl rfl
theorem lr_l2i {x : Int64} (h : Z.1 M pc = some (.l2i, a, b, f, v0)) : lx_W Z cal M pc lv (.long x :: st) σ Q ↔ lx_W Z cal M (pc + 1) lv (.int x.toInt32 :: st) σ Q := lx_W_a (lv := lv) (st := (.long x :: st)) (r := ((pc + 1), lv, (.int x.toInt32 :: st))) h rfl rfl
theorem lr_i2c {x : Int32} (h : Z.1 M pc = some (.i2c, a, b, f, v0)) : lx_W Z cal M pc lv (.int x :: st) σ Q ↔ lx_W Z cal M (pc + 1) lv (.int (x.toUInt32 % 65536).toInt32 :: st) σ Q := lx_W_a (lv := lv) (st := (.int x :: st)) (r := ((pc + 1), lv, (.int (x.toUInt32 % 65536).toInt32 :: st))) h rfl rfl
theorem lr_i2b {x : Int32} (h : Z.1 M pc = some (.i2b, a, b, f, v0)) : lx_W Z cal M pc lv (.int x :: st) σ Q ↔ lx_W Z cal M (pc + 1) lv (.int x.toInt8.toInt32 :: st) σ Q := lx_W_a (lv := lv) (st := (.int x :: st)) (r := ((pc + 1), lv, (.int x.toInt8.toInt32 :: st))) h rfl rfl
theorem lr_dup_int {x : Int32} (h : Z.1 M pc = some (.dup, a, b, f, v0)) : lx_W Z cal M pc lv (.int x :: st) σ Q ↔ lx_W Z cal M (pc + 1) lv (.int x :: .int x :: st) σ Q := lx_W_a (lv := lv) (st := (.int x :: st)) (r := ((pc + 1), lv, (.int x :: .int x :: st))) h rfl rfl
theorem lr_pop_int {x : Int32} (h : Z.1 M pc = some (.pop, a, b, f, v0)) : lx_W Z cal M pc lv (.int x :: st) σ Q ↔ lx_W Z cal M (pc + 1) lv st σ Q := lx_W_a (lv := lv) (st := (.int x :: st)) (r := ((pc + 1), lv, st)) h rfl rfl
theorem lr_dup_ref {x : Nat} (h : Z.1 M pc = some (.dup, a, b, f, v0)) : lx_W Z cal M pc lv (.ref x :: st) σ Q ↔ lx_W Z cal M (pc + 1) lv (.ref x :: .ref x :: st) σ Q := lx_W_a (lv := lv) (st := (.ref x :: st)) (r := ((pc + 1), lv, (.ref x :: .ref x :: st))) h rfl rfl
theorem lr_pop_ref {x : Nat} (h : Z.1 M pc = some (.pop, a, b, f, v0)) : lx_W Z cal M pc lv (.ref x :: st) σ Q ↔ lx_W Z cal M (pc + 1) lv st σ Q := lx_W_a (lv := lv) (st := (.ref x :: st)) (r := ((pc + 1), lv, st)) h rfl rfl
theorem lr_dup_retAddr {x : Nat} (h : Z.1 M pc = some (.dup, a, b, f, v0)) : lx_W Z cal M pc lv (.retAddr x :: st) σ Q ↔ lx_W Z cal M (pc + 1) lv (.retAddr x :: .retAddr x :: st) σ Q := lx_W_a (lv := lv) (st := (.retAddr x :: st)) (r := ((pc + 1), lv, (.retAddr x :: .retAddr x :: st))) h rfl rfl
theorem lr_pop_retAddr {x : Nat} (h : Z.1 M pc = some (.pop, a, b, f, v0)) : lx_W Z cal M pc lv (.retAddr x :: st) σ Q ↔ lx_W Z cal M (pc + 1) lv st σ Q := lx_W_a (lv := lv) (st := (.retAddr x :: st)) (r := ((pc + 1), lv, st)) h rfl rfl
theorem lr_dup_x1_ir {x : Int32} {y : Nat} (h : Z.1 M pc = some (.dup_x1, a, b, f, v0)) : lx_W Z cal M pc lv (.int x :: .ref y :: st) σ Q ↔ lx_W Z cal M (pc + 1) lv (.int x :: .ref y :: .int x :: st) σ Q := lx_W_a (lv := lv) (st := (.int x :: .ref y :: st)) (r := ((pc + 1), lv, (.int x :: .ref y :: .int x :: st))) h rfl rfl
theorem lr_dup_x2_iir {x y : Int32} {w : Nat} (h : Z.1 M pc = some (.dup_x2, a, b, f, v0)) : lx_W Z cal M pc lv (.int x :: .int y :: .ref w :: st) σ Q ↔ lx_W Z cal M (pc + 1) lv (.int x :: .int y :: .ref w :: .int x :: st) σ Q := lx_W_a (lv := lv) (st := (.int x :: .int y :: .ref w :: st)) (r := ((pc + 1), lv, (.int x :: .int y :: .ref w :: .int x :: st))) h rfl rfl
theorem lr_if_eq {x : Int32} {off : Int} {t : Nat} (h : Z.1 M pc = some (.ifCond .eq off, a, b, f, v0)) (ht : (pc : Int) + off = (t : Int)) : lx_W Z cal M pc lv (.int x :: st) σ Q ↔ (if x = 0 then lx_W Z cal M t lv st σ Q else lx_W Z cal M (pc + 3) lv st σ Q) := by
  have e : dx_a (Z.2.2.1 M) (.ifCond .eq off) pc lv (.int x :: st) = some (bif decide (x = 0) then t else pc + 3, lv, st) := by
    show dx_jp pc off (fun t' => some (bif dx_c1 .eq x then t' else pc + 3, lv, st)) = _
    rw [dx_jp, if_pos (by omega), show ((pc : Int) + off).toNat = t by omega]
    rfl
  refine (lx_W_a h rfl e).trans ?_
  by_cases hx : x = 0
  · rw [if_pos hx, decide_eq_true hx]
    exact Iff.rfl
  · rw [if_neg hx, decide_eq_false hx]
    exact Iff.rfl
theorem lr_ic_eq {x y : Int32} {off : Int} {t : Nat} (h : Z.1 M pc = some (.if_icmp .eq off, a, b, f, v0)) (ht : (pc : Int) + off = (t : Int)) : lx_W Z cal M pc lv (.int y :: .int x :: st) σ Q ↔ (if x = y then lx_W Z cal M t lv st σ Q else lx_W Z cal M (pc + 3) lv st σ Q) := by
  have e : dx_a (Z.2.2.1 M) (.if_icmp .eq off) pc lv (.int y :: .int x :: st) = some (bif decide (x = y) then t else pc + 3, lv, st) := by
    show dx_jp pc off (fun t' => some (bif dx_c2 .eq x y then t' else pc + 3, lv, st)) = _
    rw [dx_jp, if_pos (by omega), show ((pc : Int) + off).toNat = t by omega]
    rfl
  refine (lx_W_a h rfl e).trans ?_
  by_cases hx : x = y
  · rw [if_pos hx, decide_eq_true hx]
    exact Iff.rfl
  · rw [if_neg hx, decide_eq_false hx]
    exact Iff.rfl
theorem lr_if_ne {x : Int32} {off : Int} {t : Nat} (h : Z.1 M pc = some (.ifCond .ne off, a, b, f, v0)) (ht : (pc : Int) + off = (t : Int)) : lx_W Z cal M pc lv (.int x :: st) σ Q ↔ (if ¬ x = 0 then lx_W Z cal M t lv st σ Q else lx_W Z cal M (pc + 3) lv st σ Q) := by
  have e : dx_a (Z.2.2.1 M) (.ifCond .ne off) pc lv (.int x :: st) = some (bif decide (¬ x = 0) then t else pc + 3, lv, st) := by
    show dx_jp pc off (fun t' => some (bif dx_c1 .ne x then t' else pc + 3, lv, st)) = _
    rw [dx_jp, if_pos (by omega), show ((pc : Int) + off).toNat = t by omega]
    rfl
  refine (lx_W_a h rfl e).trans ?_
  by_cases hx : ¬ x = 0
  · rw [if_pos hx, decide_eq_true hx]
    exact Iff.rfl
  · rw [if_neg hx, decide_eq_false hx]
    exact Iff.rfl
theorem lr_ic_ne {x y : Int32} {off : Int} {t : Nat} (h : Z.1 M pc = some (.if_icmp .ne off, a, b, f, v0)) (ht : (pc : Int) + off = (t : Int)) : lx_W Z cal M pc lv (.int y :: .int x :: st) σ Q ↔ (if ¬ x = y then lx_W Z cal M t lv st σ Q else lx_W Z cal M (pc + 3) lv st σ Q) := by
  have e : dx_a (Z.2.2.1 M) (.if_icmp .ne off) pc lv (.int y :: .int x :: st) = some (bif decide (¬ x = y) then t else pc + 3, lv, st) := by
    show dx_jp pc off (fun t' => some (bif dx_c2 .ne x y then t' else pc + 3, lv, st)) = _
    rw [dx_jp, if_pos (by omega), show ((pc : Int) + off).toNat = t by omega]
    rfl
  refine (lx_W_a h rfl e).trans ?_
  by_cases hx : ¬ x = y
  · rw [if_pos hx, decide_eq_true hx]
    exact Iff.rfl
  · rw [if_neg hx, decide_eq_false hx]
    exact Iff.rfl
theorem lr_if_lt {x : Int32} {off : Int} {t : Nat} (h : Z.1 M pc = some (.ifCond .lt off, a, b, f, v0)) (ht : (pc : Int) + off = (t : Int)) : lx_W Z cal M pc lv (.int x :: st) σ Q ↔ (if x < 0 then lx_W Z cal M t lv st σ Q else lx_W Z cal M (pc + 3) lv st σ Q) := by
  have e : dx_a (Z.2.2.1 M) (.ifCond .lt off) pc lv (.int x :: st) = some (bif decide (x < 0) then t else pc + 3, lv, st) := by
    show dx_jp pc off (fun t' => some (bif dx_c1 .lt x then t' else pc + 3, lv, st)) = _
    rw [dx_jp, if_pos (by omega), show ((pc : Int) + off).toNat = t by omega]
    rfl
  refine (lx_W_a h rfl e).trans ?_
  by_cases hx : x < 0
  · rw [if_pos hx, decide_eq_true hx]
    exact Iff.rfl
  · rw [if_neg hx, decide_eq_false hx]
    exact Iff.rfl
theorem lr_ic_lt {x y : Int32} {off : Int} {t : Nat} (h : Z.1 M pc = some (.if_icmp .lt off, a, b, f, v0)) (ht : (pc : Int) + off = (t : Int)) : lx_W Z cal M pc lv (.int y :: .int x :: st) σ Q ↔ (if x < y then lx_W Z cal M t lv st σ Q else lx_W Z cal M (pc + 3) lv st σ Q) := by
  have e : dx_a (Z.2.2.1 M) (.if_icmp .lt off) pc lv (.int y :: .int x :: st) = some (bif decide (x < y) then t else pc + 3, lv, st) := by
    show dx_jp pc off (fun t' => some (bif dx_c2 .lt x y then t' else pc + 3, lv, st)) = _
    rw [dx_jp, if_pos (by omega), show ((pc : Int) + off).toNat = t by omega]
    rfl
  refine (lx_W_a h rfl e).trans ?_
  by_cases hx : x < y
  · rw [if_pos hx, decide_eq_true hx]
    exact Iff.rfl
  · rw [if_neg hx, decide_eq_false hx]
    exact Iff.rfl
theorem lr_if_ge {x : Int32} {off : Int} {t : Nat} (h : Z.1 M pc = some (.ifCond .ge off, a, b, f, v0)) (ht : (pc : Int) + off = (t : Int)) : lx_W Z cal M pc lv (.int x :: st) σ Q ↔ (if 0 ≤ x then lx_W Z cal M t lv st σ Q else lx_W Z cal M (pc + 3) lv st σ Q) := by
  have e : dx_a (Z.2.2.1 M) (.ifCond .ge off) pc lv (.int x :: st) = some (bif decide (0 ≤ x) then t else pc + 3, lv, st) := by
    show dx_jp pc off (fun t' => some (bif dx_c1 .ge x then t' else pc + 3, lv, st)) = _
    rw [dx_jp, if_pos (by omega), show ((pc : Int) + off).toNat = t by omega]
    rfl
  refine (lx_W_a h rfl e).trans ?_
  by_cases hx : 0 ≤ x
  · rw [if_pos hx, decide_eq_true hx]
    exact Iff.rfl
  · rw [if_neg hx, decide_eq_false hx]
    exact Iff.rfl
theorem lr_ic_ge {x y : Int32} {off : Int} {t : Nat} (h : Z.1 M pc = some (.if_icmp .ge off, a, b, f, v0)) (ht : (pc : Int) + off = (t : Int)) : lx_W Z cal M pc lv (.int y :: .int x :: st) σ Q ↔ (if y ≤ x then lx_W Z cal M t lv st σ Q else lx_W Z cal M (pc + 3) lv st σ Q) := by
  have e : dx_a (Z.2.2.1 M) (.if_icmp .ge off) pc lv (.int y :: .int x :: st) = some (bif decide (y ≤ x) then t else pc + 3, lv, st) := by
    show dx_jp pc off (fun t' => some (bif dx_c2 .ge x y then t' else pc + 3, lv, st)) = _
    rw [dx_jp, if_pos (by omega), show ((pc : Int) + off).toNat = t by omega]
    rfl
  refine (lx_W_a h rfl e).trans ?_
  by_cases hx : y ≤ x
  · rw [if_pos hx, decide_eq_true hx]
    exact Iff.rfl
  · rw [if_neg hx, decide_eq_false hx]
    exact Iff.rfl
theorem lr_if_gt {x : Int32} {off : Int} {t : Nat} (h : Z.1 M pc = some (.ifCond .gt off, a, b, f, v0)) (ht : (pc : Int) + off = (t : Int)) : lx_W Z cal M pc lv (.int x :: st) σ Q ↔ (if 0 < x then lx_W Z cal M t lv st σ Q else lx_W Z cal M (pc + 3) lv st σ Q) := by
  have e : dx_a (Z.2.2.1 M) (.ifCond .gt off) pc lv (.int x :: st) = some (bif decide (0 < x) then t else pc + 3, lv, st) := by
    show dx_jp pc off (fun t' => some (bif dx_c1 .gt x then t' else pc + 3, lv, st)) = _
    rw [dx_jp, if_pos (by omega), show ((pc : Int) + off).toNat = t by omega]
    rfl
  refine (lx_W_a h rfl e).trans ?_
  by_cases hx : 0 < x
  · rw [if_pos hx, decide_eq_true hx]
    exact Iff.rfl
  · rw [if_neg hx, decide_eq_false hx]
    exact Iff.rfl
theorem lr_ic_gt {x y : Int32} {off : Int} {t : Nat} (h : Z.1 M pc = some (.if_icmp .gt off, a, b, f, v0)) (ht : (pc : Int) + off = (t : Int)) : lx_W Z cal M pc lv (.int y :: .int x :: st) σ Q ↔ (if y < x then lx_W Z cal M t lv st σ Q else lx_W Z cal M (pc + 3) lv st σ Q) := by
  have e : dx_a (Z.2.2.1 M) (.if_icmp .gt off) pc lv (.int y :: .int x :: st) = some (bif decide (y < x) then t else pc + 3, lv, st) := by
    show dx_jp pc off (fun t' => some (bif dx_c2 .gt x y then t' else pc + 3, lv, st)) = _
    rw [dx_jp, if_pos (by omega), show ((pc : Int) + off).toNat = t by omega]
    rfl
  refine (lx_W_a h rfl e).trans ?_
  by_cases hx : y < x
  · rw [if_pos hx, decide_eq_true hx]
    exact Iff.rfl
  · rw [if_neg hx, decide_eq_false hx]
    exact Iff.rfl
theorem lr_if_le {x : Int32} {off : Int} {t : Nat} (h : Z.1 M pc = some (.ifCond .le off, a, b, f, v0)) (ht : (pc : Int) + off = (t : Int)) : lx_W Z cal M pc lv (.int x :: st) σ Q ↔ (if x ≤ 0 then lx_W Z cal M t lv st σ Q else lx_W Z cal M (pc + 3) lv st σ Q) := by
  have e : dx_a (Z.2.2.1 M) (.ifCond .le off) pc lv (.int x :: st) = some (bif decide (x ≤ 0) then t else pc + 3, lv, st) := by
    show dx_jp pc off (fun t' => some (bif dx_c1 .le x then t' else pc + 3, lv, st)) = _
    rw [dx_jp, if_pos (by omega), show ((pc : Int) + off).toNat = t by omega]
    rfl
  refine (lx_W_a h rfl e).trans ?_
  by_cases hx : x ≤ 0
  · rw [if_pos hx, decide_eq_true hx]
    exact Iff.rfl
  · rw [if_neg hx, decide_eq_false hx]
    exact Iff.rfl
theorem lr_ic_le {x y : Int32} {off : Int} {t : Nat} (h : Z.1 M pc = some (.if_icmp .le off, a, b, f, v0)) (ht : (pc : Int) + off = (t : Int)) : lx_W Z cal M pc lv (.int y :: .int x :: st) σ Q ↔ (if x ≤ y then lx_W Z cal M t lv st σ Q else lx_W Z cal M (pc + 3) lv st σ Q) := by
  have e : dx_a (Z.2.2.1 M) (.if_icmp .le off) pc lv (.int y :: .int x :: st) = some (bif decide (x ≤ y) then t else pc + 3, lv, st) := by
    show dx_jp pc off (fun t' => some (bif dx_c2 .le x y then t' else pc + 3, lv, st)) = _
    rw [dx_jp, if_pos (by omega), show ((pc : Int) + off).toNat = t by omega]
    rfl
  refine (lx_W_a h rfl e).trans ?_
  by_cases hx : x ≤ y
  · rw [if_pos hx, decide_eq_true hx]
    exact Iff.rfl
  · rw [if_neg hx, decide_eq_false hx]
    exact Iff.rfl
theorem lr_goto {off : Int} {t : Nat} (h : Z.1 M pc = some (.goto off, a, b, f, v0)) (ht : (pc : Int) + off = (t : Int)) : lx_W Z cal M pc lv st σ Q ↔ lx_W Z cal M t lv st σ Q :=
  lx_W_a (lv := lv) (st := st) (r := (t, lv, st)) h rfl (by
    show dx_jp pc off (fun t' => some (t', lv, st)) = _
    rw [dx_jp, if_pos (by omega), show ((pc : Int) + off).toNat = t by omega])
theorem lr_sw {i : Instr} {x : Int32} {t : Nat} (h : Z.1 M pc = some (i, a, b, f, v0)) (hk : dx_kd (i, a, b, f, v0) = 0) (e : dx_a (Z.2.2.1 M) i pc lv (.int x :: st) = some (t, lv, st)) : lx_W Z cal M pc lv (.int x :: st) σ Q ↔ lx_W Z cal M t lv st σ Q := lx_W_a h hk e
theorem lr_getfield {i : Nat} {w : Value} (h : Z.1 M pc = some (.getfield i, a, b, f, v0)) : lx_W Z cal M pc lv (w :: st) σ Q ↔ wO (dx_gf Z.2.1 σ w a b) (fun y => lx_W Z cal M (pc + 3) lv (y :: st) σ Q) := by
  have e : dx_b Z.2.1 (.getfield i, a, b, f, v0) pc lv (w :: st) σ = dx_ob (dx_gf Z.2.1 σ w a b) fun y => some (pc + 3, lv, y :: st) := rfl
  cases hl : dx_gf Z.2.1 σ w a b with
  | none =>
    rw [hl] at e
    exact ⟨fun z => lr_b0 h rfl e z, False.elim⟩
  | some v =>
    rw [hl] at e
    exact lx_W_b h rfl e
theorem lr_iaload {w : Value} {y : Int32} (h : Z.1 M pc = some (.iaload, a, b, f, v0)) : lx_W Z cal M pc lv (.int y :: w :: st) σ Q ↔ wO (dx_ei Z.2.1 σ 0 w y) (fun u => lx_W Z cal M (pc + 1) lv (.int u :: st) σ Q) := by
  have e : dx_b Z.2.1 (.iaload, a, b, f, v0) pc lv (.int y :: w :: st) σ = dx_ob (dx_ei Z.2.1 σ 0 w y) fun u => some (pc + 1, lv, .int u :: st) := rfl
  cases hl : dx_ei Z.2.1 σ 0 w y with
  | none =>
    rw [hl] at e
    exact ⟨fun z => lr_b0 h rfl e z, False.elim⟩
  | some v =>
    rw [hl] at e
    exact lx_W_b h rfl e
theorem lr_caload {w : Value} {y : Int32} (h : Z.1 M pc = some (.caload, a, b, f, v0)) : lx_W Z cal M pc lv (.int y :: w :: st) σ Q ↔ wO (dx_ei Z.2.1 σ 2 w y) (fun u => lx_W Z cal M (pc + 1) lv (.int u :: st) σ Q) := by
  have e : dx_b Z.2.1 (.caload, a, b, f, v0) pc lv (.int y :: w :: st) σ = dx_ob (dx_ei Z.2.1 σ 2 w y) fun u => some (pc + 1, lv, .int u :: st) := rfl
  cases hl : dx_ei Z.2.1 σ 2 w y with
  | none =>
    rw [hl] at e
    exact ⟨fun z => lr_b0 h rfl e z, False.elim⟩
  | some v =>
    rw [hl] at e
    exact lx_W_b h rfl e
theorem lr_baload {w : Value} {y : Int32} (h : Z.1 M pc = some (.baload, a, b, f, v0)) : lx_W Z cal M pc lv (.int y :: w :: st) σ Q ↔ wO (dx_ei Z.2.1 σ 3 w y) (fun u => lx_W Z cal M (pc + 1) lv (.int u :: st) σ Q) := by
  have e : dx_b Z.2.1 (.baload, a, b, f, v0) pc lv (.int y :: w :: st) σ = dx_ob (dx_ei Z.2.1 σ 3 w y) fun u => some (pc + 1, lv, .int u :: st) := rfl
  cases hl : dx_ei Z.2.1 σ 3 w y with
  | none =>
    rw [hl] at e
    exact ⟨fun z => lr_b0 h rfl e z, False.elim⟩
  | some v =>
    rw [hl] at e
    exact lx_W_b h rfl e
theorem lr_laload {w : Value} {y : Int32} (h : Z.1 M pc = some (.laload, a, b, f, v0)) : lx_W Z cal M pc lv (.int y :: w :: st) σ Q ↔ wO (dx_el Z.2.1 σ w y) (fun u => lx_W Z cal M (pc + 1) lv (.long u :: st) σ Q) := by
  have e : dx_b Z.2.1 (.laload, a, b, f, v0) pc lv (.int y :: w :: st) σ = dx_ob (dx_el Z.2.1 σ w y) fun u => some (pc + 1, lv, .long u :: st) := rfl
  cases hl : dx_el Z.2.1 σ w y with
  | none =>
    rw [hl] at e
    exact ⟨fun z => lr_b0 h rfl e z, False.elim⟩
  | some v =>
    rw [hl] at e
    exact lx_W_b h rfl e
theorem lr_arraylength {w : Value} (h : Z.1 M pc = some (.arraylength, a, b, f, v0)) : lx_W Z cal M pc lv (w :: st) σ Q ↔ wO (dx_in Z.2.1 σ w) (fun u => lx_W Z cal M (pc + 1) lv (.int u :: st) σ Q) := by
  have e : dx_b Z.2.1 (.arraylength, a, b, f, v0) pc lv (w :: st) σ = dx_ob (dx_in Z.2.1 σ w) fun u => some (pc + 1, lv, .int u :: st) := rfl
  cases hl : dx_in Z.2.1 σ w with
  | none =>
    rw [hl] at e
    exact ⟨fun z => lr_b0 h rfl e z, False.elim⟩
  | some v =>
    rw [hl] at e
    exact lx_W_b h rfl e
theorem lr_getstatic {i : Nat} (h : Z.1 M pc = some (.getstatic i, a, b, f, v0)) : lx_W Z cal M pc lv st σ Q ↔ lx_W Z cal M (pc + 3) lv (v0 :: st) σ Q := lx_W_b h rfl rfl
theorem lr_ldc {i : Nat} (h : Z.1 M pc = some (.ldc i, a, b, f, v0)) : lx_W Z cal M pc lv st σ Q ↔ lx_W Z cal M (pc + 2) lv (v0 :: st) σ Q := lx_W_b h rfl rfl
theorem lr_ldc_w {i : Nat} (h : Z.1 M pc = some (.ldc_w i, a, b, f, v0)) : lx_W Z cal M pc lv st σ Q ↔ lx_W Z cal M (pc + 3) lv (v0 :: st) σ Q := lx_W_b h rfl rfl
theorem lr_ldc2_w {i : Nat} (h : Z.1 M pc = some (.ldc2_w i, a, b, f, v0)) : lx_W Z cal M pc lv st σ Q ↔ lx_W Z cal M (pc + 3) lv (v0 :: st) σ Q := lx_W_b h rfl rfl
theorem lr_putfield {i : Nat} {u w : Value} (h : Z.1 M pc = some (.putfield i, a, b, f, v0)) : lx_W Z cal M pc lv (u :: w :: st) σ Q ↔ wO (dx_pf σ w a b (f % 10) u) (fun σ1 => lx_W Z cal M (pc + 3) lv st σ1 Q) := by
  have e : dx_c (.putfield i, a, b, f, v0) pc lv (u :: w :: st) σ = dx_ob (dx_pf σ w a b (f % 10) u) fun σ1 => some ((pc + 3, lv, st), σ1) := rfl
  cases hl : dx_pf σ w a b (f % 10) u with
  | none =>
    rw [hl] at e
    exact ⟨fun z => lr_c0 h rfl e z, False.elim⟩
  | some v =>
    rw [hl] at e
    exact lx_W_c h rfl e
theorem lr_iastore {w : Value} {y : Int32} {u : Int32} (h : Z.1 M pc = some (.iastore, a, b, f, v0)) : lx_W Z cal M pc lv (.int u :: .int y :: w :: st) σ Q ↔ wO (dx_pi σ 0 w y u) (fun σ1 => lx_W Z cal M (pc + 1) lv st σ1 Q) := by
  have e : dx_c (.iastore, a, b, f, v0) pc lv (.int u :: .int y :: w :: st) σ = dx_ob (dx_pi σ 0 w y u) fun σ1 => some ((pc + 1, lv, st), σ1) := rfl
  cases hl : dx_pi σ 0 w y u with
  | none =>
    rw [hl] at e
    exact ⟨fun z => lr_c0 h rfl e z, False.elim⟩
  | some v =>
    rw [hl] at e
    exact lx_W_c h rfl e
theorem lr_castore {w : Value} {y : Int32} {u : Int32} (h : Z.1 M pc = some (.castore, a, b, f, v0)) : lx_W Z cal M pc lv (.int u :: .int y :: w :: st) σ Q ↔ wO (dx_pi σ 2 w y (vp_nar .char u)) (fun σ1 => lx_W Z cal M (pc + 1) lv st σ1 Q) := by
  have e : dx_c (.castore, a, b, f, v0) pc lv (.int u :: .int y :: w :: st) σ = dx_ob (dx_pi σ 2 w y (vp_nar .char u)) fun σ1 => some ((pc + 1, lv, st), σ1) := rfl
  cases hl : dx_pi σ 2 w y (vp_nar .char u) with
  | none =>
    rw [hl] at e
    exact ⟨fun z => lr_c0 h rfl e z, False.elim⟩
  | some v =>
    rw [hl] at e
    exact lx_W_c h rfl e
theorem lr_lastore {w : Value} {y : Int32} {u : Int64} (h : Z.1 M pc = some (.lastore, a, b, f, v0)) : lx_W Z cal M pc lv (.long u :: .int y :: w :: st) σ Q ↔ wO (dx_pl σ w y u) (fun σ1 => lx_W Z cal M (pc + 1) lv st σ1 Q) := by
  have e : dx_c (.lastore, a, b, f, v0) pc lv (.long u :: .int y :: w :: st) σ = dx_ob (dx_pl σ w y u) fun σ1 => some ((pc + 1, lv, st), σ1) := rfl
  cases hl : dx_pl σ w y u with
  | none =>
    rw [hl] at e
    exact ⟨fun z => lr_c0 h rfl e z, False.elim⟩
  | some v =>
    rw [hl] at e
    exact lx_W_c h rfl e
theorem lr_new {i : Nat} (h : Z.1 M pc = some (.new i, a, b, 0, v0)) : lx_W Z cal M pc lv st σ Q ↔ lx_W Z cal M (pc + 3) lv (.ref σ.length :: st) (σ ++ [.inr (a, Z.2.2.2.1 a)]) Q := lx_W_n h rfl rfl
theorem lr_throw {i : Nat} (h : Z.1 M pc = some (.new i, a, b, 1, v0)) (hc : dx_ct st ≤ 8) : lx_W Z cal M pc lv st σ Q ↔ Q (.inr σ.length) (σ ++ [.inr (a, [])]) := lx_W_t h rfl hc
theorem lr_newarray {t : ArrayType} {n : Int32} {y : dx_E} (h : Z.1 M pc = some (.newarray t, a, b, f, v0)) (hn : ¬ (n < 0 ∨ 1000000 < n.toNatClampNeg)) (hy : dx_na t n.toNatClampNeg = some y) : lx_W Z cal M pc lv (.int n :: st) σ Q ↔ lx_W Z cal M (pc + 2) lv (.ref σ.length :: st) (σ ++ [y]) Q :=
  lx_W_n (r := ((pc + 2, lv, .ref σ.length :: st), y)) h rfl (by
    show (if n < 0 ∨ 1000000 < n.toNatClampNeg then none else dx_ob (dx_na t n.toNatClampNeg) _) = _
    rw [if_neg hn, hy]
    rfl)
theorem lr_ireturn {x : Int32} {t : FieldType} (h : Z.1 M pc = some (.ireturn, a, b, f, v0)) (ht : Z.2.2.2.2.2 M = some t) (hn : narrow t (.int x) = .int x) : lx_W Z cal M pc lv [.int x] σ Q ↔ Q (.inl (some (.int x))) σ := lx_W_r h rfl (by
  show dx_rt (Z.2.2.2.2.2 M) .ireturn [.int x] = _
  rw [ht]
  exact if_pos hn)
theorem lr_lreturn {x : Int64} (h : Z.1 M pc = some (.lreturn, a, b, f, v0)) (ht : Z.2.2.2.2.2 M = some .long) : lx_W Z cal M pc lv [.long x] σ Q ↔ Q (.inl (some (.long x))) σ := lx_W_r h rfl (by
  show dx_rt (Z.2.2.2.2.2 M) .lreturn [.long x] = _
  rw [ht]
  rfl)
theorem lr_return (h : Z.1 M pc = some (.return_, a, b, f, v0)) (ht : Z.2.2.2.2.2 M = none) : lx_W Z cal M pc lv [] σ Q ↔ Q (.inl none) σ := lx_W_r h rfl (by
  show dx_rt (Z.2.2.2.2.2 M) .return_ [] = _
  rw [ht]
  rfl)
theorem lr_objinit {i : Nat} {w : Nat} (h : Z.1 M pc = some (.invokespecial i, a, b, 10, v0)) (hc : dx_ct st ≤ 8) : lx_W Z cal M pc lv (.ref w :: st) σ Q ↔ lx_W Z cal M (pc + 3) lv st σ Q := lx_W_o h rfl hc
/-- behind a call -/
def lx_K (Z : dx_Z) (cal : Nat → List Value → dx_S → dx_O → dx_S → Prop) (M pc : Nat) (lv : dx_L) (st : List Value) (Q : dx_O → dx_S → Prop) : dx_O → dx_S → Prop := fun o σ => match o with
  | .inl (some v) => lx_W Z cal M pc lv (v :: st) σ Q
  | .inl none => lx_W Z cal M pc lv st σ Q
  | .inr y => Q (.inr y) σ
theorem lr_call {i : Instr} {av : List Value} (h : Z.1 M pc = some (i, a, av.length, f, v0)) (hk : dx_kd (i, a, av.length, f, v0) = 5) (hc : dx_ct st ≤ 8) (hr : dx_rv Z.2.1 σ (i, a, av.length, f, v0) av = true) : lx_W Z cal M pc lv (av.reverse ++ st) σ Q ↔ lx_M cal a av σ (lx_K Z cal M (pc + 3) lv st Q) := by
  have e : dx_sp Z.2.1 σ (i, a, av.length, f, v0) (av.reverse ++ st) = some (av, st) := by
    have e1 : (av.reverse ++ st).take av.length = av.reverse := by rw [List.take_append_of_le_length (by simp), List.take_of_length_le (by simp)]
    have e2 : (av.reverse ++ st).drop av.length = st := by rw [List.drop_append_of_le_length (by simp), List.drop_of_length_le (by simp), List.nil_append]
    unfold dx_sp
    dsimp only
    rw [e1, e2, List.reverse_reverse, if_pos ⟨by simp, hc, hr⟩]
  refine (lx_W_k h hk e).trans ?_
  constructor <;> intro g <;> refine lx_M_mono g ?_
  · intro o σ' z
    cases o with
    | inl v => cases v <;> exact z
    | inr y => exact z
  · intro o σ' z
    cases o with
    | inl v => cases v <;> exact z
    | inr y => exact z
end LRL
section LRC
variable {Z : dx_Z} {cal : Nat → List Value → dx_S → dx_O → dx_S → Prop} {M pc : Nat} {lv : dx_L} {st : List Value} {σ : dx_S} {Q : dx_O → dx_S → Prop} {a b f : Nat} {v0 : Value}
theorem lc_iff {P A B : Prop} (h1 : P → (A ↔ B)) (h2 : ¬ P → ¬ A) : A ↔ P ∧ B := by
  by_cases hP : P
  · exact (h1 hP).trans ⟨fun b => ⟨hP, b⟩, fun b => b.2⟩
  · exact ⟨fun x => absurd x (h2 hP), fun b => absurd b.1 hP⟩
theorem lc_idiv {x y : Int32} (h : Z.1 M pc = some (.idiv, a, b, f, v0)) : lx_W Z cal M pc lv (.int y :: .int x :: st) σ Q ↔ ¬ y = 0 ∧ lx_W Z cal M (pc + 1) lv (.int (x / y) :: st) σ Q :=
  lc_iff (fun hy => lr_idiv h hy) (fun hy => lr_a0 h rfl (if_pos (Classical.not_not.mp hy)))
theorem lc_irem {x y : Int32} (h : Z.1 M pc = some (.irem, a, b, f, v0)) : lx_W Z cal M pc lv (.int y :: .int x :: st) σ Q ↔ ¬ y = 0 ∧ lx_W Z cal M (pc + 1) lv (.int (x - x / y * y) :: st) σ Q :=
  lc_iff (fun hy => lr_irem h hy) (fun hy => lr_a0 h rfl (if_pos (Classical.not_not.mp hy)))
theorem lc_ldiv {x y : Int64} (h : Z.1 M pc = some (.ldiv, a, b, f, v0)) : lx_W Z cal M pc lv (.long y :: .long x :: st) σ Q ↔ ¬ y = 0 ∧ lx_W Z cal M (pc + 1) lv (.long (x / y) :: st) σ Q :=
  lc_iff (fun hy => lr_ldiv h hy) (fun hy => lr_a0 h rfl (if_pos (Classical.not_not.mp hy)))
theorem lc_lrem {x y : Int64} (h : Z.1 M pc = some (.lrem, a, b, f, v0)) : lx_W Z cal M pc lv (.long y :: .long x :: st) σ Q ↔ ¬ y = 0 ∧ lx_W Z cal M (pc + 1) lv (.long (x - x / y * y) :: st) σ Q :=
  lc_iff (fun hy => lr_lrem h hy) (fun hy => lr_a0 h rfl (if_pos (Classical.not_not.mp hy)))
theorem lc_throw {i : Nat} (h : Z.1 M pc = some (.new i, a, b, 1, v0)) : lx_W Z cal M pc lv st σ Q ↔ dx_ct st ≤ 8 ∧ Q (.inr σ.length) (σ ++ [.inr (a, [])]) :=
  lc_iff (fun hc => lr_throw h hc) (fun hc => lr_no h (by
    rintro n o σ' ⟨y, e, g⟩
    cases h.symm.trans e
    exact hc g.1))
theorem lc_objinit {i : Nat} {w : Nat} (h : Z.1 M pc = some (.invokespecial i, a, b, 10, v0)) : lx_W Z cal M pc lv (.ref w :: st) σ Q ↔ dx_ct st ≤ 8 ∧ lx_W Z cal M (pc + 3) lv st σ Q :=
  lc_iff (fun hc => lr_objinit h hc) (fun hc => lr_no h (by
    rintro n o σ' ⟨y, e, g⟩
    cases h.symm.trans e
    obtain ⟨a', r', e', h8, -⟩ := g
    cases e'
    exact hc h8))
theorem lc_ireturn {x : Int32} {t : FieldType} (h : Z.1 M pc = some (.ireturn, a, b, f, v0)) (ht : Z.2.2.2.2.2 M = some t) : lx_W Z cal M pc lv [.int x] σ Q ↔ narrow t (.int x) = .int x ∧ Q (.inl (some (.int x))) σ :=
  lc_iff (fun hn => lr_ireturn h ht hn) (fun hn => lr_no h (by
    rintro n o σ' ⟨y, e, g⟩
    cases h.symm.trans e
    obtain ⟨v, e', -⟩ := g
    rw [ht] at e'
    have e2 : (if narrow t (.int x) = .int x then some (some (Value.int x)) else none) = some v := e'
    rw [if_neg hn] at e2
    cases e2))
theorem lc_call {i : Instr} {av : List Value} (h : Z.1 M pc = some (i, a, av.length, f, v0)) (hk : dx_kd (i, a, av.length, f, v0) = 5) : lx_W Z cal M pc lv (av.reverse ++ st) σ Q ↔ (dx_ct st ≤ 8 ∧ dx_rv Z.2.1 σ (i, a, av.length, f, v0) av = true) ∧ lx_M cal a av σ (lx_K Z cal M (pc + 3) lv st Q) :=
  lc_iff (fun hc => lr_call h hk hc.1 hc.2) (fun hc => lr_k0 h hk (by
    have e1 : (av.reverse ++ st).take av.length = av.reverse := by rw [List.take_append_of_le_length (by simp), List.take_of_length_le (by simp)]
    have e2 : (av.reverse ++ st).drop av.length = st := by rw [List.drop_append_of_le_length (by simp), List.drop_of_length_le (by simp), List.nil_append]
    unfold dx_sp
    dsimp only
    rw [e1, e2, List.reverse_reverse, if_neg (fun z => hc z.2)]))
theorem lc_callv {k : Nat} {w : Value} {av : List Value} (h : Z.1 M pc = some (.invokevirtual k, a, av.length + 1, f, v0)) : lx_W Z cal M pc lv (av.reverse ++ w :: st) σ Q ↔ (dx_ct st ≤ 8 ∧ dx_ci Z.2.1 σ w = some f) ∧ lx_M cal a (w :: av) σ (lx_K Z cal M (pc + 3) lv st Q) := by
  have e : av.reverse ++ w :: st = (w :: av).reverse ++ st := by simp
  rw [e]
  refine (lc_call (av := w :: av) h rfl).trans ?_
  rw [show (dx_rv Z.2.1 σ (.invokevirtual k, a, (w :: av).length, f, v0) (w :: av) = true) = (dx_ci Z.2.1 σ w = some f) from by
    show (decide (dx_ci Z.2.1 σ w = some f) = true) = _
    rw [decide_eq_true_eq]]
theorem lc_calls {k : Nat} {av : List Value} (h : Z.1 M pc = some (.invokestatic k, a, av.length, f, v0)) : lx_W Z cal M pc lv (av.reverse ++ st) σ Q ↔ dx_ct st ≤ 8 ∧ lx_M cal a av σ (lx_K Z cal M (pc + 3) lv st Q) :=
  (lc_call h rfl).trans ⟨fun z => ⟨z.1.1, z.2⟩, fun z => ⟨⟨z.1, rfl⟩, z.2⟩⟩
theorem lc_calli {k : Nat} {w : Nat} {av : List Value} (h : Z.1 M pc = some (.invokespecial k, a, av.length + 1, 0, v0)) : lx_W Z cal M pc lv (av.reverse ++ .ref w :: st) σ Q ↔ dx_ct st ≤ 8 ∧ lx_M cal a (.ref w :: av) σ (lx_K Z cal M (pc + 3) lv st Q) := by
  have e : av.reverse ++ .ref w :: st = (.ref w :: av).reverse ++ st := by simp
  rw [e]
  exact (lc_call (av := .ref w :: av) h rfl).trans ⟨fun z => ⟨z.1.1, z.2⟩, fun z => ⟨⟨z.1, rfl⟩, z.2⟩⟩
theorem lK_v {v : Value} : lx_K Z cal M pc lv st Q (.inl (some v)) σ = lx_W Z cal M pc lv (v :: st) σ Q := rfl
theorem lK_n : lx_K Z cal M pc lv st Q (.inl none) σ = lx_W Z cal M pc lv st σ Q := rfl
theorem lK_t {y : Nat} : lx_K Z cal M pc lv st Q (.inr y) σ = Q (.inr y) σ := rfl
end LRC
