/-! A small machine of its own: cells by number, values over them; its pure instructions, and that the real machine follows them. -/
abbrev dx_E : Type := (Nat × vp_A) ⊕ (Nat × List Value)
abbrev dx_S : Type := List dx_E
abbrev dx_O : Type := Option Value ⊕ Nat
abbrev dx_L : Type := List (Nat × Value)
abbrev dx_I : Type := Instr × Nat × Nat × Nat × Value
abbrev dx_R : Type := Nat × dx_L × List Value
/-- a value of the small machine as one of the real one: cells by ad, constants by kd -/
def dx_v (kd : Nat → Option Nat) (ad : Nat → Nat) : Value → Value
  | .ref i => .ref (ad i)
  | .retAddr i => va_rf (kd i)
  | .int x => .int x
  | .long x => .long x
  | .float x => .float x
  | .double x => .double x
  | .null => .null
theorem dx_v_cat (kd : Nat → Option Nat) (ad : Nat → Nat) (v : Value) : (dx_v kd ad v).category = v.category := by
  cases v with
  | retAddr i =>
    show (va_rf (kd i)).category = 1
    cases kd i <;> rfl
  | _ => rfl
def dx_vl (kd : Nat → Option Nat) (ad : Nat → Nat) (l : dx_L) : dx_L := l.map (fun q => (q.1, dx_v kd ad q.2))
def dx_lk : dx_L → Nat → Option Value
  | [], _ => none
  | q :: l, i => if q.1 = i then some q.2 else dx_lk l i
theorem dx_lk_mem {l : dx_L} {i : Nat} {v : Value} (h : dx_lk l i = some v) : (i, v) ∈ l := by
  induction l with
  | nil => cases h
  | cons q l ih =>
    unfold dx_lk at h
    split at h
    · rename_i hq
      cases h
      subst hq
      exact List.mem_cons_self
    · exact List.mem_cons_of_mem _ (ih h)
theorem dx_lk_at {kd : Nat → Option Nat} {ad : Nat → Nat} {ls : Array Slot} {nL : Nat} {l : dx_L} {i : Nat} {v : Value} (hl : lv_has ls nL (dx_vl kd ad l)) (h : dx_lk l i = some v) : ls[i]? = some (.val (dx_v kd ad v)) :=
  hl.2.2 (i, dx_v kd ad v) (List.mem_map.mpr ⟨(i, v), dx_lk_mem h, rfl⟩)
def dx_s1 (l : dx_L) (i : Nat) (v : Value) : dx_L := (i, v) :: l.filter (fun q => !(q.1 == i) && !(q.1 + 1 == i && q.2.category == 2))
def dx_s2 (l : dx_L) (i : Nat) (v : Value) : dx_L := (i, v) :: l.filter (fun q => !(q.1 == i) && (!(q.1 == i + 1) && !(q.1 + 1 == i && q.2.category == 2)))
theorem dx_s1_v (kd : Nat → Option Nat) (ad : Nat → Nat) (l : dx_L) (i : Nat) (v : Value) : (i, dx_v kd ad v) :: (dx_vl kd ad l).filter (fun q => !(q.1 == i) && !(q.1 + 1 == i && q.2.category == 2)) = dx_vl kd ad (dx_s1 l i v) := by
  simp only [dx_vl, dx_s1, List.map_cons, List.filter_map, Function.comp_def, dx_v_cat]
theorem dx_s2_v (kd : Nat → Option Nat) (ad : Nat → Nat) (l : dx_L) (i : Nat) (v : Value) : (i, dx_v kd ad v) :: (dx_vl kd ad l).filter (fun q => !(q.1 == i) && (!(q.1 == i + 1) && !(q.1 + 1 == i && q.2.category == 2))) = dx_vl kd ad (dx_s2 l i v) := by
  simp only [dx_vl, dx_s2, List.map_cons, List.filter_map, Function.comp_def, dx_v_cat]
def dx_i1 {α : Type} (st : List Value) (k : Int32 → List Value → Option α) : Option α := match st with
  | .int x :: r => k x r
  | _ => none
def dx_i2 {α : Type} (st : List Value) (k : Int32 → Int32 → List Value → Option α) : Option α := match st with
  | .int y :: .int x :: r => k x y r
  | _ => none
def dx_l1 {α : Type} (st : List Value) (k : Int64 → List Value → Option α) : Option α := match st with
  | .long x :: r => k x r
  | _ => none
def dx_l2 {α : Type} (st : List Value) (k : Int64 → Int64 → List Value → Option α) : Option α := match st with
  | .long y :: .long x :: r => k x y r
  | _ => none
def dx_li {α : Type} (st : List Value) (k : Int64 → Int32 → List Value → Option α) : Option α := match st with
  | .int y :: .long x :: r => k x y r
  | _ => none
def dx_v1 {α : Type} (st : List Value) (k : Value → List Value → Option α) : Option α := match st with
  | v :: r => k v r
  | _ => none
def dx_v2 {α : Type} (st : List Value) (k : Value → Value → List Value → Option α) : Option α := match st with
  | v :: w :: r => k v w r
  | _ => none
def dx_v3 {α : Type} (st : List Value) (k : Value → Value → Value → List Value → Option α) : Option α := match st with
  | v :: w :: u :: r => k v w u r
  | _ => none
theorem dx_i1_e {α : Type} {st : List Value} {k : Int32 → List Value → Option α} {z : α} (h : dx_i1 st k = some z) : ∃ x r, st = .int x :: r ∧ k x r = some z := by
  unfold dx_i1 at h
  split at h
  · exact ⟨_, _, rfl, h⟩
  · cases h
theorem dx_i2_e {α : Type} {st : List Value} {k : Int32 → Int32 → List Value → Option α} {z : α} (h : dx_i2 st k = some z) : ∃ x y r, st = .int y :: .int x :: r ∧ k x y r = some z := by
  unfold dx_i2 at h
  split at h
  · exact ⟨_, _, _, rfl, h⟩
  · cases h
theorem dx_l1_e {α : Type} {st : List Value} {k : Int64 → List Value → Option α} {z : α} (h : dx_l1 st k = some z) : ∃ x r, st = .long x :: r ∧ k x r = some z := by
  unfold dx_l1 at h
  split at h
  · exact ⟨_, _, rfl, h⟩
  · cases h
theorem dx_l2_e {α : Type} {st : List Value} {k : Int64 → Int64 → List Value → Option α} {z : α} (h : dx_l2 st k = some z) : ∃ x y r, st = .long y :: .long x :: r ∧ k x y r = some z := by
  unfold dx_l2 at h
  split at h
  · exact ⟨_, _, _, rfl, h⟩
  · cases h
theorem dx_li_e {α : Type} {st : List Value} {k : Int64 → Int32 → List Value → Option α} {z : α} (h : dx_li st k = some z) : ∃ x y r, st = .int y :: .long x :: r ∧ k x y r = some z := by
  unfold dx_li at h
  split at h
  · exact ⟨_, _, _, rfl, h⟩
  · cases h
theorem dx_v1_e {α : Type} {st : List Value} {k : Value → List Value → Option α} {z : α} (h : dx_v1 st k = some z) : ∃ v r, st = v :: r ∧ k v r = some z := by
  unfold dx_v1 at h
  split at h
  · exact ⟨_, _, rfl, h⟩
  · cases h
theorem dx_v2_e {α : Type} {st : List Value} {k : Value → Value → List Value → Option α} {z : α} (h : dx_v2 st k = some z) : ∃ v w r, st = v :: w :: r ∧ k v w r = some z := by
  unfold dx_v2 at h
  split at h
  · exact ⟨_, _, _, rfl, h⟩
  · cases h
theorem dx_v3_e {α : Type} {st : List Value} {k : Value → Value → Value → List Value → Option α} {z : α} (h : dx_v3 st k = some z) : ∃ v w u r, st = v :: w :: u :: r ∧ k v w u r = some z := by
  unfold dx_v3 at h
  split at h
  · exact ⟨_, _, _, _, rfl, h⟩
  · cases h
/-- a jump: to where, if that is no place before the first -/
def dx_jp {α : Type} (pc : Nat) (off : Int) (k : Nat → Option α) : Option α := if 0 ≤ (pc : Int) + off then k ((pc : Int) + off).toNat else none
theorem dx_jp_e {α : Type} {pc : Nat} {off : Int} {k : Nat → Option α} {z : α} (h : dx_jp pc off k = some z) : ∃ t : Nat, (pc : Int) + off = (t : Int) ∧ k t = some z := by
  unfold dx_jp at h
  split at h
  · rename_i h0
    exact ⟨_, by omega, h⟩
  · cases h
def dx_c1 (cd : Jvm.ClassFile.Cond) (x : Int32) : Bool := match cd with
  | .eq => decide (x = 0)
  | .ne => decide (¬ x = 0)
  | .lt => decide (x < 0)
  | .ge => decide (0 ≤ x)
  | .gt => decide (0 < x)
  | .le => decide (x ≤ 0)
def dx_c2 (cd : Jvm.ClassFile.Cond) (x y : Int32) : Bool := match cd with
  | .eq => decide (x = y)
  | .ne => decide (¬ x = y)
  | .lt => decide (x < y)
  | .ge => decide (y ≤ x)
  | .gt => decide (y < x)
  | .le => decide (x ≤ y)
def dx_ld {α : Type} (l : dx_L) (i : Nat) (k : Value → Option α) : Option α := match dx_lk l i with
  | some v => k v
  | none => none
theorem dx_ld_e {α : Type} {l : dx_L} {i : Nat} {k : Value → Option α} {z : α} (h : dx_ld l i k = some z) : ∃ v, dx_lk l i = some v ∧ k v = some z := by
  unfold dx_ld at h
  split at h
  · exact ⟨_, by assumption, h⟩
  · cases h
def dx_vi {α : Type} (v : Value) (k : Int32 → Option α) : Option α := match v with
  | .int x => k x
  | _ => none
theorem dx_vi_e {α : Type} {v : Value} {k : Int32 → Option α} {z : α} (h : dx_vi v k = some z) : ∃ x, v = .int x ∧ k x = some z := by
  unfold dx_vi at h
  split at h
  · exact ⟨_, rfl, h⟩
  · cases h
def dx_vj {α : Type} (v : Value) (k : Int64 → Option α) : Option α := match v with
  | .long x => k x
  | _ => none
theorem dx_vj_e {α : Type} {v : Value} {k : Int64 → Option α} {z : α} (h : dx_vj v k = some z) : ∃ x, v = .long x ∧ k x = some z := by
  unfold dx_vj at h
  split at h
  · exact ⟨_, rfl, h⟩
  · cases h
/-- a reference (no null) -/
def dx_vr {α : Type} (v : Value) (k : Option α) : Option α := match v with
  | .ref _ => k
  | .retAddr _ => k
  | _ => none
theorem dx_vr_e {α : Type} {kd : Nat → Option Nat} {ad : Nat → Nat} {v : Value} {k : Option α} {z : α} (h : dx_vr v k = some z) : ((∃ a, dx_v kd ad v = .ref a) ∨ dx_v kd ad v = .null) ∧ k = some z := by
  unfold dx_vr at h
  split at h
  · exact ⟨Or.inl ⟨_, rfl⟩, h⟩
  · rename_i i
    refine ⟨?_, h⟩
    show (∃ a, va_rf (kd i) = .ref a) ∨ va_rf (kd i) = .null
    cases kd i with
    | none => exact Or.inr rfl
    | some a => exact Or.inl ⟨a, rfl⟩
  · cases h
def dx_sw (i : Instr) (x : Int32) : Int := match i with
  | .tableswitch d lo hi offs => if x.toInt < lo ∨ hi < x.toInt then d else (offs[(x.toInt - lo).toNat]?).getD d
  | .lookupswitch d ps => Op.lookupswitch.offset ps.toList d x.toInt
  | _ => 0
/-- the instructions that neither read nor write cells -/
def dx_a (nL : Nat) (i : Instr) (pc : Nat) (lv : dx_L) (st : List Value) : Option dx_R := match i with
  | .iconst n => some (pc + 1, lv, .int (Int32.ofInt n) :: st)
  | .bipush n => some (pc + 2, lv, .int (Int8.ofInt n).toInt32 :: st)
  | .sipush n => some (pc + 3, lv, .int (Int16.ofInt n).toInt32 :: st)
  | .lconst n => some (pc + 1, lv, .long (Int64.ofNat n.val) :: st)
  | .iload_n k => dx_ld lv k.val fun v => dx_vi v fun x => some (pc + 1, lv, .int x :: st)
  | .iload k => dx_ld lv k fun v => dx_vi v fun x => some (pc + 2, lv, .int x :: st)
  | .lload_n k => dx_ld lv k.val fun v => dx_vj v fun x => some (pc + 1, lv, .long x :: st)
  | .lload k => dx_ld lv k fun v => dx_vj v fun x => some (pc + 2, lv, .long x :: st)
  | .aload_n k => dx_ld lv k.val fun v => dx_vr v (some (pc + 1, lv, v :: st))
  | .aload k => dx_ld lv k fun v => dx_vr v (some (pc + 2, lv, v :: st))
  | .istore_n k => dx_i1 st fun x r => if k.val < nL then some (pc + 1, dx_s1 lv k.val (.int x), r) else none
  | .istore k => dx_i1 st fun x r => if k < nL then some (pc + 2, dx_s1 lv k (.int x), r) else none
  | .lstore_n k => dx_l1 st fun x r => if k.val + 1 < nL then some (pc + 1, dx_s2 lv k.val (.long x), r) else none
  | .lstore k => dx_l1 st fun x r => if k + 1 < nL then some (pc + 2, dx_s2 lv k (.long x), r) else none
  | .astore_n k => dx_v1 st fun v r => dx_vr v (if k.val < nL then some (pc + 1, dx_s1 lv k.val v, r) else none)
  | .astore k => dx_v1 st fun v r => dx_vr v (if k < nL then some (pc + 2, dx_s1 lv k v, r) else none)
  | .iinc k n => dx_ld lv k fun v => dx_vi v fun x => if k < nL then some (pc + 3, dx_s1 lv k (.int (x + Int32.ofInt n)), st) else none
  | .iadd => dx_i2 st fun x y r => some (pc + 1, lv, .int (x + y) :: r)
  | .isub => dx_i2 st fun x y r => some (pc + 1, lv, .int (x - y) :: r)
  | .imul => dx_i2 st fun x y r => some (pc + 1, lv, .int (x * y) :: r)
  | .iand => dx_i2 st fun x y r => some (pc + 1, lv, .int (x &&& y) :: r)
  | .ior => dx_i2 st fun x y r => some (pc + 1, lv, .int (x ||| y) :: r)
  | .idiv => dx_i2 st fun x y r => if y = 0 then none else some (pc + 1, lv, .int (x / y) :: r)
  | .irem => dx_i2 st fun x y r => if y = 0 then none else some (pc + 1, lv, .int (x - x / y * y) :: r)
  | .ineg => dx_i1 st fun x r => some (pc + 1, lv, .int (-x) :: r)
  | .ishl => dx_i2 st fun x y r => some (pc + 1, lv, .int (x <<< (y &&& 31)) :: r)
  | .ishr => dx_i2 st fun x y r => some (pc + 1, lv, .int (x >>> (y &&& 31)) :: r)
  | .ladd => dx_l2 st fun x y r => some (pc + 1, lv, .long (x + y) :: r)
  | .lsub => dx_l2 st fun x y r => some (pc + 1, lv, .long (x - y) :: r)
  | .lmul => dx_l2 st fun x y r => some (pc + 1, lv, .long (x * y) :: r)
  | .land => dx_l2 st fun x y r => some (pc + 1, lv, .long (x &&& y) :: r)
  | .lor => dx_l2 st fun x y r => some (pc + 1, lv, .long (x ||| y) :: r)
  | .ldiv => dx_l2 st fun x y r => if y = 0 then none else some (pc + 1, lv, .long (x / y) :: r)
  | .lrem => dx_l2 st fun x y r => if y = 0 then none else some (pc + 1, lv, .long (x - x / y * y) :: r)
  | .lneg => dx_l1 st fun x r => some (pc + 1, lv, .long (-x) :: r)
  | .lshl => dx_li st fun x y r => some (pc + 1, lv, .long (x <<< (y.toInt64 &&& 63)) :: r)
  | .lshr => dx_li st fun x y r => some (pc + 1, lv, .long (x >>> (y.toInt64 &&& 63)) :: r)
  | .lcmp => dx_l2 st fun x y r => some (pc + 1, lv, .int (lg_cmp x y) :: r)
  | .i2l => dx_i1 st fun x r => some (pc + 1, lv, .long x.toInt64 :: r)
  | .l2i => dx_l1 st fun x r => some (pc + 1, lv, .int x.toInt32 :: r)
  | .i2c => dx_i1 st fun x r => some (pc + 1, lv, .int (x.toUInt32 % 65536).toInt32 :: r)
  | .i2b => dx_i1 st fun x r => some (pc + 1, lv, .int x.toInt8.toInt32 :: r)
  | .dup => dx_v1 st fun v r => if v.category = 1 then some (pc + 1, lv, v :: v :: r) else none
  | .pop => dx_v1 st fun v r => if v.category = 1 then some (pc + 1, lv, r) else none
  | .pop2 => dx_v1 st fun v r => if v.category = 2 then some (pc + 1, lv, r) else none
  | .dup_x1 => dx_v2 st fun v w r => if v.category = 1 ∧ w.category = 1 then some (pc + 1, lv, v :: w :: v :: r) else none
  | .dup_x2 => dx_v3 st fun v w u r => if v.category = 1 ∧ w.category = 1 ∧ u.category = 1 then some (pc + 1, lv, v :: w :: u :: v :: r) else none
  | .dup2 => dx_v2 st fun v w r => if v.category = 1 ∧ w.category = 1 then some (pc + 1, lv, v :: w :: v :: w :: r) else none
  | .ifCond cd off => dx_i1 st fun x r => dx_jp pc off fun t => some (bif dx_c1 cd x then t else pc + 3, lv, r)
  | .if_icmp cd off => dx_i2 st fun x y r => dx_jp pc off fun t => some (bif dx_c2 cd x y then t else pc + 3, lv, r)
  | .goto off => dx_jp pc off fun t => some (t, lv, st)
  | .tableswitch d lo hi offs => dx_i1 st fun x r => if offs.size = (hi - lo + 1).toNat ∧ lo ≤ hi then dx_jp pc (dx_sw (.tableswitch d lo hi offs) x) fun t => some (t, lv, r) else none
  | .lookupswitch d ps => dx_i1 st fun x r => if (ps.toList.zip (ps.toList.drop 1)).all (fun (a, next) => a.1 < next.1) = true then dx_jp pc (dx_sw (.lookupswitch d ps) x) fun t => some (t, lv, r) else none
  | _ => none
/-- how long an instruction is; 0: any length will do -/
def dx_len : Instr → Nat
  | .bipush _ => 2
  | .sipush _ => 3
  | .iload _ => 2
  | .lload _ => 2
  | .aload _ => 2
  | .istore _ => 2
  | .lstore _ => 2
  | .astore _ => 2
  | .iinc _ _ => 3
  | .ifCond _ _ => 3
  | .if_icmp _ _ => 3
  | .goto _ => 3
  | .ldc _ => 2
  | .ldc_w _ => 3
  | .ldc2_w _ => 3
  | .getfield _ => 3
  | .putfield _ => 3
  | .getstatic _ => 3
  | .invokevirtual _ => 3
  | .invokespecial _ => 3
  | .invokestatic _ => 3
  | .new _ => 3
  | .newarray _ => 2
  | .tableswitch _ _ _ _ => 0
  | .lookupswitch _ _ => 0
  | _ => 1
