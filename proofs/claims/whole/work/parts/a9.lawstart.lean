/-! The law's start, and the claim. -/
section XH
variable {s : State} {b : Nat}
theorem st_D (hts : ∀ w ∈ lw_tbl, w.before #[Value.ref b] s = true) : ∃ D : va_G, ∀ (c : Nat) (q : vw_C), nm_cl[c]? = some q → u_Kn s q.1 q.2.1 q.2.2 (D.1 c) (D.2 c) := by
  have hw : ∀ w ∈ lw_ws, w.before #[Value.ref b] s = true := fun w hw => hts w (List.mem_filter.mp hw).1
  have h : ∀ c : Nat, ∃ d : ClassId × (Nat → Nat), ∀ q : vw_C, nm_cl[c]? = some q → u_Kn s q.1 q.2.1 q.2.2 d.1 d.2 := by
    intro c
    match c with
    | 0 =>
      obtain ⟨cC, iS, h⟩ := u_known (C := "DecimalRun") (T := nm_T0) (N := 7) (n := 7) hw uw_0 (hts (Cond.instantiable "DecimalRun" 7) (List.mem_append_right _ (List.mem_of_getElem? (i := 26) (by decide +kernel))))
      exact ⟨(cC, iS), fun q hq => Option.some.inj (show some ("DecimalRun", nm_T0, 7) = some q from hq) ▸ h⟩
    | 1 =>
      obtain ⟨cC, iS, h⟩ := u_known (C := "DecimalRun$Text") (T := nm_T1) (N := 2) (n := 2) hw uw_1 (hts (Cond.instantiable "DecimalRun$Text" 2) (List.mem_append_right _ (List.mem_of_getElem? (i := 34) (by decide +kernel))))
      exact ⟨(cC, iS), fun q hq => Option.some.inj (show some ("DecimalRun$Text", nm_T1, 2) = some q from hq) ▸ h⟩
    | 2 =>
      obtain ⟨cC, iS, h⟩ := u_known (C := "DecimalRun$Memory") (T := nm_T2) (N := 2) (n := 2) hw uw_2 (hts (Cond.instantiable "DecimalRun$Memory" 2) (List.mem_append_right _ (List.mem_of_getElem? (i := 50) (by decide +kernel))))
      exact ⟨(cC, iS), fun q hq => Option.some.inj (show some ("DecimalRun$Memory", nm_T2, 2) = some q from hq) ▸ h⟩
    | 3 =>
      obtain ⟨cC, iS, h⟩ := u_known (C := "DecimalRun$Outcome") (T := nm_T3) (N := 5) (n := 5) hw uw_3 (hts (Cond.instantiable "DecimalRun$Outcome" 5) (List.mem_append_right _ (List.mem_of_getElem? (i := 69) (by decide +kernel))))
      exact ⟨(cC, iS), fun q hq => Option.some.inj (show some ("DecimalRun$Outcome", nm_T3, 5) = some q from hq) ▸ h⟩
    | 4 =>
      obtain ⟨cC, iS, h⟩ := u_known (C := "DecimalRun$Code") (T := nm_T4) (N := 5) (n := 5) hw uw_4 (hts (Cond.instantiable "DecimalRun$Code" 5) (List.mem_append_right _ (List.mem_of_getElem? (i := 95) (by decide +kernel))))
      exact ⟨(cC, iS), fun q hq => Option.some.inj (show some ("DecimalRun$Code", nm_T4, 5) = some q from hq) ▸ h⟩
    | 5 =>
      obtain ⟨cC, iS, h⟩ := u_known (C := "DecimalRun$Scanner") (T := nm_T5) (N := 5) (n := 5) hw uw_5 (hts (Cond.instantiable "DecimalRun$Scanner" 5) (List.mem_append_right _ (List.mem_of_getElem? (i := 124) (by decide +kernel))))
      exact ⟨(cC, iS), fun q hq => Option.some.inj (show some ("DecimalRun$Scanner", nm_T5, 5) = some q from hq) ▸ h⟩
    | 6 =>
      obtain ⟨cC, iS, h⟩ := u_known (C := "DecimalRun$Parser") (T := nm_T6) (N := 5) (n := 5) hw uw_6 (hts (Cond.instantiable "DecimalRun$Parser" 5) (List.mem_append_right _ (List.mem_of_getElem? (i := 149) (by decide +kernel))))
      exact ⟨(cC, iS), fun q hq => Option.some.inj (show some ("DecimalRun$Parser", nm_T6, 5) = some q from hq) ▸ h⟩
    | 7 =>
      obtain ⟨cC, iS, h⟩ := u_known (C := "DecimalRun$Machine") (T := nm_T7) (N := 11) (n := 11) hw uw_7 (hts (Cond.instantiable "DecimalRun$Machine" 11) (List.mem_append_right _ (List.mem_of_getElem? (i := 171) (by decide +kernel))))
      exact ⟨(cC, iS), fun q hq => Option.some.inj (show some ("DecimalRun$Machine", nm_T7, 11) = some q from hq) ▸ h⟩
    | 8 =>
      obtain ⟨cC, iS, h⟩ := u_known (C := "DecimalRun$Arithmetic") (T := nm_T8) (N := 2) (n := 2) hw uw_8 (hts (Cond.instantiable "DecimalRun$Arithmetic" 2) (List.mem_append_right _ (List.mem_of_getElem? (i := 177) (by decide +kernel))))
      exact ⟨(cC, iS), fun q hq => Option.some.inj (show some ("DecimalRun$Arithmetic", nm_T8, 2) = some q from hq) ▸ h⟩
    | 9 =>
      obtain ⟨cC, iS, h⟩ := u_known (C := "DecimalRunModel") (T := nm_T9) (N := 40) (n := 40) hw uw_9 (hts (Cond.instantiable "DecimalRunModel" 40) (List.mem_append_right _ (List.mem_of_getElem? (i := 829) (by decide +kernel))))
      exact ⟨(cC, iS), fun q hq => Option.some.inj (show some ("DecimalRunModel", nm_T9, 40) = some q from hq) ▸ h⟩
    | 10 =>
      obtain ⟨cC, iS, h⟩ := u_known (C := "java/lang/IllegalArgumentException") (T := nm_T10) (N := 0) (n := 6) hw (fun w hw => absurd hw List.not_mem_nil) (hts (Cond.instantiable "java/lang/IllegalArgumentException" 6) (List.mem_append_right _ (List.mem_of_getElem? (i := 438) (by decide +kernel))))
      exact ⟨(cC, iS), fun q hq => Option.some.inj (show some ("java/lang/IllegalArgumentException", nm_T10, 0) = some q from hq) ▸ h⟩
    | 11 =>
      obtain ⟨cC, iS, h⟩ := u_known (C := "java/lang/ArithmeticException") (T := nm_T11) (N := 0) (n := 6) hw (fun w hw => absurd hw List.not_mem_nil) (hts (Cond.instantiable "java/lang/ArithmeticException" 6) (List.mem_append_right _ (List.mem_of_getElem? (i := 502) (by decide +kernel))))
      exact ⟨(cC, iS), fun q hq => Option.some.inj (show some ("java/lang/ArithmeticException", nm_T11, 0) = some q from hq) ▸ h⟩
    | 12 =>
      obtain ⟨cC, iS, h⟩ := u_known (C := "java/lang/IllegalStateException") (T := nm_T12) (N := 0) (n := 6) hw (fun w hw => absurd hw List.not_mem_nil) (hts (Cond.instantiable "java/lang/IllegalStateException" 6) (List.mem_append_right _ (List.mem_of_getElem? (i := 517) (by decide +kernel))))
      exact ⟨(cC, iS), fun q hq => Option.some.inj (show some ("java/lang/IllegalStateException", nm_T12, 0) = some q from hq) ▸ h⟩
    | n + 13 => exact ⟨(0, fun _ => 0), fun q hq => by
        have e : nm_cl[n + 13]? = none := List.getElem?_eq_none (by show 13 ≤ n + 13; omega)
        rw [e] at hq
        cases hq⟩
  obtain ⟨F, hF⟩ := Classical.axiomOfChoice h
  exact ⟨(fun c => (F c).1, fun c => (F c).2), fun c q hq => hF c q hq⟩
theorem st_arr {ty : FieldType} {args : Array Value} (h : (Cond.arrayClass ty).before args s = true) (hty : ∀ C, ty ≠ .object C) : ∃ c : ClassId, ArrOfT s c ty ∧ va_RA s c ty := by
  obtain ⟨c, k, comp, h1, h2, h3⟩ := Cond.arrayClass_spec h
  refine ⟨c, fun N z => ⟨(fun k h => by cases h), k, h2, comp, h3⟩, ?_⟩
  cases ty <;> first
    | exact h1
    | exact absurd rfl (hty _)
theorem st_tc (hts : ∀ w ∈ lw_tbl, w.before #[Value.ref b] s = true) : ∃ tc : Nat → ClassId, ∀ (k : Nat) (q : ClassId × FieldType), (dx_tys tc)[k]? = some q → ArrOfT s q.1 q.2 ∧ va_RA s q.1 q.2 := by
  obtain ⟨c0, h0⟩ := st_arr (s := s) (hts (Cond.arrayClass .int) (List.mem_append_right _ (List.mem_of_getElem? (i := 122) (by decide +kernel)))) (fun _ h => by cases h)
  obtain ⟨c1, h1⟩ := st_arr (s := s) (hts (Cond.arrayClass .long) (List.mem_append_right _ (List.mem_of_getElem? (i := 67) (by decide +kernel)))) (fun _ h => by cases h)
  obtain ⟨c2, h2⟩ := st_arr (s := s) (hts (Cond.arrayClass .char) (List.mem_append_right _ (List.mem_of_getElem? (i := 48) (by decide +kernel)))) (fun _ h => by cases h)
  obtain ⟨c3, h3⟩ := st_arr (s := s) (hts (Cond.arrayClass .byte) (List.mem_append_right _ (List.mem_of_getElem? (i := 500) (by decide +kernel)))) (fun _ h => by cases h)
  refine ⟨fun t => if t = 0 then c0 else if t = 1 then c1 else if t = 2 then c2 else c3, fun k q hq => ?_⟩
  match k with
  | 0 => exact Option.some.inj (show some (c0, FieldType.int) = some q from hq) ▸ h0
  | 1 => exact Option.some.inj (show some (c1, FieldType.long) = some q from hq) ▸ h1
  | 2 => exact Option.some.inj (show some (c2, FieldType.char) = some q from hq) ▸ h2
  | 3 => exact Option.some.inj (show some (c3, FieldType.byte) = some q from hq) ▸ h3
  | n + 4 => cases hq
theorem st_ref {args : Array Value} {tm : Term} (h : (Cond.isRef tm).before args s = true) : ∃ r : Option Nat, tm.eval args s none [] s = some (va_rf r) := by
  cases hv : tm.eval args s none [] s with
  | none => simp [Cond.before, Cond.holds, Cond.value, hv] at h
  | some w =>
    simp only [Cond.before, Cond.holds, Cond.value, hv] at h
    cases w with
    | null => exact ⟨none, rfl⟩
    | ref t => exact ⟨some t, rfl⟩
    | _ => simp at h
def st_ix : List Nat := [87, 93, 95, 97, 99, 120]
def st_tm (i : Nat) : Term := .string "DecimalRun$Scanner" (st_ix.getD i 0)
def st_len : List Nat := [2, 5, 6, 6, 5, 14]
def st_byt : List (List Int32) := [[105, 102], [119, 104, 105, 108, 101], [100, 101, 102, 105, 110, 101], [114, 101, 116, 117, 114, 110], [115, 99, 97, 108, 101], [43, 45, 42, 47, 37, 94, 40, 41, 123, 125, 61, 60, 62, 59]]
def st_F : List Cond := flatC (Jvm.Cond.and given_1 narrow_1)
theorem st_str {A : Nat → Prop} (hs : ∀ c ∈ st_F, c.before #[Value.ref b] s = true) (hA : ∀ a : Nat, a < s.heap.size → ¬ A a) : ∃ adK adV : Nat → Nat, vk_S 6 st_len st_byt adK adV A s s.heap ∧ ∀ i : Nat, i < 6 → (st_tm i).eval #[Value.ref b] s none [] s = some (.ref (adK i)) := by
  have e1 : ∀ i, i < 6 → Cond.exactly (st_tm i) "java/lang/String" ∈ st_F := by decide +kernel
  have e2 : ∀ i, i < 6 → Cond.eq (.field (st_tm i) "java/lang/String" "coder" "B") (.int 0) ∈ st_F := by decide +kernel
  have e3 : ∀ i, i < 6 → Cond.arrayOf (.field (st_tm i) "java/lang/String" "value" "[B") .byte ∈ st_F := by decide +kernel
  have e4 : ∀ i, i < 6 → Cond.eq (.length (.field (st_tm i) "java/lang/String" "value" "[B")) (.int (Int32.ofNat (st_len.getD i 0))) ∈ st_F := by decide +kernel
  have e5 : ∀ i, i < 6 → ∀ j, j < st_len.getD i 0 → Cond.eq (.elem (.field (st_tm i) "java/lang/String" "value" "[B") (.int (Int32.ofNat j))) (.int ((st_byt.getD i []).getD j 0)) ∈ st_F := by decide +kernel
  have e6 : ∀ i, i < 6 → ∀ j, j < 6 → i ≠ j → Cond.not (Cond.eq (st_tm i) (st_tm j)) ∈ st_F ∨ Cond.not (Cond.eq (st_tm j) (st_tm i)) ∈ st_F := by decide +kernel
  refine vk_Sof (N := 6) (tm := st_tm) (len := st_len) (byt := st_byt) (by decide +kernel) (fun i hi => hs _ (e1 i hi)) (fun i hi => hs _ (e2 i hi)) (fun i hi => hs _ (e3 i hi)) (fun i hi => hs _ (e4 i hi)) (fun i hi j hj => hs _ (e5 i hi j hj)) (fun i j hi hj hij => ?_) hA
  rcases e6 i hi j hj hij with h | h
  · exact Or.inl (hs _ h)
  · exact Or.inr (hs _ h)
theorem st_sf {kd : Nat → Option Nat} {m aV a k : Nat} {A : Nat → Prop} {H : Heap} {v : Value} (hv : [Value.retAddr m, .int 0][k]? = some v) (hk : kd m = some aV) (h1 : va_OF "java/lang/String" "value" "[B" (.ref aV) a A s H) (h2 : va_OF "java/lang/String" "coder" "B" (.int 0) a A s H) (ad : Nat → Nat) : va_OF (nm_TS k).1 (nm_TS k).2.1 (nm_TS k).2.2.1 (dx_v kd ad v) a A s H := by
  match k with
  | 0 =>
    have e : some (Value.retAddr m) = some v := hv
    cases e
    show va_OF "java/lang/String" "value" "[B" (va_rf (kd m)) a A s H
    rw [hk]
    exact h1
  | 1 =>
    have e : some (Value.int 0) = some v := hv
    cases e
    exact h2
  | n + 2 => cases hv
def st_tt : Term := .static "DecimalRun$Arithmetic" "TEN_TO" "[J"
theorem st_ten {A : Nat → Prop} (hs : ∀ c ∈ st_F, c.before #[Value.ref b] s = true) (hA : ∀ a : Nat, a < s.heap.size → ¬ A a) : ∃ t : Nat, st_tt.eval #[Value.ref b] s none [] s = some (.ref t) ∧ va_T .long t 9 (fun j => .long (tb_ten j)) A s s.heap := by
  have e3 : ∀ j, j < 9 → Cond.eq (.elem st_tt (.int (Int32.ofNat j))) (.long (tb_ten j)) ∈ st_F := by decide +kernel
  exact va_Tof (by decide) (hs (Cond.arrayOf st_tt .long) (by decide +kernel)) (va_eqt (hs (Cond.eq (.length st_tt) (.int 9)) (by decide +kernel))) (fun j hj => va_eqtl (hs _ (e3 j hj))) hA
theorem st_G {L : Nat} {xs : Nat → Int32} {ad : Nat → Nat} (hts : ∀ w ∈ lw_tbl, w.before #[Value.ref b] s = true) (hX : va_X b L xs s s.heap) (hbl : b < s.heap.size) (hgv : (Jvm.Cond.and given_1 narrow_1).before #[Value.ref b] s = true) : ∃ (D : va_G) (tc : Nat → ClassId) (kd : Nat → Option Nat), kd 14 = some b ∧ G1 kd D tc L xs (va_A (dx_w tc kd ad []) s.heap.size) s := by
  have hs : ∀ c ∈ st_F, c.before #[Value.ref b] s = true := flat_of_before _ hgv
  obtain ⟨D, hD⟩ := st_D hts
  obtain ⟨tc, htc⟩ := st_tc hts
  have hA : ∀ a : Nat, a < s.heap.size → ¬ va_A ([] : va_W) s.heap.size a := by
    rintro a ha (⟨k, e, h⟩ | h)
    · cases h
    · omega
  obtain ⟨adK, adV, hS, hK⟩ := st_str hs hA
  obtain ⟨aT, hT1, hT2⟩ := st_ten hs hA
  obtain ⟨rF, hF⟩ := st_ref (hs (Cond.isRef (.static "jdk/internal/util/Preconditions" "SIOOBE_FORMATTER" "Ljava/util/function/BiFunction;")) (by decide +kernel))
  obtain ⟨rU, hU⟩ := st_ref (hs (Cond.isRef (.static Bundle.tN "UNASSIGNED_STACK" Bundle.steD)) (by decide +kernel))
  obtain ⟨rP, hP⟩ := st_ref (hs (Cond.isRef (.static Bundle.tN "SUPPRESSED_SENTINEL" Bundle.listD)) (by decide +kernel))
  obtain ⟨kd, k0, k1, k2, k3, k4, k5, k6, k7, k8, k9, k10, k11, k12, k13, k14, k15, k16⟩ : ∃ kd : Nat → Option Nat, kd 0 = some aT ∧ kd 1 = rF ∧ kd 2 = some (adK 0) ∧ kd 3 = some (adK 1) ∧ kd 4 = some (adK 2) ∧ kd 5 = some (adK 3) ∧ kd 6 = some (adK 4) ∧ kd 7 = some (adK 5) ∧ kd 8 = some (adV 0) ∧ kd 9 = some (adV 1) ∧ kd 10 = some (adV 2) ∧ kd 11 = some (adV 3) ∧ kd 12 = some (adV 4) ∧ kd 13 = some (adV 5) ∧ kd 14 = some b ∧ kd 15 = rU ∧ kd 16 = rP := ⟨fun i => match i with
    | 0 => some aT
    | 1 => rF
    | 2 => some (adK 0)
    | 3 => some (adK 1)
    | 4 => some (adK 2)
    | 5 => some (adK 3)
    | 6 => some (adK 4)
    | 7 => some (adK 5)
    | 8 => some (adV 0)
    | 9 => some (adV 1)
    | 10 => some (adV 2)
    | 11 => some (adV 3)
    | 12 => some (adV 4)
    | 13 => some (adV 5)
    | 14 => some b
    | 15 => rU
    | 16 => rP
    | _ => none, rfl, rfl, rfl, rfl, rfl, rfl, rfl, rfl, rfl, rfl, rfl, rfl, rfl, rfl, rfl, rfl, rfl⟩
  refine ⟨D, tc, kd, k14, ⟨⟨hD, htc⟩, ?_, va_Zof (hts _ (List.mem_append_right _ (List.mem_of_getElem? (i := 390) (by decide +kernel)))) (hts _ (List.mem_append_right _ (List.mem_of_getElem? (i := 13) (by decide +kernel)))) (va_eqt (hs (Cond.eq (.static "java/lang/String" "COMPACT_STRINGS" "Z") (.int 1)) (by decide +kernel))) hA, va_Zof (hts _ (List.mem_append_right _ (List.mem_of_getElem? (i := 406) (by decide +kernel)))) (hts _ (List.mem_append_right _ (List.mem_of_getElem? (i := 15) (by decide +kernel)))) (by rw [k1]; exact hF) hA, va_Zof (hts _ (List.mem_append_right _ (List.mem_of_getElem? (i := 744) (by decide +kernel)))) (hts _ (List.mem_append_right _ (List.mem_of_getElem? (i := 9) (by decide +kernel)))) (by rw [k0]; exact hT1) hA, ⟨adK 0, k2, (show (Cond.stringRef "DecimalRun$Scanner" 87 "if").before #[Value.ref b] s = true from (hts _ (List.mem_append_right _ (List.mem_of_getElem? (i := 376) (by decide +kernel))))), hK 0 (by decide)⟩, ⟨adK 1, k3, (show (Cond.stringRef "DecimalRun$Scanner" 93 "while").before #[Value.ref b] s = true from (hts _ (List.mem_append_right _ (List.mem_of_getElem? (i := 429) (by decide +kernel))))), hK 1 (by decide)⟩, ⟨adK 2, k4, (show (Cond.stringRef "DecimalRun$Scanner" 95 "define").before #[Value.ref b] s = true from (hts _ (List.mem_append_right _ (List.mem_of_getElem? (i := 430) (by decide +kernel))))), hK 2 (by decide)⟩, ⟨adK 3, k5, (show (Cond.stringRef "DecimalRun$Scanner" 97 "return").before #[Value.ref b] s = true from (hts _ (List.mem_append_right _ (List.mem_of_getElem? (i := 431) (by decide +kernel))))), hK 3 (by decide)⟩, ⟨adK 4, k6, (show (Cond.stringRef "DecimalRun$Scanner" 99 "scale").before #[Value.ref b] s = true from (hts _ (List.mem_append_right _ (List.mem_of_getElem? (i := 432) (by decide +kernel))))), hK 4 (by decide)⟩, ⟨adK 5, k7, (show (Cond.stringRef "DecimalRun$Scanner" 120 "+-*/%^(){}=<>;").before #[Value.ref b] s = true from (hts _ (List.mem_append_right _ (List.mem_of_getElem? (i := 538) (by decide +kernel))))), hK 5 (by decide)⟩, dx_SZ_of (hts _ (List.mem_append_right _ (List.mem_of_getElem? (i := 464) (by decide +kernel)))) (by rw [k15]; exact hU) hA, dx_SZ_of (hts _ (List.mem_append_right _ (List.mem_of_getElem? (i := 466) (by decide +kernel)))) (by rw [k16]; exact hP) hA⟩, ?_⟩
  · intro i x hx
    match i with
    | 0 => exact Option.some.inj (show some _ = some x from hx) ▸ ⟨aT, k0, hT2⟩
    | 1 => exact Option.some.inj (show some _ = some x from hx) ▸ fun h => absurd rfl h
    | 2 => exact Option.some.inj (show some _ = some x from hx) ▸ fun _ => ⟨adK 0, _, k2, rfl, (hS.1 0 (by decide)).1, fun k v hv ad => st_sf hv k8 (hS.1 0 (by decide)).2.2.1 (hS.1 0 (by decide)).2.1 ad⟩
    | 3 => exact Option.some.inj (show some _ = some x from hx) ▸ fun _ => ⟨adK 1, _, k3, rfl, (hS.1 1 (by decide)).1, fun k v hv ad => st_sf hv k9 (hS.1 1 (by decide)).2.2.1 (hS.1 1 (by decide)).2.1 ad⟩
    | 4 => exact Option.some.inj (show some _ = some x from hx) ▸ fun _ => ⟨adK 2, _, k4, rfl, (hS.1 2 (by decide)).1, fun k v hv ad => st_sf hv k10 (hS.1 2 (by decide)).2.2.1 (hS.1 2 (by decide)).2.1 ad⟩
    | 5 => exact Option.some.inj (show some _ = some x from hx) ▸ fun _ => ⟨adK 3, _, k5, rfl, (hS.1 3 (by decide)).1, fun k v hv ad => st_sf hv k11 (hS.1 3 (by decide)).2.2.1 (hS.1 3 (by decide)).2.1 ad⟩
    | 6 => exact Option.some.inj (show some _ = some x from hx) ▸ fun _ => ⟨adK 4, _, k6, rfl, (hS.1 4 (by decide)).1, fun k v hv ad => st_sf hv k12 (hS.1 4 (by decide)).2.2.1 (hS.1 4 (by decide)).2.1 ad⟩
    | 7 => exact Option.some.inj (show some _ = some x from hx) ▸ fun _ => ⟨adK 5, _, k7, rfl, (hS.1 5 (by decide)).1, fun k v hv ad => st_sf hv k13 (hS.1 5 (by decide)).2.2.1 (hS.1 5 (by decide)).2.1 ad⟩
    | 8 => exact Option.some.inj (show some _ = some x from hx) ▸ ⟨adV 0, k8, (hS.1 0 (by decide)).2.2.2⟩
    | 9 => exact Option.some.inj (show some _ = some x from hx) ▸ ⟨adV 1, k9, (hS.1 1 (by decide)).2.2.2⟩
    | 10 => exact Option.some.inj (show some _ = some x from hx) ▸ ⟨adV 2, k10, (hS.1 2 (by decide)).2.2.2⟩
    | 11 => exact Option.some.inj (show some _ = some x from hx) ▸ ⟨adV 3, k11, (hS.1 3 (by decide)).2.2.2⟩
    | 12 => exact Option.some.inj (show some _ = some x from hx) ▸ ⟨adV 4, k12, (hS.1 4 (by decide)).2.2.2⟩
    | 13 => exact Option.some.inj (show some _ = some x from hx) ▸ ⟨adV 5, k13, (hS.1 5 (by decide)).2.2.2⟩
    | 14 =>
      obtain ⟨scr, x1, x2, x3, x4, x5⟩ := hX
      exact Option.some.inj (show some _ = some x from hx) ▸ ⟨b, k14, scr, x1, x2, x3, Nat.le_of_eq x4.symm, by rw [x4], x5, hA b hbl⟩
    | n + 15 => cases hx
  · have f0 := (hD 10 _ rfl).2.1
    have f1 := (hD 11 _ rfl).2.1
    have f2 := (hD 12 _ rfl).2.1
    have nc : ∀ (x y : String) (cx cy : ClassId), Cond.not (.castable x y) ∈ st_F → s.vm.findClass x = some cx → s.vm.findClass y = some cy → s.vm.assignable cx cy = false := by
      intro x y cx cy h h1 h2
      have hh := hs _ h
      simp only [Cond.before, Cond.holds, Cond.value, h1, h2] at hh
      simpa using hh
    exact ⟨nc "java/lang/ArithmeticException" "java/lang/IllegalArgumentException" _ _ (by decide +kernel) f1 f0, nc "java/lang/IllegalStateException" "java/lang/IllegalArgumentException" _ _ (by decide +kernel) f2 f0, nc "java/lang/IllegalStateException" "java/lang/ArithmeticException" _ _ (by decide +kernel) f2 f1⟩
end XH
