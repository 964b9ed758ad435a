/-! Printed by program but for its head: all that is known of every instruction of every method. -/
def dx_po (x : dx_I) : Bool := match x.1 with
  | .getfield _ => true
  | .putfield _ => true
  | .getstatic _ => true
  | .ldc _ => true
  | .ldc2_w _ => true
  | .ldc_w _ => true
  | .new _ => true
  | .newarray _ => true
  | .invokevirtual _ => true
  | .invokestatic _ => true
  | .invokespecial _ => true
  | _ => false
theorem dx_np {cl : List vw_C} {ql : Nat → Option vw_C} {kd : Nat → Option Nat} {Z : dx_Z} {A : Nat → Prop} {s : State} {args : Array Value} {own nm : String} {y : MethodName} {ret : Option FieldType} {cc : ByteArray} {pc : Nat} {x : dx_I} (h : dx_po x = false) : dx_kB cl ql kd A s args own x ∧ dx_kC cl s args own nm x ∧ dx_kN cl Z s args own x ∧ dx_kI cl ql s args own y ret x ∧ dx_kT cl Z s args own cc pc x := by
  obtain ⟨i, xa, xb, xf, xv⟩ := x
  cases i <;> first
    | (cases h; done)
    | exact ⟨trivial, trivial, trivial, trivial, trivial⟩
/-- no throw begins here -/
def dx_nt (x : dx_I) : Bool := match x.1 with
  | .new _ => x.2.2.2.1 == 0
  | _ => true
theorem dx_nt_ok {cl : List vw_C} {Z : dx_Z} {s : State} {args : Array Value} {own : String} {cc : ByteArray} {pc : Nat} {x : dx_I} (h : dx_nt x = true) : dx_kT cl Z s args own cc pc x := by
  obtain ⟨i, xa, xb, xf, xv⟩ := x
  cases i <;> first
    | exact trivial
    | exact fun z => absurd (beq_iff_eq.mp h) z
def dx_cv : Value → Bool
  | .ref _ => false
  | _ => true
theorem dx_cv_ok {v : Value} (h : dx_cv v = true) : dx_kv 0 v := by cases v <;> first | exact trivial | cases h
def dx_o2 (PL : List dx_I) (q : Nat × dx_I) : Bool := dx_cv q.2.2.2.2.2 && (!dx_po q.2 || PL.any (fun x => decide (x = q.2)))
theorem dx_dc_ok {b : ByteArray} {q : Nat × dx_I} (h : dx_dc b q = true) : ∃ len : Nat, decode b q.1 = .ok (q.2.1, len) ∧ (dx_len q.2.1 = 0 ∨ len = dx_len q.2.1) := by
  unfold dx_dc at h
  split at h
  · rename_i r hr
    simp only [Bool.and_eq_true, decide_eq_true_eq, Bool.or_eq_true, beq_iff_eq] at h
    obtain ⟨h1, h2⟩ := h
    exact ⟨r.2, by rw [hr, ← h1], h2⟩
  · cases h
section GD
variable {kd : Nat → Option Nat} {D : va_G} {tc : Nat → ClassId} {L : Nat} {xs : Nat → Int32}
theorem dx_gd_of {M : Nat} {own nm : String} {tbM : List (Nat × dx_I)} {PL : List dx_I} (hown : (tb_Y M).cls = own) (hnm : (tb_Y M).name = nm) (hdc : tbM.all (dx_dc (tb_B M)) = true) (hok : tbM.all (dx_o2 PL) = true) (hPL : ∀ x ∈ PL, pe_ok kd D tc L xs own x ∧ pc_ok own nm x)
    (hT : ∀ q ∈ tbM, ∀ (A : Nat → Prop) (s : State) (args : Array Value), (∀ w ∈ lw_ws, w.before args s = true) → G0 kd D tc L xs A s → dx_kT nm_cl (tb_Z L xs) s args own (tb_B M) q.1 q.2) :
    ∀ q ∈ tbM, dx_gd nm_cl nm_ql kd (tb_Z L xs) (G0 kd D tc L xs) lw_ws tb_Y tb_B M q.1 q.2 := by
  intro q hq
  subst hown
  subst hnm
  have h1 := dx_dc_ok (List.all_eq_true.mp hdc q hq)
  have h2 := List.all_eq_true.mp hok q hq
  simp only [dx_o2, Bool.and_eq_true, Bool.or_eq_true, Bool.not_eq_true', List.any_eq_true, decide_eq_true_eq] at h2
  refine ⟨h1, dx_cv_ok h2.1, fun A s args hts hG => ?_⟩
  rcases h2.2 with h3 | h3
  · exact dx_np h3
  · obtain ⟨x0, hx0, e0⟩ := h3
    have h3 : q.2 ∈ PL := by rw [← e0]; exact hx0
    obtain ⟨p1, p2⟩ := hPL _ h3
    obtain ⟨b1, b2, b3⟩ := p1 A s args hts hG
    exact ⟨b1, p2 s args hts, b2, b3, hT q hq A s args hts hG⟩
theorem dx_gd_pl {M : Nat} {own nm : String} {tbM : List (Nat × dx_I)} {PL : List dx_I} (hown : (tb_Y M).cls = own) (hnm : (tb_Y M).name = nm) (hdc : tbM.all (dx_dc (tb_B M)) = true) (hok : tbM.all (dx_o2 PL) = true) (hPL : ∀ x ∈ PL, pe_ok kd D tc L xs own x ∧ pc_ok own nm x) (hn : tbM.all (fun q => dx_nt q.2) = true) :
    ∀ q ∈ tbM, dx_gd nm_cl nm_ql kd (tb_Z L xs) (G0 kd D tc L xs) lw_ws tb_Y tb_B M q.1 q.2 :=
  dx_gd_of hown hnm hdc hok hPL (fun q hq _ _ _ _ _ => dx_nt_ok (List.all_eq_true.mp hn q hq))
/-- the words that a throw wants, out of the tables and the statics -/
theorem dx_own {own C : String} {ic : Nat} {names : List String} {A : Nat → Prop} {s : State} {args : Array Value} (hc : (Bundle.ownAtoms0 own ic C names).all (fun a => decide (a ∈ lw_ws) || decide (a ∈ [Cond.laysStatic Bundle.tN "UNASSIGNED_STACK" Bundle.steD, Cond.laysStatic Bundle.tN "SUPPRESSED_SENTINEL" Bundle.listD, Cond.isRef (.static Bundle.tN "UNASSIGNED_STACK" Bundle.steD), Cond.isRef (.static Bundle.tN "SUPPRESSED_SENTINEL" Bundle.listD)])) = true) (hts : ∀ w ∈ lw_ws, w.before args s = true) (hG : G0 kd D tc L xs A s) : ∀ a ∈ Bundle.ownAtoms0 own ic C names, a.before args s = true := by
  intro a ha
  have h1 := List.all_eq_true.mp hc a ha
  rw [Bool.or_eq_true, decide_eq_true_eq, decide_eq_true_eq] at h1
  rcases h1 with h1 | h1
  · exact hts a h1
  · have z1 := hG.2.2.2.2.2.2.2.2.2.2.2.1
    have z2 := hG.2.2.2.2.2.2.2.2.2.2.2.2
    simp only [List.mem_cons, List.not_mem_nil, or_false] at h1
    rcases h1 with rfl | rfl | rfl | rfl
    · exact dx_SZ_lays z1
    · exact dx_SZ_lays z2
    · exact dx_SZ_isRef z1
    · exact dx_SZ_isRef z2
theorem gd_0 : ∀ q ∈ tb_m0, dx_gd nm_cl nm_ql kd (tb_Z L xs) (G0 kd D tc L xs) lw_ws tb_Y tb_B 0 q.1 q.2 := dx_gd_pl (PL := (pl_0_0 ++ pl_0_1)) (own := "DecimalRun") (nm := "<init>") rfl rfl dc_0 (by decide +kernel) (List.forall_mem_append.mpr ⟨pa_0_0 "<init>", pa_0_1⟩) (by decide +kernel)
theorem gd_1 : ∀ q ∈ tb_m1, dx_gd nm_cl nm_ql kd (tb_Z L xs) (G0 kd D tc L xs) lw_ws tb_Y tb_B 1 q.1 q.2 := dx_gd_pl (PL := pl_0_0) (own := "DecimalRun") (nm := "feed") rfl rfl dc_1 (by decide +kernel) (pa_0_0 "feed") (by decide +kernel)
theorem gd_2 : ∀ q ∈ tb_m2, dx_gd nm_cl nm_ql kd (tb_Z L xs) (G0 kd D tc L xs) lw_ws tb_Y tb_B 2 q.1 q.2 := dx_gd_pl (PL := pl_0_0) (own := "DecimalRun") (nm := "length") rfl rfl dc_2 (by decide +kernel) (pa_0_0 "length") (by decide +kernel)
theorem gd_3 : ∀ q ∈ tb_m3, dx_gd nm_cl nm_ql kd (tb_Z L xs) (G0 kd D tc L xs) lw_ws tb_Y tb_B 3 q.1 q.2 := dx_gd_pl (PL := pl_0_0) (own := "DecimalRun") (nm := "clear") rfl rfl dc_3 (by decide +kernel) (pa_0_0 "clear") (by decide +kernel)
theorem gd_4 : ∀ q ∈ tb_m4, dx_gd nm_cl nm_ql kd (tb_Z L xs) (G0 kd D tc L xs) lw_ws tb_Y tb_B 4 q.1 q.2 := dx_gd_pl (PL := pl_0_0) (own := "DecimalRun") (nm := "reset") rfl rfl dc_4 (by decide +kernel) (pa_0_0 "reset") (by decide +kernel)
theorem gd_5 : ∀ q ∈ tb_m5, dx_gd nm_cl nm_ql kd (tb_Z L xs) (G0 kd D tc L xs) lw_ws tb_Y tb_B 5 q.1 q.2 := dx_gd_pl (PL := pl_0_0) (own := "DecimalRun") (nm := "fault") rfl rfl dc_5 (by decide +kernel) (pa_0_0 "fault") (by decide +kernel)
theorem gd_6 : ∀ q ∈ tb_m6, dx_gd nm_cl nm_ql kd (tb_Z L xs) (G0 kd D tc L xs) lw_ws tb_Y tb_B 6 q.1 q.2 := dx_gd_pl (PL := pl_0_0) (own := "DecimalRun") (nm := "steps") rfl rfl dc_6 (by decide +kernel) (pa_0_0 "steps") (by decide +kernel)
theorem gd_7 : ∀ q ∈ tb_m7, dx_gd nm_cl nm_ql kd (tb_Z L xs) (G0 kd D tc L xs) lw_ws tb_Y tb_B 7 q.1 q.2 := dx_gd_pl (PL := pl_0_0) (own := "DecimalRun") (nm := "outLength") rfl rfl dc_7 (by decide +kernel) (pa_0_0 "outLength") (by decide +kernel)
theorem gd_8 : ∀ q ∈ tb_m8, dx_gd nm_cl nm_ql kd (tb_Z L xs) (G0 kd D tc L xs) lw_ws tb_Y tb_B 8 q.1 q.2 := dx_gd_pl (PL := pl_0_0) (own := "DecimalRun") (nm := "out") rfl rfl dc_8 (by decide +kernel) (pa_0_0 "out") (by decide +kernel)
theorem gd_9 : ∀ q ∈ tb_m9, dx_gd nm_cl nm_ql kd (tb_Z L xs) (G0 kd D tc L xs) lw_ws tb_Y tb_B 9 q.1 q.2 := dx_gd_pl (PL := pl_0_0) (own := "DecimalRun") (nm := "variable") rfl rfl dc_9 (by decide +kernel) (pa_0_0 "variable") (by decide +kernel)
theorem gd_10 : ∀ q ∈ tb_m10, dx_gd nm_cl nm_ql kd (tb_Z L xs) (G0 kd D tc L xs) lw_ws tb_Y tb_B 10 q.1 q.2 := dx_gd_pl (PL := pl_0_0) (own := "DecimalRun") (nm := "isVariable") rfl rfl dc_10 (by decide +kernel) (pa_0_0 "isVariable") (by decide +kernel)
theorem gd_11 : ∀ q ∈ tb_m11, dx_gd nm_cl nm_ql kd (tb_Z L xs) (G0 kd D tc L xs) lw_ws tb_Y tb_B 11 q.1 q.2 := dx_gd_pl (PL := pl_0_0) (own := "DecimalRun") (nm := "decimals") rfl rfl dc_11 (by decide +kernel) (pa_0_0 "decimals") (by decide +kernel)
theorem gd_12 : ∀ q ∈ tb_m12, dx_gd nm_cl nm_ql kd (tb_Z L xs) (G0 kd D tc L xs) lw_ws tb_Y tb_B 12 q.1 q.2 := dx_gd_pl (PL := pl_0_0) (own := "DecimalRun") (nm := "scale") rfl rfl dc_12 (by decide +kernel) (pa_0_0 "scale") (by decide +kernel)
theorem gd_13 : ∀ q ∈ tb_m13, dx_gd nm_cl nm_ql kd (tb_Z L xs) (G0 kd D tc L xs) lw_ws tb_Y tb_B 13 q.1 q.2 := dx_gd_pl (PL := pl_0_0) (own := "DecimalRun") (nm := "run") rfl rfl dc_13 (by decide +kernel) (pa_0_0 "run") (by decide +kernel)
theorem gd_14 : ∀ q ∈ tb_m14, dx_gd nm_cl nm_ql kd (tb_Z L xs) (G0 kd D tc L xs) lw_ws tb_Y tb_B 14 q.1 q.2 := dx_gd_pl (PL := (pl_1_0 ++ pl_1_1)) (own := "DecimalRun$Text") (nm := "<init>") rfl rfl dc_14 (by decide +kernel) (List.forall_mem_append.mpr ⟨pa_1_0 "<init>", pa_1_1⟩) (by decide +kernel)
theorem gd_15 : ∀ q ∈ tb_m15, dx_gd nm_cl nm_ql kd (tb_Z L xs) (G0 kd D tc L xs) lw_ws tb_Y tb_B 15 q.1 q.2 := dx_gd_pl (PL := pl_1_0) (own := "DecimalRun$Text") (nm := "append") rfl rfl dc_15 (by decide +kernel) (pa_1_0 "append") (by decide +kernel)
theorem gd_16 : ∀ q ∈ tb_m16, dx_gd nm_cl nm_ql kd (tb_Z L xs) (G0 kd D tc L xs) lw_ws tb_Y tb_B 16 q.1 q.2 := dx_gd_pl (PL := pl_1_0) (own := "DecimalRun$Text") (nm := "packed") rfl rfl dc_16 (by decide +kernel) (pa_1_0 "packed") (by decide +kernel)
theorem gd_17 : ∀ q ∈ tb_m17, dx_gd nm_cl nm_ql kd (tb_Z L xs) (G0 kd D tc L xs) lw_ws tb_Y tb_B 17 q.1 q.2 := dx_gd_pl (PL := pl_1_0) (own := "DecimalRun$Text") (nm := "at") rfl rfl dc_17 (by decide +kernel) (pa_1_0 "at") (by decide +kernel)
theorem gd_18 : ∀ q ∈ tb_m18, dx_gd nm_cl nm_ql kd (tb_Z L xs) (G0 kd D tc L xs) lw_ws tb_Y tb_B 18 q.1 q.2 := dx_gd_pl (PL := (pl_2_0 ++ pl_2_1)) (own := "DecimalRun$Memory") (nm := "<init>") rfl rfl dc_18 (by decide +kernel) (List.forall_mem_append.mpr ⟨pa_2_0 "<init>", pa_2_1⟩) (by decide +kernel)
theorem gd_19 : ∀ q ∈ tb_m19, dx_gd nm_cl nm_ql kd (tb_Z L xs) (G0 kd D tc L xs) lw_ws tb_Y tb_B 19 q.1 q.2 := dx_gd_pl (PL := pl_2_0) (own := "DecimalRun$Memory") (nm := "forget") rfl rfl dc_19 (by decide +kernel) (pa_2_0 "forget") (by decide +kernel)
theorem gd_20 : ∀ q ∈ tb_m20, dx_gd nm_cl nm_ql kd (tb_Z L xs) (G0 kd D tc L xs) lw_ws tb_Y tb_B 20 q.1 q.2 := dx_gd_pl (PL := (pl_3_0 ++ pl_3_1)) (own := "DecimalRun$Outcome") (nm := "<init>") rfl rfl dc_20 (by decide +kernel) (List.forall_mem_append.mpr ⟨pa_3_0 "<init>", pa_3_1⟩) (by decide +kernel)
theorem gd_21 : ∀ q ∈ tb_m21, dx_gd nm_cl nm_ql kd (tb_Z L xs) (G0 kd D tc L xs) lw_ws tb_Y tb_B 21 q.1 q.2 := dx_gd_pl (PL := pl_3_0) (own := "DecimalRun$Outcome") (nm := "begin") rfl rfl dc_21 (by decide +kernel) (pa_3_0 "begin") (by decide +kernel)
theorem gd_23 : ∀ q ∈ tb_m23, dx_gd nm_cl nm_ql kd (tb_Z L xs) (G0 kd D tc L xs) lw_ws tb_Y tb_B 23 q.1 q.2 := dx_gd_pl (PL := pl_3_0) (own := "DecimalRun$Outcome") (nm := "step") rfl rfl dc_23 (by decide +kernel) (pa_3_0 "step") (by decide +kernel)
theorem gd_24 : ∀ q ∈ tb_m24, dx_gd nm_cl nm_ql kd (tb_Z L xs) (G0 kd D tc L xs) lw_ws tb_Y tb_B 24 q.1 q.2 := dx_gd_pl (PL := pl_3_0) (own := "DecimalRun$Outcome") (nm := "write") rfl rfl dc_24 (by decide +kernel) (pa_3_0 "write") (by decide +kernel)
theorem gd_25 : ∀ q ∈ tb_m25, dx_gd nm_cl nm_ql kd (tb_Z L xs) (G0 kd D tc L xs) lw_ws tb_Y tb_B 25 q.1 q.2 := dx_gd_pl (PL := pl_3_0) (own := "DecimalRun$Outcome") (nm := "digitsOf") rfl rfl dc_25 (by decide +kernel) (pa_3_0 "digitsOf") (by decide +kernel)
theorem gd_26 : ∀ q ∈ tb_m26, dx_gd nm_cl nm_ql kd (tb_Z L xs) (G0 kd D tc L xs) lw_ws tb_Y tb_B 26 q.1 q.2 := dx_gd_pl (PL := (pl_4_0 ++ pl_4_1)) (own := "DecimalRun$Code") (nm := "<init>") rfl rfl dc_26 (by decide +kernel) (List.forall_mem_append.mpr ⟨pa_4_0 "<init>", pa_4_1⟩) (by decide +kernel)
theorem gd_27 : ∀ q ∈ tb_m27, dx_gd nm_cl nm_ql kd (tb_Z L xs) (G0 kd D tc L xs) lw_ws tb_Y tb_B 27 q.1 q.2 := dx_gd_pl (PL := pl_4_0) (own := "DecimalRun$Code") (nm := "begin") rfl rfl dc_27 (by decide +kernel) (pa_4_0 "begin") (by decide +kernel)
theorem gd_28 : ∀ q ∈ tb_m28, dx_gd nm_cl nm_ql kd (tb_Z L xs) (G0 kd D tc L xs) lw_ws tb_Y tb_B 28 q.1 q.2 := dx_gd_pl (PL := pl_4_0) (own := "DecimalRun$Code") (nm := "isFunction") rfl rfl dc_28 (by decide +kernel) (pa_4_0 "isFunction") (by decide +kernel)
theorem gd_29 : ∀ q ∈ tb_m29, dx_gd nm_cl nm_ql kd (tb_Z L xs) (G0 kd D tc L xs) lw_ws tb_Y tb_B 29 q.1 q.2 := dx_gd_pl (PL := pl_4_0) (own := "DecimalRun$Code") (nm := "emit") rfl rfl dc_29 (by decide +kernel) (pa_4_0 "emit") (by decide +kernel)
theorem gd_30 : ∀ q ∈ tb_m30, dx_gd nm_cl nm_ql kd (tb_Z L xs) (G0 kd D tc L xs) lw_ws tb_Y tb_B 30 q.1 q.2 := dx_gd_pl (PL := pl_4_0) (own := "DecimalRun$Code") (nm := "define") rfl rfl dc_30 (by decide +kernel) (pa_4_0 "define") (by decide +kernel)
theorem gd_31 : ∀ q ∈ tb_m31, dx_gd nm_cl nm_ql kd (tb_Z L xs) (G0 kd D tc L xs) lw_ws tb_Y tb_B 31 q.1 q.2 := dx_gd_pl (PL := pl_4_0) (own := "DecimalRun$Code") (nm := "land") rfl rfl dc_31 (by decide +kernel) (pa_4_0 "land") (by decide +kernel)
theorem gd_32 : ∀ q ∈ tb_m32, dx_gd nm_cl nm_ql kd (tb_Z L xs) (G0 kd D tc L xs) lw_ws tb_Y tb_B 32 q.1 q.2 := dx_gd_pl (PL := (pl_5_0 ++ pl_5_1)) (own := "DecimalRun$Scanner") (nm := "<init>") rfl rfl dc_32 (by decide +kernel) (List.forall_mem_append.mpr ⟨pa_5_0 "<init>", pa_5_1⟩) (by decide +kernel)
theorem gd_33 : ∀ q ∈ tb_m33, dx_gd nm_cl nm_ql kd (tb_Z L xs) (G0 kd D tc L xs) lw_ws tb_Y tb_B 33 q.1 q.2 := dx_gd_pl (PL := pl_5_0) (own := "DecimalRun$Scanner") (nm := "scan") rfl rfl dc_33 (by decide +kernel) (pa_5_0 "scan") (by decide +kernel)
theorem gd_34 : ∀ q ∈ tb_m34, dx_gd nm_cl nm_ql kd (tb_Z L xs) (G0 kd D tc L xs) lw_ws tb_Y tb_B 34 q.1 q.2 := dx_gd_pl (PL := pl_5_0) (own := "DecimalRun$Scanner") (nm := "take") rfl rfl dc_34 (by decide +kernel) (pa_5_0 "take") (by decide +kernel)
theorem gd_35 : ∀ q ∈ tb_m35, dx_gd nm_cl nm_ql kd (tb_Z L xs) (G0 kd D tc L xs) lw_ws tb_Y tb_B 35 q.1 q.2 := dx_gd_pl (PL := pl_5_0) (own := "DecimalRun$Scanner") (nm := "isDigit") rfl rfl dc_35 (by decide +kernel) (pa_5_0 "isDigit") (by decide +kernel)
theorem gd_36 : ∀ q ∈ tb_m36, dx_gd nm_cl nm_ql kd (tb_Z L xs) (G0 kd D tc L xs) lw_ws tb_Y tb_B 36 q.1 q.2 := dx_gd_pl (PL := pl_5_0) (own := "DecimalRun$Scanner") (nm := "takeNumeral") rfl rfl dc_36 (by decide +kernel) (pa_5_0 "takeNumeral") (by decide +kernel)
theorem gd_37 : ∀ q ∈ tb_m37, dx_gd nm_cl nm_ql kd (tb_Z L xs) (G0 kd D tc L xs) lw_ws tb_Y tb_B 37 q.1 q.2 := dx_gd_pl (PL := pl_5_0) (own := "DecimalRun$Scanner") (nm := "digits") rfl rfl dc_37 (by decide +kernel) (pa_5_0 "digits") (by decide +kernel)
theorem gd_38 : ∀ q ∈ tb_m38, dx_gd nm_cl nm_ql kd (tb_Z L xs) (G0 kd D tc L xs) lw_ws tb_Y tb_B 38 q.1 q.2 := dx_gd_pl (PL := pl_5_0) (own := "DecimalRun$Scanner") (nm := "add") rfl rfl dc_38 (by decide +kernel) (pa_5_0 "add") (by decide +kernel)
theorem gd_39 : ∀ q ∈ tb_m39, dx_gd nm_cl nm_ql kd (tb_Z L xs) (G0 kd D tc L xs) lw_ws tb_Y tb_B 39 q.1 q.2 := dx_gd_pl (PL := pl_5_0) (own := "DecimalRun$Scanner") (nm := "isLetter") rfl rfl dc_39 (by decide +kernel) (pa_5_0 "isLetter") (by decide +kernel)
theorem gd_40 : ∀ q ∈ tb_m40, dx_gd nm_cl nm_ql kd (tb_Z L xs) (G0 kd D tc L xs) lw_ws tb_Y tb_B 40 q.1 q.2 := dx_gd_pl (PL := pl_5_0) (own := "DecimalRun$Scanner") (nm := "takeWord") rfl rfl dc_40 (by decide +kernel) (pa_5_0 "takeWord") (by decide +kernel)
theorem gd_41 : ∀ q ∈ tb_m41, dx_gd nm_cl nm_ql kd (tb_Z L xs) (G0 kd D tc L xs) lw_ws tb_Y tb_B 41 q.1 q.2 := dx_gd_pl (PL := pl_5_0) (own := "DecimalRun$Scanner") (nm := "reserved") rfl rfl dc_41 (by decide +kernel) (pa_5_0 "reserved") (by decide +kernel)
theorem gd_42 : ∀ q ∈ tb_m42, dx_gd nm_cl nm_ql kd (tb_Z L xs) (G0 kd D tc L xs) lw_ws tb_Y tb_B 42 q.1 q.2 := dx_gd_pl (PL := pl_5_0) (own := "DecimalRun$Scanner") (nm := "spells") rfl rfl dc_42 (by decide +kernel) (pa_5_0 "spells") (by decide +kernel)
theorem gd_43 : ∀ q ∈ tb_m43, dx_gd nm_cl nm_ql kd (tb_Z L xs) (G0 kd D tc L xs) lw_ws tb_Y tb_B 43 q.1 q.2 := dx_gd_pl (PL := pl_5_0) (own := "DecimalRun$Scanner") (nm := "takeSymbol") rfl rfl dc_43 (by decide +kernel) (pa_5_0 "takeSymbol") (by decide +kernel)
theorem gd_44 : ∀ q ∈ tb_m44, dx_gd nm_cl nm_ql kd (tb_Z L xs) (G0 kd D tc L xs) lw_ws tb_Y tb_B 44 q.1 q.2 := dx_gd_pl (PL := pl_5_0) (own := "DecimalRun$Scanner") (nm := "withEqualSign") rfl rfl dc_44 (by decide +kernel) (pa_5_0 "withEqualSign") (by decide +kernel)
theorem gd_45 : ∀ q ∈ tb_m45, dx_gd nm_cl nm_ql kd (tb_Z L xs) (G0 kd D tc L xs) lw_ws tb_Y tb_B 45 q.1 q.2 := dx_gd_pl (PL := (pl_6_0 ++ pl_6_1)) (own := "DecimalRun$Parser") (nm := "<init>") rfl rfl dc_45 (by decide +kernel) (List.forall_mem_append.mpr ⟨pa_6_0 "<init>", pa_6_1⟩) (by decide +kernel)
theorem gd_46 : ∀ q ∈ tb_m46, dx_gd nm_cl nm_ql kd (tb_Z L xs) (G0 kd D tc L xs) lw_ws tb_Y tb_B 46 q.1 q.2 := dx_gd_pl (PL := pl_6_0) (own := "DecimalRun$Parser") (nm := "parse") rfl rfl dc_46 (by decide +kernel) (pa_6_0 "parse") (by decide +kernel)
theorem gd_47 : ∀ q ∈ tb_m47, dx_gd nm_cl nm_ql kd (tb_Z L xs) (G0 kd D tc L xs) lw_ws tb_Y tb_B 47 q.1 q.2 := dx_gd_pl (PL := pl_6_0) (own := "DecimalRun$Parser") (nm := "list") rfl rfl dc_47 (by decide +kernel) (pa_6_0 "list") (by decide +kernel)
theorem gd_48 : ∀ q ∈ tb_m48, dx_gd nm_cl nm_ql kd (tb_Z L xs) (G0 kd D tc L xs) lw_ws tb_Y tb_B 48 q.1 q.2 := dx_gd_pl (PL := pl_6_0) (own := "DecimalRun$Parser") (nm := "skipSeparators") rfl rfl dc_48 (by decide +kernel) (pa_6_0 "skipSeparators") (by decide +kernel)
theorem gd_49 : ∀ q ∈ tb_m49, dx_gd nm_cl nm_ql kd (tb_Z L xs) (G0 kd D tc L xs) lw_ws tb_Y tb_B 49 q.1 q.2 := dx_gd_pl (PL := pl_6_0) (own := "DecimalRun$Parser") (nm := "kind") rfl rfl dc_49 (by decide +kernel) (pa_6_0 "kind") (by decide +kernel)
theorem gd_50 : ∀ q ∈ tb_m50, dx_gd nm_cl nm_ql kd (tb_Z L xs) (G0 kd D tc L xs) lw_ws tb_Y tb_B 50 q.1 q.2 := dx_gd_pl (PL := pl_6_0) (own := "DecimalRun$Parser") (nm := "advance") rfl rfl dc_50 (by decide +kernel) (pa_6_0 "advance") (by decide +kernel)
theorem gd_51 : ∀ q ∈ tb_m51, dx_gd nm_cl nm_ql kd (tb_Z L xs) (G0 kd D tc L xs) lw_ws tb_Y tb_B 51 q.1 q.2 := dx_gd_pl (PL := pl_6_0) (own := "DecimalRun$Parser") (nm := "definition") rfl rfl dc_51 (by decide +kernel) (pa_6_0 "definition") (by decide +kernel)
theorem gd_52 : ∀ q ∈ tb_m52, dx_gd nm_cl nm_ql kd (tb_Z L xs) (G0 kd D tc L xs) lw_ws tb_Y tb_B 52 q.1 q.2 := dx_gd_pl (PL := pl_6_0) (own := "DecimalRun$Parser") (nm := "expect") rfl rfl dc_52 (by decide +kernel) (pa_6_0 "expect") (by decide +kernel)
theorem gd_53 : ∀ q ∈ tb_m53, dx_gd nm_cl nm_ql kd (tb_Z L xs) (G0 kd D tc L xs) lw_ws tb_Y tb_B 53 q.1 q.2 := dx_gd_pl (PL := pl_6_0) (own := "DecimalRun$Parser") (nm := "expectName") rfl rfl dc_53 (by decide +kernel) (pa_6_0 "expectName") (by decide +kernel)
theorem gd_54 : ∀ q ∈ tb_m54, dx_gd nm_cl nm_ql kd (tb_Z L xs) (G0 kd D tc L xs) lw_ws tb_Y tb_B 54 q.1 q.2 := dx_gd_pl (PL := pl_6_0) (own := "DecimalRun$Parser") (nm := "braces") rfl rfl dc_54 (by decide +kernel) (pa_6_0 "braces") (by decide +kernel)
theorem gd_55 : ∀ q ∈ tb_m55, dx_gd nm_cl nm_ql kd (tb_Z L xs) (G0 kd D tc L xs) lw_ws tb_Y tb_B 55 q.1 q.2 := dx_gd_pl (PL := pl_6_0) (own := "DecimalRun$Parser") (nm := "deeper") rfl rfl dc_55 (by decide +kernel) (pa_6_0 "deeper") (by decide +kernel)
theorem gd_56 : ∀ q ∈ tb_m56, dx_gd nm_cl nm_ql kd (tb_Z L xs) (G0 kd D tc L xs) lw_ws tb_Y tb_B 56 q.1 q.2 := dx_gd_pl (PL := pl_6_0) (own := "DecimalRun$Parser") (nm := "statement") rfl rfl dc_56 (by decide +kernel) (pa_6_0 "statement") (by decide +kernel)
theorem gd_57 : ∀ q ∈ tb_m57, dx_gd nm_cl nm_ql kd (tb_Z L xs) (G0 kd D tc L xs) lw_ws tb_Y tb_B 57 q.1 q.2 := dx_gd_pl (PL := pl_6_0) (own := "DecimalRun$Parser") (nm := "conditional") rfl rfl dc_57 (by decide +kernel) (pa_6_0 "conditional") (by decide +kernel)
theorem gd_58 : ∀ q ∈ tb_m58, dx_gd nm_cl nm_ql kd (tb_Z L xs) (G0 kd D tc L xs) lw_ws tb_Y tb_B 58 q.1 q.2 := dx_gd_pl (PL := pl_6_0) (own := "DecimalRun$Parser") (nm := "condition") rfl rfl dc_58 (by decide +kernel) (pa_6_0 "condition") (by decide +kernel)
theorem gd_59 : ∀ q ∈ tb_m59, dx_gd nm_cl nm_ql kd (tb_Z L xs) (G0 kd D tc L xs) lw_ws tb_Y tb_B 59 q.1 q.2 := dx_gd_pl (PL := pl_6_0) (own := "DecimalRun$Parser") (nm := "expression") rfl rfl dc_59 (by decide +kernel) (pa_6_0 "expression") (by decide +kernel)
theorem gd_60 : ∀ q ∈ tb_m60, dx_gd nm_cl nm_ql kd (tb_Z L xs) (G0 kd D tc L xs) lw_ws tb_Y tb_B 60 q.1 q.2 := dx_gd_pl (PL := pl_6_0) (own := "DecimalRun$Parser") (nm := "term") rfl rfl dc_60 (by decide +kernel) (pa_6_0 "term") (by decide +kernel)
theorem gd_61 : ∀ q ∈ tb_m61, dx_gd nm_cl nm_ql kd (tb_Z L xs) (G0 kd D tc L xs) lw_ws tb_Y tb_B 61 q.1 q.2 := dx_gd_pl (PL := pl_6_0) (own := "DecimalRun$Parser") (nm := "unary") rfl rfl dc_61 (by decide +kernel) (pa_6_0 "unary") (by decide +kernel)
theorem gd_62 : ∀ q ∈ tb_m62, dx_gd nm_cl nm_ql kd (tb_Z L xs) (G0 kd D tc L xs) lw_ws tb_Y tb_B 62 q.1 q.2 := dx_gd_pl (PL := pl_6_0) (own := "DecimalRun$Parser") (nm := "power") rfl rfl dc_62 (by decide +kernel) (pa_6_0 "power") (by decide +kernel)
theorem gd_63 : ∀ q ∈ tb_m63, dx_gd nm_cl nm_ql kd (tb_Z L xs) (G0 kd D tc L xs) lw_ws tb_Y tb_B 63 q.1 q.2 := dx_gd_pl (PL := pl_6_0) (own := "DecimalRun$Parser") (nm := "atom") rfl rfl dc_63 (by decide +kernel) (pa_6_0 "atom") (by decide +kernel)
theorem gd_64 : ∀ q ∈ tb_m64, dx_gd nm_cl nm_ql kd (tb_Z L xs) (G0 kd D tc L xs) lw_ws tb_Y tb_B 64 q.1 q.2 := dx_gd_pl (PL := pl_6_0) (own := "DecimalRun$Parser") (nm := "parentheses") rfl rfl dc_64 (by decide +kernel) (pa_6_0 "parentheses") (by decide +kernel)
theorem gd_65 : ∀ q ∈ tb_m65, dx_gd nm_cl nm_ql kd (tb_Z L xs) (G0 kd D tc L xs) lw_ws tb_Y tb_B 65 q.1 q.2 := dx_gd_pl (PL := pl_6_0) (own := "DecimalRun$Parser") (nm := "isFactorSign") rfl rfl dc_65 (by decide +kernel) (pa_6_0 "isFactorSign") (by decide +kernel)
theorem gd_66 : ∀ q ∈ tb_m66, dx_gd nm_cl nm_ql kd (tb_Z L xs) (G0 kd D tc L xs) lw_ws tb_Y tb_B 66 q.1 q.2 := dx_gd_pl (PL := pl_6_0) (own := "DecimalRun$Parser") (nm := "isSign") rfl rfl dc_66 (by decide +kernel) (pa_6_0 "isSign") (by decide +kernel)
theorem gd_67 : ∀ q ∈ tb_m67, dx_gd nm_cl nm_ql kd (tb_Z L xs) (G0 kd D tc L xs) lw_ws tb_Y tb_B 67 q.1 q.2 := dx_gd_pl (PL := pl_6_0) (own := "DecimalRun$Parser") (nm := "isRelation") rfl rfl dc_67 (by decide +kernel) (pa_6_0 "isRelation") (by decide +kernel)
theorem gd_68 : ∀ q ∈ tb_m68, dx_gd nm_cl nm_ql kd (tb_Z L xs) (G0 kd D tc L xs) lw_ws tb_Y tb_B 68 q.1 q.2 := dx_gd_pl (PL := pl_6_0) (own := "DecimalRun$Parser") (nm := "giveBack") rfl rfl dc_68 (by decide +kernel) (pa_6_0 "giveBack") (by decide +kernel)
theorem gd_69 : ∀ q ∈ tb_m69, dx_gd nm_cl nm_ql kd (tb_Z L xs) (G0 kd D tc L xs) lw_ws tb_Y tb_B 69 q.1 q.2 := dx_gd_pl (PL := pl_6_0) (own := "DecimalRun$Parser") (nm := "following") rfl rfl dc_69 (by decide +kernel) (pa_6_0 "following") (by decide +kernel)
theorem gd_70 : ∀ q ∈ tb_m70, dx_gd nm_cl nm_ql kd (tb_Z L xs) (G0 kd D tc L xs) lw_ws tb_Y tb_B 70 q.1 q.2 := dx_gd_pl (PL := pl_6_0) (own := "DecimalRun$Parser") (nm := "assignment") rfl rfl dc_70 (by decide +kernel) (pa_6_0 "assignment") (by decide +kernel)
theorem gd_71 : ∀ q ∈ tb_m71, dx_gd nm_cl nm_ql kd (tb_Z L xs) (G0 kd D tc L xs) lw_ws tb_Y tb_B 71 q.1 q.2 := dx_gd_pl (PL := (pl_7_0 ++ pl_7_1)) (own := "DecimalRun$Machine") (nm := "<init>") rfl rfl dc_71 (by decide +kernel) (List.forall_mem_append.mpr ⟨pa_7_0 "<init>", pa_7_1⟩) (by decide +kernel)
theorem gd_72 : ∀ q ∈ tb_m72, dx_gd nm_cl nm_ql kd (tb_Z L xs) (G0 kd D tc L xs) lw_ws tb_Y tb_B 72 q.1 q.2 := dx_gd_pl (PL := pl_7_0) (own := "DecimalRun$Machine") (nm := "execute") rfl rfl dc_72 (by decide +kernel) (pa_7_0 "execute") (by decide +kernel)
theorem gd_73 : ∀ q ∈ tb_m73, dx_gd nm_cl nm_ql kd (tb_Z L xs) (G0 kd D tc L xs) lw_ws tb_Y tb_B 73 q.1 q.2 := dx_gd_pl (PL := pl_7_0) (own := "DecimalRun$Machine") (nm := "perform") rfl rfl dc_73 (by decide +kernel) (pa_7_0 "perform") (by decide +kernel)
theorem gd_74 : ∀ q ∈ tb_m74, dx_gd nm_cl nm_ql kd (tb_Z L xs) (G0 kd D tc L xs) lw_ws tb_Y tb_B 74 q.1 q.2 := dx_gd_pl (PL := pl_7_0) (own := "DecimalRun$Machine") (nm := "push") rfl rfl dc_74 (by decide +kernel) (pa_7_0 "push") (by decide +kernel)
theorem gd_75 : ∀ q ∈ tb_m75, dx_gd nm_cl nm_ql kd (tb_Z L xs) (G0 kd D tc L xs) lw_ws tb_Y tb_B 75 q.1 q.2 := dx_gd_pl (PL := pl_7_0) (own := "DecimalRun$Machine") (nm := "pop") rfl rfl dc_75 (by decide +kernel) (pa_7_0 "pop") (by decide +kernel)
theorem gd_76 : ∀ q ∈ tb_m76, dx_gd nm_cl nm_ql kd (tb_Z L xs) (G0 kd D tc L xs) lw_ws tb_Y tb_B 76 q.1 q.2 := dx_gd_pl (PL := pl_7_0) (own := "DecimalRun$Machine") (nm := "call") rfl rfl dc_76 (by decide +kernel) (pa_7_0 "call") (by decide +kernel)
theorem gd_77 : ∀ q ∈ tb_m77, dx_gd nm_cl nm_ql kd (tb_Z L xs) (G0 kd D tc L xs) lw_ws tb_Y tb_B 77 q.1 q.2 := dx_gd_pl (PL := pl_7_0) (own := "DecimalRun$Machine") (nm := "giveBack") rfl rfl dc_77 (by decide +kernel) (pa_7_0 "giveBack") (by decide +kernel)
theorem gd_78 : ∀ q ∈ tb_m78, dx_gd nm_cl nm_ql kd (tb_Z L xs) (G0 kd D tc L xs) lw_ws tb_Y tb_B 78 q.1 q.2 := dx_gd_pl (PL := (pl_8_0 ++ pl_8_1)) (own := "DecimalRun$Arithmetic") (nm := "<init>") rfl rfl dc_78 (by decide +kernel) (List.forall_mem_append.mpr ⟨pa_8_0 "<init>", pa_8_1⟩) (by decide +kernel)
theorem gd_79 : ∀ q ∈ tb_m79, dx_gd nm_cl nm_ql kd (tb_Z L xs) (G0 kd D tc L xs) lw_ws tb_Y tb_B 79 q.1 q.2 := dx_gd_pl (PL := pl_8_0) (own := "DecimalRun$Arithmetic") (nm := "mantissa") rfl rfl dc_79 (by decide +kernel) (pa_8_0 "mantissa") (by decide +kernel)
theorem gd_80 : ∀ q ∈ tb_m80, dx_gd nm_cl nm_ql kd (tb_Z L xs) (G0 kd D tc L xs) lw_ws tb_Y tb_B 80 q.1 q.2 := dx_gd_pl (PL := pl_8_0) (own := "DecimalRun$Arithmetic") (nm := "places") rfl rfl dc_80 (by decide +kernel) (pa_8_0 "places") (by decide +kernel)
theorem gd_81 : ∀ q ∈ tb_m81, dx_gd nm_cl nm_ql kd (tb_Z L xs) (G0 kd D tc L xs) lw_ws tb_Y tb_B 81 q.1 q.2 := dx_gd_pl (PL := pl_8_0) (own := "DecimalRun$Arithmetic") (nm := "pack") rfl rfl dc_81 (by decide +kernel) (pa_8_0 "pack") (by decide +kernel)
theorem gd_82 : ∀ q ∈ tb_m82, dx_gd nm_cl nm_ql kd (tb_Z L xs) (G0 kd D tc L xs) lw_ws tb_Y tb_B 82 q.1 q.2 := dx_gd_pl (PL := pl_8_0) (own := "DecimalRun$Arithmetic") (nm := "whole") rfl rfl dc_82 (by decide +kernel) (pa_8_0 "whole") (by decide +kernel)
theorem gd_83 : ∀ q ∈ tb_m83, dx_gd nm_cl nm_ql kd (tb_Z L xs) (G0 kd D tc L xs) lw_ws tb_Y tb_B 83 q.1 q.2 := dx_gd_pl (PL := pl_8_0) (own := "DecimalRun$Arithmetic") (nm := "negated") rfl rfl dc_83 (by decide +kernel) (pa_8_0 "negated") (by decide +kernel)
theorem gd_84 : ∀ q ∈ tb_m84, dx_gd nm_cl nm_ql kd (tb_Z L xs) (G0 kd D tc L xs) lw_ws tb_Y tb_B 84 q.1 q.2 := dx_gd_pl (PL := pl_8_0) (own := "DecimalRun$Arithmetic") (nm := "operate") rfl rfl dc_84 (by decide +kernel) (pa_8_0 "operate") (by decide +kernel)
theorem gd_85 : ∀ q ∈ tb_m85, dx_gd nm_cl nm_ql kd (tb_Z L xs) (G0 kd D tc L xs) lw_ws tb_Y tb_B 85 q.1 q.2 := dx_gd_pl (PL := pl_8_0) (own := "DecimalRun$Arithmetic") (nm := "sum") rfl rfl dc_85 (by decide +kernel) (pa_8_0 "sum") (by decide +kernel)
theorem gd_86 : ∀ q ∈ tb_m86, dx_gd nm_cl nm_ql kd (tb_Z L xs) (G0 kd D tc L xs) lw_ws tb_Y tb_B 86 q.1 q.2 := dx_gd_pl (PL := pl_8_0) (own := "DecimalRun$Arithmetic") (nm := "aligned") rfl rfl dc_86 (by decide +kernel) (pa_8_0 "aligned") (by decide +kernel)
theorem gd_87 : ∀ q ∈ tb_m87, dx_gd nm_cl nm_ql kd (tb_Z L xs) (G0 kd D tc L xs) lw_ws tb_Y tb_B 87 q.1 q.2 := dx_gd_pl (PL := pl_8_0) (own := "DecimalRun$Arithmetic") (nm := "checked") rfl rfl dc_87 (by decide +kernel) (pa_8_0 "checked") (by decide +kernel)
theorem gd_88 : ∀ q ∈ tb_m88, dx_gd nm_cl nm_ql kd (tb_Z L xs) (G0 kd D tc L xs) lw_ws tb_Y tb_B 88 q.1 q.2 := dx_gd_pl (PL := pl_8_0) (own := "DecimalRun$Arithmetic") (nm := "product") rfl rfl dc_88 (by decide +kernel) (pa_8_0 "product") (by decide +kernel)
theorem gd_89 : ∀ q ∈ tb_m89, dx_gd nm_cl nm_ql kd (tb_Z L xs) (G0 kd D tc L xs) lw_ws tb_Y tb_B 89 q.1 q.2 := dx_gd_pl (PL := pl_8_0) (own := "DecimalRun$Arithmetic") (nm := "quotient") rfl rfl dc_89 (by decide +kernel) (pa_8_0 "quotient") (by decide +kernel)
theorem gd_90 : ∀ q ∈ tb_m90, dx_gd nm_cl nm_ql kd (tb_Z L xs) (G0 kd D tc L xs) lw_ws tb_Y tb_B 90 q.1 q.2 := dx_gd_pl (PL := pl_8_0) (own := "DecimalRun$Arithmetic") (nm := "refuseZero") rfl rfl dc_90 (by decide +kernel) (pa_8_0 "refuseZero") (by decide +kernel)
theorem gd_91 : ∀ q ∈ tb_m91, dx_gd nm_cl nm_ql kd (tb_Z L xs) (G0 kd D tc L xs) lw_ws tb_Y tb_B 91 q.1 q.2 := dx_gd_pl (PL := pl_8_0) (own := "DecimalRun$Arithmetic") (nm := "remainder") rfl rfl dc_91 (by decide +kernel) (pa_8_0 "remainder") (by decide +kernel)
theorem gd_92 : ∀ q ∈ tb_m92, dx_gd nm_cl nm_ql kd (tb_Z L xs) (G0 kd D tc L xs) lw_ws tb_Y tb_B 92 q.1 q.2 := dx_gd_pl (PL := pl_8_0) (own := "DecimalRun$Arithmetic") (nm := "power") rfl rfl dc_92 (by decide +kernel) (pa_8_0 "power") (by decide +kernel)
theorem gd_93 : ∀ q ∈ tb_m93, dx_gd nm_cl nm_ql kd (tb_Z L xs) (G0 kd D tc L xs) lw_ws tb_Y tb_B 93 q.1 q.2 := dx_gd_pl (PL := pl_8_0) (own := "DecimalRun$Arithmetic") (nm := "holds") rfl rfl dc_93 (by decide +kernel) (pa_8_0 "holds") (by decide +kernel)
theorem gd_94 : ∀ q ∈ tb_m94, dx_gd nm_cl nm_ql kd (tb_Z L xs) (G0 kd D tc L xs) lw_ws tb_Y tb_B 94 q.1 q.2 := dx_gd_pl (PL := (pl_9_0 ++ pl_9_1)) (own := "DecimalRunModel") (nm := "<init>") rfl rfl dc_94 (by decide +kernel) (List.forall_mem_append.mpr ⟨pa_9_0 "<init>", pa_9_1⟩) (by decide +kernel)
theorem gd_95 : ∀ q ∈ tb_m95, dx_gd nm_cl nm_ql kd (tb_Z L xs) (G0 kd D tc L xs) lw_ws tb_Y tb_B 95 q.1 q.2 := dx_gd_pl (PL := pl_9_0) (own := "DecimalRunModel") (nm := "feed") rfl rfl dc_95 (by decide +kernel) (pa_9_0 "feed") (by decide +kernel)
theorem gd_96 : ∀ q ∈ tb_m96, dx_gd nm_cl nm_ql kd (tb_Z L xs) (G0 kd D tc L xs) lw_ws tb_Y tb_B 96 q.1 q.2 := dx_gd_pl (PL := pl_9_0) (own := "DecimalRunModel") (nm := "length") rfl rfl dc_96 (by decide +kernel) (pa_9_0 "length") (by decide +kernel)
theorem gd_97 : ∀ q ∈ tb_m97, dx_gd nm_cl nm_ql kd (tb_Z L xs) (G0 kd D tc L xs) lw_ws tb_Y tb_B 97 q.1 q.2 := dx_gd_pl (PL := pl_9_0) (own := "DecimalRunModel") (nm := "clear") rfl rfl dc_97 (by decide +kernel) (pa_9_0 "clear") (by decide +kernel)
theorem gd_98 : ∀ q ∈ tb_m98, dx_gd nm_cl nm_ql kd (tb_Z L xs) (G0 kd D tc L xs) lw_ws tb_Y tb_B 98 q.1 q.2 := dx_gd_pl (PL := pl_9_0) (own := "DecimalRunModel") (nm := "reset") rfl rfl dc_98 (by decide +kernel) (pa_9_0 "reset") (by decide +kernel)
theorem gd_99 : ∀ q ∈ tb_m99, dx_gd nm_cl nm_ql kd (tb_Z L xs) (G0 kd D tc L xs) lw_ws tb_Y tb_B 99 q.1 q.2 := dx_gd_pl (PL := pl_9_0) (own := "DecimalRunModel") (nm := "run") rfl rfl dc_99 (by decide +kernel) (pa_9_0 "run") (by decide +kernel)
theorem gd_100 : ∀ q ∈ tb_m100, dx_gd nm_cl nm_ql kd (tb_Z L xs) (G0 kd D tc L xs) lw_ws tb_Y tb_B 100 q.1 q.2 := dx_gd_pl (PL := pl_9_0) (own := "DecimalRunModel") (nm := "split") rfl rfl dc_100 (by decide +kernel) (pa_9_0 "split") (by decide +kernel)
theorem gd_101 : ∀ q ∈ tb_m101, dx_gd nm_cl nm_ql kd (tb_Z L xs) (G0 kd D tc L xs) lw_ws tb_Y tb_B 101 q.1 q.2 := dx_gd_pl (PL := pl_9_0) (own := "DecimalRunModel") (nm := "charAt") rfl rfl dc_101 (by decide +kernel) (pa_9_0 "charAt") (by decide +kernel)
theorem gd_102 : ∀ q ∈ tb_m102, dx_gd nm_cl nm_ql kd (tb_Z L xs) (G0 kd D tc L xs) lw_ws tb_Y tb_B 102 q.1 q.2 := dx_gd_pl (PL := pl_9_0) (own := "DecimalRunModel") (nm := "isDigit") rfl rfl dc_102 (by decide +kernel) (pa_9_0 "isDigit") (by decide +kernel)
theorem gd_103 : ∀ q ∈ tb_m103, dx_gd nm_cl nm_ql kd (tb_Z L xs) (G0 kd D tc L xs) lw_ws tb_Y tb_B 103 q.1 q.2 := dx_gd_pl (PL := pl_9_0) (own := "DecimalRunModel") (nm := "numeral") rfl rfl dc_103 (by decide +kernel) (pa_9_0 "numeral") (by decide +kernel)
theorem gd_104 : ∀ q ∈ tb_m104, dx_gd nm_cl nm_ql kd (tb_Z L xs) (G0 kd D tc L xs) lw_ws tb_Y tb_B 104 q.1 q.2 := dx_gd_pl (PL := pl_9_0) (own := "DecimalRunModel") (nm := "token") rfl rfl dc_104 (by decide +kernel) (pa_9_0 "token") (by decide +kernel)
theorem gd_105 : ∀ q ∈ tb_m105, dx_gd nm_cl nm_ql kd (tb_Z L xs) (G0 kd D tc L xs) lw_ws tb_Y tb_B 105 q.1 q.2 := dx_gd_pl (PL := pl_9_0) (own := "DecimalRunModel") (nm := "isSmall") rfl rfl dc_105 (by decide +kernel) (pa_9_0 "isSmall") (by decide +kernel)
theorem gd_106 : ∀ q ∈ tb_m106, dx_gd nm_cl nm_ql kd (tb_Z L xs) (G0 kd D tc L xs) lw_ws tb_Y tb_B 106 q.1 q.2 := dx_gd_pl (PL := pl_9_0) (own := "DecimalRunModel") (nm := "word") rfl rfl dc_106 (by decide +kernel) (pa_9_0 "word") (by decide +kernel)
theorem gd_107 : ∀ q ∈ tb_m107, dx_gd nm_cl nm_ql kd (tb_Z L xs) (G0 kd D tc L xs) lw_ws tb_Y tb_B 107 q.1 q.2 := dx_gd_pl (PL := pl_9_0) (own := "DecimalRunModel") (nm := "sign") rfl rfl dc_107 (by decide +kernel) (pa_9_0 "sign") (by decide +kernel)
theorem gd_108 : ∀ q ∈ tb_m108, dx_gd nm_cl nm_ql kd (tb_Z L xs) (G0 kd D tc L xs) lw_ws tb_Y tb_B 108 q.1 q.2 := dx_gd_pl (PL := pl_9_0) (own := "DecimalRunModel") (nm := "parse") rfl rfl dc_108 (by decide +kernel) (pa_9_0 "parse") (by decide +kernel)
theorem gd_109 : ∀ q ∈ tb_m109, dx_gd nm_cl nm_ql kd (tb_Z L xs) (G0 kd D tc L xs) lw_ws tb_Y tb_B 109 q.1 q.2 := dx_gd_pl (PL := pl_9_0) (own := "DecimalRunModel") (nm := "push") rfl rfl dc_109 (by decide +kernel) (pa_9_0 "push") (by decide +kernel)
theorem gd_110 : ∀ q ∈ tb_m110, dx_gd nm_cl nm_ql kd (tb_Z L xs) (G0 kd D tc L xs) lw_ws tb_Y tb_B 110 q.1 q.2 := dx_gd_pl (PL := pl_9_0) (own := "DecimalRunModel") (nm := "readList") rfl rfl dc_110 (by decide +kernel) (pa_9_0 "readList") (by decide +kernel)
theorem gd_111 : ∀ q ∈ tb_m111, dx_gd nm_cl nm_ql kd (tb_Z L xs) (G0 kd D tc L xs) lw_ws tb_Y tb_B 111 q.1 q.2 := dx_gd_pl (PL := pl_9_0) (own := "DecimalRunModel") (nm := "statement") rfl rfl dc_111 (by decide +kernel) (pa_9_0 "statement") (by decide +kernel)
theorem gd_112 : ∀ q ∈ tb_m112, dx_gd nm_cl nm_ql kd (tb_Z L xs) (G0 kd D tc L xs) lw_ws tb_Y tb_B 112 q.1 q.2 := dx_gd_pl (PL := pl_9_0) (own := "DecimalRunModel") (nm := "accept") rfl rfl dc_112 (by decide +kernel) (pa_9_0 "accept") (by decide +kernel)
theorem gd_113 : ∀ q ∈ tb_m113, dx_gd nm_cl nm_ql kd (tb_Z L xs) (G0 kd D tc L xs) lw_ws tb_Y tb_B 113 q.1 q.2 := dx_gd_pl (PL := pl_9_0) (own := "DecimalRunModel") (nm := "deeper") rfl rfl dc_113 (by decide +kernel) (pa_9_0 "deeper") (by decide +kernel)
theorem gd_114 : ∀ q ∈ tb_m114, dx_gd nm_cl nm_ql kd (tb_Z L xs) (G0 kd D tc L xs) lw_ws tb_Y tb_B 114 q.1 q.2 := dx_gd_pl (PL := pl_9_0) (own := "DecimalRunModel") (nm := "emit") rfl rfl dc_114 (by decide +kernel) (pa_9_0 "emit") (by decide +kernel)
theorem gd_115 : ∀ q ∈ tb_m115, dx_gd nm_cl nm_ql kd (tb_Z L xs) (G0 kd D tc L xs) lw_ws tb_Y tb_B 115 q.1 q.2 := dx_gd_pl (PL := pl_9_0) (own := "DecimalRunModel") (nm := "expect") rfl rfl dc_115 (by decide +kernel) (pa_9_0 "expect") (by decide +kernel)
theorem gd_116 : ∀ q ∈ tb_m116, dx_gd nm_cl nm_ql kd (tb_Z L xs) (G0 kd D tc L xs) lw_ws tb_Y tb_B 116 q.1 q.2 := dx_gd_pl (PL := pl_9_0) (own := "DecimalRunModel") (nm := "define") rfl rfl dc_116 (by decide +kernel) (pa_9_0 "define") (by decide +kernel)
theorem gd_117 : ∀ q ∈ tb_m117, dx_gd nm_cl nm_ql kd (tb_Z L xs) (G0 kd D tc L xs) lw_ws tb_Y tb_B 117 q.1 q.2 := dx_gd_pl (PL := pl_9_0) (own := "DecimalRunModel") (nm := "readExpression") rfl rfl dc_117 (by decide +kernel) (pa_9_0 "readExpression") (by decide +kernel)
theorem gd_118 : ∀ q ∈ tb_m118, dx_gd nm_cl nm_ql kd (tb_Z L xs) (G0 kd D tc L xs) lw_ws tb_Y tb_B 118 q.1 q.2 := dx_gd_pl (PL := pl_9_0) (own := "DecimalRunModel") (nm := "more") rfl rfl dc_118 (by decide +kernel) (pa_9_0 "more") (by decide +kernel)
theorem gd_119 : ∀ q ∈ tb_m119, dx_gd nm_cl nm_ql kd (tb_Z L xs) (G0 kd D tc L xs) lw_ws tb_Y tb_B 119 q.1 q.2 := dx_gd_pl (PL := pl_9_0) (own := "DecimalRunModel") (nm := "primary") rfl rfl dc_119 (by decide +kernel) (pa_9_0 "primary") (by decide +kernel)
theorem gd_120 : ∀ q ∈ tb_m120, dx_gd nm_cl nm_ql kd (tb_Z L xs) (G0 kd D tc L xs) lw_ws tb_Y tb_B 120 q.1 q.2 := dx_gd_pl (PL := pl_9_0) (own := "DecimalRunModel") (nm := "readRest") rfl rfl dc_120 (by decide +kernel) (pa_9_0 "readRest") (by decide +kernel)
theorem gd_121 : ∀ q ∈ tb_m121, dx_gd nm_cl nm_ql kd (tb_Z L xs) (G0 kd D tc L xs) lw_ws tb_Y tb_B 121 q.1 q.2 := dx_gd_pl (PL := pl_9_0) (own := "DecimalRunModel") (nm := "act") rfl rfl dc_121 (by decide +kernel) (pa_9_0 "act") (by decide +kernel)
theorem gd_122 : ∀ q ∈ tb_m122, dx_gd nm_cl nm_ql kd (tb_Z L xs) (G0 kd D tc L xs) lw_ws tb_Y tb_B 122 q.1 q.2 := dx_gd_pl (PL := pl_9_0) (own := "DecimalRunModel") (nm := "pushValue") rfl rfl dc_122 (by decide +kernel) (pa_9_0 "pushValue") (by decide +kernel)
theorem gd_123 : ∀ q ∈ tb_m123, dx_gd nm_cl nm_ql kd (tb_Z L xs) (G0 kd D tc L xs) lw_ws tb_Y tb_B 123 q.1 q.2 := dx_gd_pl (PL := pl_9_0) (own := "DecimalRunModel") (nm := "operate") rfl rfl dc_123 (by decide +kernel) (pa_9_0 "operate") (by decide +kernel)
theorem gd_124 : ∀ q ∈ tb_m124, dx_gd nm_cl nm_ql kd (tb_Z L xs) (G0 kd D tc L xs) lw_ws tb_Y tb_B 124 q.1 q.2 := dx_gd_pl (PL := pl_9_0) (own := "DecimalRunModel") (nm := "ten") rfl rfl dc_124 (by decide +kernel) (pa_9_0 "ten") (by decide +kernel)
theorem gd_125 : ∀ q ∈ tb_m125, dx_gd nm_cl nm_ql kd (tb_Z L xs) (G0 kd D tc L xs) lw_ws tb_Y tb_B 125 q.1 q.2 := dx_gd_pl (PL := pl_9_0) (own := "DecimalRunModel") (nm := "result") rfl rfl dc_125 (by decide +kernel) (pa_9_0 "result") (by decide +kernel)
theorem gd_126 : ∀ q ∈ tb_m126, dx_gd nm_cl nm_ql kd (tb_Z L xs) (G0 kd D tc L xs) lw_ws tb_Y tb_B 126 q.1 q.2 := dx_gd_pl (PL := pl_9_0) (own := "DecimalRunModel") (nm := "multiply") rfl rfl dc_126 (by decide +kernel) (pa_9_0 "multiply") (by decide +kernel)
theorem gd_127 : ∀ q ∈ tb_m127, dx_gd nm_cl nm_ql kd (tb_Z L xs) (G0 kd D tc L xs) lw_ws tb_Y tb_B 127 q.1 q.2 := dx_gd_pl (PL := pl_9_0) (own := "DecimalRunModel") (nm := "divide") rfl rfl dc_127 (by decide +kernel) (pa_9_0 "divide") (by decide +kernel)
theorem gd_128 : ∀ q ∈ tb_m128, dx_gd nm_cl nm_ql kd (tb_Z L xs) (G0 kd D tc L xs) lw_ws tb_Y tb_B 128 q.1 q.2 := dx_gd_pl (PL := pl_9_0) (own := "DecimalRunModel") (nm := "power") rfl rfl dc_128 (by decide +kernel) (pa_9_0 "power") (by decide +kernel)
theorem gd_129 : ∀ q ∈ tb_m129, dx_gd nm_cl nm_ql kd (tb_Z L xs) (G0 kd D tc L xs) lw_ws tb_Y tb_B 129 q.1 q.2 := dx_gd_pl (PL := pl_9_0) (own := "DecimalRunModel") (nm := "call") rfl rfl dc_129 (by decide +kernel) (pa_9_0 "call") (by decide +kernel)
theorem gd_130 : ∀ q ∈ tb_m130, dx_gd nm_cl nm_ql kd (tb_Z L xs) (G0 kd D tc L xs) lw_ws tb_Y tb_B 130 q.1 q.2 := dx_gd_pl (PL := pl_9_0) (own := "DecimalRunModel") (nm := "holds") rfl rfl dc_130 (by decide +kernel) (pa_9_0 "holds") (by decide +kernel)
theorem gd_131 : ∀ q ∈ tb_m131, dx_gd nm_cl nm_ql kd (tb_Z L xs) (G0 kd D tc L xs) lw_ws tb_Y tb_B 131 q.1 q.2 := dx_gd_pl (PL := pl_9_0) (own := "DecimalRunModel") (nm := "finish") rfl rfl dc_131 (by decide +kernel) (pa_9_0 "finish") (by decide +kernel)
theorem gd_132 : ∀ q ∈ tb_m132, dx_gd nm_cl nm_ql kd (tb_Z L xs) (G0 kd D tc L xs) lw_ws tb_Y tb_B 132 q.1 q.2 := dx_gd_pl (PL := pl_9_0) (own := "DecimalRunModel") (nm := "setScale") rfl rfl dc_132 (by decide +kernel) (pa_9_0 "setScale") (by decide +kernel)
theorem gd_133 : ∀ q ∈ tb_m133, dx_gd nm_cl nm_ql kd (tb_Z L xs) (G0 kd D tc L xs) lw_ws tb_Y tb_B 133 q.1 q.2 := dx_gd_pl (PL := pl_9_0) (own := "DecimalRunModel") (nm := "write") rfl rfl dc_133 (by decide +kernel) (pa_9_0 "write") (by decide +kernel)
theorem gd_134 : ∀ q ∈ tb_m134, dx_gd nm_cl nm_ql kd (tb_Z L xs) (G0 kd D tc L xs) lw_ws tb_Y tb_B 134 q.1 q.2 := dx_gd_pl (PL := pl_9_0) (own := "DecimalRunModel") (nm := "put") rfl rfl dc_134 (by decide +kernel) (pa_9_0 "put") (by decide +kernel)
theorem gd_135 : ∀ q ∈ tb_m135, dx_gd nm_cl nm_ql kd (tb_Z L xs) (G0 kd D tc L xs) lw_ws tb_Y tb_B 135 q.1 q.2 := dx_gd_pl (PL := pl_9_0) (own := "DecimalRunModel") (nm := "back") rfl rfl dc_135 (by decide +kernel) (pa_9_0 "back") (by decide +kernel)
theorem gd_136 : ∀ q ∈ tb_m136, dx_gd nm_cl nm_ql kd (tb_Z L xs) (G0 kd D tc L xs) lw_ws tb_Y tb_B 136 q.1 q.2 := dx_gd_pl (PL := pl_9_0) (own := "DecimalRunModel") (nm := "fault") rfl rfl dc_136 (by decide +kernel) (pa_9_0 "fault") (by decide +kernel)
theorem gd_137 : ∀ q ∈ tb_m137, dx_gd nm_cl nm_ql kd (tb_Z L xs) (G0 kd D tc L xs) lw_ws tb_Y tb_B 137 q.1 q.2 := dx_gd_pl (PL := pl_9_0) (own := "DecimalRunModel") (nm := "steps") rfl rfl dc_137 (by decide +kernel) (pa_9_0 "steps") (by decide +kernel)
theorem gd_138 : ∀ q ∈ tb_m138, dx_gd nm_cl nm_ql kd (tb_Z L xs) (G0 kd D tc L xs) lw_ws tb_Y tb_B 138 q.1 q.2 := dx_gd_pl (PL := pl_9_0) (own := "DecimalRunModel") (nm := "outLength") rfl rfl dc_138 (by decide +kernel) (pa_9_0 "outLength") (by decide +kernel)
theorem gd_139 : ∀ q ∈ tb_m139, dx_gd nm_cl nm_ql kd (tb_Z L xs) (G0 kd D tc L xs) lw_ws tb_Y tb_B 139 q.1 q.2 := dx_gd_pl (PL := pl_9_0) (own := "DecimalRunModel") (nm := "out") rfl rfl dc_139 (by decide +kernel) (pa_9_0 "out") (by decide +kernel)
theorem gd_140 : ∀ q ∈ tb_m140, dx_gd nm_cl nm_ql kd (tb_Z L xs) (G0 kd D tc L xs) lw_ws tb_Y tb_B 140 q.1 q.2 := dx_gd_pl (PL := pl_9_0) (own := "DecimalRunModel") (nm := "variable") rfl rfl dc_140 (by decide +kernel) (pa_9_0 "variable") (by decide +kernel)
theorem gd_141 : ∀ q ∈ tb_m141, dx_gd nm_cl nm_ql kd (tb_Z L xs) (G0 kd D tc L xs) lw_ws tb_Y tb_B 141 q.1 q.2 := dx_gd_pl (PL := pl_9_0) (own := "DecimalRunModel") (nm := "decimals") rfl rfl dc_141 (by decide +kernel) (pa_9_0 "decimals") (by decide +kernel)
theorem gd_142 : ∀ q ∈ tb_m142, dx_gd nm_cl nm_ql kd (tb_Z L xs) (G0 kd D tc L xs) lw_ws tb_Y tb_B 142 q.1 q.2 := dx_gd_pl (PL := pl_9_0) (own := "DecimalRunModel") (nm := "scale") rfl rfl dc_142 (by decide +kernel) (pa_9_0 "scale") (by decide +kernel)
theorem gd_143 : ∀ q ∈ tb_m143, dx_gd nm_cl nm_ql kd (tb_Z L xs) (G0 kd D tc L xs) lw_ws tb_Y tb_B 143 q.1 q.2 := dx_gd_pl (PL := pl_9_0) (own := "DecimalRunModel") (nm := "thrown") rfl rfl dc_143 (by decide +kernel) (pa_9_0 "thrown") (by decide +kernel)
theorem gd_144 : ∀ q ∈ tb_m144, dx_gd nm_cl nm_ql kd (tb_Z L xs) (G0 kd D tc L xs) lw_ws tb_Y tb_B 144 q.1 q.2 := dx_gd_pl (PL := pl_10_0) (own := "java/lang/Math") (nm := "min") rfl rfl dc_144 (by decide +kernel) (pa_10_0 "min") (by decide +kernel)
theorem gd_145 : ∀ q ∈ tb_m145, dx_gd nm_cl nm_ql kd (tb_Z L xs) (G0 kd D tc L xs) lw_ws tb_Y tb_B 145 q.1 q.2 := dx_gd_pl (PL := pl_10_0) (own := "java/lang/Math") (nm := "max") rfl rfl dc_145 (by decide +kernel) (pa_10_0 "max") (by decide +kernel)
theorem gd_146 : ∀ q ∈ tb_m146, dx_gd nm_cl nm_ql kd (tb_Z L xs) (G0 kd D tc L xs) lw_ws tb_Y tb_B 146 q.1 q.2 := dx_gd_pl (PL := pl_10_0) (own := "java/lang/Math") (nm := "abs") rfl rfl dc_146 (by decide +kernel) (pa_10_0 "abs") (by decide +kernel)
theorem gd_147 : ∀ q ∈ tb_m147, dx_gd nm_cl nm_ql kd (tb_Z L xs) (G0 kd D tc L xs) lw_ws tb_Y tb_B 147 q.1 q.2 := dx_gd_pl (PL := pl_10_0) (own := "java/lang/Math") (nm := "abs") rfl rfl dc_147 (by decide +kernel) (pa_10_0 "abs") (by decide +kernel)
theorem gd_148 : ∀ q ∈ tb_m148, dx_gd nm_cl nm_ql kd (tb_Z L xs) (G0 kd D tc L xs) lw_ws tb_Y tb_B 148 q.1 q.2 := dx_gd_pl (PL := pl_11_0) (own := "java/lang/Long") (nm := "compare") rfl rfl dc_148 (by decide +kernel) (pa_11_0 "compare") (by decide +kernel)
theorem gd_149 : ∀ q ∈ tb_m149, dx_gd nm_cl nm_ql kd (tb_Z L xs) (G0 kd D tc L xs) lw_ws tb_Y tb_B 149 q.1 q.2 := dx_gd_pl (PL := pl_12_0) (own := "java/util/Arrays") (nm := "fill") rfl rfl dc_149 (by decide +kernel) (pa_12_0 "fill") (by decide +kernel)
theorem gd_150 : ∀ q ∈ tb_m150, dx_gd nm_cl nm_ql kd (tb_Z L xs) (G0 kd D tc L xs) lw_ws tb_Y tb_B 150 q.1 q.2 := dx_gd_pl (PL := pl_12_0) (own := "java/util/Arrays") (nm := "fill") rfl rfl dc_150 (by decide +kernel) (pa_12_0 "fill") (by decide +kernel)
theorem gd_151 : ∀ q ∈ tb_m151, dx_gd nm_cl nm_ql kd (tb_Z L xs) (G0 kd D tc L xs) lw_ws tb_Y tb_B 151 q.1 q.2 := dx_gd_pl (PL := pl_13_0) (own := "java/lang/String") (nm := "length") rfl rfl dc_151 (by decide +kernel) (pa_13_0 "length") (by decide +kernel)
theorem gd_152 : ∀ q ∈ tb_m152, dx_gd nm_cl nm_ql kd (tb_Z L xs) (G0 kd D tc L xs) lw_ws tb_Y tb_B 152 q.1 q.2 := dx_gd_pl (PL := pl_13_0) (own := "java/lang/String") (nm := "coder") rfl rfl dc_152 (by decide +kernel) (pa_13_0 "coder") (by decide +kernel)
theorem gd_153 : ∀ q ∈ tb_m153, dx_gd nm_cl nm_ql kd (tb_Z L xs) (G0 kd D tc L xs) lw_ws tb_Y tb_B 153 q.1 q.2 := dx_gd_pl (PL := pl_13_0) (own := "java/lang/String") (nm := "charAt") rfl rfl dc_153 (by decide +kernel) (pa_13_0 "charAt") (by decide +kernel)
theorem gd_154 : ∀ q ∈ tb_m154, dx_gd nm_cl nm_ql kd (tb_Z L xs) (G0 kd D tc L xs) lw_ws tb_Y tb_B 154 q.1 q.2 := dx_gd_pl (PL := pl_13_0) (own := "java/lang/String") (nm := "isLatin1") rfl rfl dc_154 (by decide +kernel) (pa_13_0 "isLatin1") (by decide +kernel)
theorem gd_155 : ∀ q ∈ tb_m155, dx_gd nm_cl nm_ql kd (tb_Z L xs) (G0 kd D tc L xs) lw_ws tb_Y tb_B 155 q.1 q.2 := dx_gd_pl (PL := pl_13_0) (own := "java/lang/String") (nm := "checkIndex") rfl rfl dc_155 (by decide +kernel) (pa_13_0 "checkIndex") (by decide +kernel)
theorem gd_156 : ∀ q ∈ tb_m156, dx_gd nm_cl nm_ql kd (tb_Z L xs) (G0 kd D tc L xs) lw_ws tb_Y tb_B 156 q.1 q.2 := dx_gd_pl (PL := pl_13_0) (own := "java/lang/String") (nm := "indexOf") rfl rfl dc_156 (by decide +kernel) (pa_13_0 "indexOf") (by decide +kernel)
theorem gd_157 : ∀ q ∈ tb_m157, dx_gd nm_cl nm_ql kd (tb_Z L xs) (G0 kd D tc L xs) lw_ws tb_Y tb_B 157 q.1 q.2 := dx_gd_pl (PL := pl_13_0) (own := "java/lang/String") (nm := "indexOf") rfl rfl dc_157 (by decide +kernel) (pa_13_0 "indexOf") (by decide +kernel)
theorem gd_158 : ∀ q ∈ tb_m158, dx_gd nm_cl nm_ql kd (tb_Z L xs) (G0 kd D tc L xs) lw_ws tb_Y tb_B 158 q.1 q.2 := dx_gd_pl (PL := pl_14_0) (own := "java/lang/StringLatin1") (nm := "charAt") rfl rfl dc_158 (by decide +kernel) (pa_14_0 "charAt") (by decide +kernel)
theorem gd_159 : ∀ q ∈ tb_m159, dx_gd nm_cl nm_ql kd (tb_Z L xs) (G0 kd D tc L xs) lw_ws tb_Y tb_B 159 q.1 q.2 := dx_gd_pl (PL := pl_14_0) (own := "java/lang/StringLatin1") (nm := "indexOf") rfl rfl dc_159 (by decide +kernel) (pa_14_0 "indexOf") (by decide +kernel)
theorem gd_160 : ∀ q ∈ tb_m160, dx_gd nm_cl nm_ql kd (tb_Z L xs) (G0 kd D tc L xs) lw_ws tb_Y tb_B 160 q.1 q.2 := dx_gd_pl (PL := pl_14_0) (own := "java/lang/StringLatin1") (nm := "canEncode") rfl rfl dc_160 (by decide +kernel) (pa_14_0 "canEncode") (by decide +kernel)
theorem gd_161 : ∀ q ∈ tb_m161, dx_gd nm_cl nm_ql kd (tb_Z L xs) (G0 kd D tc L xs) lw_ws tb_Y tb_B 161 q.1 q.2 := dx_gd_pl (PL := pl_14_0) (own := "java/lang/StringLatin1") (nm := "indexOfChar") rfl rfl dc_161 (by decide +kernel) (pa_14_0 "indexOfChar") (by decide +kernel)
theorem gd_162 : ∀ q ∈ tb_m162, dx_gd nm_cl nm_ql kd (tb_Z L xs) (G0 kd D tc L xs) lw_ws tb_Y tb_B 162 q.1 q.2 := dx_gd_pl (PL := pl_15_0) (own := "jdk/internal/util/Preconditions") (nm := "checkIndex") rfl rfl dc_162 (by decide +kernel) (pa_15_0 "checkIndex") (by decide +kernel)
theorem gt_22 : ∀ q ∈ tb_m22, ∀ (A : Nat → Prop) (s : State) (args : Array Value), (∀ w ∈ lw_ws, w.before args s = true) → G0 kd D tc L xs A s → dx_kT nm_cl (tb_Z L xs) s args "DecimalRun$Outcome" (tb_B 22) q.1 q.2 := by
  intro q hq A s args hts hG
  by_cases hn : dx_nt q.2 = true
  · exact dx_nt_ok hn
  · have h1 : q ∈ [(10, ((.new 28 : Instr), 10, 0, 1, (.null : Value))), (33, ((.new 31 : Instr), 11, 0, 1, (.null : Value))), (41, ((.new 34 : Instr), 12, 0, 1, (.null : Value)))] := by
      have := List.all_eq_true.mp (show tb_m22.all (fun q => dx_nt q.2 || ([(10, ((.new 28 : Instr), 10, 0, 1, (.null : Value))), (33, ((.new 31 : Instr), 11, 0, 1, (.null : Value))), (41, ((.new 34 : Instr), 12, 0, 1, (.null : Value)))] : List (Nat × dx_I)).any (fun x => decide (x = q))) = true by decide +kernel) q hq
      rw [Bool.or_eq_true, List.any_eq_true] at this
      obtain ⟨x0, hx0, e0⟩ := this.resolve_left hn
      rw [← of_decide_eq_true e0]
      exact hx0
    simp only [List.mem_cons, List.not_mem_nil, or_false] at h1
    rcases h1 with rfl | rfl | rfl
    · exact fun _ => ⟨_, _, 30, ["java/lang/RuntimeException", "java/lang/Exception"], rfl, rfl, by decide +kernel, by decide +kernel, by decide +kernel, hts _ (lw_in (List.mem_append_right _ (List.mem_of_getElem? (i := 437) (by decide +kernel))) rfl), hts _ (lw_in (List.mem_append_right _ (List.mem_of_getElem? (i := 438) (by decide +kernel))) rfl), hts _ (lw_in (List.mem_append_right _ (List.mem_of_getElem? (i := 20) (by decide +kernel))) rfl), by decide +kernel, by decide +kernel, by decide, dx_own (by decide +kernel) hts hG⟩
    · exact fun _ => ⟨_, _, 33, ["java/lang/RuntimeException", "java/lang/Exception"], rfl, rfl, by decide +kernel, by decide +kernel, by decide +kernel, hts _ (lw_in (List.mem_append_right _ (List.mem_of_getElem? (i := 501) (by decide +kernel))) rfl), hts _ (lw_in (List.mem_append_right _ (List.mem_of_getElem? (i := 502) (by decide +kernel))) rfl), hts _ (lw_in (List.mem_append_right _ (List.mem_of_getElem? (i := 21) (by decide +kernel))) rfl), by decide +kernel, by decide +kernel, by decide, dx_own (by decide +kernel) hts hG⟩
    · exact fun _ => ⟨_, _, 36, ["java/lang/RuntimeException", "java/lang/Exception"], rfl, rfl, by decide +kernel, by decide +kernel, by decide +kernel, hts _ (lw_in (List.mem_append_right _ (List.mem_of_getElem? (i := 516) (by decide +kernel))) rfl), hts _ (lw_in (List.mem_append_right _ (List.mem_of_getElem? (i := 517) (by decide +kernel))) rfl), hts _ (lw_in (List.mem_append_right _ (List.mem_of_getElem? (i := 22) (by decide +kernel))) rfl), by decide +kernel, by decide +kernel, by decide, dx_own (by decide +kernel) hts hG⟩
theorem gd_22 : ∀ q ∈ tb_m22, dx_gd nm_cl nm_ql kd (tb_Z L xs) (G0 kd D tc L xs) lw_ws tb_Y tb_B 22 q.1 q.2 := dx_gd_of (PL := pl_3_0) (own := "DecimalRun$Outcome") (nm := "raise") rfl rfl dc_22 (by decide +kernel) (pa_3_0 "raise") gt_22
end GD
