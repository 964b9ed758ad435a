/-! The run of the project. -/
section WE
variable {f : Nat → Int32} {fa : Nat → Nat → Int32} {i k : Nat}
theorem uiN {x : Int32} (h : i ≠ k) : ui f k x i = f i := if_neg h
theorem uaN {x : Nat → Int32} (h : i ≠ k) : ua fa k x i = fa i := if_neg h
end WE
/-- the fuel that both grant -/
def cl (w : Int32) : Nat := (if 0 ≤ w then (if w ≤ 2000 then w else 2000) else 0).toNatClampNeg
theorem nI_toN {w : Int32} (h : 0 ≤ w) : w = nI w.toNatClampNeg := by
  have h1 : 0 ≤ w.toInt := by
    have := Int32.le_iff_toInt_le.mp h
    simpa using this
  apply Int32.toInt_inj.mp
  have e : ((w.toNatClampNeg : Nat) : Int) = w.toInt := Int.toNat_of_nonneg h1
  show w.toInt = (Int32.ofInt ((w.toNatClampNeg : Nat) : Int)).toInt
  rw [e, Int32.ofInt_toInt]
theorem cl_r (w : Int32) : (if 0 ≤ w then (if w ≤ 2000 then w else 2000) else 0) = nI (cl w) ∧ cl w ≤ 2000 := by
  unfold cl
  by_cases h0 : 0 ≤ w
  · rw [if_pos h0]
    by_cases h1 : w ≤ 2000
    · rw [if_pos h1]
      refine ⟨nI_toN h0, ?_⟩
      have h2 : w.toInt ≤ 2000 := Int32.le_iff_toInt_le.mp h1
      show w.toInt.toNat ≤ 2000
      omega
    · rw [if_neg h1]
      decide
  · rw [if_neg h0]
    decide
theorem cl_c (w : Int32) : (if 0 < (if 2000 < w then 2000 else w) then (if 2000 < w then 2000 else w) else 0) = nI (cl w) := by
  rw [← (cl_r w).1]
  by_cases h1 : 2000 < w
  · have h3 : ¬ w ≤ 2000 := fun y => by
      have a := Int32.le_iff_toInt_le.mp y
      have b := Int32.lt_iff_toInt_lt.mp h1
      omega
    have h4 : 0 ≤ w := by
      apply Int32.le_iff_toInt_le.mpr
      have b := Int32.lt_iff_toInt_lt.mp h1
      have c : (2000 : Int32).toInt = 2000 := rfl
      have e : (0 : Int32).toInt = 0 := rfl
      omega
    rw [if_pos h1, if_pos (by decide), if_pos h4, if_neg h3]
  · have h3 : w ≤ 2000 := by
      apply Int32.le_iff_toInt_le.mpr
      have b : ¬ (2000 : Int32).toInt < w.toInt := fun y => h1 (Int32.lt_iff_toInt_lt.mpr y)
      omega
    rw [if_neg h1, if_pos h3]
    by_cases h0 : 0 < w
    · have h4 : 0 ≤ w := by
        apply Int32.le_iff_toInt_le.mpr
        have b := Int32.lt_iff_toInt_lt.mp h0
        omega
      rw [if_pos h0, if_pos h4]
    · rw [if_neg h0]
      by_cases h4 : 0 ≤ w
      · rw [if_pos h4]
        apply Int32.toInt_inj.mp
        have a := Int32.le_iff_toInt_le.mp h4
        have b : ¬ (0 : Int32).toInt < w.toInt := fun y => h0 (Int32.lt_iff_toInt_lt.mpr y)
        omega
      · rw [if_neg h4]
/-- how a run ends: 100 well, else the fault; and the state that it leaves -/
def RN (T : Nat → Nat) (z : Nat) (vr : Nat → Int × Nat) (sc fu : Nat) (xa : Nat → Nat → Int32) (xl : Nat → Nat → Int64) (r : Nat × AM) : Prop := (TXb T z xa xl ∧ r = (1, amk 0 [] false [] vr sc 0 0 (fun _ => 0))) ∨ ∃ q S R', TXg T z xa xl q S R' ∧ r = aI (upd R'.o R'.n 15) (upd R'.x R'.n 0) (upd R'.y R'.n 0) R'.st R'.pa fu 3603000 (amk 0 [] false [] vr sc 0 0 (fun _ => 0))
/-- what no run of the project touches -/
def FC (xi : Nat → Int32) (xa : Nat → Nat → Int32) (xi' : Nat → Int32) (xa' : Nat → Nat → Int32) : Prop := (∀ k, 1408 ≤ k → xi' k = xi k) ∧ (∀ i, 22 ≤ i → xa' i = xa i) ∧ xi' 65 = xi 65 ∧ xa' 2 = xa 2
/-- names that the project knows -/
def HC (xa : Nat → Nat → Int32) (xl : Nat → Nat → Int64) : Prop := ∀ i, xa 13 i = 257 → ∃ q : Nat, q < 26 ∧ xl 14 i = zL q
section WF
variable {L : Nat} {xs : Nat → Int32} {d : Nat} {σ : dx_S} {Q : dx_O → dx_S → Prop} {xi : Nat → Int32} {xa : Nat → Nat → Int32} {xl : Nat → Nat → Int64} {j : dx_S} {T : Nat → Nat} {z sc fu : Nat} {w : Int32} {vr : Nat → Int × Nat} {r : Nat × AM}
theorem rn_ex (hz : z ≤ 200) (hc : ∀ i, tA T z i < 256) (hk : HC xa xl) : ∃ r, RN T z vr sc fu xa xl r := by
  rcases txt (xa := xa) hz hc hk with h | ⟨q, S, R', h⟩
  · exact ⟨_, Or.inl ⟨h, rfl⟩⟩
  · exact ⟨_, Or.inr ⟨q, S, R', h, rfl⟩⟩
theorem rn_ok (hfu : fu ≤ 2000) (hn : ∀ v, v < 26 → nm (vr v).1 (vr v).2) (h4 : sc ≤ 4) (h : RN T z vr sc fu xa xl r) : (∀ v, v < 26 → nm (r.2.vr v).1 (r.2.vr v).2) ∧ r.2.sc ≤ 4 ∧ r.2.k ≤ fu ∧ r.2.z ≤ 300 ∧ (r.1 = 100 ∨ (1 ≤ r.1 ∧ r.1 ≤ 8)) := by
  rcases h with ⟨_, e⟩ | ⟨q, S, R', hg, e⟩
  · rw [e]
    exact ⟨hn, h4, Nat.zero_le _, Nat.zero_le _, Or.inr ⟨Nat.le_refl 1, (show 1 ≤ 8 by decide)⟩⟩
  · have a := aI_ok (TI_CDX hg.2.2) 3603000 _ (AIv0 (fu := fu) (ot := fun _ => 0) hn h4) (pot0 hfu)
    rw [← e] at a
    obtain ⟨⟨_, a2, a3, a4, a5, _⟩, a6⟩ := a
    exact ⟨a2, a3, a4, a5, by omega⟩
/-- the project's names after its scanner -/
theorem hc_sc {s : SQ} (h : SK s) : HC (ua xa 13 s.2.1) (ul xl 14 s.2.2) := h.2
theorem hc_up {s : SQ} (h : SK s) : HC (ua xa 13 (upd s.2.1 s.1 0)) (ul xl 14 s.2.2) := by
  intro i hi
  have hi' : upd s.2.1 s.1 0 i = 257 := hi
  by_cases e : i = s.1
  · rw [e, upd_eq] at hi'
    exact absurd hi' (by decide)
  · rw [upd_ne e] at hi'
    exact h.2 i hi'
theorem e_run (ht : tx xi xa T z) (hv : ∀ v, v < 26 → xl 4 v = pn (vr v).1 (vr v).2) (hn : ∀ v, v < 26 → nm (vr v).1 (vr v).2) (hs : xi 193 = nI sc) (h4 : sc ≤ 4) (hk : HC xa xl) (hR : RN T z vr sc (cl w) xa xl r) (hQ : ∀ xi' xa' xl', RC0 (cl w) r.2 xi' xa' xl' → FC xi xa xi' xa' → HC xa' xl' → (r.1 = 100 → xi' 322 = 0 → Q (.inl (some (.int (nI r.2.k)))) (mk xi' xa' xl' j)) ∧ (r.1 ≠ 100 → xi' 322 = nI r.1 → Q (.inr (46 + j.length)) (mk xi' xa' xl' (j ++ [.inr (exc (nI r.1), [])])))) : dx_M (tb_Z L xs) (d + 127) 13 [.ref 0, .int w] (mk xi xa xl j) Q := by
  have hz := ht.2.1
  have hc : ∀ i, tA T z i < 256 := fun i => tA_lt ht
  have k0 : SK (0, xa 13, xl 14) := ⟨fun i hi => absurd hi (Nat.not_lt_zero _), hk⟩
  rw [dx_M_in (Nat.le_of_ble_eq_true rfl)]
  simp only [wI_some, wJ_some, wR_ref, wR_con, wO_some, s1_eq, s2_eq, dl_nil, dl_cons, dm_nil, dm_cons, lk_cons, cat_int, cat_long, cat_ref, cat_con, args_nil, args_int, args_long, args_ref, args_con, ct_nil, ct_cons, Nat.reduceBEq, Nat.reduceAdd, Nat.reduceLeDiff, Nat.reduceEqDiff, Bool.not_true, Bool.not_false, Bool.and_true, Bool.and_false, Bool.true_and, Bool.false_and, cond_true, cond_false, Nat.zero_add, Nat.add_zero, reduceCtorEq, Nat.zero_le, ui_at, ua_at, ul_at, wK_v, wK_n, wK_t, true_and, and_true, nb0, nb1, not_false_eq_true, not_true_eq_false, ci_0, ci_1, ci_3, ci_5, ci_7, ci_12, ci_15, ci_16, ci_21, ci_22, w_13_0, w_13_1, w_13_4, w_13_5, w_13_6, w_13_9, w_13_12, w_13_15, w_13_18, w_13_19, w_13_22, w_13_25, w_13_26, w_13_29, w_13_32, w_13_33, w_13_36, w_13_39, w_13_40, w_13_43, w_13_46, gf_0_2, gf_0_4, e_min, e_max, e_begin]
  rw [cl_c]
  refine (e_scan (d := d + 117) (T := T) (z := z) (xi := ui (ui (ui (ui xi 321 0) 322 0) 323 0) 324 (nI (cl w))) (xa := xa) ht).mpr ?_
  have f0 : ∀ k, 1408 ≤ k → ui (ui (ui (ui xi 321 0) 322 0) 323 0) 324 (nI (cl w)) k = xi k := fun k hk => by rw [uiN (by omega), uiN (by omega), uiN (by omega), uiN (by omega)]
  have r0 : RC0 (cl w) (amk 0 [] false [] vr sc 0 0 (fun _ => 0)) (ui (ui (ui (ui xi 321 0) 322 0) 323 0) 324 (nI (cl w))) xa xl := ⟨hv, hs, rfl, rfl, rfl, fun q hq => absurd hq (Nat.not_lt_zero _)⟩
  generalize hX : ui (ui (ui (ui xi 321 0) 322 0) 323 0) 324 (nI (cl w)) = X at f0 r0 ⊢
  have x65 : X 65 = xi 65 := by rw [← hX]; rfl
  have x322 : X 322 = 0 := by rw [← hX]; rfl
  cases hsc : scl (tA T z) z 200 0 (0, xa 13, xl 14) with
  | inl s =>
    have sk := (sk_scl (z := z) hc 200 0 (0, xa 13, xl 14) k0).1 s hsc
    rcases hR with ⟨_, er⟩ | ⟨q, S, R', hg, er⟩
    · have := (hQ (ui (ui X 772 (nI s.1)) 322 1) (ua xa 13 s.2.1) (ul xl 14 s.2.2) (by rw [er]; exact ⟨r0.1, r0.2.1, r0.2.2.1, r0.2.2.2.1, r0.2.2.2.2.1, fun q hq => absurd hq (Nat.not_lt_zero _)⟩) ⟨fun k hk => by rw [uiN (by omega), uiN (by omega)]; exact f0 k hk, fun i hi => uaN (by omega), x65, rfl⟩ (hc_sc sk)).2 (by rw [er]; show (1 : Nat) ≠ 100; decide) (by rw [er]; rfl)
      rw [er] at this
      exact this
    · obtain ⟨⟨s', e1, _⟩, _⟩ := hg
      rw [hsc] at e1
      cases e1
  | inr s =>
    have sk := (sk_scl (z := z) hc 200 0 (0, xa 13, xl 14) k0).2 s hsc
    have cn := sc_cnt 200 0 (0, xa 13, xl 14) s hsc (Nat.zero_le _) (Nat.zero_le _)
    have hcu := hc_up (xa := xa) (xl := xl) sk
    simp only [wI_some, wJ_some, wR_ref, wR_con, wO_some, s1_eq, s2_eq, dl_nil, dl_cons, dm_nil, dm_cons, lk_cons, cat_int, cat_long, cat_ref, cat_con, args_nil, args_int, args_long, args_ref, args_con, ct_nil, ct_cons, Nat.reduceBEq, Nat.reduceAdd, Nat.reduceLeDiff, Nat.reduceEqDiff, Bool.not_true, Bool.not_false, Bool.and_true, Bool.and_false, Bool.true_and, Bool.false_and, cond_true, cond_false, Nat.zero_add, Nat.add_zero, reduceCtorEq, Nat.zero_le, ui_at, ua_at, ul_at, wK_v, wK_n, wK_t, true_and, and_true, nb0, nb1, not_false_eq_true, not_true_eq_false, ci_0, ci_1, ci_3, ci_5, ci_7, ci_12, ci_15, ci_16, ci_21, ci_22, w_13_0, w_13_1, w_13_4, w_13_5, w_13_6, w_13_9, w_13_12, w_13_15, w_13_18, w_13_19, w_13_22, w_13_25, w_13_26, w_13_29, w_13_32, w_13_33, w_13_36, w_13_39, w_13_40, w_13_43, w_13_46, gf_0_5]
    refine (p_parse (d := d) (q := s.1) rfl (by omega) (fun i _ h => ?_)).mpr ?_
    · obtain ⟨q, hq, e⟩ := hcu i h
      rw [e, zL_i32]
      exact vp_in_nI (by omega) (by decide)
    show pR (pTx s (pS0 xa xl)) (ui X 772 (nI s.1)) (ua xa 13 (upd s.2.1 s.1 0)) (ul xl 14 s.2.2) j _
    cases hp : pTx s (pS0 xa xl) with
    | inl S =>
      rcases hR with ⟨_, er⟩ | ⟨q, S2, R', hg, er⟩
      · have := (hQ (ui (ui (ui (ui (ui X 772 (nI s.1)) 963 (nI S.p)) 452 (nI S.n)) 964 S.w) 322 1) (ua (ua (ua (ua xa 13 (upd s.2.1 s.1 0)) 8 S.f) 10 S.e) 11 S.a) (ul (ul xl 14 s.2.2) 9 S.g) (by rw [er]; exact ⟨r0.1, r0.2.1, r0.2.2.1, r0.2.2.2.1, r0.2.2.2.2.1, fun q hq => absurd hq (Nat.not_lt_zero _)⟩) ⟨fun k hk => by rw [uiN (by omega), uiN (by omega), uiN (by omega), uiN (by omega), uiN (by omega)]; exact f0 k hk, fun i hi => by rw [uaN (by omega), uaN (by omega), uaN (by omega), uaN (by omega)], x65, rfl⟩ hcu).2 (by rw [er]; show (1 : Nat) ≠ 100; decide) (by rw [er]; rfl)
        rw [er] at this
        exact this
      · obtain ⟨⟨s', e1, e2⟩, _⟩ := hg
        rw [hsc] at e1
        cases e1
        rw [hp] at e2
        cases e2
    | inr S =>
      rcases hR with ⟨hb, er⟩ | ⟨q, S2, R', hg, er⟩
      · obtain ⟨S2, e2⟩ := hb.1 s hsc
        rw [hp] at e2
        cases e2
      · have hti := hg.2.2
        obtain ⟨⟨s', e1, e2⟩, _⟩ := hg
        rw [hsc] at e1
        cases e1
        rw [hp] at e2
        cases e2
        show dx_W (tb_Z L xs) (d + 126) 13 32 [(0, .ref 0), (1, .int w)] [] (mk (ui (ui (ui (ui X 772 (nI s.1)) 963 (nI S.p)) 452 (nI S.n)) 964 S.w) (ua (ua (ua (ua xa 13 (upd s.2.1 s.1 0)) 8 S.f) 10 S.e) 11 S.a) (ul (ul xl 14 s.2.2) 9 S.g) j) Q
        simp only [wI_some, wJ_some, wR_ref, wR_con, wO_some, s1_eq, s2_eq, dl_nil, dl_cons, dm_nil, dm_cons, lk_cons, cat_int, cat_long, cat_ref, cat_con, args_nil, args_int, args_long, args_ref, args_con, ct_nil, ct_cons, Nat.reduceBEq, Nat.reduceAdd, Nat.reduceLeDiff, Nat.reduceEqDiff, Bool.not_true, Bool.not_false, Bool.and_true, Bool.and_false, Bool.true_and, Bool.false_and, cond_true, cond_false, Nat.zero_add, Nat.add_zero, reduceCtorEq, Nat.zero_le, ui_at, ua_at, ul_at, wK_v, wK_n, wK_t, true_and, and_true, nb0, nb1, not_false_eq_true, not_true_eq_false, ci_0, ci_1, ci_3, ci_5, ci_7, ci_12, ci_15, ci_16, ci_21, ci_22, w_13_0, w_13_1, w_13_4, w_13_5, w_13_6, w_13_9, w_13_12, w_13_15, w_13_18, w_13_19, w_13_22, w_13_25, w_13_26, w_13_29, w_13_32, w_13_33, w_13_36, w_13_39, w_13_40, w_13_43, w_13_46, gf_0_6]
        refine x_exec (d := d + 119) (TI_CDX hti) (cl_r w).2 hn h4 (ot := fun _ => 0) ⟨r0.1, r0.2.1, r0.2.2.1, r0.2.2.2.1, r0.2.2.2.2.1, fun q hq => absurd hq (Nat.not_lt_zero _)⟩ ⟨rfl, rfl, rfl, rfl, rfl⟩ ?_
        rw [← er]
        intro xi' xa' xl' c0 cf
        have q1 := hQ xi' xa' xl' c0 ⟨fun k hk => by rw [cf.1 k (fun y => by simp only [KI, List.mem_cons, List.not_mem_nil, or_false] at y; omega), uiN (by omega), uiN (by omega), uiN (by omega), uiN (by omega)]; exact f0 k hk, fun i hi => by rw [cf.2.1 i (fun y => by simp only [KA, List.mem_cons, List.not_mem_nil, or_false] at y; omega), uaN (by omega), uaN (by omega), uaN (by omega), uaN (by omega)], (cf.1 65 (by decide)).trans x65, (cf.2.1 2 (by decide)).trans rfl⟩ (fun i hi => by
          rw [cf.2.1 13 (by decide)] at hi
          rw [cf.2.2 14 (by decide)]
          exact hcu i hi)
        refine ⟨fun h1 h2 => ?_, fun h1 _ _ h2 => ?_⟩
        · simp only [wI_some, wJ_some, wR_ref, wR_con, wO_some, s1_eq, s2_eq, dl_nil, dl_cons, dm_nil, dm_cons, lk_cons, cat_int, cat_long, cat_ref, cat_con, args_nil, args_int, args_long, args_ref, args_con, ct_nil, ct_cons, Nat.reduceBEq, Nat.reduceAdd, Nat.reduceLeDiff, Nat.reduceEqDiff, Bool.not_true, Bool.not_false, Bool.and_true, Bool.and_false, Bool.true_and, Bool.false_and, cond_true, cond_false, Nat.zero_add, Nat.add_zero, reduceCtorEq, Nat.zero_le, ui_at, ua_at, ul_at, wK_v, wK_n, wK_t, true_and, and_true, nb0, nb1, not_false_eq_true, not_true_eq_false, ci_0, ci_1, ci_3, ci_5, ci_7, ci_12, ci_15, ci_16, ci_21, ci_22, w_13_0, w_13_1, w_13_4, w_13_5, w_13_6, w_13_9, w_13_12, w_13_15, w_13_18, w_13_19, w_13_22, w_13_25, w_13_26, w_13_29, w_13_32, w_13_33, w_13_36, w_13_39, w_13_40, w_13_43, w_13_46, gf_0_2, gf_5_3]
          rw [c0.2.2.1]
          exact q1.1 h1 (h2.trans x322)
        · exact q1.2 h1 h2
end WF
