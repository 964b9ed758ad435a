/-! More steps than needed change nothing. -/
theorem aI_more {f : Nat → Int32} {g : Nat → Int64} {e a o x y sa pa : Nat → Int32} {n N fu : Nat} : ∀ {V : Nat} {A : AM}, pot o fu A < V → AIv o n fu A → CDX f g e a o x y sa pa n N → aI o x y sa pa fu (V + 1) A = aI o x y sa pa fu V A
  | 0, A, h, _, _ => absurd h (by omega)
  | V + 1, A, h, hI, hC => by
    obtain ⟨a1, a2, a3⟩ := a_inv hC hI
    show (if (aS o x y sa pa fu A).1 = 0 then aI o x y sa pa fu (V + 1) (aS o x y sa pa fu A).2 else aS o x y sa pa fu A) = (if (aS o x y sa pa fu A).1 = 0 then aI o x y sa pa fu V (aS o x y sa pa fu A).2 else aS o x y sa pa fu A)
    by_cases h0 : (aS o x y sa pa fu A).1 = 0
    · obtain ⟨b1, b2⟩ := a3 h0
      rw [if_pos h0, if_pos h0]
      have b3 : pot o fu (aS o x y sa pa fu A).2 + 1 ≤ pot o fu A := by
        split at b2 <;> omega
      exact aI_more (by omega) b1 hC
    · rw [if_neg h0, if_neg h0]
/-! The machine of the project: its run. -/
section CO
variable {L : Nat} {xs : Nat → Int32} {d : Nat} {σ : dx_S} {Q : dx_O → dx_S → Prop} {xi : Nat → Int32} {xa : Nat → Nat → Int32} {xl : Nat → Nat → Int64} {j : dx_S} {f : Nat → Int32} {g : Nat → Int64} {e a o x y sa pa : Nat → Int32} {n N fu p i : Nat} {A : AM}
theorem e_goA (hp : xi 1030 = nI p) (hN : xi 452 = nI N) (hlt : p < N) (hN6 : N ≤ 600) (hi : i < 3603600) : dx_W (tb_Z L xs) d 72 17 [(1, .int (nI i)), (0, .ref 16)] [] (mk xi xa xl j) Q ↔ dx_M (tb_Z L xs) d 73 [.ref 16, .int (xa 8 p), .long (xl 9 p)] (mk (ui xi 1030 (nI (p + 1))) xa xl j) (wK (tb_Z L xs) d 72 74 [(2, .int (nI p)), (1, .int (nI i)), (0, .ref 16)] [] Q) := by
  have ip : vp_in (nI p) 600 := vp_in_nI (by omega) (by decide)
  rw [w_72_17]
  simp only [wI_some, wJ_some, wR_ref, wR_con, wO_some, s1_eq, s2_eq, dl_nil, dl_cons, dm_nil, dm_cons, lk_cons, cat_int, cat_long, cat_ref, cat_con, args_nil, args_int, args_long, args_ref, args_con, ct_nil, ct_cons, Nat.reduceBEq, Nat.reduceAdd, Nat.reduceLeDiff, Nat.reduceEqDiff, Bool.not_true, Bool.not_false, Bool.and_true, Bool.and_false, Bool.true_and, Bool.false_and, cond_true, cond_false, Nat.zero_add, Nat.add_zero, reduceCtorEq, Nat.zero_le, ui_at, ua_at, ul_at, wK_v, wK_n, wK_t, true_and, and_true, nb0, nb1, not_false_eq_true, not_true_eq_false, ci_0, ci_1, ci_3, ci_5, ci_7, ci_12, ci_15, ci_16, ci_21, ci_22, w_72_0, w_72_1, w_72_2, w_72_5, w_72_6, w_72_7, w_72_10, w_72_11, w_72_12, w_72_15, w_72_16, w_72_18, w_72_20, w_72_23, w_72_24, w_72_27, w_72_28, w_72_31, w_72_34, w_72_37, w_72_38, w_72_41, w_72_42, w_72_43_int, w_72_43_ref, w_72_43_retAddr, w_72_44, w_72_47, w_72_48, w_72_49, w_72_52, w_72_53, w_72_54, w_72_57, w_72_60, w_72_61, w_72_62, w_72_63, w_72_66, w_72_69, w_72_70, w_72_71, w_72_77, w_72_80, gf_16_0, gf_16_6, gf_7_0, gf_7_1, gf_7_4, sf_16_6, hp, hN, nI_1, ga_8 ip, ga_9 ip, nI_clamp (show p < 2 ^ 31 by omega)]
  rw [if_neg (show ¬ (3603600 : Int32) ≤ nI i from nI_ge (b := 3603600) hi (by decide)), if_neg (nI_ge hlt (by omega))]
theorem e_enA (hp : xi 1030 = nI N) (hN : xi 452 = nI N) (hN6 : N ≤ 600) (hi : i < 3603600) : dx_W (tb_Z L xs) d 72 17 [(1, .int (nI i)), (0, .ref 16)] [] (mk xi xa xl j) Q ↔ Q (.inl none) (mk xi xa xl j) := by
  rw [w_72_17]
  simp only [wI_some, wJ_some, wR_ref, wR_con, wO_some, s1_eq, s2_eq, dl_nil, dl_cons, dm_nil, dm_cons, lk_cons, cat_int, cat_long, cat_ref, cat_con, args_nil, args_int, args_long, args_ref, args_con, ct_nil, ct_cons, Nat.reduceBEq, Nat.reduceAdd, Nat.reduceLeDiff, Nat.reduceEqDiff, Bool.not_true, Bool.not_false, Bool.and_true, Bool.and_false, Bool.true_and, Bool.false_and, cond_true, cond_false, Nat.zero_add, Nat.add_zero, reduceCtorEq, Nat.zero_le, ui_at, ua_at, ul_at, wK_v, wK_n, wK_t, true_and, and_true, nb0, nb1, not_false_eq_true, not_true_eq_false, ci_0, ci_1, ci_3, ci_5, ci_7, ci_12, ci_15, ci_16, ci_21, ci_22, w_72_0, w_72_1, w_72_2, w_72_5, w_72_6, w_72_7, w_72_10, w_72_11, w_72_12, w_72_15, w_72_16, w_72_18, w_72_20, w_72_23, w_72_24, w_72_27, w_72_28, w_72_31, w_72_34, w_72_38, w_72_41, w_72_42, w_72_43_int, w_72_43_ref, w_72_43_retAddr, w_72_44, w_72_47, w_72_48, w_72_49, w_72_52, w_72_53, w_72_54, w_72_57, w_72_60, w_72_61, w_72_62, w_72_63, w_72_66, w_72_69, w_72_70, w_72_71, w_72_74, w_72_77, w_72_80, gf_16_0, gf_16_6, gf_7_0, gf_7_1, gf_7_4, hp, hN]
  rw [if_neg (show ¬ (3603600 : Int32) ≤ nI i from nI_ge (b := 3603600) hi (by decide)), if_pos (nI_le (Nat.le_refl _) (by omega))]
theorem e_goB {h : Int32} (hp : xi 1030 = nI p) (hN : xi 452 = nI N) (hlt : p < N) (hN6 : N ≤ 600) (hi : i < 3603600) : dx_W (tb_Z L xs) d 72 17 [(1, .int (nI i)), (2, .int h), (0, .ref 16)] [] (mk xi xa xl j) Q ↔ dx_M (tb_Z L xs) d 73 [.ref 16, .int (xa 8 p), .long (xl 9 p)] (mk (ui xi 1030 (nI (p + 1))) xa xl j) (wK (tb_Z L xs) d 72 74 [(2, .int (nI p)), (1, .int (nI i)), (0, .ref 16)] [] Q) := by
  have ip : vp_in (nI p) 600 := vp_in_nI (by omega) (by decide)
  rw [w_72_17]
  simp only [wI_some, wJ_some, wR_ref, wR_con, wO_some, s1_eq, s2_eq, dl_nil, dl_cons, dm_nil, dm_cons, lk_cons, cat_int, cat_long, cat_ref, cat_con, args_nil, args_int, args_long, args_ref, args_con, ct_nil, ct_cons, Nat.reduceBEq, Nat.reduceAdd, Nat.reduceLeDiff, Nat.reduceEqDiff, Bool.not_true, Bool.not_false, Bool.and_true, Bool.and_false, Bool.true_and, Bool.false_and, cond_true, cond_false, Nat.zero_add, Nat.add_zero, reduceCtorEq, Nat.zero_le, ui_at, ua_at, ul_at, wK_v, wK_n, wK_t, true_and, and_true, nb0, nb1, not_false_eq_true, not_true_eq_false, ci_0, ci_1, ci_3, ci_5, ci_7, ci_12, ci_15, ci_16, ci_21, ci_22, w_72_0, w_72_1, w_72_2, w_72_5, w_72_6, w_72_7, w_72_10, w_72_11, w_72_12, w_72_15, w_72_16, w_72_18, w_72_20, w_72_23, w_72_24, w_72_27, w_72_28, w_72_31, w_72_34, w_72_37, w_72_38, w_72_41, w_72_42, w_72_43_int, w_72_43_ref, w_72_43_retAddr, w_72_44, w_72_47, w_72_48, w_72_49, w_72_52, w_72_53, w_72_54, w_72_57, w_72_60, w_72_61, w_72_62, w_72_63, w_72_66, w_72_69, w_72_70, w_72_71, w_72_77, w_72_80, gf_16_0, gf_16_6, gf_7_0, gf_7_1, gf_7_4, sf_16_6, hp, hN, nI_1, ga_8 ip, ga_9 ip, nI_clamp (show p < 2 ^ 31 by omega)]
  rw [if_neg (show ¬ (3603600 : Int32) ≤ nI i from nI_ge (b := 3603600) hi (by decide)), if_neg (nI_ge hlt (by omega))]
theorem e_enB {h : Int32} (hp : xi 1030 = nI N) (hN : xi 452 = nI N) (hN6 : N ≤ 600) (hi : i < 3603600) : dx_W (tb_Z L xs) d 72 17 [(1, .int (nI i)), (2, .int h), (0, .ref 16)] [] (mk xi xa xl j) Q ↔ Q (.inl none) (mk xi xa xl j) := by
  rw [w_72_17]
  simp only [wI_some, wJ_some, wR_ref, wR_con, wO_some, s1_eq, s2_eq, dl_nil, dl_cons, dm_nil, dm_cons, lk_cons, cat_int, cat_long, cat_ref, cat_con, args_nil, args_int, args_long, args_ref, args_con, ct_nil, ct_cons, Nat.reduceBEq, Nat.reduceAdd, Nat.reduceLeDiff, Nat.reduceEqDiff, Bool.not_true, Bool.not_false, Bool.and_true, Bool.and_false, Bool.true_and, Bool.false_and, cond_true, cond_false, Nat.zero_add, Nat.add_zero, reduceCtorEq, Nat.zero_le, ui_at, ua_at, ul_at, wK_v, wK_n, wK_t, true_and, and_true, nb0, nb1, not_false_eq_true, not_true_eq_false, ci_0, ci_1, ci_3, ci_5, ci_7, ci_12, ci_15, ci_16, ci_21, ci_22, w_72_0, w_72_1, w_72_2, w_72_5, w_72_6, w_72_7, w_72_10, w_72_11, w_72_12, w_72_15, w_72_16, w_72_18, w_72_20, w_72_23, w_72_24, w_72_27, w_72_28, w_72_31, w_72_34, w_72_38, w_72_41, w_72_42, w_72_43_int, w_72_43_ref, w_72_43_retAddr, w_72_44, w_72_47, w_72_48, w_72_49, w_72_52, w_72_53, w_72_54, w_72_57, w_72_60, w_72_61, w_72_62, w_72_63, w_72_66, w_72_69, w_72_70, w_72_71, w_72_74, w_72_77, w_72_80, gf_16_0, gf_16_6, gf_7_0, gf_7_1, gf_7_4, hp, hN]
  rw [if_neg (show ¬ (3603600 : Int32) ≤ nI i from nI_ge (b := 3603600) hi (by decide)), if_pos (nI_le (Nat.le_refl _) (by omega))]
theorem e_nx : wK (tb_Z L xs) d 72 74 [(2, .int (nI p)), (1, .int (nI i)), (0, .ref 16)] [] Q (.inl none) σ ↔ dx_W (tb_Z L xs) d 72 17 [(1, .int (nI (i + 1))), (2, .int (nI p)), (0, .ref 16)] [] σ Q := by
  simp only [wI_some, wJ_some, wR_ref, wR_con, wO_some, s1_eq, s2_eq, dl_nil, dl_cons, dm_nil, dm_cons, lk_cons, cat_int, cat_long, cat_ref, cat_con, args_nil, args_int, args_long, args_ref, args_con, ct_nil, ct_cons, Nat.reduceBEq, Nat.reduceAdd, Nat.reduceLeDiff, Nat.reduceEqDiff, Bool.not_true, Bool.not_false, Bool.and_true, Bool.and_false, Bool.true_and, Bool.false_and, cond_true, cond_false, Nat.zero_add, Nat.add_zero, reduceCtorEq, Nat.zero_le, ui_at, ua_at, ul_at, wK_v, wK_n, wK_t, true_and, and_true, nb0, nb1, not_false_eq_true, not_true_eq_false, ci_0, ci_1, ci_3, ci_5, ci_7, ci_12, ci_15, ci_16, ci_21, ci_22, w_72_0, w_72_1, w_72_2, w_72_5, w_72_6, w_72_7, w_72_10, w_72_11, w_72_12, w_72_15, w_72_16, w_72_18, w_72_20, w_72_23, w_72_24, w_72_27, w_72_28, w_72_31, w_72_34, w_72_37, w_72_38, w_72_41, w_72_42, w_72_43_int, w_72_43_ref, w_72_43_retAddr, w_72_44, w_72_47, w_72_48, w_72_49, w_72_52, w_72_53, w_72_54, w_72_57, w_72_60, w_72_61, w_72_62, w_72_63, w_72_66, w_72_69, w_72_70, w_72_71, w_72_74, w_72_77, w_72_80, nI_1]
/-- how its run ends -/
def cE (fu : Nat) (r : Nat × AM) (xi : Nat → Int32) (xa : Nat → Nat → Int32) (xl : Nat → Nat → Int64) (j : dx_S) (Q : dx_O → dx_S → Prop) : Prop := ∀ xi' xa' xl', RC0 fu r.2 xi' xa' xl' → FrC xi xa xl xi' xa' xl' → (r.1 = 100 → xi' 322 = xi 322 → Q (.inl none) (mk xi' xa' xl' j)) ∧ (r.1 ≠ 100 → r.1 ≤ 8 → 1 ≤ r.1 → xi' 322 = nI r.1 → Q (.inr (46 + j.length)) (mk xi' xa' xl' (j ++ [.inr (exc (nI r.1), [])])))
theorem cE_F {r : Nat × AM} {xi2 : Nat → Int32} {xa2 : Nat → Nat → Int32} {xl2 : Nat → Nat → Int64} (h : cE fu r xi xa xl j Q) (hF : FrC xi xa xl xi2 xa2 xl2) (h2 : xi2 322 = xi 322) : cE fu r xi2 xa2 xl2 j Q := by
  intro xi' xa' xl' r0 fr
  obtain ⟨h1, h3⟩ := h xi' xa' xl' r0 (Fc_t hF fr)
  exact ⟨fun z y => h1 z (y.trans h2), h3⟩
theorem cx_loop (hC : CDX f g e a o x y sa pa n N) (hfu : fu ≤ 2000) : ∀ W i A xi xa xl (lv : List (Nat × Value)), (lv = [(1, .int (nI i)), (0, .ref 16)] ∨ ∃ h, lv = [(1, .int (nI i)), (2, .int h), (0, .ref 16)]) → AIv o n fu A → RC0 fu A xi xa xl → RM o A xi xa xl → CK f g e a N xi xa xl → pot o fu A < W → i + W ≤ 3603600 → cE fu (aI o x y sa pa fu W A) xi xa xl j Q → dx_W (tb_Z L xs) (d + 6) 72 17 lv [] (mk xi xa xl j) Q := by
  intro W
  induction W using Nat.strongRecOn with
  | _ W ih =>
    intro i A xi xa xl lv hlv hI h0 hM hK hpot hi hE
    obtain ⟨V, rfl⟩ : ∃ V, W = V + 1 := ⟨W - 1, by omega⟩
    have c5 := hC.2.2.2.2.1
    have c6 := hC.2.2.2.2.2.1
    obtain ⟨a1, a2, a3⟩ := a_inv hC hI
    by_cases hbn : A.b = n
    · have hF : A.fr = [] := by
        have := hI.2.2.2.2.2.2.2.2.2
        rw [hbn, hC.2.2.2.1] at this
        exact bool_nil this
      have as := as_16 (o := o) (x := x) (y := y) (sa := sa) (pa := pa) (fu := fu) (A := A) (by rw [hbn]; exact hC.2.1) hF
      have ai : aI o x y sa pa fu (V + 1) A = (100, A) := by
        unfold aI
        rw [as, if_neg (show ¬ (100 : Nat) = 0 by decide)]
      rw [ai] at hE
      have fin := (hE xi xa xl h0 Fc_r).1 rfl rfl
      have hp : xi 1030 = nI N := by rw [hM.1, hbn, c5]
      rcases hlv with rfl | ⟨h, rfl⟩
      · exact (e_enA hp hK.1 c6 (by omega)).mpr fin
      · exact (e_enB hp hK.1 c6 (by omega)).mpr fin
    have hlt : A.b < n := by have := hI.2.2.2.2.2.1; omega
    have pm := psi_mono (o := o) (m := A.b) (n := n) (by omega)
    have plt : psi o A.b < N := by omega
    have start : dx_M (tb_Z L xs) (d + 6) 73 [.ref 16, .int (f (psi o A.b)), .long (g (psi o A.b))] (mk (ui xi 1030 (nI (psi o A.b + 1))) xa xl j) (wK (tb_Z L xs) (d + 6) 72 74 [(2, .int (nI (psi o A.b))), (1, .int (nI i)), (0, .ref 16)] [] Q) → dx_W (tb_Z L xs) (d + 6) 72 17 lv [] (mk xi xa xl j) Q := by
      intro h
      rw [← hK.2.1, ← hK.2.2.1] at h
      rcases hlv with rfl | ⟨h', rfl⟩
      · exact (e_goA hM.1 hK.1 plt c6 (by omega)).mpr h
      · exact (e_goB hM.1 hK.1 plt c6 (by omega)).mpr h
    apply start
    by_cases h15 : o A.b = 15
    · refine a_cases hC hI ?_ ?_ ?_ ?_ ?_ ?_ ?_ ?_ ?_ ?_ ?_ ?_ ?_ ?_ ?_ ?_
      · intro m s _ ho
        rw [h15] at ho
        exact absurd ho (by decide)
      · intro v _ ho
        rw [h15] at ho
        exact absurd ho (by decide)
      · intro _ ho
        rw [h15] at ho
        exact absurd ho (by decide)
      · intro m l _ ho
        rw [h15] at ho
        exact absurd ho (by decide)
      · intro m w l _ ho
        rw [h15] at ho
        exact absurd ho (by decide)
      · intro m l v _ ho
        rw [h15] at ho
        exact absurd ho (by decide)
      · intro m w l k _ ho
        rw [h15] at ho
        exact absurd ho (by decide)
      · intro m l v _ ho
        rw [h15] at ho
        exact absurd ho (by decide)
      · intro m l _ ho
        rw [h15] at ho
        exact absurd ho (by decide)
      · intro m l _ ho
        rw [h15] at ho
        exact absurd ho (by decide)
      · intro m l F L _ ho
        rw [h15] at ho
        exact absurd ho (by decide)
      · intro t _ ho
        rw [h15] at ho
        exact absurd ho (by decide)
      · intro t _ ho
        rw [h15] at ho
        exact absurd ho (by decide)
      · intro _ ho
        rw [h15] at ho
        exact absurd ho (by decide)
      · intro F L' _ ho hf hg hf2 hF ht0 hpN
        have as := as_15 (o := o) (x := x) (y := y) (sa := sa) (pa := pa) (fu := fu) (A := A) ho hF
        obtain ⟨b1, b2⟩ := a3 (by rw [as])
        have ai : aI o x y sa pa fu (V + 1) A = aI o x y sa pa fu V (aS o x y sa pa fu A).2 := by
          show (if (aS o x y sa pa fu A).1 = 0 then aI o x y sa pa fu V (aS o x y sa pa fu A).2 else aS o x y sa pa fu A) = _
          rw [if_pos (by rw [as])]
        rw [ai] at hE
        rw [if_pos h15] at b2
        obtain ⟨i1, i2, i3, i4, i5, i6, i7, i8, i9, i10⟩ := hI
        obtain ⟨r1, r2, r3, r4, r5, r6⟩ := h0
        obtain ⟨m1, ⟨t, m2, m3⟩, ⟨c, m4, m5⟩⟩ := hM
        have hbl := hb_le i7
        have i8' := i8
        rw [cst_n (by omega)] at m3
        have tl := sC_len m3
        rw [ht0] at i9
        have hz : ht 0 = 0 := rfl
        rw [hF] at m5 i7 i8
        obtain ⟨k, k1, k2, k3, k4, k5⟩ := m5
        obtain ⟨g1, g2, g3, g4, g5, g6, g7, g8⟩ := i7
        rw [List.length_cons] at i8
        have kl := fC_len k5
        rw [hf, hg, x_301 (k := t) (show (ui xi 1030 (nI (psi o A.b + 1))) 1029 = nI t from m2) (by omega), e_nx, e_goB (xi := ui (ui xi 1030 (nI (psi o A.b + 1))) 1029 (nI (t + 1))) (i := i + 1) (N := N) (p := psi o A.b + 1) rfl hK.1 (by omega) c6 (by omega)]
        rw [show (xa 8) (psi o A.b + 1) = 309 by rw [hK.2.1]; exact hf2]
        rw [x_309 (xi := ui (ui (ui xi 1030 (nI (psi o A.b + 1))) 1029 (nI (t + 1))) 1030 (nI (psi o A.b + 1 + 1))) (c := k) (v := F.2.1) (show xi 1034 = nI (k + 1) by rw [← k1]; exact m4) (by omega) k3 g2, e_nx]
        rw [as] at hE b1 b2
        cases V with
        | zero => exact absurd b2 (by omega)
        | succ V =>
          have b2' : pot o fu (amk F.1 ((0, 0) :: A.st) A.fl L' (uv A.vr F.2.1 (F.2.2.1, F.2.2.2.1)) A.sc A.k A.z A.ot) + 2 ≤ pot o fu A := b2
          refine ih V (by omega) (i + 1 + 1) (amk F.1 ((0, 0) :: A.st) A.fl L' (uv A.vr F.2.1 (F.2.2.1, F.2.2.2.1)) A.sc A.k A.z A.ot) _ _ _ _ (Or.inr ⟨_, rfl⟩) b1 ⟨uv_4 r1 k4, r2, r3, r4, r5, r6⟩ ⟨k2, ⟨t + 1, rfl, ?_⟩, ⟨k, rfl, k5⟩⟩ (CK_F hK (Fc_l (by decide) (Fc_l (by decide) (Fc_i (by decide) (Fc_i (by decide) (Fc_i (by decide) (Fc_i (by decide) (Fc_i (by decide) Fc_r)))))))) (by omega) (by omega) ?_
          · rw [cst_n (show tau o F.1 ≠ 1000 by omega)]
            exact sC_pu (m := 0) (s := 0) m3
          · rw [aI_more (by omega) b1 hC] at hE
            exact cE_F hE (Fc_l (by decide) (Fc_l (by decide) (Fc_i (by decide) (Fc_i (by decide) (Fc_i (by decide) (Fc_i (by decide) (Fc_i (by decide) Fc_r))))))) rfl
      · intro hb0
        exact absurd hb0 hbn
    · refine c_step hC hI h0 hM hK hfu hlt h15 ?_ ?_
      · intro A' xi' xa' xl' has r0 rm fr h322
        obtain ⟨b1, b2⟩ := a3 (by rw [has])
        rw [has, if_neg h15] at b2
        rw [has] at b1
        have ai : aI o x y sa pa fu (V + 1) A = aI o x y sa pa fu V A' := by
          show (if (aS o x y sa pa fu A).1 = 0 then aI o x y sa pa fu V (aS o x y sa pa fu A).2 else aS o x y sa pa fu A) = _
          rw [has, if_pos rfl]
        rw [ai] at hE
        rw [e_nx]
        have b2' : pot o fu A' + 1 ≤ pot o fu A := b2
        exact ih V (by omega) (i + 1) A' xi' xa' xl' _ (Or.inr ⟨_, rfl⟩) b1 r0 rm (CK_F hK fr) (by omega) (by omega) (cE_F hE fr h322)
      · intro k xi' xa' xl' has hk0 hk8 r0 fr h322
        have ai : aI o x y sa pa fu (V + 1) A = (k, A) := by
          show (if (aS o x y sa pa fu A).1 = 0 then aI o x y sa pa fu V (aS o x y sa pa fu A).2 else aS o x y sa pa fu A) = _
          rw [has, if_neg hk0]
        rw [ai] at hE
        rw [wK_t]
        exact (hE xi' xa' xl' r0 fr).2 (show k ≠ 100 by omega) hk8 (show 1 ≤ k by omega) h322
end CO
