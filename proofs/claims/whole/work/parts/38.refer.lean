/-! The reference: forgetting, its scale. -/
section QE
variable {L : Nat} {xs : Nat → Int32} {d : Nat} {σ : dx_S} {Q : dx_O → dx_S → Prop} {xi : Nat → Int32} {xa : Nat → Nat → Int32} {xl : Nat → Nat → Int64} {j : dx_S} {s t p c k v n : Nat} {m : Int}
theorem l_reset : ∀ n i, n + i = 26 → (dx_W (tb_Z L xs) d 98 2 [(1, .int (nI i)), (0, .ref 22)] [] (mk xi (ua (ua xa 24 (fl (xa 24) i 0)) 25 (fl (xa 25) i 0)) xl j) Q ↔ Q (.inl none) (mk (ui xi 1412 0) (ua (ua xa 24 (fl (xa 24) 26 0)) 25 (fl (xa 25) 26 0)) xl j)) := by
  intro n
  induction n with
  | zero =>
    intro i hi
    have e : i = 26 := by omega
    subst e
    rw [w_98_2]
    simp only [wI_some, wJ_some, wR_ref, wR_con, wO_some, s1_eq, s2_eq, dl_nil, dl_cons, dm_nil, dm_cons, lk_cons, cat_int, cat_long, cat_ref, cat_con, args_nil, args_int, args_long, args_ref, args_con, ct_nil, ct_cons, Nat.reduceBEq, Nat.reduceAdd, Nat.reduceLeDiff, Nat.reduceEqDiff, Bool.not_true, Bool.not_false, Bool.and_true, Bool.and_false, Bool.true_and, Bool.false_and, cond_true, cond_false, Nat.zero_add, Nat.add_zero, reduceCtorEq, Nat.zero_le, ui_at, ua_at, ul_at, wK_v, wK_n, wK_t, true_and, and_true, nb0, nb1, not_false_eq_true, not_true_eq_false, ci_0, ci_1, ci_3, ci_5, ci_7, ci_12, ci_15, ci_16, ci_21, ci_22, w_98_0, w_98_1, w_98_3, w_98_5, w_98_8, w_98_9, w_98_12, w_98_13, w_98_14, w_98_15, w_98_16, w_98_19, w_98_20, w_98_21, w_98_22, w_98_25, w_98_28, w_98_29, w_98_30, w_98_33, sf_22_4]
    rw [if_pos (by decide)]
  | succ n ih =>
    intro i hi
    have hv : vp_in (nI i) 26 := vp_in_nI (by omega) (by decide)
    rw [w_98_2]
    simp only [wI_some, wJ_some, wR_ref, wR_con, wO_some, s1_eq, s2_eq, dl_nil, dl_cons, dm_nil, dm_cons, lk_cons, cat_int, cat_long, cat_ref, cat_con, args_nil, args_int, args_long, args_ref, args_con, ct_nil, ct_cons, Nat.reduceBEq, Nat.reduceAdd, Nat.reduceLeDiff, Nat.reduceEqDiff, Bool.not_true, Bool.not_false, Bool.and_true, Bool.and_false, Bool.true_and, Bool.false_and, cond_true, cond_false, Nat.zero_add, Nat.add_zero, reduceCtorEq, Nat.zero_le, ui_at, ua_at, ul_at, wK_v, wK_n, wK_t, true_and, and_true, nb0, nb1, not_false_eq_true, not_true_eq_false, ci_0, ci_1, ci_3, ci_5, ci_7, ci_12, ci_15, ci_16, ci_21, ci_22, w_98_0, w_98_1, w_98_3, w_98_5, w_98_8, w_98_9, w_98_12, w_98_13, w_98_14, w_98_15, w_98_16, w_98_19, w_98_20, w_98_21, w_98_22, w_98_25, w_98_28, w_98_29, w_98_30, w_98_33, gf_22_2, gf_22_3, sa_24 hv, sa_25 hv, sf_22_4, nI_1]
    rw [if_neg (show ¬ (26 : Int32) ≤ nI i from nI_ge (b := 26) (by omega) (by decide)), nI_clamp (by omega), fl_s, fl_s]
    have e : ua (ua (ua (ua xa 24 (fl (xa 24) i 0)) 25 (fl (xa 25) i 0)) 24 (fl (xa 24) (i + 1) 0)) 25 (fl (xa 25) (i + 1) 0) = ua (ua xa 24 (fl (xa 24) (i + 1) 0)) 25 (fl (xa 25) (i + 1) 0) := by
      funext q
      show (if q = 25 then _ else if q = 24 then _ else if q = 25 then _ else if q = 24 then _ else xa q) = if q = 25 then _ else if q = 24 then _ else xa q
      by_cases h1 : q = 25
      · rw [if_pos h1, if_pos h1]
      · rw [if_neg h1, if_neg h1, if_neg h1]
        by_cases h2 : q = 24
        · rw [if_pos h2, if_pos h2]
        · rw [if_neg h2, if_neg h2, if_neg h2]
    rw [e]
    exact ih (i + 1) (by omega)
theorem f_reset : dx_M (tb_Z L xs) (d + 1) 98 [.ref 22] (mk xi xa xl j) Q ↔ Q (.inl none) (mk (ui xi 1412 0) (ua (ua xa 24 (fl (xa 24) 26 0)) 25 (fl (xa 25) 26 0)) xl j) := by
  rw [dx_M_in (Nat.le_of_ble_eq_true rfl)]
  simp only [wI_some, wJ_some, wR_ref, wR_con, wO_some, s1_eq, s2_eq, dl_nil, dl_cons, dm_nil, dm_cons, lk_cons, cat_int, cat_long, cat_ref, cat_con, args_nil, args_int, args_long, args_ref, args_con, ct_nil, ct_cons, Nat.reduceBEq, Nat.reduceAdd, Nat.reduceLeDiff, Nat.reduceEqDiff, Bool.not_true, Bool.not_false, Bool.and_true, Bool.and_false, Bool.true_and, Bool.false_and, cond_true, cond_false, Nat.zero_add, Nat.add_zero, reduceCtorEq, Nat.zero_le, ui_at, ua_at, ul_at, wK_v, wK_n, wK_t, true_and, and_true, nb0, nb1, not_false_eq_true, not_true_eq_false, ci_0, ci_1, ci_3, ci_5, ci_7, ci_12, ci_15, ci_16, ci_21, ci_22, w_98_0, w_98_1, w_98_3, w_98_5, w_98_8, w_98_9, w_98_12, w_98_13, w_98_14, w_98_15, w_98_16, w_98_19, w_98_20, w_98_21, w_98_22, w_98_25, w_98_28, w_98_29, w_98_30, w_98_33]
  have h := l_reset (L := L) (xs := xs) (d := d) (Q := Q) (xi := xi) (xa := xa) (xl := xl) (j := j) 26 0 rfl
  rw [fl_0, fl_0, ua_id, ua_id] at h
  exact h
theorem f_setScale (h : nm m s) : dx_M (tb_Z L xs) (d + 2) 132 [.ref 22, .int (zI m), .int (nI s)] (mk xi xa xl j) Q ↔ (match r_who m s 0 4 with
  | .inl f => Q (.inl (some (.int 0))) (mk (ui xi 1442 (nI f)) xa xl j)
  | .inr n => Q (.inl (some (.int 1))) (mk (ui xi 1412 (zI n)) xa xl j)) := by
  have hh := h
  unfold nm at hh
  have b1 := ten_4 hh.2.2
  have b2 := tq_b (x := m) (y := 10 ^ s) hh.1 hh.2.1
  have b3 := tm_b (x := m) (y := 10 ^ s) hh.1 hh.2.1
  rw [dx_M_in (Nat.le_of_ble_eq_true rfl)]
  simp only [wI_some, wJ_some, wR_ref, wR_con, wO_some, s1_eq, s2_eq, dl_nil, dl_cons, dm_nil, dm_cons, lk_cons, cat_int, cat_long, cat_ref, cat_con, args_nil, args_int, args_long, args_ref, args_con, ct_nil, ct_cons, Nat.reduceBEq, Nat.reduceAdd, Nat.reduceLeDiff, Nat.reduceEqDiff, Bool.not_true, Bool.not_false, Bool.and_true, Bool.and_false, Bool.true_and, Bool.false_and, cond_true, cond_false, Nat.zero_add, Nat.add_zero, reduceCtorEq, Nat.zero_le, ui_at, ua_at, ul_at, wK_v, wK_n, wK_t, true_and, and_true, nb0, nb1, not_false_eq_true, not_true_eq_false, ci_0, ci_1, ci_3, ci_5, ci_7, ci_12, ci_15, ci_16, ci_21, ci_22, w_132_0, w_132_1, w_132_4, w_132_5, w_132_6, w_132_7, w_132_8, w_132_9, w_132_10, w_132_11, w_132_14, w_132_15, w_132_16, w_132_17, w_132_18, w_132_19, w_132_20, w_132_23, w_132_24, w_132_25, w_132_26, w_132_27, w_132_30, w_132_31, w_132_34, w_132_35, w_132_36, w_132_39, w_132_40, w_132_41, w_132_42, w_132_43, w_132_44, w_132_45, w_132_46, w_132_47, w_132_50, w_132_51, L0, (show (4 : Int64) = zL 4 from rfl), lg_cmp_eq, lg_cmp_lt, lg_cmp_le, f_ten (show s ≤ 8 by omega), (show (zL (10 ^ s) = zL 0) = False from ten_ne (show s ≤ 8 by omega)), zI_L (show -2 ^ 31 ≤ m by omega) (show m < 2 ^ 31 by omega), zL_div (show -2 ^ 63 ≤ m by omega) (show m < 2 ^ 63 by omega) (show -2 ^ 63 ≤ (10 : Int) ^ s by omega) (show (10 : Int) ^ s < 2 ^ 63 by omega), zL_rm2, zL_I, sf_22_34, sf_22_4]
  simp only [zL_eq (a := m.tmod (10 ^ s)) (b := 0) (by omega) (by omega) (by omega) (by omega), zL_lt (a := m.tdiv (10 ^ s)) (b := 0) (by omega) (by omega) (by omega) (by omega), zL_le (a := m.tdiv (10 ^ s)) (b := 4) (by omega) (by omega) (by omega) (by omega)]
  unfold r_who
  by_cases h1 : m.tmod (10 ^ s) = 0
  · have n1 : ¬ ¬ m.tmod (10 ^ s) = 0 := fun z => z h1
    rw [if_neg n1, if_neg n1]
    by_cases h2 : m.tdiv (10 ^ s) < 0
    · rw [if_pos h2, if_pos h2]
      exact Iff.rfl
    · rw [if_neg h2, if_neg h2]
      by_cases h3 : m.tdiv (10 ^ s) ≤ 4
      · rw [if_pos h3, if_pos h3]
      · rw [if_neg h3, if_neg h3]
        exact Iff.rfl
  · rw [if_pos h1, if_pos h1]
    exact Iff.rfl
theorem f_call {b : Int32} (ht : xi 1438 = nI (k + 1)) (hk : k < 300) (hn : n < 26) (hc : xi 1439 = nI c) (hc4 : c ≤ 4) (hv : 0 ≤ xa 32 n → xa 33 n = nI v) (hv2 : v < 26) : dx_M (tb_Z L xs) (d + 1) 129 [.ref 22, .int (nI n), .int b] (mk xi xa xl j) Q ↔ (if 0 ≤ xa 32 n then (if c = 4 then Q (.inl (some (.int (-1)))) (mk (ui xi 1442 7) xa xl j) else Q (.inl (some (.int (xa 32 n)))) (mk (ui (ui xi 1438 (nI k)) 1439 (nI (c + 1))) (ua (ua (ua (ua (ua (ua (ua xa 39 (upd (xa 39) c b)) 40 (upd (xa 40) c (nI k))) 41 (upd (xa 41) c (nI v))) 42 (upd (xa 42) c (xa 24 v))) 43 (upd (xa 43) c (xa 25 v))) 24 (upd (xa 24) v (xa 37 k))) 25 (upd (xa 25) v (xa 38 k))) xl j)) else Q (.inl (some (.int (-1)))) (mk (ui xi 1442 6) xa xl j)) := by
  have in26 : vp_in (nI n) 26 := vp_in_nI hn (by decide)
  have iv26 : vp_in (nI v) 26 := vp_in_nI hv2 (by decide)
  have ik : vp_in (nI k) 300 := vp_in_nI hk (by decide)
  have ic : vp_in (nI c) 5 := vp_in_nI (by omega) (by decide)
  rw [dx_M_in (Nat.le_of_ble_eq_true rfl)]
  simp only [wI_some, wJ_some, wR_ref, wR_con, wO_some, s1_eq, s2_eq, dl_nil, dl_cons, dm_nil, dm_cons, lk_cons, cat_int, cat_long, cat_ref, cat_con, args_nil, args_int, args_long, args_ref, args_con, ct_nil, ct_cons, Nat.reduceBEq, Nat.reduceAdd, Nat.reduceLeDiff, Nat.reduceEqDiff, Bool.not_true, Bool.not_false, Bool.and_true, Bool.and_false, Bool.true_and, Bool.false_and, cond_true, cond_false, Nat.zero_add, Nat.add_zero, reduceCtorEq, Nat.zero_le, ui_at, ua_at, ul_at, wK_v, wK_n, wK_t, true_and, and_true, nb0, nb1, not_false_eq_true, not_true_eq_false, ci_0, ci_1, ci_3, ci_5, ci_7, ci_12, ci_15, ci_16, ci_21, ci_22, w_129_0, w_129_1, w_129_4, w_129_5, w_129_6, w_129_9, w_129_10, w_129_12, w_129_15, w_129_16, w_129_17, w_129_18, w_129_21, w_129_22, w_129_26, w_129_28, w_129_31, w_129_32, w_129_34_int, w_129_34_ref, w_129_34_retAddr, w_129_35, w_129_38, w_129_39, w_129_40, w_129_43, w_129_44, w_129_47, w_129_48, w_129_49, w_129_50, w_129_51, w_129_54, w_129_55, w_129_58, w_129_59, w_129_60, w_129_61, w_129_64, w_129_65, w_129_68, w_129_69, w_129_72, w_129_73, w_129_74, w_129_77, w_129_78, w_129_81, w_129_82, w_129_83, w_129_84, w_129_87, w_129_88, w_129_91, w_129_92, w_129_95, w_129_96, w_129_97, w_129_98, w_129_99, w_129_102, w_129_103, w_129_106, w_129_107, w_129_110, w_129_111, w_129_112, w_129_113, w_129_114_int, w_129_114_ref, w_129_114_retAddr, w_129_115, w_129_118, w_129_119, w_129_120, w_129_123, w_129_124, w_129_127, w_129_128, w_129_129, w_129_132, w_129_133, w_129_136, w_129_137, w_129_138, w_129_139, w_129_142, w_129_143, w_129_144, w_129_147, w_129_148, w_129_151, w_129_152, w_129_153, w_129_154, w_129_157, w_129_158, w_129_159, gf_22_15, gf_22_31, ga_32 in26, nI_clamp (show n < 2 ^ 31 by omega), hc, sf_22_34]
  by_cases h0 : 0 ≤ xa 32 n
  · rw [if_pos h0, if_pos h0]
    by_cases h4 : c = 4
    · rw [if_neg (show ¬ ¬ nI c = 4 from fun z => z (by rw [h4]; rfl)), if_pos h4]
      simp only [w_129_25, w_129_26, w_129_28, w_129_31, w_129_32, wR_ref, lk_cons, Nat.reduceBEq, cond_true, cond_false, sf_22_34, wO_some]
    · rw [if_pos (show ¬ nI c = 4 from fun z => h4 ((nI_eq (b := 4) (by omega) (by decide)).mp z)), if_neg h4]
      simp only [wI_some, wJ_some, wR_ref, wR_con, wO_some, s1_eq, s2_eq, dl_nil, dl_cons, dm_nil, dm_cons, lk_cons, cat_int, cat_long, cat_ref, cat_con, args_nil, args_int, args_long, args_ref, args_con, ct_nil, ct_cons, Nat.reduceBEq, Nat.reduceAdd, Nat.reduceLeDiff, Nat.reduceEqDiff, Bool.not_true, Bool.not_false, Bool.and_true, Bool.and_false, Bool.true_and, Bool.false_and, cond_true, cond_false, Nat.zero_add, Nat.add_zero, reduceCtorEq, Nat.zero_le, ui_at, ua_at, ul_at, wK_v, wK_n, wK_t, true_and, and_true, nb0, nb1, not_false_eq_true, not_true_eq_false, ci_0, ci_1, ci_3, ci_5, ci_7, ci_12, ci_15, ci_16, ci_21, ci_22, w_129_0, w_129_1, w_129_4, w_129_5, w_129_6, w_129_9, w_129_10, w_129_12, w_129_15, w_129_16, w_129_17, w_129_18, w_129_21, w_129_22, w_129_25, w_129_26, w_129_28, w_129_31, w_129_32, w_129_33, w_129_34_int, w_129_34_ref, w_129_34_retAddr, w_129_35, w_129_38, w_129_39, w_129_40, w_129_43, w_129_44, w_129_47, w_129_48, w_129_49, w_129_50, w_129_51, w_129_54, w_129_55, w_129_58, w_129_59, w_129_60, w_129_61, w_129_64, w_129_65, w_129_68, w_129_69, w_129_72, w_129_73, w_129_74, w_129_77, w_129_78, w_129_81, w_129_82, w_129_83, w_129_84, w_129_87, w_129_88, w_129_91, w_129_92, w_129_95, w_129_96, w_129_97, w_129_98, w_129_99, w_129_102, w_129_103, w_129_106, w_129_107, w_129_110, w_129_111, w_129_112, w_129_113, w_129_114_int, w_129_114_ref, w_129_114_retAddr, w_129_115, w_129_118, w_129_119, w_129_120, w_129_123, w_129_124, w_129_127, w_129_128, w_129_129, w_129_132, w_129_133, w_129_136, w_129_137, w_129_138, w_129_139, w_129_142, w_129_143, w_129_144, w_129_147, w_129_148, w_129_151, w_129_152, w_129_153, w_129_154, w_129_157, w_129_158, w_129_159, gf_22_2, gf_22_3, gf_22_15, gf_22_16, gf_22_23, gf_22_24, gf_22_25, gf_22_26, gf_22_27, gf_22_28, gf_22_29, gf_22_30, gf_22_31, sf_22_30, sf_22_31, ht, hc, nI_pred, ga_32 in26, ga_33 in26, nI_clamp (show n < 2 ^ 31 by omega), hv h0, sa_39 ic, sa_40 ic, sa_41 ic, sa_42 ic, sa_43 ic, ga_24 iv26, ga_25 iv26, sa_24 iv26, sa_25 iv26, ga_37 ik, ga_38 ik, nI_clamp (show c < 2 ^ 31 by omega), nI_clamp (show v < 2 ^ 31 by omega), nI_clamp (show k < 2 ^ 31 by omega), nI_1]
  · rw [if_neg h0, if_neg h0]
theorem f_back {a b : Int32} (hc : xi 1439 = nI (c + 1)) (hc4 : c < 5) (hv : xa 41 c = nI v) (hv2 : v < 26) (hh : xa 40 c = nI k) (hk : k < 300) : dx_M (tb_Z L xs) (d + 2) 135 [.ref 22, .int a, .int b] (mk xi xa xl j) Q ↔ Q (.inl (some (.int (xa 39 c)))) (mk (ui (ui (ui xi 1439 (nI c)) 1438 (nI k)) 1438 (nI (k + 1))) (ua (ua (ua (ua xa 24 (upd (xa 24) v (xa 42 c))) 25 (upd (xa 25) v (xa 43 c))) 37 (upd (xa 37) k a)) 38 (upd (xa 38) k b)) xl j) := by
  have iv26 : vp_in (nI v) 26 := vp_in_nI hv2 (by decide)
  have ic : vp_in (nI c) 5 := vp_in_nI (by omega) (by decide)
  rw [dx_M_in (Nat.le_of_ble_eq_true rfl)]
  simp only [wI_some, wJ_some, wR_ref, wR_con, wO_some, s1_eq, s2_eq, dl_nil, dl_cons, dm_nil, dm_cons, lk_cons, cat_int, cat_long, cat_ref, cat_con, args_nil, args_int, args_long, args_ref, args_con, ct_nil, ct_cons, Nat.reduceBEq, Nat.reduceAdd, Nat.reduceLeDiff, Nat.reduceEqDiff, Bool.not_true, Bool.not_false, Bool.and_true, Bool.and_false, Bool.true_and, Bool.false_and, cond_true, cond_false, Nat.zero_add, Nat.add_zero, reduceCtorEq, Nat.zero_le, ui_at, ua_at, ul_at, wK_v, wK_n, wK_t, true_and, and_true, nb0, nb1, not_false_eq_true, not_true_eq_false, ci_0, ci_1, ci_3, ci_5, ci_7, ci_12, ci_15, ci_16, ci_21, ci_22, w_135_0, w_135_1_int, w_135_1_ref, w_135_1_retAddr, w_135_2, w_135_5, w_135_6, w_135_7, w_135_10, w_135_11, w_135_14, w_135_15, w_135_18, w_135_19, w_135_22, w_135_23, w_135_24, w_135_27, w_135_28, w_135_31, w_135_32, w_135_33, w_135_34, w_135_37, w_135_38, w_135_41, w_135_42, w_135_45, w_135_46, w_135_47, w_135_50, w_135_51, w_135_54, w_135_55, w_135_56, w_135_57, w_135_58, w_135_61, w_135_62, w_135_65, w_135_66, w_135_69, w_135_70, w_135_71, w_135_72, w_135_76, w_135_79, w_135_80, w_135_83, w_135_84, gf_22_2, gf_22_3, gf_22_25, gf_22_26, gf_22_27, gf_22_28, gf_22_29, gf_22_31, sf_22_30, sf_22_31, hc, nI_pred, ga_39 ic, ga_40 ic, ga_41 ic, ga_42 ic, ga_43 ic, hv, hh, sa_24 iv26, sa_25 iv26, nI_clamp (show c < 2 ^ 31 by omega), nI_clamp (show v < 2 ^ 31 by omega)]
  rw [f_pushValue (s := k) rfl hk]
  simp only [wI_some, wJ_some, wR_ref, wR_con, wO_some, s1_eq, s2_eq, dl_nil, dl_cons, dm_nil, dm_cons, lk_cons, cat_int, cat_long, cat_ref, cat_con, args_nil, args_int, args_long, args_ref, args_con, ct_nil, ct_cons, Nat.reduceBEq, Nat.reduceAdd, Nat.reduceLeDiff, Nat.reduceEqDiff, Bool.not_true, Bool.not_false, Bool.and_true, Bool.and_false, Bool.true_and, Bool.false_and, cond_true, cond_false, Nat.zero_add, Nat.add_zero, reduceCtorEq, Nat.zero_le, ui_at, ua_at, ul_at, wK_v, wK_n, wK_t, true_and, and_true, nb0, nb1, not_false_eq_true, not_true_eq_false, ci_0, ci_1, ci_3, ci_5, ci_7, ci_12, ci_15, ci_16, ci_21, ci_22, w_135_0, w_135_1_int, w_135_1_ref, w_135_1_retAddr, w_135_2, w_135_5, w_135_6, w_135_7, w_135_10, w_135_11, w_135_14, w_135_15, w_135_18, w_135_19, w_135_22, w_135_23, w_135_24, w_135_27, w_135_28, w_135_31, w_135_32, w_135_33, w_135_34, w_135_37, w_135_38, w_135_41, w_135_42, w_135_45, w_135_46, w_135_47, w_135_50, w_135_51, w_135_54, w_135_55, w_135_56, w_135_57, w_135_58, w_135_61, w_135_62, w_135_65, w_135_66, w_135_69, w_135_70, w_135_71, w_135_72, w_135_75, w_135_76, w_135_79, w_135_80, w_135_83, w_135_84, gf_22_25, gf_22_31, ga_39 ic, nI_clamp (show c < 2 ^ 31 by omega)]
end QE
