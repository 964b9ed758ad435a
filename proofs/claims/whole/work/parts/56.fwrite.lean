/-! The reference writes a number. -/
section QI
variable {L : Nat} {xs : Nat → Int32} {d : Nat} {σ : dx_S} {Q : dx_O → dx_S → Prop} {xi : Nat → Int32} {xa : Nat → Nat → Int32} {xl : Nat → Nat → Int64} {j : dx_S} {s t p c k v n D z e r g : Nat} {m : Int}
theorem zI_n0 (h : nm m s) : (0 : Int32) ≤ zI m ↔ 0 ≤ m := by
  unfold nm at h
  exact zI_le (a := 0) (b := m) (by omega) (by omega) (by omega) (by omega)
theorem l_r34 (h : nm m s) (hg : g ≤ 9) (hg1 : 1 ≤ g) : dx_W (tb_Z L xs) (d + 1) 133 34 [(5, .int (nI g)), (3, .long (zL v)), (0, .ref 22), (1, .int (zI m)), (2, .int (nI s))] [] (mk xi xa xl j) Q ↔ dx_W (tb_Z L xs) (d + 1) 133 78 [(7, .int (nI (wl m s (max (s + 1) g)))), (6, .int (nI (max (s + 1) g - s))), (5, .int (nI g)), (3, .long (zL v)), (0, .ref 22), (1, .int (zI m)), (2, .int (nI s))] [] (mk xi xa xl j) Q := by
  have hh := h
  unfold nm at hh
  rw [w_133_34]
  simp only [wI_some, wJ_some, wR_ref, wR_con, wO_some, s1_eq, s2_eq, dl_nil, dl_cons, dm_nil, dm_cons, lk_cons, cat_int, cat_long, cat_ref, cat_con, args_nil, args_int, args_long, args_ref, args_con, ct_nil, ct_cons, Nat.reduceBEq, Nat.reduceAdd, Nat.reduceLeDiff, Nat.reduceEqDiff, Bool.not_true, Bool.not_false, Bool.and_true, Bool.and_false, Bool.true_and, Bool.false_and, cond_true, cond_false, Nat.zero_add, Nat.add_zero, reduceCtorEq, Nat.zero_le, ui_at, ua_at, ul_at, wK_v, wK_n, wK_t, true_and, and_true, nb0, nb1, not_false_eq_true, not_true_eq_false, ci_0, ci_1, ci_3, ci_5, ci_7, ci_12, ci_15, ci_16, ci_21, ci_22, w_133_0, w_133_1, w_133_4, w_133_5, w_133_6, w_133_7, w_133_10, w_133_11, w_133_12, w_133_13, w_133_14, w_133_16, w_133_17, w_133_19, w_133_22, w_133_23, w_133_24, w_133_25, w_133_28, w_133_31, w_133_36, w_133_37, w_133_40, w_133_42, w_133_43, w_133_44, w_133_47, w_133_48, w_133_50, w_133_51, w_133_54, w_133_55, w_133_58, w_133_59, w_133_61, w_133_62, w_133_63, w_133_66, w_133_67, w_133_68, w_133_69, w_133_72, w_133_73, w_133_74, w_133_75, w_133_76, w_133_79, w_133_82, w_133_84, w_133_85, w_133_88, w_133_91, w_133_92, w_133_94, w_133_97, w_133_98, w_133_99, w_133_100, w_133_103, w_133_105, w_133_106, w_133_109, w_133_110, w_133_112, w_133_114, w_133_117, w_133_120, w_133_122, w_133_123, w_133_124, w_133_125, w_133_126, w_133_128, w_133_130, w_133_133, w_133_135, w_133_136, w_133_137, w_133_138, w_133_141, w_133_142, w_133_144, w_133_146, w_133_149, w_133_152, w_133_153, w_133_155, w_133_156, w_133_158, w_133_161, w_133_162, w_133_165, w_133_166, w_133_167, w_133_168, w_133_170, w_133_173, w_133_176, w_133_179, w_133_182, w_133_183, w_133_185, w_133_187, w_133_190, w_133_191_int, w_133_191_ref, w_133_191_retAddr, w_133_192, w_133_195, w_133_197, w_133_198, w_133_201, w_133_202]
  have ge0 : ∀ {P R : Prop}, (if 0 ≤ zI m then P else R) = (if m < 0 then R else P) := by
    intro P R
    by_cases hm : m < 0
    · rw [if_neg (fun z => absurd ((zI_n0 h).mp z) (by omega)), if_pos hm]
    · rw [if_pos ((zI_n0 h).mpr (by omega)), if_neg hm]
  have sl : ∀ {P R : Prop}, (if nI s ≤ 0 then P else R) = (if s = 0 then P else R) := by
    intro P R
    by_cases hs : s = 0
    · rw [if_pos (by rw [hs]; decide), if_pos hs]
    · rw [if_neg (nI_nle (by omega) (by omega)), if_neg hs]
  have gl : ∀ {P R : Prop}, (if nI g ≤ nI s then P else R) = (if g ≤ s then P else R) := by
    intro P R
    by_cases hs : g ≤ s
    · rw [if_pos (nI_le hs (by omega)), if_pos hs]
    · rw [if_neg (nI_ge (by omega) (by omega)), if_neg hs]
  have c1 : (1 : Int32) + nI s = nI (s + 1) := by rw [Int32.add_comm, nI_1]
  have z0 : (0 : Int32) = nI 0 := rfl
  have o1 : (1 : Int32) = nI 1 := rfl
  simp only [ge0, sl, gl]
  by_cases h1 : g ≤ s
  · rw [if_pos h1, show max (s + 1) g - s = 1 by omega, show max (s + 1) g = s + 1 by omega]
    unfold wl ww
    by_cases h2 : m < 0
    · rw [if_pos h2, if_pos h2]
      by_cases h3 : s = 0
      · omega
      · rw [if_neg h3, if_pos (show 0 < s ∧ s < s + 1 by omega), c1, show (1 : Int32) + 1 + nI (s + 1) + 1 = nI (s + 1 + 2 + 1) by rw [o1, nI_add, nI_add, nI_add]; congr 1; omega]
        exact Iff.rfl
    · rw [if_neg h2, if_neg h2]
      by_cases h3 : s = 0
      · omega
      · rw [if_neg h3, if_pos (show 0 < s ∧ s < s + 1 by omega), c1, show (0 : Int32) + 1 + nI (s + 1) + 1 = nI (s + 1 + 2) by rw [o1, z0, nI_add, nI_add, nI_add]; congr 1; omega]
        exact Iff.rfl
  · rw [if_neg h1, show max (s + 1) g - s = g - s by omega, show max (s + 1) g = g by omega, pk_sub (show s ≤ g by omega)]
    unfold wl ww
    by_cases h2 : m < 0
    · rw [if_pos h2, if_pos h2]
      by_cases h3 : s = 0
      · rw [if_pos h3, if_neg (show ¬ (0 < s ∧ s < g) by omega), show (1 : Int32) + nI (g - s) + 0 + 1 = nI (g + 1 + 1) by rw [o1, z0, nI_add, nI_add, nI_add]; congr 1; omega]
      · rw [if_neg h3, if_pos (show 0 < s ∧ s < g by omega), c1, show (1 : Int32) + nI (g - s) + nI (s + 1) + 1 = nI (g + 2 + 1) by rw [o1, nI_add, nI_add, nI_add]; congr 1; omega]
    · rw [if_neg h2, if_neg h2]
      by_cases h3 : s = 0
      · rw [if_pos h3, if_neg (show ¬ (0 < s ∧ s < g) by omega), show (0 : Int32) + nI (g - s) + 0 + 1 = nI (g + 1) by rw [o1, z0, nI_add, nI_add, nI_add]; congr 1; omega]
      · rw [if_neg h3, if_pos (show 0 < s ∧ s < g by omega), c1, show (0 : Int32) + nI (g - s) + nI (s + 1) + 1 = nI (g + 2) by rw [o1, z0, nI_add, nI_add, nI_add]; congr 1; omega]
theorem wb_N {f : Nat → Int32} (h : e ≤ z + r) : wb f v s D z e r = f := by
  funext q
  exact if_neg (by omega)
theorem rm_D (hs : s < D) : rm s D = ww s D := by
  unfold rm ww
  split <;> split <;> omega
theorem l_r78 (h : nm m s) (hD : D ≤ 9) (hsD : s < D) (hz : xi 1445 = nI z) (hz2 : z ≤ 300) {a5 : Int32} : dx_W (tb_Z L xs) (d + 1) 133 78 [(7, .int (nI (wl m s D))), (6, .int (nI (D - s))), (5, .int a5), (3, .long (zL m.natAbs)), (0, .ref 22), (1, .int (zI m)), (2, .int (nI s))] [] (mk xi xa xl j) Q ↔ (if z + wl m s D ≤ 300 then Q (.inl (some (.int 1))) (mk (ui xi 1445 (nI (z + wl m s D))) (ua xa 44 (wb (xa 44) m.natAbs s D z (z + wl m s D) 0)) xl j) else Q (.inl (some (.int 0))) (mk (ui xi 1442 8) xa xl j)) := by
  have hh := h
  unfold nm at hh
  have hw : wl m s D ≤ 12 := by
    unfold wl ww
    repeat' split
    all_goals omega
  have ge0 : ∀ {P R : Prop}, (if 0 ≤ zI m then P else R) = (if m < 0 then R else P) := by
    intro P R
    by_cases hm : m < 0
    · rw [if_neg (fun z => absurd ((zI_n0 h).mp z) (by omega)), if_pos hm]
    · rw [if_pos ((zI_n0 h).mpr (by omega)), if_neg hm]
  rw [w_133_78]
  simp only [wI_some, wJ_some, wR_ref, wR_con, wO_some, s1_eq, s2_eq, dl_nil, dl_cons, dm_nil, dm_cons, lk_cons, cat_int, cat_long, cat_ref, cat_con, args_nil, args_int, args_long, args_ref, args_con, ct_nil, ct_cons, Nat.reduceBEq, Nat.reduceAdd, Nat.reduceLeDiff, Nat.reduceEqDiff, Bool.not_true, Bool.not_false, Bool.and_true, Bool.and_false, Bool.true_and, Bool.false_and, cond_true, cond_false, Nat.zero_add, Nat.add_zero, reduceCtorEq, Nat.zero_le, ui_at, ua_at, ul_at, wK_v, wK_n, wK_t, true_and, and_true, nb0, nb1, not_false_eq_true, not_true_eq_false, ci_0, ci_1, ci_3, ci_5, ci_7, ci_12, ci_15, ci_16, ci_21, ci_22, w_133_0, w_133_1, w_133_4, w_133_5, w_133_6, w_133_7, w_133_10, w_133_11, w_133_12, w_133_13, w_133_14, w_133_16, w_133_17, w_133_19, w_133_22, w_133_23, w_133_24, w_133_25, w_133_28, w_133_31, w_133_34, w_133_36, w_133_37, w_133_40, w_133_42, w_133_43, w_133_44, w_133_47, w_133_48, w_133_50, w_133_51, w_133_54, w_133_55, w_133_58, w_133_59, w_133_61, w_133_62, w_133_63, w_133_66, w_133_67, w_133_68, w_133_69, w_133_72, w_133_73, w_133_74, w_133_75, w_133_76, w_133_79, w_133_82, w_133_84, w_133_85, w_133_88, w_133_91, w_133_92, w_133_94, w_133_97, w_133_98, w_133_99, w_133_100, w_133_103, w_133_105, w_133_106, w_133_109, w_133_110, w_133_112, w_133_114, w_133_120, w_133_122, w_133_123, w_133_124, w_133_125, w_133_126, w_133_130, w_133_133, w_133_135, w_133_136, w_133_137, w_133_138, w_133_141, w_133_142, w_133_144, w_133_146, w_133_149, w_133_152, w_133_153, w_133_155, w_133_156, w_133_158, w_133_161, w_133_162, w_133_165, w_133_166, w_133_167, w_133_168, w_133_170, w_133_173, w_133_176, w_133_179, w_133_183, w_133_185, w_133_187, w_133_190, w_133_191_int, w_133_191_ref, w_133_191_retAddr, w_133_192, w_133_195, w_133_197, w_133_198, w_133_201, w_133_202, gf_22_37, sf_22_34, hz, nI_add]
  by_cases h3 : ¬ z + wl m s D ≤ 300
  · rw [if_neg (show ¬ nI (z + wl m s D) ≤ (300 : Int32) from nI_ge (a := 300) (by omega) (by omega)), if_neg h3]
  have h3 := Decidable.not_not.mp h3
  rw [if_pos (show nI (z + wl m s D) ≤ (300 : Int32) from nI_le (b := 300) (by omega) (by decide)), if_pos h3]
  have fin : ∀ xa' : Nat → Nat → Int32, (dx_W (tb_Z L xs) (d + 1) 133 182 [(9, .int (zI (-1))), (8, .int (nI (z + wl m s D - 1))), (7, .int (nI (wl m s D))), (6, .int (nI (D - s))), (5, .int a5), (3, .long (zL m.natAbs)), (0, .ref 22), (1, .int (zI m)), (2, .int (nI s))] [] (mk xi (ua xa 44 (wb (xa 44) m.natAbs s D z (z + wl m s D) 1)) xl j) Q ↔ Q (.inl (some (.int 1))) (mk (ui xi 1445 (nI (z + wl m s D))) (ua xa 44 (wb (xa 44) m.natAbs s D z (z + wl m s D) 0)) xl j)) := by
    intro xa'
    have w1 : 1 ≤ wl m s D := by
      unfold wl ww
      repeat' split
      all_goals omega
    rw [w_133_182]
    simp only [wI_some, wJ_some, wR_ref, wR_con, wO_some, s1_eq, s2_eq, dl_nil, dl_cons, dm_nil, dm_cons, lk_cons, cat_int, cat_long, cat_ref, cat_con, args_nil, args_int, args_long, args_ref, args_con, ct_nil, ct_cons, Nat.reduceBEq, Nat.reduceAdd, Nat.reduceLeDiff, Nat.reduceEqDiff, Bool.not_true, Bool.not_false, Bool.and_true, Bool.and_false, Bool.true_and, Bool.false_and, cond_true, cond_false, Nat.zero_add, Nat.add_zero, reduceCtorEq, Nat.zero_le, ui_at, ua_at, ul_at, wK_v, wK_n, wK_t, true_and, and_true, nb0, nb1, not_false_eq_true, not_true_eq_false, ci_0, ci_1, ci_3, ci_5, ci_7, ci_12, ci_15, ci_16, ci_21, ci_22, w_133_0, w_133_1, w_133_4, w_133_5, w_133_6, w_133_7, w_133_10, w_133_11, w_133_12, w_133_13, w_133_14, w_133_16, w_133_17, w_133_19, w_133_22, w_133_23, w_133_24, w_133_25, w_133_28, w_133_31, w_133_34, w_133_36, w_133_37, w_133_40, w_133_42, w_133_43, w_133_44, w_133_47, w_133_48, w_133_50, w_133_51, w_133_54, w_133_55, w_133_58, w_133_59, w_133_61, w_133_62, w_133_63, w_133_66, w_133_67, w_133_68, w_133_69, w_133_72, w_133_73, w_133_74, w_133_75, w_133_76, w_133_78, w_133_79, w_133_82, w_133_84, w_133_85, w_133_88, w_133_91, w_133_92, w_133_94, w_133_97, w_133_98, w_133_99, w_133_100, w_133_103, w_133_105, w_133_106, w_133_109, w_133_110, w_133_112, w_133_114, w_133_117, w_133_120, w_133_122, w_133_123, w_133_124, w_133_125, w_133_126, w_133_128, w_133_130, w_133_133, w_133_135, w_133_136, w_133_137, w_133_138, w_133_141, w_133_142, w_133_144, w_133_146, w_133_149, w_133_152, w_133_153, w_133_155, w_133_156, w_133_158, w_133_161, w_133_162, w_133_165, w_133_166, w_133_167, w_133_168, w_133_170, w_133_173, w_133_176, w_133_179, w_133_183, w_133_185, w_133_187, w_133_191_int, w_133_191_ref, w_133_191_retAddr, w_133_192, w_133_195, w_133_197, w_133_198, w_133_201, w_133_202]
    have p := put44 (L := L) (xs := xs) (d := d) (Q := wK (tb_Z L xs) (d + 1) 133 190 [(9, .int (zI (-1))), (8, .int (nI (z + wl m s D - 1))), (7, .int (nI (wl m s D))), (6, .int (nI (D - s))), (5, .int a5), (3, .long (zL m.natAbs)), (0, .ref 22), (1, .int (zI m)), (2, .int (nI s))] [] Q) (xi := xi) (xa := xa) (xl := xl) (j := j) (v := m.natAbs) (s := s) (D := D) (z := z) (e := z + wl m s D) (r := 0) (f := xa 44) h3 (by omega)
    rw [cr_0] at p
    refine p.trans ?_
    simp only [wI_some, wJ_some, wR_ref, wR_con, wO_some, s1_eq, s2_eq, dl_nil, dl_cons, dm_nil, dm_cons, lk_cons, cat_int, cat_long, cat_ref, cat_con, args_nil, args_int, args_long, args_ref, args_con, ct_nil, ct_cons, Nat.reduceBEq, Nat.reduceAdd, Nat.reduceLeDiff, Nat.reduceEqDiff, Bool.not_true, Bool.not_false, Bool.and_true, Bool.and_false, Bool.true_and, Bool.false_and, cond_true, cond_false, Nat.zero_add, Nat.add_zero, reduceCtorEq, Nat.zero_le, ui_at, ua_at, ul_at, wK_v, wK_n, wK_t, true_and, and_true, nb0, nb1, not_false_eq_true, not_true_eq_false, ci_0, ci_1, ci_3, ci_5, ci_7, ci_12, ci_15, ci_16, ci_21, ci_22, w_133_0, w_133_1, w_133_4, w_133_5, w_133_6, w_133_7, w_133_10, w_133_11, w_133_12, w_133_13, w_133_14, w_133_16, w_133_17, w_133_19, w_133_22, w_133_23, w_133_24, w_133_25, w_133_28, w_133_31, w_133_34, w_133_36, w_133_37, w_133_40, w_133_42, w_133_43, w_133_44, w_133_47, w_133_48, w_133_50, w_133_51, w_133_54, w_133_55, w_133_58, w_133_59, w_133_61, w_133_62, w_133_63, w_133_66, w_133_67, w_133_68, w_133_69, w_133_72, w_133_73, w_133_74, w_133_75, w_133_76, w_133_78, w_133_79, w_133_82, w_133_84, w_133_85, w_133_88, w_133_91, w_133_92, w_133_94, w_133_97, w_133_98, w_133_99, w_133_100, w_133_103, w_133_105, w_133_106, w_133_109, w_133_110, w_133_112, w_133_114, w_133_117, w_133_120, w_133_122, w_133_123, w_133_124, w_133_125, w_133_126, w_133_128, w_133_130, w_133_133, w_133_135, w_133_136, w_133_137, w_133_138, w_133_141, w_133_142, w_133_144, w_133_146, w_133_149, w_133_152, w_133_153, w_133_155, w_133_156, w_133_158, w_133_161, w_133_162, w_133_165, w_133_166, w_133_167, w_133_168, w_133_170, w_133_173, w_133_176, w_133_179, w_133_183, w_133_185, w_133_187, w_133_190, w_133_191_int, w_133_191_ref, w_133_191_retAddr, w_133_192, w_133_195, w_133_197, w_133_198, w_133_201, w_133_202, gf_22_37, sf_22_37, hz, nI_add]
  simp only [ge0]
  have st : D - s + s = D := by omega
  have e9 : nI (D - s) + nI s - 1 = zI ((D : Int) - 1) := by rw [nI_add, st, nI_z', show (1 : Int32) = zI 1 from rfl, zI_sub]
  by_cases hm : m < 0
  · have ew : wl m s D = rm s D + 1 := by
      rw [rm_D hsD]
      exact if_pos hm
    have c45 : cr m.natAbs s D (rm s D) = 45 := by
      rw [rm_D hsD]
      exact cr_neg hsD
    rw [if_pos hm]
    have p := put44 (L := L) (xs := xs) (d := d) (Q := wK (tb_Z L xs) (d + 1) 133 117 [(8, .int (nI z)), (7, .int (nI (wl m s D))), (6, .int (nI (D - s))), (5, .int a5), (3, .long (zL m.natAbs)), (0, .ref 22), (1, .int (zI m)), (2, .int (nI s))] [] Q) (xi := xi) (xa := xa) (xl := xl) (j := j) (v := m.natAbs) (s := s) (D := D) (z := z) (e := z + wl m s D) (r := rm s D) (f := xa 44) h3 (by omega)
    rw [c45, wb_N (show z + wl m s D ≤ z + (rm s D + 1) by omega), ua_id, show z + wl m s D - (rm s D + 1) = z by omega] at p
    refine Iff.trans (Iff.trans (by exact Iff.rfl) p) ?_
    simp only [wI_some, wJ_some, wR_ref, wR_con, wO_some, s1_eq, s2_eq, dl_nil, dl_cons, dm_nil, dm_cons, lk_cons, cat_int, cat_long, cat_ref, cat_con, args_nil, args_int, args_long, args_ref, args_con, ct_nil, ct_cons, Nat.reduceBEq, Nat.reduceAdd, Nat.reduceLeDiff, Nat.reduceEqDiff, Bool.not_true, Bool.not_false, Bool.and_true, Bool.and_false, Bool.true_and, Bool.false_and, cond_true, cond_false, Nat.zero_add, Nat.add_zero, reduceCtorEq, Nat.zero_le, ui_at, ua_at, ul_at, wK_v, wK_n, wK_t, true_and, and_true, nb0, nb1, not_false_eq_true, not_true_eq_false, ci_0, ci_1, ci_3, ci_5, ci_7, ci_12, ci_15, ci_16, ci_21, ci_22, w_133_0, w_133_1, w_133_4, w_133_5, w_133_6, w_133_7, w_133_10, w_133_11, w_133_12, w_133_13, w_133_14, w_133_16, w_133_17, w_133_19, w_133_22, w_133_23, w_133_24, w_133_25, w_133_28, w_133_31, w_133_34, w_133_36, w_133_37, w_133_40, w_133_42, w_133_43, w_133_44, w_133_47, w_133_48, w_133_50, w_133_51, w_133_54, w_133_55, w_133_58, w_133_59, w_133_61, w_133_62, w_133_63, w_133_66, w_133_67, w_133_68, w_133_69, w_133_72, w_133_73, w_133_74, w_133_75, w_133_76, w_133_78, w_133_79, w_133_82, w_133_84, w_133_85, w_133_88, w_133_91, w_133_92, w_133_94, w_133_97, w_133_98, w_133_99, w_133_100, w_133_103, w_133_105, w_133_106, w_133_109, w_133_110, w_133_112, w_133_114, w_133_117, w_133_120, w_133_122, w_133_123, w_133_124, w_133_125, w_133_126, w_133_130, w_133_133, w_133_135, w_133_136, w_133_137, w_133_138, w_133_141, w_133_142, w_133_144, w_133_146, w_133_149, w_133_152, w_133_153, w_133_155, w_133_156, w_133_158, w_133_161, w_133_162, w_133_165, w_133_166, w_133_167, w_133_168, w_133_170, w_133_173, w_133_176, w_133_179, w_133_183, w_133_185, w_133_187, w_133_190, w_133_191_int, w_133_191_ref, w_133_191_retAddr, w_133_192, w_133_195, w_133_197, w_133_198, w_133_201, w_133_202, nI_1, e9]
    rw [← fin xa]
    have lr := l_rw (L := L) (xs := xs) (d := d) (Q := Q) (xi := xi) (xa := xa) (xl := xl) (j := j) (x := zI m) (a5 := a5) (a6 := nI (D - s)) (a7 := nI (wl m s D)) (f := xa 44) (v := m.natAbs) (s := s) (D := D) (z := z) (e := z + wl m s D) (by omega) h3 hD hh.2.2 hsD (by omega) D (Nat.le_refl _)
    rw [show z + wl m s D - rm s D = z + 1 by omega] at lr
    exact lr
  · have ew : wl m s D = rm s D := by
      rw [rm_D hsD]
      exact if_neg hm
    rw [if_neg hm, ← nI_add, e9, ← fin xa]
    have lr := l_rw (L := L) (xs := xs) (d := d) (Q := Q) (xi := xi) (xa := xa) (xl := xl) (j := j) (x := zI m) (a5 := a5) (a6 := nI (D - s)) (a7 := nI (wl m s D)) (f := xa 44) (v := m.natAbs) (s := s) (D := D) (z := z) (e := z + wl m s D) (by omega) h3 hD hh.2.2 hsD (by omega) D (Nat.le_refl _)
    rw [show z + wl m s D - rm s D = z by omega, wb_N (show z + wl m s D ≤ z + rm s D by omega), ua_id] at lr
    exact lr
theorem f_write (h : nm m s) (hz : xi 1445 = nI z) (hz2 : z ≤ 300) : dx_M (tb_Z L xs) (d + 2) 133 [.ref 22, .int (zI m), .int (nI s)] (mk xi xa xl j) Q ↔ (if z + wl m s (max (s + 1) (dgn m.natAbs)) ≤ 300 then Q (.inl (some (.int 1))) (mk (ui xi 1445 (nI (z + wl m s (max (s + 1) (dgn m.natAbs))))) (ua xa 44 (wb (xa 44) m.natAbs s (max (s + 1) (dgn m.natAbs)) z (z + wl m s (max (s + 1) (dgn m.natAbs))) 0)) xl j) else Q (.inl (some (.int 0))) (mk (ui xi 1442 8) xa xl j)) := by
  have hh := h
  unfold nm at hh
  have hg := dgn_b (v := m.natAbs)
  rw [dx_M_in (Nat.le_of_ble_eq_true rfl)]
  simp only [wI_some, wJ_some, wR_ref, wR_con, wO_some, s1_eq, s2_eq, dl_nil, dl_cons, dm_nil, dm_cons, lk_cons, cat_int, cat_long, cat_ref, cat_con, args_nil, args_int, args_long, args_ref, args_con, ct_nil, ct_cons, Nat.reduceBEq, Nat.reduceAdd, Nat.reduceLeDiff, Nat.reduceEqDiff, Bool.not_true, Bool.not_false, Bool.and_true, Bool.and_false, Bool.true_and, Bool.false_and, cond_true, cond_false, Nat.zero_add, Nat.add_zero, reduceCtorEq, Nat.zero_le, ui_at, ua_at, ul_at, wK_v, wK_n, wK_t, true_and, and_true, nb0, nb1, not_false_eq_true, not_true_eq_false, ci_0, ci_1, ci_3, ci_5, ci_7, ci_12, ci_15, ci_16, ci_21, ci_22, w_133_0, w_133_1, w_133_4, w_133_5, w_133_6, w_133_7, w_133_10, w_133_11, w_133_12, w_133_13, w_133_14, w_133_17, w_133_19, w_133_22, w_133_23, w_133_24, w_133_25, w_133_28, w_133_31, w_133_34, w_133_36, w_133_37, w_133_40, w_133_42, w_133_43, w_133_44, w_133_47, w_133_48, w_133_50, w_133_51, w_133_54, w_133_55, w_133_58, w_133_59, w_133_61, w_133_62, w_133_63, w_133_66, w_133_67, w_133_68, w_133_69, w_133_72, w_133_73, w_133_74, w_133_75, w_133_76, w_133_78, w_133_79, w_133_82, w_133_84, w_133_85, w_133_88, w_133_91, w_133_92, w_133_94, w_133_97, w_133_98, w_133_99, w_133_100, w_133_103, w_133_105, w_133_106, w_133_109, w_133_110, w_133_112, w_133_114, w_133_117, w_133_120, w_133_122, w_133_123, w_133_124, w_133_125, w_133_126, w_133_128, w_133_130, w_133_133, w_133_135, w_133_136, w_133_137, w_133_138, w_133_141, w_133_142, w_133_144, w_133_146, w_133_149, w_133_152, w_133_153, w_133_155, w_133_156, w_133_158, w_133_161, w_133_162, w_133_165, w_133_166, w_133_167, w_133_168, w_133_170, w_133_173, w_133_176, w_133_179, w_133_182, w_133_183, w_133_185, w_133_187, w_133_190, w_133_191_int, w_133_191_ref, w_133_191_retAddr, w_133_192, w_133_195, w_133_197, w_133_198, w_133_201, w_133_202]
  rw [← l_r78 (L := L) (xs := xs) (d := d) (xi := xi) (xa := xa) (xl := xl) (j := j) (a5 := nI (dgn m.natAbs)) h (D := max (s + 1) (dgn m.natAbs)) (by omega) (by omega) hz hz2, ← l_r34 h hg.2 hg.1]
  have ld := l_rdig (L := L) (xs := xs) (d := d) (Q := Q) (σ := mk xi xa xl j) (v := m.natAbs) (x := .int (zI m)) (y := .int (nI s)) (by omega) 8 1 rfl
  by_cases hm : m < 0
  · rw [if_neg (fun z => absurd ((zI_n0 h).mp z) (by omega)), zI_L (by omega) (by omega), zL_neg, show -m = ((m.natAbs : Nat) : Int) by omega]
    exact ld
  · rw [if_pos ((zI_n0 h).mpr (by omega)), zI_L (by omega) (by omega), show zL m = zL ((m.natAbs : Nat) : Int) by rw [show ((m.natAbs : Nat) : Int) = m by omega]]
    exact ld
end QI
