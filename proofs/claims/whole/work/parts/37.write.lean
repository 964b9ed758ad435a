/-! Writing a number, in the project: the whole. -/
section QD
variable {L : Nat} {xs : Nat → Int32} {d : Nat} {σ : dx_S} {Q : dx_O → dx_S → Prop} {xi : Nat → Int32} {xa : Nat → Nat → Int32} {xl : Nat → Nat → Int64} {j : dx_S} {s t p c k v n e D z w : Nat} {m : Int}
theorem cr_neg (h : s < D) : cr v s D (ww s D) = 45 := by
  by_cases h0 : 0 < s
  · rw [show ww s D = D + 2 from if_pos ⟨h0, h⟩]
    unfold cr
    rw [if_neg (by omega), if_pos (show 0 < s ∧ s < D + 2 by omega), if_neg (by omega), if_neg (by omega)]
  · rw [show ww s D = D + 1 from if_neg (fun z => h0 z.1)]
    unfold cr
    rw [if_neg (by omega), if_neg (show ¬ (0 < s ∧ s < D + 1) by omega), if_neg (by omega)]
/-- how long a number's line is -/
def wl (m : Int) (s D : Nat) : Nat := if m < 0 then ww s D + 1 else ww s D
theorem put6 {f : Nat → Int32} (he : e ≤ 300) (hw : w < e) : dx_pi (mk xi (ua xa 6 (wa f v s D e w)) xl j) 2 (.ref 6) (zI ((e : Int) - 1 - (w : Nat))) (nI (cr v s D w)) = some (mk xi (ua xa 6 (wa f v s D e (w + 1))) xl j) := by
  have ei : zI ((e : Int) - 1 - (w : Nat)) = nI (e - 1 - w) := by
    rw [nI_z']
    congr 1
    omega
  rw [ei, sa_6 (vp_in_nI (show e - 1 - w < 300 by omega) (by decide)), nI_clamp (by omega), ua_ua, show (ua xa 6 (wa f v s D e w)) 6 = wa f v s D e w from rfl, wa_s hw]
theorem l_w2 {x : Int64} (h : nm m s) (hD : D < 100) (hsD : s < D) (hN : wl m s D ≤ e) (he2 : e < 1000) : dx_W (tb_Z L xs) (d + 1) 24 61 [(7, .int (nI e)), (6, .int (nI D)), (5, .int (nI s)), (3, .long (zL m)), (0, .ref 5), (1, .long x)] [] (mk xi xa xl j) Q ↔ (if e ≤ 300 then Q (.inl none) (mk (ui xi 321 (nI e)) (ua xa 6 (wa (xa 6) m.natAbs s D e (wl m s D))) xl j) else Q (.inr (46 + j.length)) (mk (ui xi 322 8) xa xl (j ++ [.inr (exc 8, [])]))) := by
  have hh := h
  unfold nm at hh
  have hw : ww s D ≤ e := by
    unfold wl at hN
    split at hN <;> omega
  by_cases he : ¬ e ≤ 300
  · rw [if_neg he]
    simp only [wI_some, wJ_some, wR_ref, wR_con, wO_some, s1_eq, s2_eq, dl_nil, dl_cons, dm_nil, dm_cons, lk_cons, cat_int, cat_long, cat_ref, cat_con, args_nil, args_int, args_long, args_ref, args_con, ct_nil, ct_cons, Nat.reduceBEq, Nat.reduceAdd, Nat.reduceLeDiff, Nat.reduceEqDiff, Bool.not_true, Bool.not_false, Bool.and_true, Bool.and_false, Bool.true_and, Bool.false_and, cond_true, cond_false, Nat.zero_add, Nat.add_zero, reduceCtorEq, Nat.zero_le, ui_at, ua_at, ul_at, wK_v, wK_n, wK_t, true_and, and_true, nb0, nb1, not_false_eq_true, not_true_eq_false, ci_0, ci_1, ci_3, ci_5, ci_7, ci_12, ci_15, ci_16, ci_21, ci_22, w_24_0, w_24_1, w_24_4, w_24_5, w_24_6, w_24_9, w_24_11, w_24_13, w_24_14, w_24_15, w_24_16, w_24_19, w_24_22, w_24_25, w_24_27, w_24_28, w_24_31, w_24_33, w_24_34, w_24_35, w_24_36, w_24_37, w_24_40, w_24_41, w_24_44, w_24_45, w_24_46, w_24_48, w_24_51, w_24_52, w_24_55, w_24_56, w_24_57, w_24_58, w_24_59, w_24_61, w_24_63, w_24_66, w_24_69, w_24_70, w_24_72, w_24_77, w_24_78, w_24_79, w_24_81, w_24_82, w_24_85, w_24_87, w_24_90, w_24_92, w_24_93, w_24_94, w_24_97, w_24_99, w_24_100, w_24_102, w_24_104, w_24_106, w_24_109, w_24_111, w_24_114, w_24_116, w_24_118, w_24_121, w_24_122, w_24_125, w_24_127, w_24_130, w_24_132, w_24_133, w_24_134, w_24_137, w_24_139, w_24_142, w_24_145, w_24_147, w_24_150, w_24_151, w_24_152, w_24_153, w_24_154, w_24_155, w_24_157, w_24_160, w_24_161, w_24_163, w_24_166, w_24_169, w_24_170, w_24_171, w_24_172, w_24_175, w_24_176, w_24_179, w_24_181, w_24_183, w_24_184, w_24_185, w_24_187, w_24_190, e_raise]
    rw [if_neg (show ¬ nI e ≤ (300 : Int32) from nI_ge (a := 300) (by omega) (by omega))]
  have he := Decidable.not_not.mp he
  rw [if_pos he]
  have e1 : 1 ≤ e := by
    unfold ww at hw
    split at hw <;> omega
  have p0 := put6 (xi := xi) (xa := xa) (xl := xl) (j := j) (f := xa 6) (v := m.natAbs) (s := s) (D := D) he (show 0 < e by omega)
  rw [wa_0, ua_id, cr_0] at p0
  have p1 : dx_pi (mk xi xa xl j) 2 (.ref 6) (zI ((e : Int) - 1)) (vp_nar .char 10) = some (mk xi (ua xa 6 (wa (xa 6) m.natAbs s D e 1)) xl j) := by
    rw [show vp_nar .char 10 = nI 10 from nar_c (k := 10) (by decide), ← p0, show (e : Int) - 1 - ((0 : Nat) : Int) = (e : Int) - 1 by omega]
  have en : nI e - 1 = zI ((e : Int) - 1) := by
    rw [nI_z', show (1 : Int32) = zI 1 from rfl, zI_sub]
  simp only [wI_some, wJ_some, wR_ref, wR_con, wO_some, s1_eq, s2_eq, dl_nil, dl_cons, dm_nil, dm_cons, lk_cons, cat_int, cat_long, cat_ref, cat_con, args_nil, args_int, args_long, args_ref, args_con, ct_nil, ct_cons, Nat.reduceBEq, Nat.reduceAdd, Nat.reduceLeDiff, Nat.reduceEqDiff, Bool.not_true, Bool.not_false, Bool.and_true, Bool.and_false, Bool.true_and, Bool.false_and, cond_true, cond_false, Nat.zero_add, Nat.add_zero, reduceCtorEq, Nat.zero_le, ui_at, ua_at, ul_at, wK_v, wK_n, wK_t, true_and, and_true, nb0, nb1, not_false_eq_true, not_true_eq_false, ci_0, ci_1, ci_3, ci_5, ci_7, ci_12, ci_15, ci_16, ci_21, ci_22, w_24_0, w_24_1, w_24_4, w_24_5, w_24_6, w_24_9, w_24_11, w_24_13, w_24_14, w_24_15, w_24_16, w_24_19, w_24_22, w_24_25, w_24_27, w_24_28, w_24_31, w_24_33, w_24_34, w_24_35, w_24_36, w_24_37, w_24_40, w_24_41, w_24_44, w_24_45, w_24_46, w_24_48, w_24_51, w_24_52, w_24_55, w_24_56, w_24_57, w_24_58, w_24_59, w_24_61, w_24_63, w_24_66, w_24_69, w_24_70, w_24_72, w_24_75, w_24_77, w_24_78, w_24_79, w_24_81, w_24_82, w_24_85, w_24_87, w_24_90, w_24_92, w_24_93, w_24_94, w_24_97, w_24_99, w_24_100, w_24_104, w_24_106, w_24_109, w_24_111, w_24_114, w_24_116, w_24_118, w_24_121, w_24_122, w_24_125, w_24_127, w_24_130, w_24_132, w_24_133, w_24_134, w_24_137, w_24_139, w_24_142, w_24_145, w_24_147, w_24_150, w_24_151, w_24_152, w_24_153, w_24_154, w_24_155, w_24_157, w_24_160, w_24_161, w_24_163, w_24_166, w_24_169, w_24_170, w_24_171, w_24_172, w_24_175, w_24_176, w_24_179, w_24_181, w_24_183, w_24_184, w_24_185, w_24_187, w_24_190, gf_5_0, en, p1, zI_m1, e_abslN (show -2 ^ 62 ≤ m by omega) (show m < 2 ^ 62 by omega), e_raise]
  rw [if_pos (show nI e ≤ (300 : Int32) from nI_le (b := 300) (by omega) (by decide))]
  have w0 : ww s 0 = 1 := by
    unfold ww
    rw [if_neg (by omega)]
  have g := l_write (L := L) (xs := xs) (d := d) (Q := Q) (xi := xi) (xa := xa) (xl := xl) (j := j) (x := x) (y := zL m) (v := m.natAbs) (s := s) (D := D) (e := e) (by omega) he hD h.2.2 hw D 0 rfl
  rw [w0, Nat.pow_zero, Nat.div_one, show nI 0 = 0 from nI_0, show (e : Int) - 1 - ((1 : Nat) : Int) = (e : Int) - 1 - 1 from rfl] at g
  rw [g]
  simp only [wI_some, wJ_some, wR_ref, wR_con, wO_some, s1_eq, s2_eq, dl_nil, dl_cons, dm_nil, dm_cons, lk_cons, cat_int, cat_long, cat_ref, cat_con, args_nil, args_int, args_long, args_ref, args_con, ct_nil, ct_cons, Nat.reduceBEq, Nat.reduceAdd, Nat.reduceLeDiff, Nat.reduceEqDiff, Bool.not_true, Bool.not_false, Bool.and_true, Bool.and_false, Bool.true_and, Bool.false_and, cond_true, cond_false, Nat.zero_add, Nat.add_zero, reduceCtorEq, Nat.zero_le, ui_at, ua_at, ul_at, wK_v, wK_n, wK_t, true_and, and_true, nb0, nb1, not_false_eq_true, not_true_eq_false, ci_0, ci_1, ci_3, ci_5, ci_7, ci_12, ci_15, ci_16, ci_21, ci_22, w_24_0, w_24_1, w_24_4, w_24_5, w_24_6, w_24_9, w_24_11, w_24_13, w_24_14, w_24_15, w_24_16, w_24_19, w_24_22, w_24_25, w_24_27, w_24_28, w_24_31, w_24_33, w_24_34, w_24_35, w_24_36, w_24_37, w_24_40, w_24_41, w_24_44, w_24_45, w_24_46, w_24_48, w_24_51, w_24_52, w_24_55, w_24_56, w_24_57, w_24_58, w_24_59, w_24_61, w_24_63, w_24_66, w_24_69, w_24_70, w_24_72, w_24_75, w_24_77, w_24_78, w_24_79, w_24_81, w_24_82, w_24_85, w_24_87, w_24_90, w_24_92, w_24_93, w_24_94, w_24_97, w_24_99, w_24_100, w_24_104, w_24_106, w_24_109, w_24_111, w_24_114, w_24_116, w_24_118, w_24_121, w_24_122, w_24_125, w_24_127, w_24_130, w_24_132, w_24_133, w_24_134, w_24_137, w_24_139, w_24_142, w_24_145, w_24_147, w_24_150, w_24_151, w_24_152, w_24_153, w_24_154, w_24_155, w_24_157, w_24_160, w_24_161, w_24_163, w_24_166, w_24_169, w_24_170, w_24_171, w_24_172, w_24_175, w_24_176, w_24_179, w_24_181, w_24_183, w_24_184, w_24_185, w_24_187, w_24_190, gf_5_0, lg_cmp_ge, L0, sf_5_1]
  simp only [zL_le (a := 0) (b := m) (by omega) (by omega) (by omega) (by omega)]
  unfold wl at hN ⊢
  by_cases hm : m < 0
  · rw [if_pos hm] at hN
    rw [if_neg (show ¬ 0 ≤ m by omega), if_pos hm]
    have p2 := put6 (xi := xi) (xa := xa) (xl := xl) (j := j) (f := xa 6) (v := m.natAbs) (s := s) (D := D) (w := ww s D) he (by omega)
    rw [cr_neg hsD] at p2
    rw [show vp_nar .char 45 = nI 45 from nar_c (k := 45) (by decide), p2]
    simp only [wI_some, wJ_some, wR_ref, wR_con, wO_some, s1_eq, s2_eq, dl_nil, dl_cons, dm_nil, dm_cons, lk_cons, cat_int, cat_long, cat_ref, cat_con, args_nil, args_int, args_long, args_ref, args_con, ct_nil, ct_cons, Nat.reduceBEq, Nat.reduceAdd, Nat.reduceLeDiff, Nat.reduceEqDiff, Bool.not_true, Bool.not_false, Bool.and_true, Bool.and_false, Bool.true_and, Bool.false_and, cond_true, cond_false, Nat.zero_add, Nat.add_zero, reduceCtorEq, Nat.zero_le, ui_at, ua_at, ul_at, wK_v, wK_n, wK_t, true_and, and_true, nb0, nb1, not_false_eq_true, not_true_eq_false, ci_0, ci_1, ci_3, ci_5, ci_7, ci_12, ci_15, ci_16, ci_21, ci_22, w_24_0, w_24_1, w_24_4, w_24_5, w_24_6, w_24_9, w_24_11, w_24_13, w_24_14, w_24_15, w_24_16, w_24_19, w_24_22, w_24_25, w_24_27, w_24_28, w_24_31, w_24_33, w_24_34, w_24_35, w_24_36, w_24_37, w_24_40, w_24_41, w_24_44, w_24_45, w_24_46, w_24_48, w_24_51, w_24_52, w_24_55, w_24_56, w_24_57, w_24_58, w_24_59, w_24_61, w_24_63, w_24_66, w_24_69, w_24_70, w_24_72, w_24_75, w_24_77, w_24_78, w_24_79, w_24_81, w_24_82, w_24_85, w_24_87, w_24_90, w_24_92, w_24_93, w_24_94, w_24_97, w_24_99, w_24_100, w_24_104, w_24_106, w_24_109, w_24_111, w_24_114, w_24_116, w_24_118, w_24_121, w_24_122, w_24_125, w_24_127, w_24_130, w_24_132, w_24_133, w_24_134, w_24_137, w_24_139, w_24_142, w_24_145, w_24_147, w_24_150, w_24_151, w_24_152, w_24_153, w_24_154, w_24_155, w_24_157, w_24_160, w_24_161, w_24_163, w_24_166, w_24_169, w_24_170, w_24_171, w_24_172, w_24_175, w_24_176, w_24_179, w_24_181, w_24_183, w_24_184, w_24_185, w_24_187, w_24_190, sf_5_1]
  · rw [if_pos (show 0 ≤ m by omega), if_neg hm]
theorem e_write (h : nm m s) (hz : xi 321 = nI z) (hz2 : z ≤ 300) : dx_M (tb_Z L xs) (d + 2) 24 [.ref 5, .long (pn m s)] (mk xi xa xl j) Q ↔ (if z + wl m s (max (s + 1) (dgn m.natAbs)) ≤ 300 then Q (.inl none) (mk (ui xi 321 (nI (z + wl m s (max (s + 1) (dgn m.natAbs))))) (ua xa 6 (wa (xa 6) m.natAbs s (max (s + 1) (dgn m.natAbs)) (z + wl m s (max (s + 1) (dgn m.natAbs))) (wl m s (max (s + 1) (dgn m.natAbs))))) xl j) else Q (.inr (46 + j.length)) (mk (ui xi 322 8) xa xl (j ++ [.inr (exc 8, [])]))) := by
  have hh := h
  unfold nm at hh
  have hg := dgn_b (v := m.natAbs)
  rw [dx_M_in (Nat.le_of_ble_eq_true rfl)]
  simp only [wI_some, wJ_some, wR_ref, wR_con, wO_some, s1_eq, s2_eq, dl_nil, dl_cons, dm_nil, dm_cons, lk_cons, cat_int, cat_long, cat_ref, cat_con, args_nil, args_int, args_long, args_ref, args_con, ct_nil, ct_cons, Nat.reduceBEq, Nat.reduceAdd, Nat.reduceLeDiff, Nat.reduceEqDiff, Bool.not_true, Bool.not_false, Bool.and_true, Bool.and_false, Bool.true_and, Bool.false_and, cond_true, cond_false, Nat.zero_add, Nat.add_zero, reduceCtorEq, Nat.zero_le, ui_at, ua_at, ul_at, wK_v, wK_n, wK_t, true_and, and_true, nb0, nb1, not_false_eq_true, not_true_eq_false, ci_0, ci_1, ci_3, ci_5, ci_7, ci_12, ci_15, ci_16, ci_21, ci_22, w_24_0, w_24_1, w_24_4, w_24_5, w_24_6, w_24_9, w_24_11, w_24_13, w_24_14, w_24_15, w_24_16, w_24_19, w_24_22, w_24_25, w_24_27, w_24_28, w_24_31, w_24_33, w_24_34, w_24_35, w_24_36, w_24_37, w_24_40, w_24_41, w_24_44, w_24_45, w_24_46, w_24_48, w_24_51, w_24_52, w_24_55, w_24_56, w_24_57, w_24_58, w_24_59, w_24_63, w_24_66, w_24_69, w_24_70, w_24_72, w_24_75, w_24_77, w_24_78, w_24_79, w_24_81, w_24_82, w_24_85, w_24_87, w_24_90, w_24_92, w_24_93, w_24_94, w_24_97, w_24_99, w_24_100, w_24_102, w_24_104, w_24_106, w_24_109, w_24_111, w_24_114, w_24_116, w_24_118, w_24_121, w_24_122, w_24_125, w_24_127, w_24_130, w_24_132, w_24_133, w_24_134, w_24_137, w_24_139, w_24_142, w_24_145, w_24_147, w_24_150, w_24_151, w_24_152, w_24_153, w_24_154, w_24_155, w_24_157, w_24_160, w_24_161, w_24_163, w_24_166, w_24_169, w_24_170, w_24_171, w_24_172, w_24_175, w_24_176, w_24_179, w_24_181, w_24_183, w_24_184, w_24_185, w_24_187, w_24_190, e_mantN h, e_placesN h, nI_1, hz, gf_5_1, nI_add, e_abslN (show -2 ^ 62 ≤ m by omega) (show m < 2 ^ 62 by omega), e_digits (show m.natAbs < 2 ^ 31 by omega), e_maxN (show s + 1 < 2 ^ 31 by omega) (show dgn m.natAbs < 2 ^ 31 by omega), lg_cmp_ge, L0, Int32.add_zero]
  generalize hD : max (s + 1) (dgn m.natAbs) = D
  simp only [zL_le (a := 0) (b := m) (by omega) (by omega) (by omega) (by omega)]
  have hb : wl m s D ≤ 20 := by
    unfold wl ww
    repeat' split
    all_goals omega
  rw [← l_w2 (L := L) (xs := xs) (d := d) (x := pn m s) h (show D < 100 by omega) (show s < D by omega) (show wl m s D ≤ z + wl m s D by omega) (show z + wl m s D < 1000 by omega)]
  by_cases hm : 0 ≤ m
  · rw [if_pos hm]
    by_cases h0 : 0 < s
    · rw [if_neg (nI_nle h0 (by omega)), show wl m s D = D + 2 by unfold wl ww; rw [if_neg (by omega), if_pos (by omega)]]
      exact Iff.rfl
    · rw [if_pos (show nI s ≤ 0 from nI_le (b := 0) (by omega) (by decide)), show wl m s D = D + 1 by unfold wl ww; rw [if_neg (by omega), if_neg (by omega)]]
      exact Iff.rfl
  · rw [if_neg hm]
    by_cases h0 : 0 < s
    · rw [if_neg (nI_nle h0 (by omega)), show wl m s D = D + 3 by unfold wl ww; rw [if_pos (by omega), if_pos (by omega)]]
      exact Iff.rfl
    · rw [if_pos (show nI s ≤ 0 from nI_le (b := 0) (by omega) (by decide)), show wl m s D = D + 2 by unfold wl ww; rw [if_pos (by omega), if_neg (by omega)]]
      exact Iff.rfl
end QD
