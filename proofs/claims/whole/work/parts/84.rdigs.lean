/-! The scanner of the reference: the digits of a numeral. -/
def vst (c v g : Nat) : Nat := if g < 9 then 10 * v + (c - 48) else v
/-- all digits from j on: the place behind them, the value of the first nine, how many -/
def nl (C : Nat → Nat) : Nat → Nat → Nat → Nat → Nat × Nat × Nat
  | 0, j, v, g => (j, v, g)
  | N + 1, j, v, g => if isD (C j) then nl C N (j + 1) (vst (C j) v g) (g + 1) else (j, v, g)
theorem nl_g {C : Nat → Nat} : ∀ N j v g, g ≤ (nl C N j v g).2.2
  | 0, _, _, g => Nat.le_refl g
  | N + 1, j, v, g => by
    unfold nl
    split
    · exact Nat.le_trans (Nat.le_succ g) (nl_g N _ _ _)
    · exact Nat.le_refl g
section TC2
variable {L : Nat} {xs : Nat → Int32} {d : Nat} {σ : dx_S} {Q : dx_O → dx_S → Prop} {xi : Nat → Int32} {xa : Nat → Nat → Int32} {xl : Nat → Nat → Int64} {j : dx_S} {T : Nat → Nat} {s t p c k v n i w m z N g : Nat} {a5 a1 : Int32}
theorem vs_e (h : 48 ≤ c) : 10 * nI v + nI c - 48 = nI (10 * v + (c - 48)) := by
  rw [show (10 : Int32) = zI 10 from rfl, show (48 : Int32) = zI 48 from rfl, nI_z', nI_z', nI_z', zI_mul, zI_add, zI_sub]
  congr 1
  omega
theorem tA_ge (h : z ≤ i) : tA T z i = 0 := if_neg (by omega)
theorem l_nl1 (ht : txR xi xa T z) : ∀ N i v g, z ≤ N + i → i ≤ 400 → g ≤ 1000 + i → (dx_W (tb_Z L xs) (d + 1) 103 10 [(2, .int (nI i)), (4, .int (nI g)), (3, .int (nI v)), (5, .int a5), (0, .ref 22), (1, .int a1)] [] (mk xi xa xl j) Q ↔ dx_W (tb_Z L xs) (d + 1) 103 51 [(2, .int (nI (nl (tA T z) N i v g).1)), (4, .int (nI (nl (tA T z) N i v g).2.2)), (3, .int (nI (nl (tA T z) N i v g).2.1)), (5, .int a5), (0, .ref 22), (1, .int a1)] [] (mk xi xa xl j) Q) := by
  have hz := ht.2.1
  intro N
  induction N with
  | zero =>
    intro i v g h1 h2 h3
    have c0 : tA T z i = 0 := tA_ge (by omega)
    rw [w_103_10]
    simp only [wI_some, wJ_some, wR_ref, wR_con, wO_some, s1_eq, s2_eq, dl_nil, dl_cons, dm_nil, dm_cons, lk_cons, cat_int, cat_long, cat_ref, cat_con, args_nil, args_int, args_long, args_ref, args_con, ct_nil, ct_cons, Nat.reduceBEq, Nat.reduceAdd, Nat.reduceLeDiff, Nat.reduceEqDiff, Bool.not_true, Bool.not_false, Bool.and_true, Bool.and_false, Bool.true_and, Bool.false_and, cond_true, cond_false, Nat.zero_add, Nat.add_zero, reduceCtorEq, Nat.zero_le, ui_at, ua_at, ul_at, wK_v, wK_n, wK_t, true_and, and_true, nb0, nb1, not_false_eq_true, not_true_eq_false, ci_0, ci_1, ci_3, ci_5, ci_7, ci_12, ci_15, ci_16, ci_21, ci_22, w_103_0, w_103_1, w_103_2, w_103_3, w_103_4, w_103_5, w_103_7, w_103_8, w_103_11, w_103_12, w_103_15, w_103_18, w_103_23, w_103_25, w_103_28, w_103_30, w_103_31, w_103_32, w_103_33, w_103_34, w_103_37, w_103_38, w_103_40, w_103_41, w_103_42, w_103_45, w_103_48, w_103_52, w_103_53, w_103_56, w_103_58, w_103_61, w_103_62, w_103_63, w_103_64, w_103_65, w_103_68, w_103_71, w_103_74, w_103_77, w_103_78, w_103_79, w_103_82, w_103_85, w_103_88, w_103_90, w_103_92, w_103_95, w_103_97, w_103_98, w_103_99, w_103_100, w_103_101, w_103_104, w_103_105, w_103_107, w_103_108, w_103_109, w_103_112, w_103_115, w_103_118, w_103_121, w_103_123, w_103_125, w_103_128, w_103_130, w_103_131, w_103_134, w_103_135, w_103_136, w_103_137, w_103_139, w_103_140, w_103_142, w_103_145, w_103_146, f_chr ht (show i < 2 ^ 31 by omega), f_isDigit]
    rw [dg_is (Nat.lt_trans (tR_lt ht) (by decide)), c0, if_neg (show ¬ isD 0 by decide), if_pos (show (0 : Int32) = 0 from rfl)]
    rfl
  | succ N ih =>
    intro i v g h1 h2 h3
    have cl : tA T z i < 65536 := Nat.lt_trans (tR_lt ht) (by decide)
    rw [w_103_10]
    simp only [wI_some, wJ_some, wR_ref, wR_con, wO_some, s1_eq, s2_eq, dl_nil, dl_cons, dm_nil, dm_cons, lk_cons, cat_int, cat_long, cat_ref, cat_con, args_nil, args_int, args_long, args_ref, args_con, ct_nil, ct_cons, Nat.reduceBEq, Nat.reduceAdd, Nat.reduceLeDiff, Nat.reduceEqDiff, Bool.not_true, Bool.not_false, Bool.and_true, Bool.and_false, Bool.true_and, Bool.false_and, cond_true, cond_false, Nat.zero_add, Nat.add_zero, reduceCtorEq, Nat.zero_le, ui_at, ua_at, ul_at, wK_v, wK_n, wK_t, true_and, and_true, nb0, nb1, not_false_eq_true, not_true_eq_false, ci_0, ci_1, ci_3, ci_5, ci_7, ci_12, ci_15, ci_16, ci_21, ci_22, w_103_0, w_103_1, w_103_2, w_103_3, w_103_4, w_103_5, w_103_7, w_103_8, w_103_11, w_103_12, w_103_15, w_103_18, w_103_23, w_103_25, w_103_28, w_103_30, w_103_31, w_103_32, w_103_33, w_103_34, w_103_37, w_103_38, w_103_40, w_103_41, w_103_42, w_103_45, w_103_48, w_103_52, w_103_53, w_103_56, w_103_58, w_103_61, w_103_62, w_103_63, w_103_64, w_103_65, w_103_68, w_103_71, w_103_74, w_103_77, w_103_78, w_103_79, w_103_82, w_103_85, w_103_88, w_103_90, w_103_92, w_103_95, w_103_97, w_103_98, w_103_99, w_103_100, w_103_101, w_103_104, w_103_105, w_103_107, w_103_108, w_103_109, w_103_112, w_103_115, w_103_118, w_103_121, w_103_123, w_103_125, w_103_128, w_103_130, w_103_131, w_103_134, w_103_135, w_103_136, w_103_137, w_103_139, w_103_140, w_103_142, w_103_145, w_103_146, f_chr ht (show i < 2 ^ 31 by omega), f_isDigit]
    rw [dg_is cl]
    unfold nl
    by_cases hd : isD (tA T z i)
    · have il : i < z := by
        by_cases e : i < z
        · exact e
        · have := tA_ge (T := T) (show z ≤ i by omega)
          rw [this] at hd
          exact absurd hd (by decide)
      rw [if_pos hd, if_pos hd, if_neg (show ¬ (1 : Int32) = 0 by decide)]
      unfold vst
      by_cases h9 : g < 9
      · rw [if_pos h9]
        simp only [wI_some, wJ_some, wR_ref, wR_con, wO_some, s1_eq, s2_eq, dl_nil, dl_cons, dm_nil, dm_cons, lk_cons, cat_int, cat_long, cat_ref, cat_con, args_nil, args_int, args_long, args_ref, args_con, ct_nil, ct_cons, Nat.reduceBEq, Nat.reduceAdd, Nat.reduceLeDiff, Nat.reduceEqDiff, Bool.not_true, Bool.not_false, Bool.and_true, Bool.and_false, Bool.true_and, Bool.false_and, cond_true, cond_false, Nat.zero_add, Nat.add_zero, reduceCtorEq, Nat.zero_le, ui_at, ua_at, ul_at, wK_v, wK_n, wK_t, true_and, and_true, nb0, nb1, not_false_eq_true, not_true_eq_false, ci_0, ci_1, ci_3, ci_5, ci_7, ci_12, ci_15, ci_16, ci_21, ci_22, w_103_0, w_103_1, w_103_2, w_103_3, w_103_4, w_103_5, w_103_7, w_103_8, w_103_11, w_103_12, w_103_15, w_103_18, w_103_21, w_103_23, w_103_25, w_103_28, w_103_30, w_103_31, w_103_32, w_103_33, w_103_34, w_103_37, w_103_38, w_103_40, w_103_41, w_103_42, w_103_45, w_103_48, w_103_52, w_103_53, w_103_56, w_103_58, w_103_61, w_103_62, w_103_63, w_103_64, w_103_65, w_103_68, w_103_71, w_103_74, w_103_77, w_103_78, w_103_79, w_103_82, w_103_85, w_103_88, w_103_90, w_103_92, w_103_95, w_103_97, w_103_98, w_103_99, w_103_100, w_103_101, w_103_104, w_103_105, w_103_107, w_103_108, w_103_109, w_103_112, w_103_115, w_103_118, w_103_121, w_103_123, w_103_125, w_103_128, w_103_130, w_103_131, w_103_134, w_103_135, w_103_136, w_103_137, w_103_139, w_103_140, w_103_142, w_103_145, w_103_146, f_chr ht (show i < 2 ^ 31 by omega), nI_1]
        rw [if_neg (show ¬ (9 : Int32) ≤ nI g from nI_ge (b := 9) h9 (by decide)), vs_e hd.1]
        exact ih (i + 1) _ (g + 1) (by omega) (by omega) (by omega)
      · rw [if_neg h9]
        simp only [wI_some, wJ_some, wR_ref, wR_con, wO_some, s1_eq, s2_eq, dl_nil, dl_cons, dm_nil, dm_cons, lk_cons, cat_int, cat_long, cat_ref, cat_con, args_nil, args_int, args_long, args_ref, args_con, ct_nil, ct_cons, Nat.reduceBEq, Nat.reduceAdd, Nat.reduceLeDiff, Nat.reduceEqDiff, Bool.not_true, Bool.not_false, Bool.and_true, Bool.and_false, Bool.true_and, Bool.false_and, cond_true, cond_false, Nat.zero_add, Nat.add_zero, reduceCtorEq, Nat.zero_le, ui_at, ua_at, ul_at, wK_v, wK_n, wK_t, true_and, and_true, nb0, nb1, not_false_eq_true, not_true_eq_false, ci_0, ci_1, ci_3, ci_5, ci_7, ci_12, ci_15, ci_16, ci_21, ci_22, w_103_0, w_103_1, w_103_2, w_103_3, w_103_4, w_103_5, w_103_7, w_103_8, w_103_11, w_103_12, w_103_15, w_103_18, w_103_21, w_103_23, w_103_25, w_103_28, w_103_30, w_103_31, w_103_32, w_103_33, w_103_34, w_103_37, w_103_38, w_103_40, w_103_41, w_103_42, w_103_45, w_103_48, w_103_52, w_103_53, w_103_56, w_103_58, w_103_61, w_103_62, w_103_63, w_103_64, w_103_65, w_103_68, w_103_71, w_103_74, w_103_77, w_103_78, w_103_79, w_103_82, w_103_85, w_103_88, w_103_90, w_103_92, w_103_95, w_103_97, w_103_98, w_103_99, w_103_100, w_103_101, w_103_104, w_103_105, w_103_107, w_103_108, w_103_109, w_103_112, w_103_115, w_103_118, w_103_121, w_103_123, w_103_125, w_103_128, w_103_130, w_103_131, w_103_134, w_103_135, w_103_136, w_103_137, w_103_139, w_103_140, w_103_142, w_103_145, w_103_146, f_chr ht (show i < 2 ^ 31 by omega), nI_1]
        rw [if_pos (show (9 : Int32) ≤ nI g from nI_le (a := 9) (by omega) (by omega))]
        exact ih (i + 1) _ (g + 1) (by omega) (by omega) (by omega)
    · rw [if_neg hd, if_neg hd, if_pos (show (0 : Int32) = 0 from rfl)]
theorem l_nl2 (ht : txR xi xa T z) : ∀ N i v g t, z ≤ N + i → i ≤ 400 → g ≤ 1000 + i → t ≤ 1000 + i → (dx_W (tb_Z L xs) (d + 1) 103 77 [(2, .int (nI i)), (5, .int (nI t)), (4, .int (nI g)), (3, .int (nI v)), (0, .ref 22), (1, .int a1)] [] (mk xi xa xl j) Q ↔ dx_W (tb_Z L xs) (d + 1) 103 121 [(2, .int (nI (nl (tA T z) N i v g).1)), (5, .int (nI (t + ((nl (tA T z) N i v g).2.2 - g)))), (4, .int (nI (nl (tA T z) N i v g).2.2)), (3, .int (nI (nl (tA T z) N i v g).2.1)), (0, .ref 22), (1, .int a1)] [] (mk xi xa xl j) Q) := by
  have hz := ht.2.1
  intro N
  induction N with
  | zero =>
    intro i v g t h1 h2 h3 h4
    have c0 : tA T z i = 0 := tA_ge (by omega)
    rw [w_103_77]
    simp only [wI_some, wJ_some, wR_ref, wR_con, wO_some, s1_eq, s2_eq, dl_nil, dl_cons, dm_nil, dm_cons, lk_cons, cat_int, cat_long, cat_ref, cat_con, args_nil, args_int, args_long, args_ref, args_con, ct_nil, ct_cons, Nat.reduceBEq, Nat.reduceAdd, Nat.reduceLeDiff, Nat.reduceEqDiff, Bool.not_true, Bool.not_false, Bool.and_true, Bool.and_false, Bool.true_and, Bool.false_and, cond_true, cond_false, Nat.zero_add, Nat.add_zero, reduceCtorEq, Nat.zero_le, ui_at, ua_at, ul_at, wK_v, wK_n, wK_t, true_and, and_true, nb0, nb1, not_false_eq_true, not_true_eq_false, ci_0, ci_1, ci_3, ci_5, ci_7, ci_12, ci_15, ci_16, ci_21, ci_22, w_103_0, w_103_1, w_103_2, w_103_3, w_103_4, w_103_5, w_103_7, w_103_8, w_103_10, w_103_11, w_103_12, w_103_15, w_103_18, w_103_21, w_103_23, w_103_25, w_103_28, w_103_30, w_103_31, w_103_32, w_103_33, w_103_34, w_103_37, w_103_38, w_103_40, w_103_41, w_103_42, w_103_45, w_103_48, w_103_51, w_103_52, w_103_53, w_103_56, w_103_58, w_103_61, w_103_62, w_103_63, w_103_64, w_103_65, w_103_68, w_103_71, w_103_74, w_103_78, w_103_79, w_103_82, w_103_85, w_103_90, w_103_92, w_103_95, w_103_97, w_103_98, w_103_99, w_103_100, w_103_101, w_103_104, w_103_105, w_103_107, w_103_108, w_103_109, w_103_112, w_103_115, w_103_118, w_103_123, w_103_125, w_103_128, w_103_130, w_103_131, w_103_134, w_103_135, w_103_136, w_103_137, w_103_139, w_103_140, w_103_142, w_103_145, w_103_146, f_chr ht (show i < 2 ^ 31 by omega), f_isDigit]
    rw [dg_is (Nat.lt_trans (tR_lt ht) (by decide)), c0, if_neg (show ¬ isD 0 by decide), if_pos (show (0 : Int32) = 0 from rfl)]
    show _ ↔ dx_W (tb_Z L xs) (d + 1) 103 121 [(2, .int (nI i)), (5, .int (nI (t + (g - g)))), (4, .int (nI g)), (3, .int (nI v)), (0, .ref 22), (1, .int a1)] [] (mk xi xa xl j) Q
    rw [Nat.sub_self]
    rfl
  | succ N ih =>
    intro i v g t h1 h2 h3 h4
    have cl : tA T z i < 65536 := Nat.lt_trans (tR_lt ht) (by decide)
    rw [w_103_77]
    simp only [wI_some, wJ_some, wR_ref, wR_con, wO_some, s1_eq, s2_eq, dl_nil, dl_cons, dm_nil, dm_cons, lk_cons, cat_int, cat_long, cat_ref, cat_con, args_nil, args_int, args_long, args_ref, args_con, ct_nil, ct_cons, Nat.reduceBEq, Nat.reduceAdd, Nat.reduceLeDiff, Nat.reduceEqDiff, Bool.not_true, Bool.not_false, Bool.and_true, Bool.and_false, Bool.true_and, Bool.false_and, cond_true, cond_false, Nat.zero_add, Nat.add_zero, reduceCtorEq, Nat.zero_le, ui_at, ua_at, ul_at, wK_v, wK_n, wK_t, true_and, and_true, nb0, nb1, not_false_eq_true, not_true_eq_false, ci_0, ci_1, ci_3, ci_5, ci_7, ci_12, ci_15, ci_16, ci_21, ci_22, w_103_0, w_103_1, w_103_2, w_103_3, w_103_4, w_103_5, w_103_7, w_103_8, w_103_10, w_103_11, w_103_12, w_103_15, w_103_18, w_103_21, w_103_23, w_103_25, w_103_28, w_103_30, w_103_31, w_103_32, w_103_33, w_103_34, w_103_37, w_103_38, w_103_40, w_103_41, w_103_42, w_103_45, w_103_48, w_103_51, w_103_52, w_103_53, w_103_56, w_103_58, w_103_61, w_103_62, w_103_63, w_103_64, w_103_65, w_103_68, w_103_71, w_103_74, w_103_78, w_103_79, w_103_82, w_103_85, w_103_90, w_103_92, w_103_95, w_103_97, w_103_98, w_103_99, w_103_100, w_103_101, w_103_104, w_103_105, w_103_107, w_103_108, w_103_109, w_103_112, w_103_115, w_103_118, w_103_123, w_103_125, w_103_128, w_103_130, w_103_131, w_103_134, w_103_135, w_103_136, w_103_137, w_103_139, w_103_140, w_103_142, w_103_145, w_103_146, f_chr ht (show i < 2 ^ 31 by omega), f_isDigit]
    rw [dg_is cl]
    unfold nl
    by_cases hd : isD (tA T z i)
    · have il : i < z := by
        by_cases e : i < z
        · exact e
        · have := tA_ge (T := T) (show z ≤ i by omega)
          rw [this] at hd
          exact absurd hd (by decide)
      rw [if_pos hd, if_pos hd, if_neg (show ¬ (1 : Int32) = 0 by decide)]
      have gg := nl_g (C := tA T z) N (i + 1) (vst (tA T z i) v g) (g + 1)
      have e : t + 1 + ((nl (tA T z) N (i + 1) (vst (tA T z i) v g) (g + 1)).2.2 - (g + 1)) = t + ((nl (tA T z) N (i + 1) (vst (tA T z i) v g) (g + 1)).2.2 - g) := by omega
      rw [← e]
      by_cases h9 : g < 9
      · have ev : vst (tA T z i) v g = 10 * v + (tA T z i - 48) := if_pos h9
        rw [ev]
        simp only [wI_some, wJ_some, wR_ref, wR_con, wO_some, s1_eq, s2_eq, dl_nil, dl_cons, dm_nil, dm_cons, lk_cons, cat_int, cat_long, cat_ref, cat_con, args_nil, args_int, args_long, args_ref, args_con, ct_nil, ct_cons, Nat.reduceBEq, Nat.reduceAdd, Nat.reduceLeDiff, Nat.reduceEqDiff, Bool.not_true, Bool.not_false, Bool.and_true, Bool.and_false, Bool.true_and, Bool.false_and, cond_true, cond_false, Nat.zero_add, Nat.add_zero, reduceCtorEq, Nat.zero_le, ui_at, ua_at, ul_at, wK_v, wK_n, wK_t, true_and, and_true, nb0, nb1, not_false_eq_true, not_true_eq_false, ci_0, ci_1, ci_3, ci_5, ci_7, ci_12, ci_15, ci_16, ci_21, ci_22, w_103_0, w_103_1, w_103_2, w_103_3, w_103_4, w_103_5, w_103_7, w_103_8, w_103_10, w_103_11, w_103_12, w_103_15, w_103_18, w_103_21, w_103_23, w_103_25, w_103_28, w_103_30, w_103_31, w_103_32, w_103_33, w_103_34, w_103_37, w_103_38, w_103_40, w_103_41, w_103_42, w_103_45, w_103_48, w_103_51, w_103_52, w_103_53, w_103_56, w_103_58, w_103_61, w_103_62, w_103_63, w_103_64, w_103_65, w_103_68, w_103_71, w_103_74, w_103_78, w_103_79, w_103_82, w_103_85, w_103_88, w_103_90, w_103_92, w_103_95, w_103_97, w_103_98, w_103_99, w_103_100, w_103_101, w_103_104, w_103_105, w_103_107, w_103_108, w_103_109, w_103_112, w_103_115, w_103_118, w_103_123, w_103_125, w_103_128, w_103_130, w_103_131, w_103_134, w_103_135, w_103_136, w_103_137, w_103_139, w_103_140, w_103_142, w_103_145, w_103_146, f_chr ht (show i < 2 ^ 31 by omega), nI_1]
        rw [if_neg (show ¬ (9 : Int32) ≤ nI g from nI_ge (b := 9) h9 (by decide)), vs_e hd.1]
        exact ih (i + 1) _ (g + 1) (t + 1) (by omega) (by omega) (by omega) (by omega)
      · have ev : vst (tA T z i) v g = v := if_neg h9
        rw [ev]
        simp only [wI_some, wJ_some, wR_ref, wR_con, wO_some, s1_eq, s2_eq, dl_nil, dl_cons, dm_nil, dm_cons, lk_cons, cat_int, cat_long, cat_ref, cat_con, args_nil, args_int, args_long, args_ref, args_con, ct_nil, ct_cons, Nat.reduceBEq, Nat.reduceAdd, Nat.reduceLeDiff, Nat.reduceEqDiff, Bool.not_true, Bool.not_false, Bool.and_true, Bool.and_false, Bool.true_and, Bool.false_and, cond_true, cond_false, Nat.zero_add, Nat.add_zero, reduceCtorEq, Nat.zero_le, ui_at, ua_at, ul_at, wK_v, wK_n, wK_t, true_and, and_true, nb0, nb1, not_false_eq_true, not_true_eq_false, ci_0, ci_1, ci_3, ci_5, ci_7, ci_12, ci_15, ci_16, ci_21, ci_22, w_103_0, w_103_1, w_103_2, w_103_3, w_103_4, w_103_5, w_103_7, w_103_8, w_103_10, w_103_11, w_103_12, w_103_15, w_103_18, w_103_21, w_103_23, w_103_25, w_103_28, w_103_30, w_103_31, w_103_32, w_103_33, w_103_34, w_103_37, w_103_38, w_103_40, w_103_41, w_103_42, w_103_45, w_103_48, w_103_51, w_103_52, w_103_53, w_103_56, w_103_58, w_103_61, w_103_62, w_103_63, w_103_64, w_103_65, w_103_68, w_103_71, w_103_74, w_103_78, w_103_79, w_103_82, w_103_85, w_103_88, w_103_90, w_103_92, w_103_95, w_103_97, w_103_98, w_103_99, w_103_100, w_103_101, w_103_104, w_103_105, w_103_107, w_103_108, w_103_109, w_103_112, w_103_115, w_103_118, w_103_123, w_103_125, w_103_128, w_103_130, w_103_131, w_103_134, w_103_135, w_103_136, w_103_137, w_103_139, w_103_140, w_103_142, w_103_145, w_103_146, f_chr ht (show i < 2 ^ 31 by omega), nI_1]
        rw [if_pos (show (9 : Int32) ≤ nI g from nI_le (a := 9) (by omega) (by omega))]
        exact ih (i + 1) _ (g + 1) (t + 1) (by omega) (by omega) (by omega) (by omega)
    · rw [if_neg hd, if_neg hd, if_pos (show (0 : Int32) = 0 from rfl)]
      show _ ↔ dx_W (tb_Z L xs) (d + 1) 103 121 [(2, .int (nI i)), (5, .int (nI (t + (g - g)))), (4, .int (nI g)), (3, .int (nI v)), (0, .ref 22), (1, .int a1)] [] (mk xi xa xl j) Q
      rw [Nat.sub_self]
      rfl
end TC2
