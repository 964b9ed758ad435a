/-! The reference: the characters of a number, forwards. -/
section QG
variable {L : Nat} {xs : Nat → Int32} {d : Nat} {σ : dx_S} {Q : dx_O → dx_S → Prop} {xi : Nat → Int32} {xa : Nat → Nat → Int32} {xl : Nat → Nat → Int64} {j : dx_S} {s t p c k v n D z e r : Nat} {m : Int}
/-- the row in which all but the last r characters before e are written, from z on -/
def wb (f : Nat → Int32) (v s D z e r : Nat) : Nat → Int32 := fun q => if z ≤ q ∧ q + r < e then nI (cr v s D (e - 1 - q)) else f q
theorem wb_s {f : Nat → Int32} (h : z + (r + 1) ≤ e) : upd (wb f v s D z e (r + 1)) (e - (r + 1)) (nI (cr v s D r)) = wb f v s D z e r := by
  funext q
  show (if q = e - (r + 1) then nI (cr v s D r) else if z ≤ q ∧ q + (r + 1) < e then nI (cr v s D (e - 1 - q)) else f q) = if z ≤ q ∧ q + r < e then nI (cr v s D (e - 1 - q)) else f q
  by_cases h1 : q = e - (r + 1)
  · rw [if_pos h1, if_pos (by omega), show e - 1 - q = r by omega]
  · rw [if_neg h1]
    by_cases h2 : z ≤ q ∧ q + (r + 1) < e
    · rw [if_pos h2, if_pos (by omega)]
    · rw [if_neg h2, if_neg (by omega)]
/-- how many characters are left with i digits left -/
def rm (s i : Nat) : Nat := if 0 < s ∧ s ≤ i then i + 2 else i + 1
theorem dg_r (h : v < 2 ^ 31) (hk : k ≤ 8) : 48 + (zL (v : Int) / zL (10 ^ k) - zL (v : Int) / zL (10 ^ k) / zL 10 * zL 10).toInt32 = nI (dig v k) := by
  have b := ten_b hk
  have e : ((10 ^ k : Nat) : Int) = (10 : Int) ^ k := by
    rw [Int.natCast_pow]
    rfl
  have q : ((v : Int).tdiv (10 ^ k)) = ((v / 10 ^ k : Nat) : Int) := by
    rw [Int.tdiv_eq_ediv_of_nonneg (by omega), ← e]
    rfl
  rw [zL_div (by omega) (by omega) (by omega) (by omega), q]
  have h1 : v / 10 ^ k ≤ v := Nat.div_le_self _ _
  unfold dig
  generalize v / 10 ^ k = u at *
  have h2 := Nat.mod_lt u (show 0 < 10 by decide)
  rw [zL_rem (by omega) (by omega) (by omega) (by omega), zL_I, show (48 : Int32) = zI 48 from rfl, zI_add, Int.tmod_eq_emod_of_nonneg (by omega), nI_z']
  congr 1
theorem put44 {f : Nat → Int32} (he : e ≤ 300) (h : z + (r + 1) ≤ e) : dx_M (tb_Z L xs) (d + 1) 134 [.ref 22, .int (nI (cr v s D r)), .int (nI (e - (r + 1)))] (mk xi (ua xa 44 (wb f v s D z e (r + 1))) xl j) Q ↔ Q (.inl none) (mk xi (ua xa 44 (wb f v s D z e r)) xl j) := by
  rw [f_put (show e - (r + 1) < 300 by omega), ua_ua, show (ua xa 44 (wb f v s D z e (r + 1))) 44 = wb f v s D z e (r + 1) from rfl, wb_s h]
theorem l_rw {x : Int32} {a5 a6 a7 : Int32} {f : Nat → Int32} (hv : v < 2 ^ 31) (he : e ≤ 300) (hD : D ≤ 9) (hs : s ≤ 4) (hsD : s < D) (hz : z + rm s D ≤ e) : ∀ i, i ≤ D → (dx_W (tb_Z L xs) (d + 1) 133 128 [(9, .int (zI ((i : Int) - 1))), (8, .int (nI (e - rm s i))), (7, .int a7), (6, .int a6), (5, .int a5), (3, .long (zL v)), (0, .ref 22), (1, .int x), (2, .int (nI s))] [] (mk xi (ua xa 44 (wb f v s D z e (rm s i))) xl j) Q ↔ dx_W (tb_Z L xs) (d + 1) 133 182 [(9, .int (zI (-1))), (8, .int (nI (e - 1))), (7, .int a7), (6, .int a6), (5, .int a5), (3, .long (zL v)), (0, .ref 22), (1, .int x), (2, .int (nI s))] [] (mk xi (ua xa 44 (wb f v s D z e 1)) xl j) Q) := by
  intro i
  induction i with
  | zero =>
    intro hi
    have e0 : rm s 0 = 1 := by
      unfold rm
      rw [if_neg (by omega)]
    rw [e0, w_133_128]
    simp only [wI_some, wJ_some, wR_ref, wR_con, wO_some, s1_eq, s2_eq, dl_nil, dl_cons, dm_nil, dm_cons, lk_cons, cat_int, cat_long, cat_ref, cat_con, args_nil, args_int, args_long, args_ref, args_con, ct_nil, ct_cons, Nat.reduceBEq, Nat.reduceAdd, Nat.reduceLeDiff, Nat.reduceEqDiff, Bool.not_true, Bool.not_false, Bool.and_true, Bool.and_false, Bool.true_and, Bool.false_and, cond_true, cond_false, Nat.zero_add, Nat.add_zero, reduceCtorEq, Nat.zero_le, ui_at, ua_at, ul_at, wK_v, wK_n, wK_t, true_and, and_true, nb0, nb1, not_false_eq_true, not_true_eq_false, ci_0, ci_1, ci_3, ci_5, ci_7, ci_12, ci_15, ci_16, ci_21, ci_22, w_133_0, w_133_1, w_133_4, w_133_5, w_133_6, w_133_7, w_133_10, w_133_11, w_133_12, w_133_13, w_133_14, w_133_16, w_133_17, w_133_19, w_133_22, w_133_23, w_133_24, w_133_25, w_133_28, w_133_31, w_133_34, w_133_36, w_133_37, w_133_40, w_133_42, w_133_43, w_133_44, w_133_47, w_133_48, w_133_50, w_133_51, w_133_54, w_133_55, w_133_58, w_133_59, w_133_61, w_133_62, w_133_63, w_133_66, w_133_67, w_133_68, w_133_69, w_133_72, w_133_73, w_133_74, w_133_75, w_133_76, w_133_78, w_133_79, w_133_82, w_133_84, w_133_85, w_133_88, w_133_91, w_133_92, w_133_94, w_133_97, w_133_98, w_133_99, w_133_100, w_133_103, w_133_105, w_133_106, w_133_109, w_133_110, w_133_112, w_133_114, w_133_117, w_133_120, w_133_122, w_133_123, w_133_124, w_133_125, w_133_126, w_133_130, w_133_133, w_133_135, w_133_136, w_133_137, w_133_138, w_133_141, w_133_142, w_133_144, w_133_146, w_133_149, w_133_152, w_133_153, w_133_155, w_133_156, w_133_158, w_133_161, w_133_162, w_133_165, w_133_166, w_133_167, w_133_168, w_133_170, w_133_173, w_133_176, w_133_179, w_133_183, w_133_185, w_133_187, w_133_190, w_133_191_int, w_133_191_ref, w_133_191_retAddr, w_133_192, w_133_195, w_133_197, w_133_198, w_133_201, w_133_202]
    rw [if_pos (show zI (((0 : Nat) : Int) - 1) < 0 by decide)]
    rfl
  | succ i ih =>
    intro hi
    have ii : ((i + 1 : Nat) : Int) - 1 = (i : Int) := by omega
    rw [ii, w_133_128]
    have rb : rm s (i + 1) ≤ rm s D := by
      unfold rm
      split <;> split <;> omega
    simp only [wI_some, wJ_some, wR_ref, wR_con, wO_some, s1_eq, s2_eq, dl_nil, dl_cons, dm_nil, dm_cons, lk_cons, cat_int, cat_long, cat_ref, cat_con, args_nil, args_int, args_long, args_ref, args_con, ct_nil, ct_cons, Nat.reduceBEq, Nat.reduceAdd, Nat.reduceLeDiff, Nat.reduceEqDiff, Bool.not_true, Bool.not_false, Bool.and_true, Bool.and_false, Bool.true_and, Bool.false_and, cond_true, cond_false, Nat.zero_add, Nat.add_zero, reduceCtorEq, Nat.zero_le, ui_at, ua_at, ul_at, wK_v, wK_n, wK_t, true_and, and_true, nb0, nb1, not_false_eq_true, not_true_eq_false, ci_0, ci_1, ci_3, ci_5, ci_7, ci_12, ci_15, ci_16, ci_21, ci_22, w_133_0, w_133_1, w_133_4, w_133_5, w_133_6, w_133_7, w_133_10, w_133_11, w_133_12, w_133_13, w_133_14, w_133_16, w_133_17, w_133_19, w_133_22, w_133_23, w_133_24, w_133_25, w_133_28, w_133_31, w_133_34, w_133_36, w_133_37, w_133_40, w_133_42, w_133_43, w_133_44, w_133_47, w_133_48, w_133_50, w_133_51, w_133_54, w_133_55, w_133_58, w_133_59, w_133_61, w_133_62, w_133_63, w_133_66, w_133_67, w_133_68, w_133_69, w_133_72, w_133_73, w_133_74, w_133_75, w_133_76, w_133_78, w_133_79, w_133_82, w_133_84, w_133_85, w_133_88, w_133_91, w_133_92, w_133_94, w_133_97, w_133_98, w_133_99, w_133_100, w_133_103, w_133_105, w_133_106, w_133_109, w_133_110, w_133_112, w_133_114, w_133_117, w_133_120, w_133_122, w_133_123, w_133_124, w_133_125, w_133_126, w_133_130, w_133_133, w_133_135, w_133_136, w_133_137, w_133_138, w_133_141, w_133_142, w_133_144, w_133_146, w_133_152, w_133_153, w_133_155, w_133_156, w_133_158, w_133_161, w_133_162, w_133_165, w_133_166, w_133_167, w_133_168, w_133_170, w_133_176, w_133_179, w_133_183, w_133_185, w_133_187, w_133_190, w_133_191_int, w_133_191_ref, w_133_191_retAddr, w_133_192, w_133_195, w_133_197, w_133_198, w_133_201, w_133_202, (show zI (i : Int) = nI i from rfl), f_ten (show i ≤ 8 by omega), L10, dg_r hv (show i ≤ 8 by omega), nI_1]
    have oneA : cr v s D (rm s i) = dig v i → z + (rm s i + 1) ≤ e → (dx_M (tb_Z L xs) (d + 1) 134 [.ref 22, .int (nI (dig v i)), .int (nI (e - (rm s i + 1)))] (mk xi (ua xa 44 (wb f v s D z e (rm s i + 1))) xl j) (wK (tb_Z L xs) (d + 1) 133 173 [(9, .int (nI i)), (8, .int (nI (e - (rm s i + 1)))), (7, .int a7), (6, .int a6), (5, .int a5), (3, .long (zL v)), (0, .ref 22), (1, .int x), (2, .int (nI s))] [] Q) ↔ dx_W (tb_Z L xs) (d + 1) 133 182 [(9, .int (zI (-1))), (8, .int (nI (e - 1))), (7, .int a7), (6, .int a6), (5, .int a5), (3, .long (zL v)), (0, .ref 22), (1, .int x), (2, .int (nI s))] [] (mk xi (ua xa 44 (wb f v s D z e 1)) xl j) Q) := by
      intro h1 h2
      rw [← h1, put44 he h2]
      simp only [wI_some, wJ_some, wR_ref, wR_con, wO_some, s1_eq, s2_eq, dl_nil, dl_cons, dm_nil, dm_cons, lk_cons, cat_int, cat_long, cat_ref, cat_con, args_nil, args_int, args_long, args_ref, args_con, ct_nil, ct_cons, Nat.reduceBEq, Nat.reduceAdd, Nat.reduceLeDiff, Nat.reduceEqDiff, Bool.not_true, Bool.not_false, Bool.and_true, Bool.and_false, Bool.true_and, Bool.false_and, cond_true, cond_false, Nat.zero_add, Nat.add_zero, reduceCtorEq, Nat.zero_le, ui_at, ua_at, ul_at, wK_v, wK_n, wK_t, true_and, and_true, nb0, nb1, not_false_eq_true, not_true_eq_false, ci_0, ci_1, ci_3, ci_5, ci_7, ci_12, ci_15, ci_16, ci_21, ci_22, w_133_0, w_133_1, w_133_4, w_133_5, w_133_6, w_133_7, w_133_10, w_133_11, w_133_12, w_133_13, w_133_14, w_133_16, w_133_17, w_133_19, w_133_22, w_133_23, w_133_24, w_133_25, w_133_28, w_133_31, w_133_34, w_133_36, w_133_37, w_133_40, w_133_42, w_133_43, w_133_44, w_133_47, w_133_48, w_133_50, w_133_51, w_133_54, w_133_55, w_133_58, w_133_59, w_133_61, w_133_62, w_133_63, w_133_66, w_133_67, w_133_68, w_133_69, w_133_72, w_133_73, w_133_74, w_133_75, w_133_76, w_133_78, w_133_79, w_133_82, w_133_84, w_133_85, w_133_88, w_133_91, w_133_92, w_133_94, w_133_97, w_133_98, w_133_99, w_133_100, w_133_103, w_133_105, w_133_106, w_133_109, w_133_110, w_133_112, w_133_114, w_133_117, w_133_120, w_133_122, w_133_123, w_133_124, w_133_125, w_133_126, w_133_130, w_133_133, w_133_135, w_133_136, w_133_137, w_133_138, w_133_141, w_133_142, w_133_144, w_133_146, w_133_149, w_133_152, w_133_153, w_133_155, w_133_156, w_133_158, w_133_161, w_133_162, w_133_165, w_133_166, w_133_167, w_133_168, w_133_170, w_133_173, w_133_176, w_133_179, w_133_183, w_133_185, w_133_187, w_133_190, w_133_191_int, w_133_191_ref, w_133_191_retAddr, w_133_192, w_133_195, w_133_197, w_133_198, w_133_201, w_133_202, nI_1]
      rw [show e - (rm s i + 1) + 1 = e - rm s i by omega, show nI i + -1 = zI ((i : Int) - 1) by rw [nI_z', zI_m1]]
      exact ih (by omega)
    have oneB : cr v s D (rm s i) = dig v i → z + (rm s i + 1) ≤ e → (dx_M (tb_Z L xs) (d + 1) 134 [.ref 22, .int (nI (dig v i)), .int (nI (e - (rm s i + 1)))] (mk xi (ua xa 44 (wb f v s D z e (rm s i + 1))) xl j) (wK (tb_Z L xs) (d + 1) 133 173 [(8, .int (nI (e - (rm s i + 1)))), (9, .int (nI i)), (7, .int a7), (6, .int a6), (5, .int a5), (3, .long (zL v)), (0, .ref 22), (1, .int x), (2, .int (nI s))] [] Q) ↔ dx_W (tb_Z L xs) (d + 1) 133 182 [(9, .int (zI (-1))), (8, .int (nI (e - 1))), (7, .int a7), (6, .int a6), (5, .int a5), (3, .long (zL v)), (0, .ref 22), (1, .int x), (2, .int (nI s))] [] (mk xi (ua xa 44 (wb f v s D z e 1)) xl j) Q) := by
      intro h1 h2
      rw [← h1, put44 he h2]
      simp only [wI_some, wJ_some, wR_ref, wR_con, wO_some, s1_eq, s2_eq, dl_nil, dl_cons, dm_nil, dm_cons, lk_cons, cat_int, cat_long, cat_ref, cat_con, args_nil, args_int, args_long, args_ref, args_con, ct_nil, ct_cons, Nat.reduceBEq, Nat.reduceAdd, Nat.reduceLeDiff, Nat.reduceEqDiff, Bool.not_true, Bool.not_false, Bool.and_true, Bool.and_false, Bool.true_and, Bool.false_and, cond_true, cond_false, Nat.zero_add, Nat.add_zero, reduceCtorEq, Nat.zero_le, ui_at, ua_at, ul_at, wK_v, wK_n, wK_t, true_and, and_true, nb0, nb1, not_false_eq_true, not_true_eq_false, ci_0, ci_1, ci_3, ci_5, ci_7, ci_12, ci_15, ci_16, ci_21, ci_22, w_133_0, w_133_1, w_133_4, w_133_5, w_133_6, w_133_7, w_133_10, w_133_11, w_133_12, w_133_13, w_133_14, w_133_16, w_133_17, w_133_19, w_133_22, w_133_23, w_133_24, w_133_25, w_133_28, w_133_31, w_133_34, w_133_36, w_133_37, w_133_40, w_133_42, w_133_43, w_133_44, w_133_47, w_133_48, w_133_50, w_133_51, w_133_54, w_133_55, w_133_58, w_133_59, w_133_61, w_133_62, w_133_63, w_133_66, w_133_67, w_133_68, w_133_69, w_133_72, w_133_73, w_133_74, w_133_75, w_133_76, w_133_78, w_133_79, w_133_82, w_133_84, w_133_85, w_133_88, w_133_91, w_133_92, w_133_94, w_133_97, w_133_98, w_133_99, w_133_100, w_133_103, w_133_105, w_133_106, w_133_109, w_133_110, w_133_112, w_133_114, w_133_117, w_133_120, w_133_122, w_133_123, w_133_124, w_133_125, w_133_126, w_133_130, w_133_133, w_133_135, w_133_136, w_133_137, w_133_138, w_133_141, w_133_142, w_133_144, w_133_146, w_133_149, w_133_152, w_133_153, w_133_155, w_133_156, w_133_158, w_133_161, w_133_162, w_133_165, w_133_166, w_133_167, w_133_168, w_133_170, w_133_173, w_133_176, w_133_179, w_133_183, w_133_185, w_133_187, w_133_190, w_133_191_int, w_133_191_ref, w_133_191_retAddr, w_133_192, w_133_195, w_133_197, w_133_198, w_133_201, w_133_202, nI_1]
      rw [show e - (rm s i + 1) + 1 = e - rm s i by omega, show nI i + -1 = zI ((i : Int) - 1) by rw [nI_z', zI_m1]]
      exact ih (by omega)
    have z1 : (¬ zL 10 = 0) = True := by decide
    have b8 := ten_b (show i ≤ 8 by omega)
    have z2 : (zL (10 ^ i) = 0) = False := ten_ne (show i ≤ 8 by omega)
    rw [if_neg (nI_pos (by omega))]
    by_cases h1 : i + 1 = s
    · have e1 : rm s (i + 1) = rm s i + 1 + 1 := by
        unfold rm
        rw [if_pos (by omega), if_neg (by omega)]
      have e2 : rm s i = i + 1 := by
        unfold rm
        rw [if_neg (by omega)]
      have c1 : cr v s D (rm s i + 1) = 46 := by
        rw [e2, show i + 1 + 1 = s + 1 by omega]
        exact cr_dot (by omega)
      have c2 : cr v s D (rm s i) = dig v i := by
        rw [e2]
        exact cr_lo (by omega) (by omega)
      have p46 : (46 : Int32) = nI (cr v s D (rm s i + 1)) := by rw [c1]; rfl
      rw [if_neg (show ¬ ¬ nI i = nI s - 1 from fun z => z (by rw [← h1, nI_pred])), e1, p46, put44 he (by omega)]
      simp only [wI_some, wJ_some, wR_ref, wR_con, wO_some, s1_eq, s2_eq, dl_nil, dl_cons, dm_nil, dm_cons, lk_cons, cat_int, cat_long, cat_ref, cat_con, args_nil, args_int, args_long, args_ref, args_con, ct_nil, ct_cons, Nat.reduceBEq, Nat.reduceAdd, Nat.reduceLeDiff, Nat.reduceEqDiff, Bool.not_true, Bool.not_false, Bool.and_true, Bool.and_false, Bool.true_and, Bool.false_and, cond_true, cond_false, Nat.zero_add, Nat.add_zero, reduceCtorEq, Nat.zero_le, ui_at, ua_at, ul_at, wK_v, wK_n, wK_t, true_and, and_true, nb0, nb1, not_false_eq_true, not_true_eq_false, ci_0, ci_1, ci_3, ci_5, ci_7, ci_12, ci_15, ci_16, ci_21, ci_22, w_133_0, w_133_1, w_133_4, w_133_5, w_133_6, w_133_7, w_133_10, w_133_11, w_133_12, w_133_13, w_133_14, w_133_16, w_133_17, w_133_19, w_133_22, w_133_23, w_133_24, w_133_25, w_133_28, w_133_31, w_133_34, w_133_36, w_133_37, w_133_40, w_133_42, w_133_43, w_133_44, w_133_47, w_133_48, w_133_50, w_133_51, w_133_54, w_133_55, w_133_58, w_133_59, w_133_61, w_133_62, w_133_63, w_133_66, w_133_67, w_133_68, w_133_69, w_133_72, w_133_73, w_133_74, w_133_75, w_133_76, w_133_78, w_133_79, w_133_82, w_133_84, w_133_85, w_133_88, w_133_91, w_133_92, w_133_94, w_133_97, w_133_98, w_133_99, w_133_100, w_133_103, w_133_105, w_133_106, w_133_109, w_133_110, w_133_112, w_133_114, w_133_117, w_133_120, w_133_122, w_133_123, w_133_124, w_133_125, w_133_126, w_133_130, w_133_133, w_133_135, w_133_136, w_133_137, w_133_138, w_133_141, w_133_142, w_133_144, w_133_146, w_133_149, w_133_152, w_133_153, w_133_155, w_133_156, w_133_158, w_133_161, w_133_162, w_133_165, w_133_166, w_133_167, w_133_168, w_133_170, w_133_176, w_133_179, w_133_183, w_133_185, w_133_187, w_133_190, w_133_191_int, w_133_191_ref, w_133_191_retAddr, w_133_192, w_133_195, w_133_197, w_133_198, w_133_201, w_133_202, f_ten (show i ≤ 8 by omega), L10, dg_r hv (show i ≤ 8 by omega), nI_1, z2, (show (¬ zL 10 = 0) = True from by decide)]
      rw [show e - (rm s i + 1 + 1) + 1 = e - (rm s i + 1) by omega]
      exact oneB c2 (by omega)
    · have e1 : rm s (i + 1) = rm s i + 1 := by
        unfold rm
        split <;> split <;> omega
      have c2 : cr v s D (rm s i) = dig v i := by
        unfold rm
        split
        · exact cr_hi (by omega) (by omega)
        · exact cr_lo (by omega) (by omega)
      have n1 : ¬ nI i = nI s - 1 := by
        intro z
        by_cases h0 : s = 0
        · subst h0
          exact nI_pos (n := i) (by omega) (by rw [z]; decide)
        · obtain ⟨u, rfl⟩ : ∃ u, s = u + 1 := ⟨s - 1, by omega⟩
          rw [nI_pred] at z
          have := (nI_eq (a := i) (b := u) (by omega) (by omega)).mp z
          omega
      rw [if_pos n1, e1]
      simp only [z1, z2, not_false_eq_true, true_and]
      exact oneA c2 (by omega)
end QG
