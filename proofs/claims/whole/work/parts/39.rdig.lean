/-! The reference: how many digits. -/
section QF
variable {L : Nat} {xs : Nat → Int32} {d : Nat} {σ : dx_S} {Q : dx_O → dx_S → Prop} {xi : Nat → Int32} {xa : Nat → Nat → Int32} {xl : Nat → Nat → Int64} {j : dx_S} {s t p c k v n D z : Nat} {m : Int}
theorem ten_9 {k : Nat} (h : k ≤ 9) : 1 ≤ (10 : Int) ^ k ∧ (10 : Int) ^ k ≤ 1000000000 := by
  by_cases h9 : k = 9
  · subst h9
    decide
  · have := ten_b (show k ≤ 8 by omega)
    omega
theorem l_ten9 {k : Nat} (hk : k ≤ 9) : ∀ n i, n + i = k → (dx_W (tb_Z L xs) d 124 4 [(3, .int (nI i)), (1, .long (zL (10 ^ i))), (0, .int (nI k))] [] σ Q ↔ Q (.inl (some (.long (zL (10 ^ k))))) σ) := by
  intro n
  induction n with
  | zero =>
    intro i hi
    have e : i = k := by omega
    subst e
    rw [w_124_4]
    simp only [wI_some, wJ_some, wR_ref, wR_con, wO_some, s1_eq, s2_eq, dl_nil, dl_cons, dm_nil, dm_cons, lk_cons, cat_int, cat_long, cat_ref, cat_con, args_nil, args_int, args_long, args_ref, args_con, ct_nil, ct_cons, Nat.reduceBEq, Nat.reduceAdd, Nat.reduceLeDiff, Nat.reduceEqDiff, Bool.not_true, Bool.not_false, Bool.and_true, Bool.and_false, Bool.true_and, Bool.false_and, cond_true, cond_false, Nat.zero_add, Nat.add_zero, reduceCtorEq, Nat.zero_le, ui_at, ua_at, ul_at, wK_v, wK_n, wK_t, true_and, and_true, nb0, nb1, not_false_eq_true, not_true_eq_false, ci_0, ci_1, ci_3, ci_5, ci_7, ci_12, ci_15, ci_16, ci_21, ci_22, w_124_0, w_124_1, w_124_2, w_124_3, w_124_5, w_124_6, w_124_9, w_124_10, w_124_13, w_124_14, w_124_15, w_124_18, w_124_21, w_124_22]
    rw [if_pos (nI_le (Nat.le_refl _) (by omega))]
  | succ n ih =>
    intro i hi
    rw [w_124_4]
    simp only [wI_some, wJ_some, wR_ref, wR_con, wO_some, s1_eq, s2_eq, dl_nil, dl_cons, dm_nil, dm_cons, lk_cons, cat_int, cat_long, cat_ref, cat_con, args_nil, args_int, args_long, args_ref, args_con, ct_nil, ct_cons, Nat.reduceBEq, Nat.reduceAdd, Nat.reduceLeDiff, Nat.reduceEqDiff, Bool.not_true, Bool.not_false, Bool.and_true, Bool.and_false, Bool.true_and, Bool.false_and, cond_true, cond_false, Nat.zero_add, Nat.add_zero, reduceCtorEq, Nat.zero_le, ui_at, ua_at, ul_at, wK_v, wK_n, wK_t, true_and, and_true, nb0, nb1, not_false_eq_true, not_true_eq_false, ci_0, ci_1, ci_3, ci_5, ci_7, ci_12, ci_15, ci_16, ci_21, ci_22, w_124_0, w_124_1, w_124_2, w_124_3, w_124_5, w_124_6, w_124_9, w_124_10, w_124_13, w_124_14, w_124_15, w_124_18, w_124_21, w_124_22, L10, zL_mul, nI_1]
    rw [if_neg (nI_ge (by omega) (by omega)), ← Int.pow_succ]
    exact ih (i + 1) (by omega)
theorem f_ten9 {k : Nat} (hk : k ≤ 9) : dx_M (tb_Z L xs) (d + 1) 124 [.int (nI k)] σ Q ↔ Q (.inl (some (.long (zL (10 ^ k))))) σ := by
  rw [dx_M_in (Nat.le_of_ble_eq_true rfl)]
  simp only [wI_some, wJ_some, wR_ref, wR_con, wO_some, s1_eq, s2_eq, dl_nil, dl_cons, dm_nil, dm_cons, lk_cons, cat_int, cat_long, cat_ref, cat_con, args_nil, args_int, args_long, args_ref, args_con, ct_nil, ct_cons, Nat.reduceBEq, Nat.reduceAdd, Nat.reduceLeDiff, Nat.reduceEqDiff, Bool.not_true, Bool.not_false, Bool.and_true, Bool.and_false, Bool.true_and, Bool.false_and, cond_true, cond_false, Nat.zero_add, Nat.add_zero, reduceCtorEq, Nat.zero_le, ui_at, ua_at, ul_at, wK_v, wK_n, wK_t, true_and, and_true, nb0, nb1, not_false_eq_true, not_true_eq_false, ci_0, ci_1, ci_3, ci_5, ci_7, ci_12, ci_15, ci_16, ci_21, ci_22, w_124_0, w_124_1, w_124_2, w_124_3, w_124_5, w_124_6, w_124_9, w_124_10, w_124_13, w_124_14, w_124_15, w_124_18, w_124_21, w_124_22]
  exact l_ten9 hk k 0 rfl
theorem l_rdig {x y : Value} (hv : v < 1000000000) : ∀ n c, n + c = 9 → (dx_W (tb_Z L xs) (d + 1) 133 16 [(5, .int (nI c)), (3, .long (zL v)), (0, .ref 22), (1, x), (2, y)] [] σ Q ↔ dx_W (tb_Z L xs) (d + 1) 133 34 [(5, .int (nI (dgo v n c))), (3, .long (zL v)), (0, .ref 22), (1, x), (2, y)] [] σ Q) := by
  intro n
  have key : ∀ c, c ≤ 9 → (dx_W (tb_Z L xs) (d + 1) 133 16 [(5, .int (nI c)), (3, .long (zL v)), (0, .ref 22), (1, x), (2, y)] [] σ Q ↔ (if 10 ^ c ≤ v then dx_W (tb_Z L xs) (d + 1) 133 16 [(5, .int (nI (c + 1))), (3, .long (zL v)), (0, .ref 22), (1, x), (2, y)] [] σ Q else dx_W (tb_Z L xs) (d + 1) 133 34 [(5, .int (nI c)), (3, .long (zL v)), (0, .ref 22), (1, x), (2, y)] [] σ Q)) := by
    intro c hc
    have b := ten_9 hc
    have b2 := tq_b (x := (v : Int)) (y := 10 ^ c) (B := 1000000000) (by omega) (by omega)
    have e : ((10 ^ c : Nat) : Int) = (10 : Int) ^ c := by
      rw [Int.natCast_pow]
      rfl
    rw [w_133_16]
    simp only [wI_some, wJ_some, wR_ref, wR_con, wO_some, s1_eq, s2_eq, dl_nil, dl_cons, dm_nil, dm_cons, lk_cons, cat_int, cat_long, cat_ref, cat_con, args_nil, args_int, args_long, args_ref, args_con, ct_nil, ct_cons, Nat.reduceBEq, Nat.reduceAdd, Nat.reduceLeDiff, Nat.reduceEqDiff, Bool.not_true, Bool.not_false, Bool.and_true, Bool.and_false, Bool.true_and, Bool.false_and, cond_true, cond_false, Nat.zero_add, Nat.add_zero, reduceCtorEq, Nat.zero_le, ui_at, ua_at, ul_at, wK_v, wK_n, wK_t, true_and, and_true, nb0, nb1, not_false_eq_true, not_true_eq_false, ci_0, ci_1, ci_3, ci_5, ci_7, ci_12, ci_15, ci_16, ci_21, ci_22, w_133_0, w_133_1, w_133_4, w_133_5, w_133_6, w_133_7, w_133_10, w_133_11, w_133_12, w_133_13, w_133_14, w_133_17, w_133_19, w_133_22, w_133_23, w_133_24, w_133_25, w_133_28, w_133_31, w_133_36, w_133_37, w_133_40, w_133_42, w_133_43, w_133_44, w_133_47, w_133_48, w_133_50, w_133_51, w_133_54, w_133_55, w_133_58, w_133_59, w_133_61, w_133_62, w_133_63, w_133_66, w_133_67, w_133_68, w_133_69, w_133_72, w_133_73, w_133_74, w_133_75, w_133_76, w_133_78, w_133_79, w_133_82, w_133_84, w_133_85, w_133_88, w_133_91, w_133_92, w_133_94, w_133_97, w_133_98, w_133_99, w_133_100, w_133_103, w_133_105, w_133_106, w_133_109, w_133_110, w_133_112, w_133_114, w_133_117, w_133_120, w_133_122, w_133_123, w_133_124, w_133_125, w_133_126, w_133_128, w_133_130, w_133_133, w_133_135, w_133_136, w_133_137, w_133_138, w_133_141, w_133_142, w_133_144, w_133_146, w_133_149, w_133_152, w_133_153, w_133_155, w_133_156, w_133_158, w_133_161, w_133_162, w_133_165, w_133_166, w_133_167, w_133_168, w_133_170, w_133_173, w_133_176, w_133_179, w_133_182, w_133_183, w_133_185, w_133_187, w_133_190, w_133_191_int, w_133_191_ref, w_133_191_retAddr, w_133_192, w_133_195, w_133_197, w_133_198, w_133_201, w_133_202, f_ten9 hc, (show (zL (10 ^ c) = zL 0) = False from zl_ne (show ¬ (10 : Int) ^ c = 0 by omega) (by omega) (by omega)), zL_div (show -2 ^ 63 ≤ (v : Int) by omega) (show (v : Int) < 2 ^ 63 by omega) (show -2 ^ 63 ≤ (10 : Int) ^ c by omega) (show (10 : Int) ^ c < 2 ^ 63 by omega), lg_cmp_le, (show (0 : Int64) = zL 0 from rfl), nI_1]
    simp only [zL_le (a := (v : Int).tdiv (10 ^ c)) (b := 0) (by omega) (by omega) (by omega) (by omega)]
    have q : ((v : Int).tdiv (10 ^ c)) = ((v / 10 ^ c : Nat) : Int) := by
      rw [Int.tdiv_eq_ediv_of_nonneg (by omega), ← e]
      rfl
    rw [q]
    have hp : 0 < 10 ^ c := Nat.pow_pos (by decide)
    by_cases h : 10 ^ c ≤ v
    · have := Nat.div_pos h hp
      rw [if_neg (by omega), if_pos h]
    · rw [if_pos (by rw [Nat.div_eq_of_lt (by omega)]; decide), if_neg h]
  induction n with
  | zero =>
    intro c hc
    have e : c = 9 := by omega
    subst e
    rw [key 9 (by omega), if_neg (by omega)]
    rfl
  | succ n ih =>
    intro c hc
    rw [key c (by omega)]
    unfold dgo
    by_cases h : 10 ^ c ≤ v
    · rw [if_pos h, if_pos h]
      exact ih (c + 1) (by omega)
    · rw [if_neg h, if_neg h]
end QF
