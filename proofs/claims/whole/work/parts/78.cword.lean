/-! The scanner of the project: words. -/
/-- whether n characters of a word, from i on, stand at p -/
def spl (s : Nat → Int32) (C : Nat → Nat) (p : Nat) : Nat → Nat → Bool
  | 0, _ => true
  | n + 1, i => if s i = nI (C (p + i)) then spl s C p n (i + 1) else false
/-- the reserved word of w characters at p -/
def rsv (C : Nat → Nat) (p w : Nat) : Option Int32 := if w = 2 ∧ spl tb_str0 C p 2 0 = true then some 258 else if w = 5 ∧ spl tb_str1 C p 5 0 = true then some 259 else if w = 6 ∧ spl tb_str2 C p 6 0 = true then some 260 else if w = 6 ∧ spl tb_str3 C p 6 0 = true then some 261 else if w = 5 ∧ spl tb_str4 C p 5 0 = true then some 262 else none
section SW
variable {L : Nat} {xs : Nat → Int32} {d : Nat} {σ : dx_S} {Q : dx_O → dx_S → Prop} {xi : Nat → Int32} {xa : Nat → Nat → Int32} {xl : Nat → Nat → Int64} {j : dx_S} {T : Nat → Nat} {s t p c k v n i w m z : Nat}
theorem l_spl0 (ht : tx xi xa T z) (hp : p ≤ 1000) : ∀ n i, n + i = 2 → (dx_W (tb_Z L xs) (d + 4) 42 13 [(4, .int (nI i)), (0, .ref 12), (1, .retAddr 2), (2, .int (nI p)), (3, .int (nI 2))] [] (mk xi xa xl j) Q ↔ Q (.inl (some (.int (if spl tb_str0 (tA T z) p n i = true then 1 else 0)))) (mk xi xa xl j)) := by
  intro n
  induction n with
  | zero =>
    intro i hi
    have e : i = 2 := by omega
    subst e
    rw [w_42_13]
    simp only [wI_some, wJ_some, wR_ref, wR_con, wO_some, s1_eq, s2_eq, dl_nil, dl_cons, dm_nil, dm_cons, lk_cons, cat_int, cat_long, cat_ref, cat_con, args_nil, args_int, args_long, args_ref, args_con, ct_nil, ct_cons, Nat.reduceBEq, Nat.reduceAdd, Nat.reduceLeDiff, Nat.reduceEqDiff, Bool.not_true, Bool.not_false, Bool.and_true, Bool.and_false, Bool.true_and, Bool.false_and, cond_true, cond_false, Nat.zero_add, Nat.add_zero, reduceCtorEq, Nat.zero_le, ui_at, ua_at, ul_at, wK_v, wK_n, wK_t, true_and, and_true, nb0, nb1, not_false_eq_true, not_true_eq_false, ci_0, ci_1, ci_3, ci_5, ci_7, ci_12, ci_15, ci_16, ci_21, ci_22, w_42_0, w_42_1, w_42_4, w_42_5, w_42_8, w_42_9, w_42_10, w_42_11, w_42_15, w_42_16, w_42_19, w_42_20, w_42_22, w_42_25, w_42_26, w_42_29, w_42_30, w_42_32, w_42_33, w_42_36, w_42_39, w_42_40, w_42_41, w_42_44, w_42_47, w_42_48]
    rw [if_pos (nI_le (Nat.le_refl _) (by decide))]
    rfl
  | succ n ih =>
    intro i hi
    rw [w_42_13]
    simp only [wI_some, wJ_some, wR_ref, wR_con, wO_some, s1_eq, s2_eq, dl_nil, dl_cons, dm_nil, dm_cons, lk_cons, cat_int, cat_long, cat_ref, cat_con, args_nil, args_int, args_long, args_ref, args_con, ct_nil, ct_cons, Nat.reduceBEq, Nat.reduceAdd, Nat.reduceLeDiff, Nat.reduceEqDiff, Bool.not_true, Bool.not_false, Bool.and_true, Bool.and_false, Bool.true_and, Bool.false_and, cond_true, cond_false, Nat.zero_add, Nat.add_zero, reduceCtorEq, Nat.zero_le, ui_at, ua_at, ul_at, wK_v, wK_n, wK_t, true_and, and_true, nb0, nb1, not_false_eq_true, not_true_eq_false, ci_0, ci_1, ci_3, ci_5, ci_7, ci_12, ci_15, ci_16, ci_21, ci_22, w_42_0, w_42_1, w_42_4, w_42_5, w_42_8, w_42_9, w_42_10, w_42_11, w_42_15, w_42_16, w_42_19, w_42_20, w_42_22, w_42_25, w_42_26, w_42_29, w_42_30, w_42_32, w_42_33, w_42_36, w_42_39, w_42_40, w_42_41, w_42_44, w_42_47, w_42_48, gf_12_0, nI_add, nI_1, e_at ht (show p + i < 2 ^ 31 by omega), k_chr0 (show i < 2 by omega), ki_0]
    rw [if_neg (nI_ge (by omega) (by decide))]
    show _ ↔ Q (.inl (some (.int (if (if tb_str0 i = nI (tA T z (p + i)) then spl tb_str0 (tA T z) p n (i + 1) else false) = true then 1 else 0)))) (mk xi xa xl j)
    by_cases h : tb_str0 i = nI (tA T z (p + i))
    · rw [if_pos h, if_pos h]
      exact ih (i + 1) (by omega)
    · rw [if_neg h, if_neg h]
      exact Iff.rfl
theorem e_spl0 (ht : tx xi xa T z) (hp : p ≤ 1000) (hw : w ≤ 200) : dx_M (tb_Z L xs) (d + 5) 42 [.ref 12, .retAddr 2, .int (nI p), .int (nI w)] (mk xi xa xl j) Q ↔ Q (.inl (some (.int (if w = 2 ∧ spl tb_str0 (tA T z) p 2 0 = true then 1 else 0)))) (mk xi xa xl j) := by
  rw [dx_M_in (Nat.le_of_ble_eq_true rfl)]
  simp only [wI_some, wJ_some, wR_ref, wR_con, wO_some, s1_eq, s2_eq, dl_nil, dl_cons, dm_nil, dm_cons, lk_cons, cat_int, cat_long, cat_ref, cat_con, args_nil, args_int, args_long, args_ref, args_con, ct_nil, ct_cons, Nat.reduceBEq, Nat.reduceAdd, Nat.reduceLeDiff, Nat.reduceEqDiff, Bool.not_true, Bool.not_false, Bool.and_true, Bool.and_false, Bool.true_and, Bool.false_and, cond_true, cond_false, Nat.zero_add, Nat.add_zero, reduceCtorEq, Nat.zero_le, ui_at, ua_at, ul_at, wK_v, wK_n, wK_t, true_and, and_true, nb0, nb1, not_false_eq_true, not_true_eq_false, ci_0, ci_1, ci_3, ci_5, ci_7, ci_12, ci_15, ci_16, ci_21, ci_22, w_42_0, w_42_1, w_42_4, w_42_5, w_42_8, w_42_9, w_42_10, w_42_11, w_42_15, w_42_16, w_42_19, w_42_20, w_42_22, w_42_25, w_42_26, w_42_29, w_42_30, w_42_32, w_42_33, w_42_36, w_42_39, w_42_40, w_42_41, w_42_44, w_42_47, w_42_48, k_len0, ki_0]
  by_cases h : w = 2
  · subst h
    rw [if_pos (show (2 : Int32) = nI 2 from rfl)]
    refine (l_spl0 ht hp 2 0 rfl).trans ?_
    simp only [true_and]
  · rw [if_neg (show ¬ (2 : Int32) = nI w from fun y => h ((nI_eq (a := 2) (by decide) (by omega)).mp y).symm), if_neg (fun y => h y.1)]
theorem l_spl1 (ht : tx xi xa T z) (hp : p ≤ 1000) : ∀ n i, n + i = 5 → (dx_W (tb_Z L xs) (d + 4) 42 13 [(4, .int (nI i)), (0, .ref 12), (1, .retAddr 3), (2, .int (nI p)), (3, .int (nI 5))] [] (mk xi xa xl j) Q ↔ Q (.inl (some (.int (if spl tb_str1 (tA T z) p n i = true then 1 else 0)))) (mk xi xa xl j)) := by
  intro n
  induction n with
  | zero =>
    intro i hi
    have e : i = 5 := by omega
    subst e
    rw [w_42_13]
    simp only [wI_some, wJ_some, wR_ref, wR_con, wO_some, s1_eq, s2_eq, dl_nil, dl_cons, dm_nil, dm_cons, lk_cons, cat_int, cat_long, cat_ref, cat_con, args_nil, args_int, args_long, args_ref, args_con, ct_nil, ct_cons, Nat.reduceBEq, Nat.reduceAdd, Nat.reduceLeDiff, Nat.reduceEqDiff, Bool.not_true, Bool.not_false, Bool.and_true, Bool.and_false, Bool.true_and, Bool.false_and, cond_true, cond_false, Nat.zero_add, Nat.add_zero, reduceCtorEq, Nat.zero_le, ui_at, ua_at, ul_at, wK_v, wK_n, wK_t, true_and, and_true, nb0, nb1, not_false_eq_true, not_true_eq_false, ci_0, ci_1, ci_3, ci_5, ci_7, ci_12, ci_15, ci_16, ci_21, ci_22, w_42_0, w_42_1, w_42_4, w_42_5, w_42_8, w_42_9, w_42_10, w_42_11, w_42_15, w_42_16, w_42_19, w_42_20, w_42_22, w_42_25, w_42_26, w_42_29, w_42_30, w_42_32, w_42_33, w_42_36, w_42_39, w_42_40, w_42_41, w_42_44, w_42_47, w_42_48]
    rw [if_pos (nI_le (Nat.le_refl _) (by decide))]
    rfl
  | succ n ih =>
    intro i hi
    rw [w_42_13]
    simp only [wI_some, wJ_some, wR_ref, wR_con, wO_some, s1_eq, s2_eq, dl_nil, dl_cons, dm_nil, dm_cons, lk_cons, cat_int, cat_long, cat_ref, cat_con, args_nil, args_int, args_long, args_ref, args_con, ct_nil, ct_cons, Nat.reduceBEq, Nat.reduceAdd, Nat.reduceLeDiff, Nat.reduceEqDiff, Bool.not_true, Bool.not_false, Bool.and_true, Bool.and_false, Bool.true_and, Bool.false_and, cond_true, cond_false, Nat.zero_add, Nat.add_zero, reduceCtorEq, Nat.zero_le, ui_at, ua_at, ul_at, wK_v, wK_n, wK_t, true_and, and_true, nb0, nb1, not_false_eq_true, not_true_eq_false, ci_0, ci_1, ci_3, ci_5, ci_7, ci_12, ci_15, ci_16, ci_21, ci_22, w_42_0, w_42_1, w_42_4, w_42_5, w_42_8, w_42_9, w_42_10, w_42_11, w_42_15, w_42_16, w_42_19, w_42_20, w_42_22, w_42_25, w_42_26, w_42_29, w_42_30, w_42_32, w_42_33, w_42_36, w_42_39, w_42_40, w_42_41, w_42_44, w_42_47, w_42_48, gf_12_0, nI_add, nI_1, e_at ht (show p + i < 2 ^ 31 by omega), k_chr1 (show i < 5 by omega), ki_1]
    rw [if_neg (nI_ge (by omega) (by decide))]
    show _ ↔ Q (.inl (some (.int (if (if tb_str1 i = nI (tA T z (p + i)) then spl tb_str1 (tA T z) p n (i + 1) else false) = true then 1 else 0)))) (mk xi xa xl j)
    by_cases h : tb_str1 i = nI (tA T z (p + i))
    · rw [if_pos h, if_pos h]
      exact ih (i + 1) (by omega)
    · rw [if_neg h, if_neg h]
      exact Iff.rfl
theorem e_spl1 (ht : tx xi xa T z) (hp : p ≤ 1000) (hw : w ≤ 200) : dx_M (tb_Z L xs) (d + 5) 42 [.ref 12, .retAddr 3, .int (nI p), .int (nI w)] (mk xi xa xl j) Q ↔ Q (.inl (some (.int (if w = 5 ∧ spl tb_str1 (tA T z) p 5 0 = true then 1 else 0)))) (mk xi xa xl j) := by
  rw [dx_M_in (Nat.le_of_ble_eq_true rfl)]
  simp only [wI_some, wJ_some, wR_ref, wR_con, wO_some, s1_eq, s2_eq, dl_nil, dl_cons, dm_nil, dm_cons, lk_cons, cat_int, cat_long, cat_ref, cat_con, args_nil, args_int, args_long, args_ref, args_con, ct_nil, ct_cons, Nat.reduceBEq, Nat.reduceAdd, Nat.reduceLeDiff, Nat.reduceEqDiff, Bool.not_true, Bool.not_false, Bool.and_true, Bool.and_false, Bool.true_and, Bool.false_and, cond_true, cond_false, Nat.zero_add, Nat.add_zero, reduceCtorEq, Nat.zero_le, ui_at, ua_at, ul_at, wK_v, wK_n, wK_t, true_and, and_true, nb0, nb1, not_false_eq_true, not_true_eq_false, ci_0, ci_1, ci_3, ci_5, ci_7, ci_12, ci_15, ci_16, ci_21, ci_22, w_42_0, w_42_1, w_42_4, w_42_5, w_42_8, w_42_9, w_42_10, w_42_11, w_42_15, w_42_16, w_42_19, w_42_20, w_42_22, w_42_25, w_42_26, w_42_29, w_42_30, w_42_32, w_42_33, w_42_36, w_42_39, w_42_40, w_42_41, w_42_44, w_42_47, w_42_48, k_len1, ki_1]
  by_cases h : w = 5
  · subst h
    rw [if_pos (show (5 : Int32) = nI 5 from rfl)]
    refine (l_spl1 ht hp 5 0 rfl).trans ?_
    simp only [true_and]
  · rw [if_neg (show ¬ (5 : Int32) = nI w from fun y => h ((nI_eq (a := 5) (by decide) (by omega)).mp y).symm), if_neg (fun y => h y.1)]
theorem l_spl2 (ht : tx xi xa T z) (hp : p ≤ 1000) : ∀ n i, n + i = 6 → (dx_W (tb_Z L xs) (d + 4) 42 13 [(4, .int (nI i)), (0, .ref 12), (1, .retAddr 4), (2, .int (nI p)), (3, .int (nI 6))] [] (mk xi xa xl j) Q ↔ Q (.inl (some (.int (if spl tb_str2 (tA T z) p n i = true then 1 else 0)))) (mk xi xa xl j)) := by
  intro n
  induction n with
  | zero =>
    intro i hi
    have e : i = 6 := by omega
    subst e
    rw [w_42_13]
    simp only [wI_some, wJ_some, wR_ref, wR_con, wO_some, s1_eq, s2_eq, dl_nil, dl_cons, dm_nil, dm_cons, lk_cons, cat_int, cat_long, cat_ref, cat_con, args_nil, args_int, args_long, args_ref, args_con, ct_nil, ct_cons, Nat.reduceBEq, Nat.reduceAdd, Nat.reduceLeDiff, Nat.reduceEqDiff, Bool.not_true, Bool.not_false, Bool.and_true, Bool.and_false, Bool.true_and, Bool.false_and, cond_true, cond_false, Nat.zero_add, Nat.add_zero, reduceCtorEq, Nat.zero_le, ui_at, ua_at, ul_at, wK_v, wK_n, wK_t, true_and, and_true, nb0, nb1, not_false_eq_true, not_true_eq_false, ci_0, ci_1, ci_3, ci_5, ci_7, ci_12, ci_15, ci_16, ci_21, ci_22, w_42_0, w_42_1, w_42_4, w_42_5, w_42_8, w_42_9, w_42_10, w_42_11, w_42_15, w_42_16, w_42_19, w_42_20, w_42_22, w_42_25, w_42_26, w_42_29, w_42_30, w_42_32, w_42_33, w_42_36, w_42_39, w_42_40, w_42_41, w_42_44, w_42_47, w_42_48]
    rw [if_pos (nI_le (Nat.le_refl _) (by decide))]
    rfl
  | succ n ih =>
    intro i hi
    rw [w_42_13]
    simp only [wI_some, wJ_some, wR_ref, wR_con, wO_some, s1_eq, s2_eq, dl_nil, dl_cons, dm_nil, dm_cons, lk_cons, cat_int, cat_long, cat_ref, cat_con, args_nil, args_int, args_long, args_ref, args_con, ct_nil, ct_cons, Nat.reduceBEq, Nat.reduceAdd, Nat.reduceLeDiff, Nat.reduceEqDiff, Bool.not_true, Bool.not_false, Bool.and_true, Bool.and_false, Bool.true_and, Bool.false_and, cond_true, cond_false, Nat.zero_add, Nat.add_zero, reduceCtorEq, Nat.zero_le, ui_at, ua_at, ul_at, wK_v, wK_n, wK_t, true_and, and_true, nb0, nb1, not_false_eq_true, not_true_eq_false, ci_0, ci_1, ci_3, ci_5, ci_7, ci_12, ci_15, ci_16, ci_21, ci_22, w_42_0, w_42_1, w_42_4, w_42_5, w_42_8, w_42_9, w_42_10, w_42_11, w_42_15, w_42_16, w_42_19, w_42_20, w_42_22, w_42_25, w_42_26, w_42_29, w_42_30, w_42_32, w_42_33, w_42_36, w_42_39, w_42_40, w_42_41, w_42_44, w_42_47, w_42_48, gf_12_0, nI_add, nI_1, e_at ht (show p + i < 2 ^ 31 by omega), k_chr2 (show i < 6 by omega), ki_2]
    rw [if_neg (nI_ge (by omega) (by decide))]
    show _ ↔ Q (.inl (some (.int (if (if tb_str2 i = nI (tA T z (p + i)) then spl tb_str2 (tA T z) p n (i + 1) else false) = true then 1 else 0)))) (mk xi xa xl j)
    by_cases h : tb_str2 i = nI (tA T z (p + i))
    · rw [if_pos h, if_pos h]
      exact ih (i + 1) (by omega)
    · rw [if_neg h, if_neg h]
      exact Iff.rfl
theorem e_spl2 (ht : tx xi xa T z) (hp : p ≤ 1000) (hw : w ≤ 200) : dx_M (tb_Z L xs) (d + 5) 42 [.ref 12, .retAddr 4, .int (nI p), .int (nI w)] (mk xi xa xl j) Q ↔ Q (.inl (some (.int (if w = 6 ∧ spl tb_str2 (tA T z) p 6 0 = true then 1 else 0)))) (mk xi xa xl j) := by
  rw [dx_M_in (Nat.le_of_ble_eq_true rfl)]
  simp only [wI_some, wJ_some, wR_ref, wR_con, wO_some, s1_eq, s2_eq, dl_nil, dl_cons, dm_nil, dm_cons, lk_cons, cat_int, cat_long, cat_ref, cat_con, args_nil, args_int, args_long, args_ref, args_con, ct_nil, ct_cons, Nat.reduceBEq, Nat.reduceAdd, Nat.reduceLeDiff, Nat.reduceEqDiff, Bool.not_true, Bool.not_false, Bool.and_true, Bool.and_false, Bool.true_and, Bool.false_and, cond_true, cond_false, Nat.zero_add, Nat.add_zero, reduceCtorEq, Nat.zero_le, ui_at, ua_at, ul_at, wK_v, wK_n, wK_t, true_and, and_true, nb0, nb1, not_false_eq_true, not_true_eq_false, ci_0, ci_1, ci_3, ci_5, ci_7, ci_12, ci_15, ci_16, ci_21, ci_22, w_42_0, w_42_1, w_42_4, w_42_5, w_42_8, w_42_9, w_42_10, w_42_11, w_42_15, w_42_16, w_42_19, w_42_20, w_42_22, w_42_25, w_42_26, w_42_29, w_42_30, w_42_32, w_42_33, w_42_36, w_42_39, w_42_40, w_42_41, w_42_44, w_42_47, w_42_48, k_len2, ki_2]
  by_cases h : w = 6
  · subst h
    rw [if_pos (show (6 : Int32) = nI 6 from rfl)]
    refine (l_spl2 ht hp 6 0 rfl).trans ?_
    simp only [true_and]
  · rw [if_neg (show ¬ (6 : Int32) = nI w from fun y => h ((nI_eq (a := 6) (by decide) (by omega)).mp y).symm), if_neg (fun y => h y.1)]
theorem l_spl3 (ht : tx xi xa T z) (hp : p ≤ 1000) : ∀ n i, n + i = 6 → (dx_W (tb_Z L xs) (d + 4) 42 13 [(4, .int (nI i)), (0, .ref 12), (1, .retAddr 5), (2, .int (nI p)), (3, .int (nI 6))] [] (mk xi xa xl j) Q ↔ Q (.inl (some (.int (if spl tb_str3 (tA T z) p n i = true then 1 else 0)))) (mk xi xa xl j)) := by
  intro n
  induction n with
  | zero =>
    intro i hi
    have e : i = 6 := by omega
    subst e
    rw [w_42_13]
    simp only [wI_some, wJ_some, wR_ref, wR_con, wO_some, s1_eq, s2_eq, dl_nil, dl_cons, dm_nil, dm_cons, lk_cons, cat_int, cat_long, cat_ref, cat_con, args_nil, args_int, args_long, args_ref, args_con, ct_nil, ct_cons, Nat.reduceBEq, Nat.reduceAdd, Nat.reduceLeDiff, Nat.reduceEqDiff, Bool.not_true, Bool.not_false, Bool.and_true, Bool.and_false, Bool.true_and, Bool.false_and, cond_true, cond_false, Nat.zero_add, Nat.add_zero, reduceCtorEq, Nat.zero_le, ui_at, ua_at, ul_at, wK_v, wK_n, wK_t, true_and, and_true, nb0, nb1, not_false_eq_true, not_true_eq_false, ci_0, ci_1, ci_3, ci_5, ci_7, ci_12, ci_15, ci_16, ci_21, ci_22, w_42_0, w_42_1, w_42_4, w_42_5, w_42_8, w_42_9, w_42_10, w_42_11, w_42_15, w_42_16, w_42_19, w_42_20, w_42_22, w_42_25, w_42_26, w_42_29, w_42_30, w_42_32, w_42_33, w_42_36, w_42_39, w_42_40, w_42_41, w_42_44, w_42_47, w_42_48]
    rw [if_pos (nI_le (Nat.le_refl _) (by decide))]
    rfl
  | succ n ih =>
    intro i hi
    rw [w_42_13]
    simp only [wI_some, wJ_some, wR_ref, wR_con, wO_some, s1_eq, s2_eq, dl_nil, dl_cons, dm_nil, dm_cons, lk_cons, cat_int, cat_long, cat_ref, cat_con, args_nil, args_int, args_long, args_ref, args_con, ct_nil, ct_cons, Nat.reduceBEq, Nat.reduceAdd, Nat.reduceLeDiff, Nat.reduceEqDiff, Bool.not_true, Bool.not_false, Bool.and_true, Bool.and_false, Bool.true_and, Bool.false_and, cond_true, cond_false, Nat.zero_add, Nat.add_zero, reduceCtorEq, Nat.zero_le, ui_at, ua_at, ul_at, wK_v, wK_n, wK_t, true_and, and_true, nb0, nb1, not_false_eq_true, not_true_eq_false, ci_0, ci_1, ci_3, ci_5, ci_7, ci_12, ci_15, ci_16, ci_21, ci_22, w_42_0, w_42_1, w_42_4, w_42_5, w_42_8, w_42_9, w_42_10, w_42_11, w_42_15, w_42_16, w_42_19, w_42_20, w_42_22, w_42_25, w_42_26, w_42_29, w_42_30, w_42_32, w_42_33, w_42_36, w_42_39, w_42_40, w_42_41, w_42_44, w_42_47, w_42_48, gf_12_0, nI_add, nI_1, e_at ht (show p + i < 2 ^ 31 by omega), k_chr3 (show i < 6 by omega), ki_3]
    rw [if_neg (nI_ge (by omega) (by decide))]
    show _ ↔ Q (.inl (some (.int (if (if tb_str3 i = nI (tA T z (p + i)) then spl tb_str3 (tA T z) p n (i + 1) else false) = true then 1 else 0)))) (mk xi xa xl j)
    by_cases h : tb_str3 i = nI (tA T z (p + i))
    · rw [if_pos h, if_pos h]
      exact ih (i + 1) (by omega)
    · rw [if_neg h, if_neg h]
      exact Iff.rfl
theorem e_spl3 (ht : tx xi xa T z) (hp : p ≤ 1000) (hw : w ≤ 200) : dx_M (tb_Z L xs) (d + 5) 42 [.ref 12, .retAddr 5, .int (nI p), .int (nI w)] (mk xi xa xl j) Q ↔ Q (.inl (some (.int (if w = 6 ∧ spl tb_str3 (tA T z) p 6 0 = true then 1 else 0)))) (mk xi xa xl j) := by
  rw [dx_M_in (Nat.le_of_ble_eq_true rfl)]
  simp only [wI_some, wJ_some, wR_ref, wR_con, wO_some, s1_eq, s2_eq, dl_nil, dl_cons, dm_nil, dm_cons, lk_cons, cat_int, cat_long, cat_ref, cat_con, args_nil, args_int, args_long, args_ref, args_con, ct_nil, ct_cons, Nat.reduceBEq, Nat.reduceAdd, Nat.reduceLeDiff, Nat.reduceEqDiff, Bool.not_true, Bool.not_false, Bool.and_true, Bool.and_false, Bool.true_and, Bool.false_and, cond_true, cond_false, Nat.zero_add, Nat.add_zero, reduceCtorEq, Nat.zero_le, ui_at, ua_at, ul_at, wK_v, wK_n, wK_t, true_and, and_true, nb0, nb1, not_false_eq_true, not_true_eq_false, ci_0, ci_1, ci_3, ci_5, ci_7, ci_12, ci_15, ci_16, ci_21, ci_22, w_42_0, w_42_1, w_42_4, w_42_5, w_42_8, w_42_9, w_42_10, w_42_11, w_42_15, w_42_16, w_42_19, w_42_20, w_42_22, w_42_25, w_42_26, w_42_29, w_42_30, w_42_32, w_42_33, w_42_36, w_42_39, w_42_40, w_42_41, w_42_44, w_42_47, w_42_48, k_len3, ki_3]
  by_cases h : w = 6
  · subst h
    rw [if_pos (show (6 : Int32) = nI 6 from rfl)]
    refine (l_spl3 ht hp 6 0 rfl).trans ?_
    simp only [true_and]
  · rw [if_neg (show ¬ (6 : Int32) = nI w from fun y => h ((nI_eq (a := 6) (by decide) (by omega)).mp y).symm), if_neg (fun y => h y.1)]
theorem l_spl4 (ht : tx xi xa T z) (hp : p ≤ 1000) : ∀ n i, n + i = 5 → (dx_W (tb_Z L xs) (d + 4) 42 13 [(4, .int (nI i)), (0, .ref 12), (1, .retAddr 6), (2, .int (nI p)), (3, .int (nI 5))] [] (mk xi xa xl j) Q ↔ Q (.inl (some (.int (if spl tb_str4 (tA T z) p n i = true then 1 else 0)))) (mk xi xa xl j)) := by
  intro n
  induction n with
  | zero =>
    intro i hi
    have e : i = 5 := by omega
    subst e
    rw [w_42_13]
    simp only [wI_some, wJ_some, wR_ref, wR_con, wO_some, s1_eq, s2_eq, dl_nil, dl_cons, dm_nil, dm_cons, lk_cons, cat_int, cat_long, cat_ref, cat_con, args_nil, args_int, args_long, args_ref, args_con, ct_nil, ct_cons, Nat.reduceBEq, Nat.reduceAdd, Nat.reduceLeDiff, Nat.reduceEqDiff, Bool.not_true, Bool.not_false, Bool.and_true, Bool.and_false, Bool.true_and, Bool.false_and, cond_true, cond_false, Nat.zero_add, Nat.add_zero, reduceCtorEq, Nat.zero_le, ui_at, ua_at, ul_at, wK_v, wK_n, wK_t, true_and, and_true, nb0, nb1, not_false_eq_true, not_true_eq_false, ci_0, ci_1, ci_3, ci_5, ci_7, ci_12, ci_15, ci_16, ci_21, ci_22, w_42_0, w_42_1, w_42_4, w_42_5, w_42_8, w_42_9, w_42_10, w_42_11, w_42_15, w_42_16, w_42_19, w_42_20, w_42_22, w_42_25, w_42_26, w_42_29, w_42_30, w_42_32, w_42_33, w_42_36, w_42_39, w_42_40, w_42_41, w_42_44, w_42_47, w_42_48]
    rw [if_pos (nI_le (Nat.le_refl _) (by decide))]
    rfl
  | succ n ih =>
    intro i hi
    rw [w_42_13]
    simp only [wI_some, wJ_some, wR_ref, wR_con, wO_some, s1_eq, s2_eq, dl_nil, dl_cons, dm_nil, dm_cons, lk_cons, cat_int, cat_long, cat_ref, cat_con, args_nil, args_int, args_long, args_ref, args_con, ct_nil, ct_cons, Nat.reduceBEq, Nat.reduceAdd, Nat.reduceLeDiff, Nat.reduceEqDiff, Bool.not_true, Bool.not_false, Bool.and_true, Bool.and_false, Bool.true_and, Bool.false_and, cond_true, cond_false, Nat.zero_add, Nat.add_zero, reduceCtorEq, Nat.zero_le, ui_at, ua_at, ul_at, wK_v, wK_n, wK_t, true_and, and_true, nb0, nb1, not_false_eq_true, not_true_eq_false, ci_0, ci_1, ci_3, ci_5, ci_7, ci_12, ci_15, ci_16, ci_21, ci_22, w_42_0, w_42_1, w_42_4, w_42_5, w_42_8, w_42_9, w_42_10, w_42_11, w_42_15, w_42_16, w_42_19, w_42_20, w_42_22, w_42_25, w_42_26, w_42_29, w_42_30, w_42_32, w_42_33, w_42_36, w_42_39, w_42_40, w_42_41, w_42_44, w_42_47, w_42_48, gf_12_0, nI_add, nI_1, e_at ht (show p + i < 2 ^ 31 by omega), k_chr4 (show i < 5 by omega), ki_4]
    rw [if_neg (nI_ge (by omega) (by decide))]
    show _ ↔ Q (.inl (some (.int (if (if tb_str4 i = nI (tA T z (p + i)) then spl tb_str4 (tA T z) p n (i + 1) else false) = true then 1 else 0)))) (mk xi xa xl j)
    by_cases h : tb_str4 i = nI (tA T z (p + i))
    · rw [if_pos h, if_pos h]
      exact ih (i + 1) (by omega)
    · rw [if_neg h, if_neg h]
      exact Iff.rfl
theorem e_spl4 (ht : tx xi xa T z) (hp : p ≤ 1000) (hw : w ≤ 200) : dx_M (tb_Z L xs) (d + 5) 42 [.ref 12, .retAddr 6, .int (nI p), .int (nI w)] (mk xi xa xl j) Q ↔ Q (.inl (some (.int (if w = 5 ∧ spl tb_str4 (tA T z) p 5 0 = true then 1 else 0)))) (mk xi xa xl j) := by
  rw [dx_M_in (Nat.le_of_ble_eq_true rfl)]
  simp only [wI_some, wJ_some, wR_ref, wR_con, wO_some, s1_eq, s2_eq, dl_nil, dl_cons, dm_nil, dm_cons, lk_cons, cat_int, cat_long, cat_ref, cat_con, args_nil, args_int, args_long, args_ref, args_con, ct_nil, ct_cons, Nat.reduceBEq, Nat.reduceAdd, Nat.reduceLeDiff, Nat.reduceEqDiff, Bool.not_true, Bool.not_false, Bool.and_true, Bool.and_false, Bool.true_and, Bool.false_and, cond_true, cond_false, Nat.zero_add, Nat.add_zero, reduceCtorEq, Nat.zero_le, ui_at, ua_at, ul_at, wK_v, wK_n, wK_t, true_and, and_true, nb0, nb1, not_false_eq_true, not_true_eq_false, ci_0, ci_1, ci_3, ci_5, ci_7, ci_12, ci_15, ci_16, ci_21, ci_22, w_42_0, w_42_1, w_42_4, w_42_5, w_42_8, w_42_9, w_42_10, w_42_11, w_42_15, w_42_16, w_42_19, w_42_20, w_42_22, w_42_25, w_42_26, w_42_29, w_42_30, w_42_32, w_42_33, w_42_36, w_42_39, w_42_40, w_42_41, w_42_44, w_42_47, w_42_48, k_len4, ki_4]
  by_cases h : w = 5
  · subst h
    rw [if_pos (show (5 : Int32) = nI 5 from rfl)]
    refine (l_spl4 ht hp 5 0 rfl).trans ?_
    simp only [true_and]
  · rw [if_neg (show ¬ (5 : Int32) = nI w from fun y => h ((nI_eq (a := 5) (by decide) (by omega)).mp y).symm), if_neg (fun y => h y.1)]
theorem e_rsv (ht : tx xi xa T z) (hp : p ≤ 1000) (hw : w ≤ 200) : dx_M (tb_Z L xs) (d + 6) 41 [.ref 12, .int (nI p), .int (nI w)] (mk xi xa xl j) Q ↔ (match rsv (tA T z) p w with
  | some k => Q (.inl (some (.int k))) (mk xi xa xl j)
  | none => Q (.inr (46 + j.length)) (mk (ui xi 322 1) xa xl (j ++ [.inr (exc 1, [])]))) := by
  rw [dx_M_in (Nat.le_of_ble_eq_true rfl)]
  simp only [wI_some, wJ_some, wR_ref, wR_con, wO_some, s1_eq, s2_eq, dl_nil, dl_cons, dm_nil, dm_cons, lk_cons, cat_int, cat_long, cat_ref, cat_con, args_nil, args_int, args_long, args_ref, args_con, ct_nil, ct_cons, Nat.reduceBEq, Nat.reduceAdd, Nat.reduceLeDiff, Nat.reduceEqDiff, Bool.not_true, Bool.not_false, Bool.and_true, Bool.and_false, Bool.true_and, Bool.false_and, cond_true, cond_false, Nat.zero_add, Nat.add_zero, reduceCtorEq, Nat.zero_le, ui_at, ua_at, ul_at, wK_v, wK_n, wK_t, true_and, and_true, nb0, nb1, not_false_eq_true, not_true_eq_false, ci_0, ci_1, ci_3, ci_5, ci_7, ci_12, ci_15, ci_16, ci_21, ci_22, w_41_0, w_41_1, w_41_3, w_41_4, w_41_5, w_41_8, w_41_11, w_41_14, w_41_15, w_41_16, w_41_18, w_41_19, w_41_20, w_41_23, w_41_26, w_41_29, w_41_30, w_41_31, w_41_33, w_41_34, w_41_35, w_41_38, w_41_41, w_41_44, w_41_45, w_41_46, w_41_48, w_41_49, w_41_50, w_41_53, w_41_56, w_41_59, w_41_60, w_41_61, w_41_63, w_41_64, w_41_65, w_41_68, w_41_71, w_41_72, w_41_75, w_41_76, w_41_79, w_41_82, e_spl0 ht hp hw, e_spl1 ht hp hw, e_spl2 ht hp hw, e_spl3 ht hp hw, e_spl4 ht hp hw, gf_12_1, e_raise]
  unfold rsv
  by_cases h0 : w = 2 ∧ spl tb_str0 (tA T z) p 2 0 = true
  · rw [if_pos h0, if_pos h0, if_neg (show ¬ (1 : Int32) = 0 by decide)]
  rw [if_neg h0, if_neg h0, if_pos (show (0 : Int32) = 0 from rfl)]
  by_cases h1 : w = 5 ∧ spl tb_str1 (tA T z) p 5 0 = true
  · rw [if_pos h1, if_pos h1, if_neg (show ¬ (1 : Int32) = 0 by decide)]
  rw [if_neg h1, if_neg h1, if_pos (show (0 : Int32) = 0 from rfl)]
  by_cases h2 : w = 6 ∧ spl tb_str2 (tA T z) p 6 0 = true
  · rw [if_pos h2, if_pos h2, if_neg (show ¬ (1 : Int32) = 0 by decide)]
  rw [if_neg h2, if_neg h2, if_pos (show (0 : Int32) = 0 from rfl)]
  by_cases h3 : w = 6 ∧ spl tb_str3 (tA T z) p 6 0 = true
  · rw [if_pos h3, if_pos h3, if_neg (show ¬ (1 : Int32) = 0 by decide)]
  rw [if_neg h3, if_neg h3, if_pos (show (0 : Int32) = 0 from rfl)]
  by_cases h4 : w = 5 ∧ spl tb_str4 (tA T z) p 5 0 = true
  · rw [if_pos h4, if_pos h4, if_pos (show ¬ (1 : Int32) = 0 by decide)]
  · rw [if_neg h4, if_neg h4, if_neg (fun y => y rfl)]
end SW
