/-! The scanner of the reference: characters, signs, words. -/
def txR (xi : Nat → Int32) (xa : Nat → Nat → Int32) (T : Nat → Nat) (n : Nat) : Prop := xi 1409 = nI n ∧ n ≤ 200 ∧ ∀ i, i < n → xa 23 i = nI (T i) ∧ 0 < T i ∧ T i < 256
theorem tR_lt {xi : Nat → Int32} {xa : Nat → Nat → Int32} {T : Nat → Nat} {n i : Nat} (h : txR xi xa T n) : tA T n i < 256 := by
  unfold tA
  split
  · rename_i hi
    exact (h.2.2 i hi).2.2
  · decide
/-- the kind that the reference gives a sign -/
def sgX (x : Int32) (e : Bool) : Int32 := if x = 10 then 59 else if x = 59 then 59 else if x = 43 then x else if x = 45 then x else if x = 42 then x else if x = 47 then x else if x = 37 then x else if x = 94 then x else if x = 40 then x else if x = 41 then x else if x = 123 then x else if x = 125 then x else if x = 60 then (if e = true then 76 else x) else if x = 62 then (if e = true then 71 else x) else if x = 61 then (if e = true then 69 else x) else if x = 33 then (if e = true then 78 else 0) else 0
def sgK (C : Nat → Nat) (p : Nat) : Int32 := match syK C p with
  | some k => kp k.1
  | none => 0
theorem sg_dec : ∀ c, c < 256 → ∀ e : Bool, sgX (nI c) e = (match (if e = true ∧ ¬ wes c = 0 then some (wes c, 2) else if c = 10 then some (59, 1) else if isSy c = true then some (nI c, 1) else none : Option (Int32 × Nat)) with
  | some k => kp k.1
  | none => 0) := by decide +kernel
theorem sg_eq {C : Nat → Nat} {p : Nat} (h : C p < 256) : sgX (nI (C p)) (decide (C (p + 1) = 61)) = sgK C p := by
  have := sg_dec (C p) h (decide (C (p + 1) = 61))
  rw [this]
  unfold sgK syK
  simp only [decide_eq_true_eq]
section TA2
variable {L : Nat} {xs : Nat → Int32} {d : Nat} {σ : dx_S} {Q : dx_O → dx_S → Prop} {xi : Nat → Int32} {xa : Nat → Nat → Int32} {xl : Nat → Nat → Int64} {j : dx_S} {T : Nat → Nat} {s t p c k v n i w m z N : Nat}
theorem f_chr (ht : txR xi xa T z) (hi : i < 2 ^ 31) : dx_M (tb_Z L xs) (d + 1) 101 [.ref 22, .int (nI i)] (mk xi xa xl j) Q ↔ Q (.inl (some (.int (nI (tA T z i))))) (mk xi xa xl j) := by
  obtain ⟨h1, h2, h3⟩ := ht
  unfold tA
  rw [dx_M_in (Nat.le_of_ble_eq_true rfl)]
  by_cases h : i < z
  · have ii : vp_in (nI i) 200 := vp_in_nI (by omega) (by decide)
    simp only [wI_some, wJ_some, wR_ref, wR_con, wO_some, s1_eq, s2_eq, dl_nil, dl_cons, dm_nil, dm_cons, lk_cons, cat_int, cat_long, cat_ref, cat_con, args_nil, args_int, args_long, args_ref, args_con, ct_nil, ct_cons, Nat.reduceBEq, Nat.reduceAdd, Nat.reduceLeDiff, Nat.reduceEqDiff, Bool.not_true, Bool.not_false, Bool.and_true, Bool.and_false, Bool.true_and, Bool.false_and, cond_true, cond_false, Nat.zero_add, Nat.add_zero, reduceCtorEq, Nat.zero_le, ui_at, ua_at, ul_at, wK_v, wK_n, wK_t, true_and, and_true, nb0, nb1, not_false_eq_true, not_true_eq_false, ci_0, ci_1, ci_3, ci_5, ci_7, ci_12, ci_15, ci_16, ci_21, ci_22, w_101_0, w_101_1, w_101_2, w_101_5, w_101_8, w_101_9, w_101_12, w_101_13, w_101_14, w_101_17, w_101_18, gf_22_0, gf_22_1, h1, ga_23 ii, nI_clamp (show i < 2 ^ 31 by omega)]
    rw [if_neg (nI_ge h (by omega)), if_pos h, (h3 i h).1]
  · simp only [wI_some, wJ_some, wR_ref, wR_con, wO_some, s1_eq, s2_eq, dl_nil, dl_cons, dm_nil, dm_cons, lk_cons, cat_int, cat_long, cat_ref, cat_con, args_nil, args_int, args_long, args_ref, args_con, ct_nil, ct_cons, Nat.reduceBEq, Nat.reduceAdd, Nat.reduceLeDiff, Nat.reduceEqDiff, Bool.not_true, Bool.not_false, Bool.and_true, Bool.and_false, Bool.true_and, Bool.false_and, cond_true, cond_false, Nat.zero_add, Nat.add_zero, reduceCtorEq, Nat.zero_le, ui_at, ua_at, ul_at, wK_v, wK_n, wK_t, true_and, and_true, nb0, nb1, not_false_eq_true, not_true_eq_false, ci_0, ci_1, ci_3, ci_5, ci_7, ci_12, ci_15, ci_16, ci_21, ci_22, w_101_0, w_101_1, w_101_2, w_101_5, w_101_9, w_101_12, w_101_13, w_101_14, w_101_17, w_101_18, gf_22_1, h1]
    rw [if_pos (nI_le (by omega) hi), if_neg h]
    rfl
theorem f_sign (ht : txR xi xa T z) (hp : p ≤ 1000) : dx_M (tb_Z L xs) (d + 2) 107 [.ref 22, .int (nI p)] (mk xi xa xl j) Q ↔ Q (.inl (some (.int (sgK (tA T z) p)))) (mk xi xa xl j) := by
  have c1 : tA T z (p + 1) < 256 := tR_lt ht
  rw [← sg_eq (tR_lt ht)]
  rw [dx_M_in (Nat.le_of_ble_eq_true rfl)]
  simp only [wI_some, wJ_some, wR_ref, wR_con, wO_some, s1_eq, s2_eq, dl_nil, dl_cons, dm_nil, dm_cons, lk_cons, cat_int, cat_long, cat_ref, cat_con, args_nil, args_int, args_long, args_ref, args_con, ct_nil, ct_cons, Nat.reduceBEq, Nat.reduceAdd, Nat.reduceLeDiff, Nat.reduceEqDiff, Bool.not_true, Bool.not_false, Bool.and_true, Bool.and_false, Bool.true_and, Bool.false_and, cond_true, cond_false, Nat.zero_add, Nat.add_zero, reduceCtorEq, Nat.zero_le, ui_at, ua_at, ul_at, wK_v, wK_n, wK_t, true_and, and_true, nb0, nb1, not_false_eq_true, not_true_eq_false, ci_0, ci_1, ci_3, ci_5, ci_7, ci_12, ci_15, ci_16, ci_21, ci_22, w_107_0, w_107_1, w_107_2, w_107_5, w_107_6, w_107_7, w_107_8, w_107_9, w_107_10, w_107_13, w_107_15, w_107_19, w_107_23, w_107_25, w_107_27, w_107_30, w_107_31, w_107_33, w_107_36, w_107_38, w_107_39, w_107_40, w_107_42, w_107_45, w_107_46, w_107_48, w_107_51, w_107_52, w_107_54, w_107_57, w_107_58, w_107_60, w_107_63, w_107_64, w_107_66, w_107_69, w_107_70, w_107_72, w_107_75, w_107_76, w_107_78, w_107_81, w_107_82, w_107_84, w_107_87, w_107_88, w_107_90, w_107_93, w_107_94, w_107_96, w_107_99, w_107_100, w_107_101, w_107_102, w_107_104, w_107_107, w_107_108, w_107_111, w_107_113, w_107_116, w_107_117, w_107_118, w_107_119, w_107_121, w_107_124, w_107_125, w_107_128, w_107_130, w_107_133, w_107_134, w_107_135, w_107_136, w_107_138, w_107_141, w_107_142, w_107_145, w_107_147, w_107_150, w_107_151, w_107_152, w_107_153, w_107_155, w_107_158, w_107_159, w_107_162, w_107_164, w_107_167, w_107_168, nI_1, f_chr ht (show p < 2 ^ 31 by omega), f_chr ht (show p + 1 < 2 ^ 31 by omega)]
  unfold sgX
  generalize nI (tA T z p) = x
  by_cases h61 : tA T z (p + 1) = 61
  · rw [if_neg (fun y => y (by rw [h61]; rfl)), show decide (tA T z (p + 1) = 61) = true from decide_eq_true h61]
    simp only [wI_some, wJ_some, wR_ref, wR_con, wO_some, s1_eq, s2_eq, dl_nil, dl_cons, dm_nil, dm_cons, lk_cons, cat_int, cat_long, cat_ref, cat_con, args_nil, args_int, args_long, args_ref, args_con, ct_nil, ct_cons, Nat.reduceBEq, Nat.reduceAdd, Nat.reduceLeDiff, Nat.reduceEqDiff, Bool.not_true, Bool.not_false, Bool.and_true, Bool.and_false, Bool.true_and, Bool.false_and, cond_true, cond_false, Nat.zero_add, Nat.add_zero, reduceCtorEq, Nat.zero_le, ui_at, ua_at, ul_at, wK_v, wK_n, wK_t, true_and, and_true, nb0, nb1, not_false_eq_true, not_true_eq_false, ci_0, ci_1, ci_3, ci_5, ci_7, ci_12, ci_15, ci_16, ci_21, ci_22, w_107_0, w_107_1, w_107_2, w_107_5, w_107_6, w_107_7, w_107_8, w_107_9, w_107_10, w_107_13, w_107_15, w_107_18, w_107_19, w_107_22, w_107_23, w_107_24, w_107_25, w_107_27, w_107_30, w_107_31, w_107_33, w_107_36, w_107_38, w_107_39, w_107_40, w_107_42, w_107_45, w_107_46, w_107_48, w_107_51, w_107_52, w_107_54, w_107_57, w_107_58, w_107_60, w_107_63, w_107_64, w_107_66, w_107_69, w_107_70, w_107_72, w_107_75, w_107_76, w_107_78, w_107_81, w_107_82, w_107_84, w_107_87, w_107_88, w_107_90, w_107_93, w_107_94, w_107_96, w_107_99, w_107_100, w_107_101, w_107_102, w_107_104, w_107_107, w_107_108, w_107_111, w_107_113, w_107_116, w_107_117, w_107_118, w_107_119, w_107_121, w_107_124, w_107_125, w_107_128, w_107_130, w_107_133, w_107_134, w_107_135, w_107_136, w_107_138, w_107_141, w_107_142, w_107_145, w_107_147, w_107_150, w_107_151, w_107_152, w_107_153, w_107_155, w_107_158, w_107_159, w_107_162, w_107_164, w_107_167, w_107_168]
    by_cases h10 : x = 10
    · rw [if_pos h10, if_pos h10]
    rw [if_neg h10, if_neg h10]
    by_cases h59 : x = 59
    · rw [if_neg (fun y => y h59), if_pos h59]
    rw [if_pos h59, if_neg h59]
    by_cases h43 : x = 43
    · rw [if_pos h43, if_pos h43]
    rw [if_neg h43, if_neg h43]
    by_cases h45 : x = 45
    · rw [if_pos h45, if_pos h45]
    rw [if_neg h45, if_neg h45]
    by_cases h42 : x = 42
    · rw [if_pos h42, if_pos h42]
    rw [if_neg h42, if_neg h42]
    by_cases h47 : x = 47
    · rw [if_pos h47, if_pos h47]
    rw [if_neg h47, if_neg h47]
    by_cases h37 : x = 37
    · rw [if_pos h37, if_pos h37]
    rw [if_neg h37, if_neg h37]
    by_cases h94 : x = 94
    · rw [if_pos h94, if_pos h94]
    rw [if_neg h94, if_neg h94]
    by_cases h40 : x = 40
    · rw [if_pos h40, if_pos h40]
    rw [if_neg h40, if_neg h40]
    by_cases h41 : x = 41
    · rw [if_pos h41, if_pos h41]
    rw [if_neg h41, if_neg h41]
    by_cases h123 : x = 123
    · rw [if_pos h123, if_pos h123]
    rw [if_neg h123, if_neg h123]
    by_cases h125 : x = 125
    · rw [if_neg (fun y => y h125), if_pos h125]
    rw [if_pos h125, if_neg h125]
    by_cases g60 : x = 60
    · rw [if_neg (fun y => y g60), if_pos g60, if_neg (show ¬ (1 : Int32) = 0 by decide), if_pos True.intro]
    rw [if_pos g60, if_neg g60]
    by_cases g62 : x = 62
    · rw [if_neg (fun y => y g62), if_pos g62, if_neg (show ¬ (1 : Int32) = 0 by decide), if_pos True.intro]
    rw [if_pos g62, if_neg g62]
    by_cases g61 : x = 61
    · rw [if_neg (fun y => y g61), if_pos g61, if_neg (show ¬ (1 : Int32) = 0 by decide), if_pos True.intro]
    rw [if_pos g61, if_neg g61]
    by_cases g33 : x = 33
    · rw [if_neg (fun y => y g33), if_pos g33, if_neg (show ¬ (1 : Int32) = 0 by decide), if_pos True.intro]
    rw [if_pos g33, if_neg g33]
  · rw [if_pos (show ¬ nI (tA T z (p + 1)) = 61 from fun y => h61 ((nI_eq (b := 61) (by omega) (by decide)).mp y)), show decide (tA T z (p + 1) = 61) = false from decide_eq_false h61]
    simp only [wI_some, wJ_some, wR_ref, wR_con, wO_some, s1_eq, s2_eq, dl_nil, dl_cons, dm_nil, dm_cons, lk_cons, cat_int, cat_long, cat_ref, cat_con, args_nil, args_int, args_long, args_ref, args_con, ct_nil, ct_cons, Nat.reduceBEq, Nat.reduceAdd, Nat.reduceLeDiff, Nat.reduceEqDiff, Bool.not_true, Bool.not_false, Bool.and_true, Bool.and_false, Bool.true_and, Bool.false_and, cond_true, cond_false, Nat.zero_add, Nat.add_zero, reduceCtorEq, Nat.zero_le, ui_at, ua_at, ul_at, wK_v, wK_n, wK_t, true_and, and_true, nb0, nb1, not_false_eq_true, not_true_eq_false, ci_0, ci_1, ci_3, ci_5, ci_7, ci_12, ci_15, ci_16, ci_21, ci_22, w_107_0, w_107_1, w_107_2, w_107_5, w_107_6, w_107_7, w_107_8, w_107_9, w_107_10, w_107_13, w_107_15, w_107_18, w_107_19, w_107_22, w_107_23, w_107_24, w_107_25, w_107_27, w_107_30, w_107_31, w_107_33, w_107_36, w_107_38, w_107_39, w_107_40, w_107_42, w_107_45, w_107_46, w_107_48, w_107_51, w_107_52, w_107_54, w_107_57, w_107_58, w_107_60, w_107_63, w_107_64, w_107_66, w_107_69, w_107_70, w_107_72, w_107_75, w_107_76, w_107_78, w_107_81, w_107_82, w_107_84, w_107_87, w_107_88, w_107_90, w_107_93, w_107_94, w_107_96, w_107_99, w_107_100, w_107_101, w_107_102, w_107_104, w_107_107, w_107_108, w_107_111, w_107_113, w_107_116, w_107_117, w_107_118, w_107_119, w_107_121, w_107_124, w_107_125, w_107_128, w_107_130, w_107_133, w_107_134, w_107_135, w_107_136, w_107_138, w_107_141, w_107_142, w_107_145, w_107_147, w_107_150, w_107_151, w_107_152, w_107_153, w_107_155, w_107_158, w_107_159, w_107_162, w_107_164, w_107_167, w_107_168]
    by_cases h10 : x = 10
    · rw [if_pos h10, if_pos h10]
    rw [if_neg h10, if_neg h10]
    by_cases h59 : x = 59
    · rw [if_neg (fun y => y h59), if_pos h59]
    rw [if_pos h59, if_neg h59]
    by_cases h43 : x = 43
    · rw [if_pos h43, if_pos h43]
    rw [if_neg h43, if_neg h43]
    by_cases h45 : x = 45
    · rw [if_pos h45, if_pos h45]
    rw [if_neg h45, if_neg h45]
    by_cases h42 : x = 42
    · rw [if_pos h42, if_pos h42]
    rw [if_neg h42, if_neg h42]
    by_cases h47 : x = 47
    · rw [if_pos h47, if_pos h47]
    rw [if_neg h47, if_neg h47]
    by_cases h37 : x = 37
    · rw [if_pos h37, if_pos h37]
    rw [if_neg h37, if_neg h37]
    by_cases h94 : x = 94
    · rw [if_pos h94, if_pos h94]
    rw [if_neg h94, if_neg h94]
    by_cases h40 : x = 40
    · rw [if_pos h40, if_pos h40]
    rw [if_neg h40, if_neg h40]
    by_cases h41 : x = 41
    · rw [if_pos h41, if_pos h41]
    rw [if_neg h41, if_neg h41]
    by_cases h123 : x = 123
    · rw [if_pos h123, if_pos h123]
    rw [if_neg h123, if_neg h123]
    by_cases h125 : x = 125
    · rw [if_neg (fun y => y h125), if_pos h125]
    rw [if_pos h125, if_neg h125]
    by_cases g60 : x = 60
    · rw [if_neg (fun y => y g60), if_pos g60, if_pos True.intro, if_neg (show ¬ False from id)]
    rw [if_pos g60, if_neg g60]
    by_cases g62 : x = 62
    · rw [if_neg (fun y => y g62), if_pos g62, if_pos True.intro, if_neg (show ¬ False from id)]
    rw [if_pos g62, if_neg g62]
    by_cases g61 : x = 61
    · rw [if_neg (fun y => y g61), if_pos g61, if_pos True.intro, if_neg (show ¬ False from id)]
    rw [if_pos g61, if_neg g61]
    by_cases g33 : x = 33
    · rw [if_neg (fun y => y g33), if_pos g33, if_pos True.intro, if_neg (show ¬ False from id)]
    rw [if_pos g33, if_neg g33]
end TA2
