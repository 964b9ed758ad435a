/-! The reference's reckoning. -/
def rs (xi : Nat → Int32) (m : Int) (s : Nat) : Nat → Int32 := ui (ui xi 1446 (zI m)) 1447 (nI s)
/-- what a comparison says in the reference -/
def rmo (k : Int32) (x y : Int) : Bool := if k = 60 then decide (x < y) else if k = 62 then decide (y < x) else if k = 69 then decide (x = y) else if k = 71 then decide (y ≤ x) else if k = 76 then decide (x ≤ y) else decide (¬ x = y)
section AT
variable {L : Nat} {xs : Nat → Int32} {d : Nat} {σ : dx_S} {Q : dx_O → dx_S → Prop} {xi : Nat → Int32} {xa : Nat → Nat → Int32} {xl : Nat → Nat → Int64} {j : dx_S} {a b m : Int} {s t p c : Nat}
theorem rs_rs {m' : Int} {s' : Nat} : rs (rs xi m s) m' s' = rs xi m' s' := by
  funext i
  show (if i = 1447 then nI s' else if i = 1446 then zI m' else if i = 1447 then nI s else if i = 1446 then zI m else xi i) = if i = 1447 then nI s' else if i = 1446 then zI m' else xi i
  split
  · rfl
  · split <;> rfl
theorem rs_m : rs xi m s 1446 = zI m := rfl
theorem rs_s : rs xi m s 1447 = nI s := rfl
theorem rs_o {i : Nat} (h1 : i ≠ 1446) (h2 : i ≠ 1447) : rs xi m s i = xi i := by
  show (if i = 1447 then nI s else if i = 1446 then zI m else xi i) = xi i
  rw [if_neg h2, if_neg h1]
/-- how a reckoning of the reference ends -/
def bR (r : Nat ⊕ (Int × Nat)) (xi : Nat → Int32) (xa : Nat → Nat → Int32) (xl : Nat → Nat → Int64) (j : dx_S) (Q : dx_O → dx_S → Prop) : Prop := match r with
  | .inl k => Q (.inl (some (.int 0))) (mk (ui xi 1442 (nI k)) xa xl j)
  | .inr (m, s) => Q (.inl (some (.int 1))) (mk (rs xi m s) xa xl j)
theorem bR_ret {r : Nat ⊕ (Int × Nat)} {Q' : dx_O → dx_S → Prop} (h1 : ∀ σ, Q' (.inl (some (.int 0))) σ ↔ Q (.inl (some (.int 0))) σ) (h2 : ∀ σ, Q' (.inl (some (.int 1))) σ ↔ Q (.inl (some (.int 1))) σ) : bR r xi xa xl j Q' ↔ bR r xi xa xl j Q := by
  cases r with
  | inl k => exact h1 _
  | inr q => exact h2 _
theorem L10 : (10 : Int64) = zL 10 := rfl
theorem l_ten {k : Nat} (hk : k ≤ 8) : ∀ n i, n + i = k → (dx_W (tb_Z L xs) d 124 4 [(3, .int (nI i)), (1, .long (zL (10 ^ i))), (0, .int (nI k))] [] σ Q ↔ Q (.inl (some (.long (zL (10 ^ k))))) σ) := by
  intro n
  induction n with
  | zero =>
    intro i hi
    have e : i = k := by omega
    subst e
    rw [w_124_4]
    simp only [wI_some, wJ_some, wR_ref, wR_con, wO_some, s1_eq, s2_eq, dl_nil, dl_cons, dm_nil, dm_cons, lk_cons, cat_int, cat_long, cat_ref, cat_con, args_nil, args_int, args_long, args_ref, args_con, ct_nil, ct_cons, Nat.reduceBEq, Nat.reduceAdd, Nat.reduceLeDiff, Nat.reduceEqDiff, Bool.not_true, Bool.not_false, Bool.and_true, Bool.and_false, Bool.true_and, Bool.false_and, cond_true, cond_false, Nat.zero_add, Nat.add_zero, reduceCtorEq, Nat.zero_le, ui_at, ua_at, ul_at, wK_v, wK_n, wK_t, true_and, and_true, nb0, nb1, not_false_eq_true, not_true_eq_false, ci_0, ci_1, ci_3, ci_5, ci_7, ci_12, ci_15, ci_16, ci_21, ci_22, w_124_0, w_124_1, w_124_2, w_124_3, w_124_5, w_124_6, w_124_9, w_124_10, w_124_13, w_124_14, w_124_15, w_124_18, w_124_21, w_124_22]
    rw [if_pos (nI_le (Nat.le_refl _) (by omega))]
  | succ n ih =>
    intro i hi
    rw [w_124_4]
    simp only [wI_some, wJ_some, wR_ref, wR_con, wO_some, s1_eq, s2_eq, dl_nil, dl_cons, dm_nil, dm_cons, lk_cons, cat_int, cat_long, cat_ref, cat_con, args_nil, args_int, args_long, args_ref, args_con, ct_nil, ct_cons, Nat.reduceBEq, Nat.reduceAdd, Nat.reduceLeDiff, Nat.reduceEqDiff, Bool.not_true, Bool.not_false, Bool.and_true, Bool.and_false, Bool.true_and, Bool.false_and, cond_true, cond_false, Nat.zero_add, Nat.add_zero, reduceCtorEq, Nat.zero_le, ui_at, ua_at, ul_at, wK_v, wK_n, wK_t, true_and, and_true, nb0, nb1, not_false_eq_true, not_true_eq_false, ci_0, ci_1, ci_3, ci_5, ci_7, ci_12, ci_15, ci_16, ci_21, ci_22, w_124_0, w_124_1, w_124_2, w_124_3, w_124_5, w_124_6, w_124_9, w_124_10, w_124_13, w_124_14, w_124_15, w_124_18, w_124_21, w_124_22, L10, zL_mul, nI_1]
    rw [if_neg (nI_ge (by omega) (by omega)), ← Int.pow_succ]
    exact ih (i + 1) (by omega)
theorem f_ten {k : Nat} (hk : k ≤ 8) : dx_M (tb_Z L xs) (d + 1) 124 [.int (nI k)] σ Q ↔ Q (.inl (some (.long (zL (10 ^ k))))) σ := by
  rw [dx_M_in (Nat.le_of_ble_eq_true rfl)]
  simp only [wI_some, wJ_some, wR_ref, wR_con, wO_some, s1_eq, s2_eq, dl_nil, dl_cons, dm_nil, dm_cons, lk_cons, cat_int, cat_long, cat_ref, cat_con, args_nil, args_int, args_long, args_ref, args_con, ct_nil, ct_cons, Nat.reduceBEq, Nat.reduceAdd, Nat.reduceLeDiff, Nat.reduceEqDiff, Bool.not_true, Bool.not_false, Bool.and_true, Bool.and_false, Bool.true_and, Bool.false_and, cond_true, cond_false, Nat.zero_add, Nat.add_zero, reduceCtorEq, Nat.zero_le, ui_at, ua_at, ul_at, wK_v, wK_n, wK_t, true_and, and_true, nb0, nb1, not_false_eq_true, not_true_eq_false, ci_0, ci_1, ci_3, ci_5, ci_7, ci_12, ci_15, ci_16, ci_21, ci_22, w_124_0, w_124_1, w_124_2, w_124_3, w_124_5, w_124_6, w_124_9, w_124_10, w_124_13, w_124_14, w_124_15, w_124_18, w_124_21, w_124_22]
  exact l_ten hk k 0 rfl
theorem f_result (h1 : -2 ^ 62 ≤ m) (h2 : m < 2 ^ 62) : dx_M (tb_Z L xs) (d + 1) 125 [.ref 22, .long (zL m), .int (nI s)] (mk xi xa xl j) Q ↔ bR (chk m s) xi xa xl j Q := by
  rw [dx_M_in (Nat.le_of_ble_eq_true rfl)]
  simp only [wI_some, wJ_some, wR_ref, wR_con, wO_some, s1_eq, s2_eq, dl_nil, dl_cons, dm_nil, dm_cons, lk_cons, cat_int, cat_long, cat_ref, cat_con, args_nil, args_int, args_long, args_ref, args_con, ct_nil, ct_cons, Nat.reduceBEq, Nat.reduceAdd, Nat.reduceLeDiff, Nat.reduceEqDiff, Bool.not_true, Bool.not_false, Bool.and_true, Bool.and_false, Bool.true_and, Bool.false_and, cond_true, cond_false, Nat.zero_add, Nat.add_zero, reduceCtorEq, Nat.zero_le, ui_at, ua_at, ul_at, wK_v, wK_n, wK_t, true_and, and_true, nb0, nb1, not_false_eq_true, not_true_eq_false, ci_0, ci_1, ci_3, ci_5, ci_7, ci_12, ci_15, ci_16, ci_21, ci_22, w_125_0, w_125_1, w_125_4, w_125_5, w_125_8, w_125_9, w_125_12, w_125_13, w_125_16, w_125_17, w_125_18, w_125_21, w_125_22, w_125_23, w_125_24, w_125_25, w_125_26, w_125_29, w_125_30, w_125_31, w_125_34, w_125_35, lg_cmp_lt, lg_cmp_le, L9, zL_I, sf_22_34, sf_22_38, sf_22_39]
  simp only [zL_neg, zL_lt (a := m) (b := -999999999) (by omega) (by omega) (by omega) (by omega), zL_le (a := m) (b := 999999999) (by omega) (by omega) (by omega) (by omega)]
  unfold chk
  by_cases hb : -999999999 ≤ m
  · rw [if_neg (show ¬ m < -999999999 by omega)]
    by_cases ha : 999999999 < m
    · rw [if_neg (show ¬ m ≤ 999999999 by omega), if_pos ha]
      exact Iff.rfl
    · rw [if_pos (show m ≤ 999999999 by omega), if_neg ha, if_pos hb]
      exact Iff.rfl
  · rw [if_pos (show m < -999999999 by omega), if_neg (show ¬ 999999999 < m by omega), if_neg hb]
    exact Iff.rfl
theorem f_mul1 (hs : s ≤ 4) (ht : t ≤ 4) : dx_W (tb_Z L xs) d 126 0 [(0, .ref 22), (1, .long (zL a)), (3, .int (nI s)), (4, .long (zL b)), (6, .int (nI t))] [] (mk xi xa xl j) Q ↔ dx_W (tb_Z L xs) d 126 14 [(7, .int (nI (max s t))), (0, .ref 22), (1, .long (zL a)), (3, .int (nI s)), (4, .long (zL b)), (6, .int (nI t))] [] (mk xi xa xl j) Q := by
  simp only [wI_some, wJ_some, wR_ref, wR_con, wO_some, s1_eq, s2_eq, dl_nil, dl_cons, dm_nil, dm_cons, lk_cons, cat_int, cat_long, cat_ref, cat_con, args_nil, args_int, args_long, args_ref, args_con, ct_nil, ct_cons, Nat.reduceBEq, Nat.reduceAdd, Nat.reduceLeDiff, Nat.reduceEqDiff, Bool.not_true, Bool.not_false, Bool.and_true, Bool.and_false, Bool.true_and, Bool.false_and, cond_true, cond_false, Nat.zero_add, Nat.add_zero, reduceCtorEq, Nat.zero_le, ui_at, ua_at, ul_at, wK_v, wK_n, wK_t, true_and, and_true, nb0, nb1, not_false_eq_true, not_true_eq_false, ci_0, ci_1, ci_3, ci_5, ci_7, ci_12, ci_15, ci_16, ci_21, ci_22, w_126_0, w_126_1, w_126_3, w_126_6, w_126_7, w_126_10, w_126_12, w_126_15, w_126_18, w_126_20, w_126_23, w_126_24, w_126_27, w_126_29, w_126_30, w_126_32, w_126_33, w_126_35, w_126_38, w_126_39, w_126_41, w_126_42, w_126_45, w_126_47, w_126_49, w_126_50, w_126_51, w_126_53, w_126_54, w_126_55, w_126_57, w_126_58, w_126_60, w_126_61, w_126_64, w_126_65, w_126_67, w_126_70]
  by_cases h : s ≤ t
  · rw [if_pos (nI_le h (by omega)), show max s t = t by omega]
  · rw [if_neg (nI_ge (show t < s by omega) (by omega)), show max s t = s by omega]
theorem f_mul2 (hc : xi 1412 = nI c) (hc4 : c ≤ 4) (hp : p ≤ 4) : dx_W (tb_Z L xs) d 126 14 [(7, .int (nI p)), (0, .ref 22), (1, .long (zL a)), (3, .int (nI s)), (4, .long (zL b)), (6, .int (nI t))] [] (mk xi xa xl j) Q ↔ dx_W (tb_Z L xs) d 126 29 [(7, .int (nI (max c p))), (0, .ref 22), (1, .long (zL a)), (3, .int (nI s)), (4, .long (zL b)), (6, .int (nI t))] [] (mk xi xa xl j) Q := by
  simp only [wI_some, wJ_some, wR_ref, wR_con, wO_some, s1_eq, s2_eq, dl_nil, dl_cons, dm_nil, dm_cons, lk_cons, cat_int, cat_long, cat_ref, cat_con, args_nil, args_int, args_long, args_ref, args_con, ct_nil, ct_cons, Nat.reduceBEq, Nat.reduceAdd, Nat.reduceLeDiff, Nat.reduceEqDiff, Bool.not_true, Bool.not_false, Bool.and_true, Bool.and_false, Bool.true_and, Bool.false_and, cond_true, cond_false, Nat.zero_add, Nat.add_zero, reduceCtorEq, Nat.zero_le, ui_at, ua_at, ul_at, wK_v, wK_n, wK_t, true_and, and_true, nb0, nb1, not_false_eq_true, not_true_eq_false, ci_0, ci_1, ci_3, ci_5, ci_7, ci_12, ci_15, ci_16, ci_21, ci_22, w_126_0, w_126_1, w_126_3, w_126_6, w_126_7, w_126_10, w_126_12, w_126_14, w_126_15, w_126_18, w_126_20, w_126_23, w_126_24, w_126_27, w_126_30, w_126_32, w_126_33, w_126_35, w_126_38, w_126_39, w_126_41, w_126_42, w_126_45, w_126_47, w_126_49, w_126_50, w_126_51, w_126_53, w_126_54, w_126_55, w_126_57, w_126_58, w_126_60, w_126_61, w_126_64, w_126_65, w_126_67, w_126_70, gf_22_4, hc]
  by_cases h : c ≤ p
  · rw [if_pos (nI_le h (by omega)), show max c p = p by omega]
  · rw [if_neg (nI_ge (show p < c by omega) (by omega)), show max c p = c by omega]
theorem f_mul3 (hs : s ≤ 4) (ht : t ≤ 4) (hp : p ≤ 4) : dx_W (tb_Z L xs) d 126 29 [(7, .int (nI p)), (0, .ref 22), (1, .long (zL a)), (3, .int (nI s)), (4, .long (zL b)), (6, .int (nI t))] [] (mk xi xa xl j) Q ↔ dx_W (tb_Z L xs) d 126 49 [(8, .int (nI (min (s + t) p))), (7, .int (nI p)), (0, .ref 22), (1, .long (zL a)), (3, .int (nI s)), (4, .long (zL b)), (6, .int (nI t))] [] (mk xi xa xl j) Q := by
  simp only [wI_some, wJ_some, wR_ref, wR_con, wO_some, s1_eq, s2_eq, dl_nil, dl_cons, dm_nil, dm_cons, lk_cons, cat_int, cat_long, cat_ref, cat_con, args_nil, args_int, args_long, args_ref, args_con, ct_nil, ct_cons, Nat.reduceBEq, Nat.reduceAdd, Nat.reduceLeDiff, Nat.reduceEqDiff, Bool.not_true, Bool.not_false, Bool.and_true, Bool.and_false, Bool.true_and, Bool.false_and, cond_true, cond_false, Nat.zero_add, Nat.add_zero, reduceCtorEq, Nat.zero_le, ui_at, ua_at, ul_at, wK_v, wK_n, wK_t, true_and, and_true, nb0, nb1, not_false_eq_true, not_true_eq_false, ci_0, ci_1, ci_3, ci_5, ci_7, ci_12, ci_15, ci_16, ci_21, ci_22, w_126_0, w_126_1, w_126_3, w_126_6, w_126_7, w_126_10, w_126_12, w_126_14, w_126_15, w_126_18, w_126_20, w_126_23, w_126_24, w_126_27, w_126_29, w_126_30, w_126_32, w_126_33, w_126_35, w_126_38, w_126_39, w_126_41, w_126_42, w_126_45, w_126_47, w_126_50, w_126_51, w_126_53, w_126_54, w_126_55, w_126_57, w_126_58, w_126_60, w_126_61, w_126_64, w_126_65, w_126_67, w_126_70, nI_add]
  by_cases h : p ≤ s + t
  · rw [if_pos (nI_le h (by omega)), show min (s + t) p = p by omega]
  · rw [if_neg (nI_ge (show s + t < p by omega) (by omega)), show min (s + t) p = s + t by omega]
theorem f_mul (hc : xi 1412 = nI c) (hc4 : c ≤ 4) (ha : nm a s) (hb : nm b t) : dx_M (tb_Z L xs) (d + 2) 126 [.ref 22, .long (zL a), .int (nI s), .long (zL b), .int (nI t)] (mk xi xa xl j) Q ↔ bR (r_pro c a s b t) xi xa xl j Q := by
  have hs := ha.2.2
  have ht := hb.2.2
  have hk : s + t - min (s + t) (max c (max s t)) ≤ 8 := by omega
  have b1 := ten_b hk
  have b2 : -(999999999 * 999999999) ≤ a * b ∧ a * b ≤ 999999999 * 999999999 := by
    rcases Int.le_total 0 b with h0 | h0
    · exact mul_b ha.1 ha.2.1 h0 hb.2.1
    · have := mul_b (m := a) (t := -b) ha.1 ha.2.1 (by omega) (show -b ≤ 999999999 by have := hb.1; omega)
      rw [Int.mul_neg] at this
      omega
  have b3 := tq_b (y := 10 ^ (s + t - min (s + t) (max c (max s t)))) b2.1 b2.2
  rw [dx_M_in (Nat.le_of_ble_eq_true rfl)]
  simp only [wI_some, wJ_some, wR_ref, wR_con, wO_some, s1_eq, s2_eq, dl_nil, dl_cons, dm_nil, dm_cons, lk_cons, cat_int, cat_long, cat_ref, cat_con, args_nil, args_int, args_long, args_ref, args_con, ct_nil, ct_cons, Nat.reduceBEq, Nat.reduceAdd, Nat.reduceLeDiff, Nat.reduceEqDiff, Bool.not_true, Bool.not_false, Bool.and_true, Bool.and_false, Bool.true_and, Bool.false_and, cond_true, cond_false, Nat.zero_add, Nat.add_zero, reduceCtorEq, Nat.zero_le, ui_at, ua_at, ul_at, wK_v, wK_n, wK_t, true_and, and_true, nb0, nb1, not_false_eq_true, not_true_eq_false, ci_0, ci_1, ci_3, ci_5, ci_7, ci_12, ci_15, ci_16, ci_21, ci_22]
  rw [f_mul1 hs ht, f_mul2 hc hc4 (by omega), f_mul3 hs ht (by omega)]
  simp only [wI_some, wJ_some, wR_ref, wR_con, wO_some, s1_eq, s2_eq, dl_nil, dl_cons, dm_nil, dm_cons, lk_cons, cat_int, cat_long, cat_ref, cat_con, args_nil, args_int, args_long, args_ref, args_con, ct_nil, ct_cons, Nat.reduceBEq, Nat.reduceAdd, Nat.reduceLeDiff, Nat.reduceEqDiff, Bool.not_true, Bool.not_false, Bool.and_true, Bool.and_false, Bool.true_and, Bool.false_and, cond_true, cond_false, Nat.zero_add, Nat.add_zero, reduceCtorEq, Nat.zero_le, ui_at, ua_at, ul_at, wK_v, wK_n, wK_t, true_and, and_true, nb0, nb1, not_false_eq_true, not_true_eq_false, ci_0, ci_1, ci_3, ci_5, ci_7, ci_12, ci_15, ci_16, ci_21, ci_22, w_126_0, w_126_1, w_126_3, w_126_6, w_126_7, w_126_10, w_126_12, w_126_14, w_126_15, w_126_18, w_126_20, w_126_23, w_126_24, w_126_27, w_126_29, w_126_30, w_126_32, w_126_33, w_126_35, w_126_38, w_126_39, w_126_41, w_126_42, w_126_45, w_126_47, w_126_49, w_126_50, w_126_51, w_126_53, w_126_54, w_126_55, w_126_57, w_126_58, w_126_60, w_126_61, w_126_64, w_126_65, w_126_67, nI_add, zL_mul, pk_sub (show min (s + t) (max c (max s t)) ≤ s + t by omega), f_ten hk, ten_ne hk, zL_div (show -2 ^ 63 ≤ a * b by omega) (show a * b < 2 ^ 63 by omega) (show -2 ^ 63 ≤ (10 : Int) ^ (s + t - min (s + t) (max c (max s t))) by omega) (show (10 : Int) ^ (s + t - min (s + t) (max c (max s t))) < 2 ^ 63 by omega), f_result (show -2 ^ 62 ≤ (a * b).tdiv (10 ^ (s + t - min (s + t) (max c (max s t)))) by omega) (show (a * b).tdiv (10 ^ (s + t - min (s + t) (max c (max s t)))) < 2 ^ 62 by omega)]
  refine bR_ret (fun σ => ?_) (fun σ => ?_)
  · simp only [wK_v, w_126_70, nb0, nb1, true_and]
  · simp only [wK_v, w_126_70, nb0, nb1, true_and]
theorem f_div (hc : xi 1412 = nI c) (hc4 : c ≤ 4) (ha : nm a s) (hb : nm b t) : dx_M (tb_Z L xs) (d + 2) 127 [.ref 22, .long (zL a), .int (nI s), .long (zL b), .int (nI t)] (mk xi xa xl j) Q ↔ bR (r_quo c a s b t) xi xa xl j Q := by
  have hs := ha.2.2
  have ht := hb.2.2
  have b1 := ten_b (show t + c ≤ 8 by omega)
  have b2 := ten_4 (show s ≤ 4 by omega)
  have b3 := mul_b (B := 100000000) ha.1 ha.2.1 (show 0 ≤ (10 : Int) ^ (t + c) by omega) b1.2
  have b4 := mul_b (B := 10000) hb.1 hb.2.1 (show 0 ≤ (10 : Int) ^ s by omega) b2.2
  have b5 := tq_b (y := b * 10 ^ s) b3.1 b3.2
  have b7 := hb.1
  have b8 := hb.2.1
  rw [dx_M_in (Nat.le_of_ble_eq_true rfl)]
  simp only [wI_some, wJ_some, wR_ref, wR_con, wO_some, s1_eq, s2_eq, dl_nil, dl_cons, dm_nil, dm_cons, lk_cons, cat_int, cat_long, cat_ref, cat_con, args_nil, args_int, args_long, args_ref, args_con, ct_nil, ct_cons, Nat.reduceBEq, Nat.reduceAdd, Nat.reduceLeDiff, Nat.reduceEqDiff, Bool.not_true, Bool.not_false, Bool.and_true, Bool.and_false, Bool.true_and, Bool.false_and, cond_true, cond_false, Nat.zero_add, Nat.add_zero, reduceCtorEq, Nat.zero_le, ui_at, ua_at, ul_at, wK_v, wK_n, wK_t, true_and, and_true, nb0, nb1, not_false_eq_true, not_true_eq_false, ci_0, ci_1, ci_3, ci_5, ci_7, ci_12, ci_15, ci_16, ci_21, ci_22, w_127_0, w_127_2, w_127_3, w_127_4, w_127_7, w_127_8, w_127_9, w_127_12, w_127_13, w_127_15, w_127_16, w_127_18, w_127_19, w_127_22, w_127_23, w_127_26, w_127_27, w_127_29, w_127_30, w_127_33, w_127_34, w_127_35, w_127_36, w_127_39, w_127_42, lg_cmp_eq, sf_22_34]
  simp only [L0, zL_eq (a := b) (b := 0) (by omega) (by omega) (by omega) (by omega)]
  unfold r_quo
  by_cases h0 : b = 0
  · rw [if_neg (show ¬ ¬ b = 0 from fun z => z h0), if_pos h0]
    exact Iff.rfl
  rw [if_pos h0, if_neg h0]
  have b6 : ¬ b * 10 ^ s = 0 := Int.mul_ne_zero h0 (by omega)
  simp only [wI_some, wJ_some, wR_ref, wR_con, wO_some, s1_eq, s2_eq, dl_nil, dl_cons, dm_nil, dm_cons, lk_cons, cat_int, cat_long, cat_ref, cat_con, args_nil, args_int, args_long, args_ref, args_con, ct_nil, ct_cons, Nat.reduceBEq, Nat.reduceAdd, Nat.reduceLeDiff, Nat.reduceEqDiff, Bool.not_true, Bool.not_false, Bool.and_true, Bool.and_false, Bool.true_and, Bool.false_and, cond_true, cond_false, Nat.zero_add, Nat.add_zero, reduceCtorEq, Nat.zero_le, ui_at, ua_at, ul_at, wK_v, wK_n, wK_t, true_and, and_true, nb0, nb1, not_false_eq_true, not_true_eq_false, ci_0, ci_1, ci_3, ci_5, ci_7, ci_12, ci_15, ci_16, ci_21, ci_22, w_127_0, w_127_2, w_127_3, w_127_4, w_127_7, w_127_8, w_127_9, w_127_12, w_127_13, w_127_14, w_127_15, w_127_16, w_127_18, w_127_19, w_127_22, w_127_23, w_127_26, w_127_27, w_127_29, w_127_30, w_127_33, w_127_34, w_127_35, w_127_36, w_127_39, gf_22_4, hc, nI_add, zL_mul, f_ten (show t + c ≤ 8 by omega), f_ten (show s ≤ 8 by omega), zl_ne b6 (by omega) (by omega), zL_div (show -2 ^ 63 ≤ a * 10 ^ (t + c) by omega) (show a * 10 ^ (t + c) < 2 ^ 63 by omega) (show -2 ^ 63 ≤ b * 10 ^ s by omega) (show b * 10 ^ s < 2 ^ 63 by omega), f_result (show -2 ^ 62 ≤ (a * 10 ^ (t + c)).tdiv (b * 10 ^ s) by omega) (show (a * 10 ^ (t + c)).tdiv (b * 10 ^ s) < 2 ^ 62 by omega)]
  refine bR_ret (fun σ => ?_) (fun σ => ?_)
  · simp only [wK_v, w_127_42, nb0, nb1, true_and]
  · simp only [wK_v, w_127_42, nb0, nb1, true_and]
theorem f_holds {k : Int32} {x y : Int} (h1 : -2 ^ 62 ≤ x) (h2 : x < 2 ^ 62) (h3 : -2 ^ 62 ≤ y) (h4 : y < 2 ^ 62) : dx_M (tb_Z L xs) (d + 1) 130 [.int k, .long (zL x), .long (zL y)] σ Q ↔ Q (.inl (some (.int (if rmo k x y = true then 1 else 0)))) σ := by
  rw [dx_M_in (Nat.le_of_ble_eq_true rfl)]
  simp only [wI_some, wJ_some, wR_ref, wR_con, wO_some, s1_eq, s2_eq, dl_nil, dl_cons, dm_nil, dm_cons, lk_cons, cat_int, cat_long, cat_ref, cat_con, args_nil, args_int, args_long, args_ref, args_con, ct_nil, ct_cons, Nat.reduceBEq, Nat.reduceAdd, Nat.reduceLeDiff, Nat.reduceEqDiff, Bool.not_true, Bool.not_false, Bool.and_true, Bool.and_false, Bool.true_and, Bool.false_and, cond_true, cond_false, Nat.zero_add, Nat.add_zero, reduceCtorEq, Nat.zero_le, ui_at, ua_at, ul_at, wK_v, wK_n, wK_t, true_and, and_true, nb0, nb1, not_false_eq_true, not_true_eq_false, ci_0, ci_1, ci_3, ci_5, ci_7, ci_12, ci_15, ci_16, ci_21, ci_22, w_130_0, w_130_1, w_130_52, w_130_53, w_130_54, w_130_55, w_130_58, w_130_59, w_130_62, w_130_63, w_130_64, w_130_65, w_130_66, w_130_67, w_130_70, w_130_71, w_130_74, w_130_75, w_130_76, w_130_77, w_130_78, w_130_79, w_130_82, w_130_83, w_130_86, w_130_87, w_130_88, w_130_89, w_130_90, w_130_91, w_130_94, w_130_95, w_130_98, w_130_99, w_130_100, w_130_101, w_130_102, w_130_103, w_130_106, w_130_107, w_130_110, w_130_111, w_130_112, w_130_113, w_130_114, w_130_115, w_130_118, w_130_119, w_130_122, w_130_123, lg_cmp_lt, lg_cmp_le, lg_cmp_gt, lg_cmp_ge, lg_cmp_eq]
  simp only [zL_lt (a := x) (b := y) (by omega) (by omega) (by omega) (by omega), zL_lt (a := y) (b := x) (by omega) (by omega) (by omega) (by omega), zL_le (a := x) (b := y) (by omega) (by omega) (by omega) (by omega), zL_le (a := y) (b := x) (by omega) (by omega) (by omega) (by omega), zL_eq (a := x) (b := y) (by omega) (by omega) (by omega) (by omega)]
  unfold rmo
  by_cases k0 : k = 60
  · simp only [if_pos k0]
    by_cases hh : x < y
    · rw [if_neg (show ¬ (y ≤ x) by omega), if_pos (decide_eq_true hh)]
    · rw [if_pos (show y ≤ x by omega), if_neg (fun z => hh (of_decide_eq_true z))]
  by_cases k1 : k = 62
  · simp only [if_neg k0, if_pos k1]
    by_cases hh : y < x
    · rw [if_neg (show ¬ (x ≤ y) by omega), if_pos (decide_eq_true hh)]
    · rw [if_pos (show x ≤ y by omega), if_neg (fun z => hh (of_decide_eq_true z))]
  by_cases k2 : k = 69
  · simp only [if_neg k0, if_neg k1, if_pos k2]
    by_cases hh : x = y
    · rw [if_neg (show ¬ (¬ x = y) by omega), if_pos (decide_eq_true hh)]
    · rw [if_pos (show ¬ x = y by omega), if_neg (fun z => hh (of_decide_eq_true z))]
  by_cases k3 : k = 71
  · simp only [if_neg k0, if_neg k1, if_neg k2, if_pos k3]
    by_cases hh : y ≤ x
    · rw [if_neg (show ¬ (x < y) by omega), if_pos (decide_eq_true hh)]
    · rw [if_pos (show x < y by omega), if_neg (fun z => hh (of_decide_eq_true z))]
  by_cases k4 : k = 76
  · simp only [if_neg k0, if_neg k1, if_neg k2, if_neg k3, if_pos k4]
    by_cases hh : x ≤ y
    · rw [if_neg (show ¬ (y < x) by omega), if_pos (decide_eq_true hh)]
    · rw [if_pos (show y < x by omega), if_neg (fun z => hh (of_decide_eq_true z))]
  simp only [if_neg k0, if_neg k1, if_neg k2, if_neg k3, if_neg k4]
  by_cases hh : ¬ x = y
  · rw [if_neg (show ¬ (x = y) by omega), if_pos (decide_eq_true hh)]
  · rw [if_pos (show x = y by omega), if_neg (fun z => hh (of_decide_eq_true z))]
/-- what stays when a reckoning of the reference ends with a fault -/
def bS (xi xi' : Nat → Int32) : Prop := ∀ i, i ≠ 1446 → i ≠ 1447 → i ≠ 1442 → xi' i = xi i
def oR (r : Nat ⊕ (Int × Nat)) (xi : Nat → Int32) (xa : Nat → Nat → Int32) (xl : Nat → Nat → Int64) (j : dx_S) (Q : dx_O → dx_S → Prop) : Prop := match r with
  | .inl k => ∀ xi', bS xi xi' → xi' 1442 = nI k → Q (.inl (some (.int 0))) (mk xi' xa xl j)
  | .inr (m, s) => Q (.inl (some (.int 1))) (mk (rs xi m s) xa xl j)
theorem bS_f {k : Int32} : bS xi (ui xi 1442 k) := fun i _ _ h => if_neg h
theorem bS_rs {k : Int32} : bS xi (ui (rs xi m s) 1442 k) := fun i h1 h2 h => (if_neg h).trans (rs_o h1 h2)
theorem oR_b {r : Nat ⊕ (Int × Nat)} (h : oR r xi xa xl j Q) : bR r xi xa xl j Q := by
  cases r with
  | inl k => exact h _ bS_f rfl
  | inr q => exact h
theorem oR_m {r : Nat ⊕ (Int × Nat)} {Q' : dx_O → dx_S → Prop} (h : oR r xi xa xl j Q) (h1 : ∀ σ, Q (.inl (some (.int 0))) σ → Q' (.inl (some (.int 0))) σ) (h2 : ∀ σ, Q (.inl (some (.int 1))) σ → Q' (.inl (some (.int 1))) σ) : oR r xi xa xl j Q' := by
  cases r with
  | inl k => exact fun xi' a b => h1 _ (h xi' a b)
  | inr q => exact h2 _ h
theorem l_rabs {e : Int} {lv : dx_L} (h1 : -99 ≤ e) (h2 : e ≤ 99) {i : Nat} (hl : dx_lk lv 9 = some (.int (nI i))) (hl2 : dx_lk lv 7 = some (.int (zI e))) (hi : i < 2 ^ 31) : dx_W (tb_Z L xs) d 128 67 lv [] σ Q ↔ (if e.natAbs ≤ i then dx_W (tb_Z L xs) d 128 114 lv [] σ Q else dx_W (tb_Z L xs) d 128 85 lv [] σ Q) := by
  simp only [w_128_67, w_128_69, w_128_71, w_128_74, w_128_76, w_128_77, w_128_80, w_128_82, hl, hl2, wI_some, zI_neg]
  by_cases h : 0 ≤ e
  · have e1 : zI e = nI e.natAbs := by rw [nI_z', show ((e.natAbs : Nat) : Int) = e by omega]
    rw [if_pos (show (0 : Int32) ≤ zI e from (zI_le (a := 0) (by omega) (by omega) (by omega) (by omega)).mpr h), e1]
    simp only [nI_leI (show e.natAbs < 2 ^ 31 by omega) hi]
  · have e1 : zI (-e) = nI e.natAbs := by rw [nI_z', show ((e.natAbs : Nat) : Int) = -e by omega]
    rw [if_neg (show ¬ (0 : Int32) ≤ zI e from fun z => h ((zI_le (a := 0) (by omega) (by omega) (by omega) (by omega)).mp z)), e1]
    simp only [nI_leI (show e.natAbs < 2 ^ 31 by omega) hi]
theorem l_rpow {e : Int} (hc : xi 1412 = nI c) (hc4 : c ≤ 4) (ha : nm a s) (h1 : -99 ≤ e) (h2 : e ≤ 99) : ∀ n i m u, n + i = e.natAbs → nm m u → (match r_pwi c a s n m u with
  | .inl k => ∀ m' u', Q (.inl (some (.int 0))) (mk (ui (rs xi m' u') 1442 (nI k)) xa xl j)
  | .inr q => dx_W (tb_Z L xs) (d + 2) 128 114 [(9, .int (nI e.natAbs)), (8, .int 1), (7, .int (zI e)), (5, .long (zL (10 ^ t))), (0, .ref 22), (1, .int (zI a)), (2, .int (nI s)), (3, .int (zI b)), (4, .int (nI t))] [] (mk (rs xi q.1 q.2) xa xl j) Q) → dx_W (tb_Z L xs) (d + 2) 128 67 [(9, .int (nI i)), (8, .int 1), (7, .int (zI e)), (5, .long (zL (10 ^ t))), (0, .ref 22), (1, .int (zI a)), (2, .int (nI s)), (3, .int (zI b)), (4, .int (nI t))] [] (mk (rs xi m u) xa xl j) Q := by
  intro n
  induction n with
  | zero =>
    intro i m u hi hm H
    have e1 : i = e.natAbs := by omega
    subst e1
    rw [l_rabs h1 h2 rfl rfl (by omega), if_pos (Nat.le_refl _)]
    exact H
  | succ n ih =>
    intro i m u hi hm H
    have hm2 := hm
    unfold nm at hm2
    have ha2 := ha
    unfold nm at ha2
    rw [l_rabs h1 h2 rfl rfl (by omega), if_neg (by omega)]
    have hc' : rs xi m u 1412 = nI c := hc
    simp only [wI_some, wJ_some, wR_ref, wR_con, wO_some, s1_eq, s2_eq, dl_nil, dl_cons, dm_nil, dm_cons, lk_cons, cat_int, cat_long, cat_ref, cat_con, args_nil, args_int, args_long, args_ref, args_con, ct_nil, ct_cons, Nat.reduceBEq, Nat.reduceAdd, Nat.reduceLeDiff, Nat.reduceEqDiff, Bool.not_true, Bool.not_false, Bool.and_true, Bool.and_false, Bool.true_and, Bool.false_and, cond_true, cond_false, Nat.zero_add, Nat.add_zero, reduceCtorEq, Nat.zero_le, ui_at, ua_at, ul_at, wK_v, wK_n, wK_t, true_and, and_true, nb0, nb1, not_false_eq_true, not_true_eq_false, ci_0, ci_1, ci_3, ci_5, ci_7, ci_12, ci_15, ci_16, ci_21, ci_22, w_128_0, w_128_2, w_128_5, w_128_7, w_128_8, w_128_9, w_128_11, w_128_12, w_128_13, w_128_14, w_128_17, w_128_18, w_128_19, w_128_21, w_128_22, w_128_25, w_128_26, w_128_29, w_128_30, w_128_31, w_128_33, w_128_34, w_128_37, w_128_38, w_128_41, w_128_42, w_128_43, w_128_46, w_128_47, w_128_48, w_128_49, w_128_50, w_128_52, w_128_53, w_128_54, w_128_56, w_128_57, w_128_58, w_128_59, w_128_62, w_128_64, w_128_65, w_128_69, w_128_71, w_128_74, w_128_76, w_128_77, w_128_80, w_128_82, w_128_85, w_128_87, w_128_90, w_128_91, w_128_92, w_128_95, w_128_96, w_128_97, w_128_100, w_128_101, w_128_102, w_128_103, w_128_108, w_128_111, w_128_114, w_128_116, w_128_119, w_128_121, w_128_124, w_128_125, w_128_126, w_128_127, w_128_128, w_128_131, w_128_132, w_128_133, w_128_136, w_128_139, w_128_141, w_128_143, gf_22_38, gf_22_39, rs_m, rs_s, zI_L (show -2 ^ 31 ≤ m by omega) (show m < 2 ^ 31 by omega), zI_L (show -2 ^ 31 ≤ a by omega) (show a < 2 ^ 31 by omega), f_mul hc' hc4 hm ha, (show ((1 : Int32) = 0) = False from by decide), if_false]
    have e2 : r_pwi c a s (n + 1) m u = (match r_pro c m u a s with
      | .inl f => .inl f
      | .inr q => r_pwi c a s n q.1 q.2) := rfl
    rw [e2] at H
    cases hq : r_pro c m u a s with
    | inl f =>
      rw [hq] at H
      show wK _ _ _ _ _ _ _ (.inl (some (.int 0))) _
      simp only [wI_some, wJ_some, wR_ref, wR_con, wO_some, s1_eq, s2_eq, dl_nil, dl_cons, dm_nil, dm_cons, lk_cons, cat_int, cat_long, cat_ref, cat_con, args_nil, args_int, args_long, args_ref, args_con, ct_nil, ct_cons, Nat.reduceBEq, Nat.reduceAdd, Nat.reduceLeDiff, Nat.reduceEqDiff, Bool.not_true, Bool.not_false, Bool.and_true, Bool.and_false, Bool.true_and, Bool.false_and, cond_true, cond_false, Nat.zero_add, Nat.add_zero, reduceCtorEq, Nat.zero_le, ui_at, ua_at, ul_at, wK_v, wK_n, wK_t, true_and, and_true, nb0, nb1, not_false_eq_true, not_true_eq_false, ci_0, ci_1, ci_3, ci_5, ci_7, ci_12, ci_15, ci_16, ci_21, ci_22, w_128_0, w_128_2, w_128_5, w_128_7, w_128_8, w_128_9, w_128_11, w_128_12, w_128_13, w_128_14, w_128_17, w_128_18, w_128_19, w_128_21, w_128_22, w_128_25, w_128_26, w_128_29, w_128_30, w_128_31, w_128_33, w_128_34, w_128_37, w_128_38, w_128_41, w_128_42, w_128_43, w_128_46, w_128_47, w_128_48, w_128_49, w_128_50, w_128_52, w_128_53, w_128_54, w_128_56, w_128_57, w_128_58, w_128_59, w_128_62, w_128_64, w_128_65, w_128_69, w_128_71, w_128_74, w_128_76, w_128_77, w_128_80, w_128_82, w_128_85, w_128_87, w_128_90, w_128_91, w_128_92, w_128_95, w_128_96, w_128_97, w_128_100, w_128_101, w_128_102, w_128_103, w_128_106, w_128_108, w_128_111, w_128_114, w_128_116, w_128_119, w_128_121, w_128_124, w_128_125, w_128_126, w_128_127, w_128_128, w_128_131, w_128_132, w_128_133, w_128_136, w_128_139, w_128_141, w_128_143, nI_1]
      rw [l_rabs h1 h2 rfl rfl (by omega)]
      split
      · simp only [wI_some, wJ_some, wR_ref, wR_con, wO_some, s1_eq, s2_eq, dl_nil, dl_cons, dm_nil, dm_cons, lk_cons, cat_int, cat_long, cat_ref, cat_con, args_nil, args_int, args_long, args_ref, args_con, ct_nil, ct_cons, Nat.reduceBEq, Nat.reduceAdd, Nat.reduceLeDiff, Nat.reduceEqDiff, Bool.not_true, Bool.not_false, Bool.and_true, Bool.and_false, Bool.true_and, Bool.false_and, cond_true, cond_false, Nat.zero_add, Nat.add_zero, reduceCtorEq, Nat.zero_le, ui_at, ua_at, ul_at, wK_v, wK_n, wK_t, true_and, and_true, nb0, nb1, not_false_eq_true, not_true_eq_false, ci_0, ci_1, ci_3, ci_5, ci_7, ci_12, ci_15, ci_16, ci_21, ci_22, w_128_0, w_128_2, w_128_5, w_128_7, w_128_8, w_128_9, w_128_11, w_128_12, w_128_13, w_128_14, w_128_17, w_128_18, w_128_19, w_128_21, w_128_22, w_128_25, w_128_26, w_128_29, w_128_30, w_128_31, w_128_33, w_128_34, w_128_37, w_128_38, w_128_41, w_128_42, w_128_43, w_128_46, w_128_47, w_128_48, w_128_49, w_128_50, w_128_52, w_128_53, w_128_54, w_128_56, w_128_57, w_128_58, w_128_59, w_128_62, w_128_64, w_128_65, w_128_69, w_128_71, w_128_74, w_128_76, w_128_77, w_128_80, w_128_82, w_128_85, w_128_87, w_128_90, w_128_91, w_128_92, w_128_95, w_128_96, w_128_97, w_128_100, w_128_101, w_128_102, w_128_103, w_128_106, w_128_108, w_128_111, w_128_114, w_128_116, w_128_119, w_128_121, w_128_124, w_128_125, w_128_126, w_128_127, w_128_128, w_128_131, w_128_132, w_128_133, w_128_136, w_128_139, w_128_141, w_128_143, if_true]
        exact H m u
      · simp only [wI_some, wJ_some, wR_ref, wR_con, wO_some, s1_eq, s2_eq, dl_nil, dl_cons, dm_nil, dm_cons, lk_cons, cat_int, cat_long, cat_ref, cat_con, args_nil, args_int, args_long, args_ref, args_con, ct_nil, ct_cons, Nat.reduceBEq, Nat.reduceAdd, Nat.reduceLeDiff, Nat.reduceEqDiff, Bool.not_true, Bool.not_false, Bool.and_true, Bool.and_false, Bool.true_and, Bool.false_and, cond_true, cond_false, Nat.zero_add, Nat.add_zero, reduceCtorEq, Nat.zero_le, ui_at, ua_at, ul_at, wK_v, wK_n, wK_t, true_and, and_true, nb0, nb1, not_false_eq_true, not_true_eq_false, ci_0, ci_1, ci_3, ci_5, ci_7, ci_12, ci_15, ci_16, ci_21, ci_22, w_128_0, w_128_2, w_128_5, w_128_7, w_128_8, w_128_9, w_128_11, w_128_12, w_128_13, w_128_14, w_128_17, w_128_18, w_128_19, w_128_21, w_128_22, w_128_25, w_128_26, w_128_29, w_128_30, w_128_31, w_128_33, w_128_34, w_128_37, w_128_38, w_128_41, w_128_42, w_128_43, w_128_46, w_128_47, w_128_48, w_128_49, w_128_50, w_128_52, w_128_53, w_128_54, w_128_56, w_128_57, w_128_58, w_128_59, w_128_62, w_128_64, w_128_65, w_128_69, w_128_71, w_128_74, w_128_76, w_128_77, w_128_80, w_128_82, w_128_85, w_128_87, w_128_90, w_128_91, w_128_92, w_128_95, w_128_96, w_128_97, w_128_100, w_128_101, w_128_102, w_128_103, w_128_106, w_128_108, w_128_111, w_128_114, w_128_116, w_128_119, w_128_121, w_128_124, w_128_125, w_128_126, w_128_127, w_128_128, w_128_131, w_128_132, w_128_133, w_128_136, w_128_139, w_128_141, w_128_143, if_true]
        exact H m u
    | inr q =>
      rw [hq] at H
      show wK _ _ _ _ _ _ _ (.inl (some (.int 1))) (mk (rs (rs xi m u) q.1 q.2) xa xl j)
      rw [rs_rs]
      simp only [wI_some, wJ_some, wR_ref, wR_con, wO_some, s1_eq, s2_eq, dl_nil, dl_cons, dm_nil, dm_cons, lk_cons, cat_int, cat_long, cat_ref, cat_con, args_nil, args_int, args_long, args_ref, args_con, ct_nil, ct_cons, Nat.reduceBEq, Nat.reduceAdd, Nat.reduceLeDiff, Nat.reduceEqDiff, Bool.not_true, Bool.not_false, Bool.and_true, Bool.and_false, Bool.true_and, Bool.false_and, cond_true, cond_false, Nat.zero_add, Nat.add_zero, reduceCtorEq, Nat.zero_le, ui_at, ua_at, ul_at, wK_v, wK_n, wK_t, true_and, and_true, nb0, nb1, not_false_eq_true, not_true_eq_false, ci_0, ci_1, ci_3, ci_5, ci_7, ci_12, ci_15, ci_16, ci_21, ci_22, w_128_0, w_128_2, w_128_5, w_128_7, w_128_8, w_128_9, w_128_11, w_128_12, w_128_13, w_128_14, w_128_17, w_128_18, w_128_19, w_128_21, w_128_22, w_128_25, w_128_26, w_128_29, w_128_30, w_128_31, w_128_33, w_128_34, w_128_37, w_128_38, w_128_41, w_128_42, w_128_43, w_128_46, w_128_47, w_128_48, w_128_49, w_128_50, w_128_52, w_128_53, w_128_54, w_128_56, w_128_57, w_128_58, w_128_59, w_128_62, w_128_64, w_128_65, w_128_69, w_128_71, w_128_74, w_128_76, w_128_77, w_128_80, w_128_82, w_128_85, w_128_87, w_128_90, w_128_91, w_128_92, w_128_95, w_128_96, w_128_97, w_128_100, w_128_101, w_128_102, w_128_103, w_128_106, w_128_108, w_128_111, w_128_114, w_128_116, w_128_119, w_128_121, w_128_124, w_128_125, w_128_126, w_128_127, w_128_128, w_128_131, w_128_132, w_128_133, w_128_136, w_128_139, w_128_141, w_128_143, nI_1]
      exact ih (i + 1) q.1 q.2 (by omega) (pro_nm hc4 hm ha hq) H
theorem f_result10 : dx_M (tb_Z L xs) (d + 1) 125 [.ref 22, .long 1, .int 0] (mk xi xa xl j) Q ↔ Q (.inl (some (.int 1))) (mk (rs xi 1 0) xa xl j) := f_result (m := 1) (s := 0) (by decide) (by decide)
theorem L99 : (99 : Int64) = zL 99 := rfl
theorem one0 : ((1 : Int32) = 0) = False := by decide
theorem f_div1 (hc : xi 1412 = nI c) (hc4 : c ≤ 4) (hb : nm b t) : dx_M (tb_Z L xs) (d + 2) 127 [.ref 22, .long 1, .int 0, .long (zL b), .int (nI t)] (mk xi xa xl j) Q ↔ bR (r_quo c 1 0 b t) xi xa xl j Q := f_div (a := 1) (s := 0) hc hc4 ⟨by decide, by decide, by decide⟩ hb
theorem f_pow (hc : xi 1412 = nI c) (hc4 : c ≤ 4) (ha : nm a s) (hb : nm b t) (H : oR (r_pow c a s b t) xi xa xl j Q) : dx_M (tb_Z L xs) (d + 3) 128 [.ref 22, .int (zI a), .int (nI s), .int (zI b), .int (nI t)] (mk xi xa xl j) Q := by
  have ht := hb.2.2
  have b1 := ten_4 ht
  have h := hb
  unfold nm at h
  have b2 := tq_b (x := b) (y := 10 ^ t) h.1 h.2.1
  have b3 := tm_b (x := b) (y := 10 ^ t) h.1 h.2.1
  unfold r_pow at H
  rw [dx_M_in (Nat.le_of_ble_eq_true rfl)]
  simp only [wI_some, wJ_some, wR_ref, wR_con, wO_some, s1_eq, s2_eq, dl_nil, dl_cons, dm_nil, dm_cons, lk_cons, cat_int, cat_long, cat_ref, cat_con, args_nil, args_int, args_long, args_ref, args_con, ct_nil, ct_cons, Nat.reduceBEq, Nat.reduceAdd, Nat.reduceLeDiff, Nat.reduceEqDiff, Bool.not_true, Bool.not_false, Bool.and_true, Bool.and_false, Bool.true_and, Bool.false_and, cond_true, cond_false, Nat.zero_add, Nat.add_zero, reduceCtorEq, Nat.zero_le, ui_at, ua_at, ul_at, wK_v, wK_n, wK_t, true_and, and_true, nb0, nb1, not_false_eq_true, not_true_eq_false, ci_0, ci_1, ci_3, ci_5, ci_7, ci_12, ci_15, ci_16, ci_21, ci_22, w_128_0, w_128_2, w_128_5, w_128_7, w_128_8, w_128_9, w_128_11, w_128_12, w_128_13, w_128_14, w_128_17, w_128_18, w_128_19, w_128_21, w_128_22, w_128_25, w_128_26, w_128_29, w_128_30, w_128_31, w_128_33, w_128_34, w_128_37, w_128_38, w_128_41, w_128_42, w_128_43, w_128_46, w_128_47, w_128_48, w_128_49, w_128_50, w_128_52, w_128_53, w_128_54, w_128_56, w_128_57, w_128_58, w_128_59, w_128_62, w_128_64, w_128_65, w_128_69, w_128_71, w_128_74, w_128_76, w_128_77, w_128_80, w_128_82, w_128_85, w_128_87, w_128_90, w_128_91, w_128_92, w_128_95, w_128_96, w_128_97, w_128_100, w_128_101, w_128_102, w_128_103, w_128_106, w_128_108, w_128_111, w_128_114, w_128_116, w_128_119, w_128_121, w_128_124, w_128_125, w_128_126, w_128_127, w_128_128, w_128_131, w_128_132, w_128_133, w_128_136, w_128_139, w_128_141, w_128_143, L0, L99, lg_cmp_eq, lg_cmp_lt, lg_cmp_le, f_ten (show t ≤ 8 by omega), (show (zL (10 ^ t) = zL 0) = False from ten_ne (show t ≤ 8 by omega)), zI_L (show -2 ^ 31 ≤ b by omega) (show b < 2 ^ 31 by omega), zL_div (show -2 ^ 63 ≤ b by omega) (show b < 2 ^ 63 by omega) (show -2 ^ 63 ≤ (10 : Int) ^ t by omega) (show (10 : Int) ^ t < 2 ^ 63 by omega), zL_rm2, zL_I, f_result10, sf_22_34]
  simp only [zL_neg, zL_eq (a := b.tmod (10 ^ t)) (b := 0) (by omega) (by omega) (by omega) (by omega), zL_lt (a := b.tdiv (10 ^ t)) (b := -99) (by omega) (by omega) (by omega) (by omega), zL_le (a := b.tdiv (10 ^ t)) (b := 99) (by omega) (by omega) (by omega) (by omega)]
  by_cases h1 : b.tmod (10 ^ t) = 0
  · have n1 : ¬ ¬ b.tmod (10 ^ t) = 0 := fun z => z h1
    rw [if_neg n1]
    by_cases h2 : b.tdiv (10 ^ t) < -99
    · have e : r_who b t (-99) 99 = .inl 5 := by unfold r_who; rw [if_neg n1, if_pos h2]
      rw [e] at H
      rw [if_pos h2]
      exact H _ bS_f rfl
    · rw [if_neg h2]
      by_cases h3 : b.tdiv (10 ^ t) ≤ 99
      · have e : r_who b t (-99) 99 = .inr (b.tdiv (10 ^ t)) := by unfold r_who; rw [if_neg n1, if_neg h2, if_pos h3]
        rw [e] at H
        rw [if_pos h3]
        generalize hn : b.tdiv (10 ^ t) = n at *
        rw [show ((0 : Int32)) = nI 0 from rfl]
        refine l_rpow hc hc4 ha (by omega) (by omega) n.natAbs 0 1 0 rfl ⟨by decide, by decide, by decide⟩ ?_
        cases hq : r_pwi c a s n.natAbs 1 0 with
        | inl f =>
          have H : oR (match r_pwi c a s n.natAbs 1 0 with
            | .inl f => .inl f
            | .inr q => if n < 0 then r_quo c 1 0 q.1 q.2 else .inr q) xi xa xl j Q := H
          rw [hq] at H
          exact fun m' u' => H _ bS_rs rfl
        | inr q =>
          have H : oR (match r_pwi c a s n.natAbs 1 0 with
            | .inl f => .inl f
            | .inr q => if n < 0 then r_quo c 1 0 q.1 q.2 else .inr q) xi xa xl j Q := H
          rw [hq] at H
          have H : oR (if n < 0 then r_quo c 1 0 q.1 q.2 else .inr q) xi xa xl j Q := H
          have hn := pwi_nm hc4 ha _ _ _ ⟨by decide, by decide, by decide⟩ hq
          have hq2 := hn
          unfold nm at hq2
          have hc' : rs xi q.1 q.2 1412 = nI c := hc
          show dx_W _ _ _ _ _ _ _ _
          simp only [wI_some, wJ_some, wR_ref, wR_con, wO_some, s1_eq, s2_eq, dl_nil, dl_cons, dm_nil, dm_cons, lk_cons, cat_int, cat_long, cat_ref, cat_con, args_nil, args_int, args_long, args_ref, args_con, ct_nil, ct_cons, Nat.reduceBEq, Nat.reduceAdd, Nat.reduceLeDiff, Nat.reduceEqDiff, Bool.not_true, Bool.not_false, Bool.and_true, Bool.and_false, Bool.true_and, Bool.false_and, cond_true, cond_false, Nat.zero_add, Nat.add_zero, reduceCtorEq, Nat.zero_le, ui_at, ua_at, ul_at, wK_v, wK_n, wK_t, true_and, and_true, nb0, nb1, not_false_eq_true, not_true_eq_false, ci_0, ci_1, ci_3, ci_5, ci_7, ci_12, ci_15, ci_16, ci_21, ci_22, w_128_0, w_128_2, w_128_5, w_128_7, w_128_8, w_128_9, w_128_11, w_128_12, w_128_13, w_128_14, w_128_17, w_128_18, w_128_19, w_128_21, w_128_22, w_128_25, w_128_26, w_128_29, w_128_30, w_128_31, w_128_33, w_128_34, w_128_37, w_128_38, w_128_41, w_128_42, w_128_43, w_128_46, w_128_47, w_128_48, w_128_49, w_128_50, w_128_52, w_128_53, w_128_54, w_128_56, w_128_57, w_128_58, w_128_59, w_128_62, w_128_64, w_128_65, w_128_69, w_128_71, w_128_74, w_128_76, w_128_77, w_128_80, w_128_82, w_128_85, w_128_87, w_128_90, w_128_91, w_128_92, w_128_95, w_128_96, w_128_97, w_128_100, w_128_101, w_128_102, w_128_103, w_128_106, w_128_108, w_128_111, w_128_114, w_128_116, w_128_119, w_128_121, w_128_124, w_128_125, w_128_126, w_128_127, w_128_128, w_128_131, w_128_132, w_128_133, w_128_136, w_128_141, w_128_143, one0, if_false, gf_22_38, gf_22_39, rs_m, rs_s, zI_L (show -2 ^ 31 ≤ q.1 by omega) (show q.1 < 2 ^ 31 by omega), f_div1 hc' hc4 hn]
          by_cases h0 : n < 0
          · rw [if_pos h0] at H
            rw [if_neg (show ¬ (0 : Int32) ≤ zI n from fun z => by have := (zI_le (a := 0) (by omega) (by omega) (by omega) (by omega)).mp z; omega)]
            cases hr : r_quo c 1 0 q.1 q.2 with
            | inl f =>
              rw [hr] at H
              show wK _ _ _ _ _ _ _ (.inl (some (.int 0))) _
              simp only [wI_some, wJ_some, wR_ref, wR_con, wO_some, s1_eq, s2_eq, dl_nil, dl_cons, dm_nil, dm_cons, lk_cons, cat_int, cat_long, cat_ref, cat_con, args_nil, args_int, args_long, args_ref, args_con, ct_nil, ct_cons, Nat.reduceBEq, Nat.reduceAdd, Nat.reduceLeDiff, Nat.reduceEqDiff, Bool.not_true, Bool.not_false, Bool.and_true, Bool.and_false, Bool.true_and, Bool.false_and, cond_true, cond_false, Nat.zero_add, Nat.add_zero, reduceCtorEq, Nat.zero_le, ui_at, ua_at, ul_at, wK_v, wK_n, wK_t, true_and, and_true, nb0, nb1, not_false_eq_true, not_true_eq_false, ci_0, ci_1, ci_3, ci_5, ci_7, ci_12, ci_15, ci_16, ci_21, ci_22, w_128_0, w_128_2, w_128_5, w_128_7, w_128_8, w_128_9, w_128_11, w_128_12, w_128_13, w_128_14, w_128_17, w_128_18, w_128_19, w_128_21, w_128_22, w_128_25, w_128_26, w_128_29, w_128_30, w_128_31, w_128_33, w_128_34, w_128_37, w_128_38, w_128_41, w_128_42, w_128_43, w_128_46, w_128_47, w_128_48, w_128_49, w_128_50, w_128_52, w_128_53, w_128_54, w_128_56, w_128_57, w_128_58, w_128_59, w_128_62, w_128_64, w_128_65, w_128_69, w_128_71, w_128_74, w_128_76, w_128_77, w_128_80, w_128_82, w_128_85, w_128_87, w_128_90, w_128_91, w_128_92, w_128_95, w_128_96, w_128_97, w_128_100, w_128_101, w_128_102, w_128_103, w_128_106, w_128_108, w_128_111, w_128_114, w_128_116, w_128_119, w_128_121, w_128_124, w_128_125, w_128_126, w_128_127, w_128_128, w_128_131, w_128_132, w_128_133, w_128_136, w_128_139, w_128_141, w_128_143]
              exact H _ bS_rs rfl
            | inr r =>
              rw [hr] at H
              show wK _ _ _ _ _ _ _ (.inl (some (.int 1))) (mk (rs (rs xi q.1 q.2) r.1 r.2) xa xl j)
              rw [rs_rs]
              simp only [wI_some, wJ_some, wR_ref, wR_con, wO_some, s1_eq, s2_eq, dl_nil, dl_cons, dm_nil, dm_cons, lk_cons, cat_int, cat_long, cat_ref, cat_con, args_nil, args_int, args_long, args_ref, args_con, ct_nil, ct_cons, Nat.reduceBEq, Nat.reduceAdd, Nat.reduceLeDiff, Nat.reduceEqDiff, Bool.not_true, Bool.not_false, Bool.and_true, Bool.and_false, Bool.true_and, Bool.false_and, cond_true, cond_false, Nat.zero_add, Nat.add_zero, reduceCtorEq, Nat.zero_le, ui_at, ua_at, ul_at, wK_v, wK_n, wK_t, true_and, and_true, nb0, nb1, not_false_eq_true, not_true_eq_false, ci_0, ci_1, ci_3, ci_5, ci_7, ci_12, ci_15, ci_16, ci_21, ci_22, w_128_0, w_128_2, w_128_5, w_128_7, w_128_8, w_128_9, w_128_11, w_128_12, w_128_13, w_128_14, w_128_17, w_128_18, w_128_19, w_128_21, w_128_22, w_128_25, w_128_26, w_128_29, w_128_30, w_128_31, w_128_33, w_128_34, w_128_37, w_128_38, w_128_41, w_128_42, w_128_43, w_128_46, w_128_47, w_128_48, w_128_49, w_128_50, w_128_52, w_128_53, w_128_54, w_128_56, w_128_57, w_128_58, w_128_59, w_128_62, w_128_64, w_128_65, w_128_69, w_128_71, w_128_74, w_128_76, w_128_77, w_128_80, w_128_82, w_128_85, w_128_87, w_128_90, w_128_91, w_128_92, w_128_95, w_128_96, w_128_97, w_128_100, w_128_101, w_128_102, w_128_103, w_128_106, w_128_108, w_128_111, w_128_114, w_128_116, w_128_119, w_128_121, w_128_124, w_128_125, w_128_126, w_128_127, w_128_128, w_128_131, w_128_132, w_128_133, w_128_136, w_128_139, w_128_141, w_128_143]
              exact H
          · rw [if_neg h0] at H
            rw [if_pos (show (0 : Int32) ≤ zI n from (zI_le (a := 0) (by omega) (by omega) (by omega) (by omega)).mpr (by omega))]
            exact H
      · have e : r_who b t (-99) 99 = .inl 5 := by unfold r_who; rw [if_neg n1, if_neg h2, if_neg h3]
        rw [e] at H
        rw [if_neg h3]
        exact H _ bS_f rfl
  · have e : r_who b t (-99) 99 = .inl 5 := by unfold r_who; rw [if_pos h1]
    rw [e] at H
    rw [if_pos h1]
    exact H _ bS_f rfl
theorem f_op1 {k : Int32} (hs : s ≤ 4) (ht : t ≤ 4) : dx_W (tb_Z L xs) d 123 0 [(0, .ref 22), (1, .int k), (2, .int (zI a)), (3, .int (nI s)), (4, .int (zI b)), (5, .int (nI t))] [] (mk xi xa xl j) Q ↔ dx_W (tb_Z L xs) d 123 14 [(6, .int (nI (max s t))), (0, .ref 22), (1, .int k), (2, .int (zI a)), (3, .int (nI s)), (4, .int (zI b)), (5, .int (nI t))] [] (mk xi xa xl j) Q := by
  simp only [wI_some, wJ_some, wR_ref, wR_con, wO_some, s1_eq, s2_eq, dl_nil, dl_cons, dm_nil, dm_cons, lk_cons, cat_int, cat_long, cat_ref, cat_con, args_nil, args_int, args_long, args_ref, args_con, ct_nil, ct_cons, Nat.reduceBEq, Nat.reduceAdd, Nat.reduceLeDiff, Nat.reduceEqDiff, Bool.not_true, Bool.not_false, Bool.and_true, Bool.and_false, Bool.true_and, Bool.false_and, cond_true, cond_false, Nat.zero_add, Nat.add_zero, reduceCtorEq, Nat.zero_le, ui_at, ua_at, ul_at, wK_v, wK_n, wK_t, true_and, and_true, nb0, nb1, not_false_eq_true, not_true_eq_false, ci_0, ci_1, ci_3, ci_5, ci_7, ci_12, ci_15, ci_16, ci_21, ci_22, w_123_0, w_123_1, w_123_3, w_123_6, w_123_7, w_123_10, w_123_12, w_123_15, w_123_16, w_123_18, w_123_19, w_123_20, w_123_23, w_123_24, w_123_26, w_123_28, w_123_29, w_123_31, w_123_33, w_123_34, w_123_37, w_123_38, w_123_40, w_123_41, w_123_92, w_123_93, w_123_95, w_123_97, w_123_98, w_123_100, w_123_103, w_123_104, w_123_105, w_123_107, w_123_109, w_123_110, w_123_112, w_123_115, w_123_116, w_123_117, w_123_118, w_123_119, w_123_120, w_123_122, w_123_123, w_123_125, w_123_128, w_123_129, w_123_130, w_123_131, w_123_132, w_123_133, w_123_135, w_123_136, w_123_138, w_123_141, w_123_142, w_123_143, w_123_144, w_123_145, w_123_147, w_123_149, w_123_152, w_123_153, w_123_155, w_123_158, w_123_159, w_123_160, w_123_163, w_123_164, w_123_165, w_123_166, w_123_168, w_123_170, w_123_171, w_123_173, w_123_176]
  by_cases h : s ≤ t
  · rw [if_pos (nI_le h (by omega)), show max s t = t by omega]
  · rw [if_neg (nI_ge (show t < s by omega) (by omega)), show max s t = s by omega]
theorem f_op {k : Int32} (hk : k = 37 ∨ k = 42 ∨ k = 43 ∨ k = 45 ∨ k = 47 ∨ k = 94) (hc : xi 1412 = nI c) (hc4 : c ≤ 4) (ha : nm a s) (hb : nm b t) (H : oR (r_op c k a s b t) xi xa xl j Q) : dx_M (tb_Z L xs) (d + 4) 123 [.ref 22, .int k, .int (zI a), .int (nI s), .int (zI b), .int (nI t)] (mk xi xa xl j) Q := by
  have hs := ha.2.2
  have ht := hb.2.2
  have h4 : max s t ≤ 4 := by omega
  have b1 := al_b ha h4
  have b2 := al_b hb h4
  have b3 := ten_4 (show max s t - t ≤ 4 by omega)
  have b5 := tm_b (y := b * 10 ^ (max s t - t)) b1.1 b1.2
  have a1 := ha.1
  have a2 := ha.2.1
  have a3 := hb.1
  have a4 := hb.2.1
  rw [dx_M_in (Nat.le_of_ble_eq_true rfl)]
  simp only [wI_some, wJ_some, wR_ref, wR_con, wO_some, s1_eq, s2_eq, dl_nil, dl_cons, dm_nil, dm_cons, lk_cons, cat_int, cat_long, cat_ref, cat_con, args_nil, args_int, args_long, args_ref, args_con, ct_nil, ct_cons, Nat.reduceBEq, Nat.reduceAdd, Nat.reduceLeDiff, Nat.reduceEqDiff, Bool.not_true, Bool.not_false, Bool.and_true, Bool.and_false, Bool.true_and, Bool.false_and, cond_true, cond_false, Nat.zero_add, Nat.add_zero, reduceCtorEq, Nat.zero_le, ui_at, ua_at, ul_at, wK_v, wK_n, wK_t, true_and, and_true, nb0, nb1, not_false_eq_true, not_true_eq_false, ci_0, ci_1, ci_3, ci_5, ci_7, ci_12, ci_15, ci_16, ci_21, ci_22]
  rw [f_op1 hs ht]
  simp only [wI_some, wJ_some, wR_ref, wR_con, wO_some, s1_eq, s2_eq, dl_nil, dl_cons, dm_nil, dm_cons, lk_cons, cat_int, cat_long, cat_ref, cat_con, args_nil, args_int, args_long, args_ref, args_con, ct_nil, ct_cons, Nat.reduceBEq, Nat.reduceAdd, Nat.reduceLeDiff, Nat.reduceEqDiff, Bool.not_true, Bool.not_false, Bool.and_true, Bool.and_false, Bool.true_and, Bool.false_and, cond_true, cond_false, Nat.zero_add, Nat.add_zero, reduceCtorEq, Nat.zero_le, ui_at, ua_at, ul_at, wK_v, wK_n, wK_t, true_and, and_true, nb0, nb1, not_false_eq_true, not_true_eq_false, ci_0, ci_1, ci_3, ci_5, ci_7, ci_12, ci_15, ci_16, ci_21, ci_22, w_123_0, w_123_1, w_123_3, w_123_6, w_123_7, w_123_10, w_123_12, w_123_14, w_123_15, w_123_16, w_123_18, w_123_19, w_123_20, w_123_23, w_123_24, w_123_26, w_123_28, w_123_29, w_123_31, w_123_33, w_123_34, w_123_37, w_123_38, w_123_40, w_123_41, w_123_92, w_123_93, w_123_95, w_123_97, w_123_98, w_123_100, w_123_104, w_123_105, w_123_107, w_123_109, w_123_110, w_123_112, w_123_116, w_123_117, w_123_118, w_123_119, w_123_120, w_123_122, w_123_123, w_123_125, w_123_129, w_123_130, w_123_131, w_123_132, w_123_133, w_123_135, w_123_136, w_123_138, w_123_142, w_123_143, w_123_144, w_123_145, w_123_147, w_123_149, w_123_155, w_123_158, w_123_159, w_123_160, w_123_163, w_123_164, w_123_165, w_123_166, w_123_168, w_123_170, w_123_171, w_123_173, zI_L (show -2 ^ 31 ≤ a by omega) (show a < 2 ^ 31 by omega), zI_L (show -2 ^ 31 ≤ b by omega) (show b < 2 ^ 31 by omega), pk_sub (show s ≤ max s t by omega), pk_sub (show t ≤ max s t by omega), f_ten (show max s t - s ≤ 8 by omega), f_ten (show max s t - t ≤ 8 by omega), zL_mul, zL_add, zL_sub, f_result (show -2 ^ 62 ≤ a * 10 ^ (max s t - s) + b * 10 ^ (max s t - t) by omega) (show a * 10 ^ (max s t - s) + b * 10 ^ (max s t - t) < 2 ^ 62 by omega), f_result (show -2 ^ 62 ≤ a * 10 ^ (max s t - s) - b * 10 ^ (max s t - t) by omega) (show a * 10 ^ (max s t - s) - b * 10 ^ (max s t - t) < 2 ^ 62 by omega), f_mul hc hc4 ha hb, f_div hc hc4 ha hb]
  unfold r_op at H
  by_cases k0 : k = 42
  · subst k0
    simp only [if_pos (rfl : (42 : Int32) = 42)]
    have H : oR (r_pro c a s b t) xi xa xl j Q := H
    refine (bR_ret (fun σ => ?_) (fun σ => ?_)).mpr (oR_b H)
    · simp only [wK_v, w_123_128, nb0, nb1, true_and]
    · simp only [wK_v, w_123_128, nb0, nb1, true_and]
  by_cases k1 : k = 43
  · subst k1
    simp only [if_neg k0, if_pos (rfl : (43 : Int32) = 43)]
    have H : oR (r_sum a s b t) xi xa xl j Q := H
    refine (bR_ret (fun σ => ?_) (fun σ => ?_)).mpr (oR_b H)
    · simp only [wK_v, w_123_103, nb0, nb1, true_and]
    · simp only [wK_v, w_123_103, nb0, nb1, true_and]
  by_cases k2 : k = 45
  · subst k2
    simp only [if_neg k0, if_neg k1, if_pos (rfl : (45 : Int32) = 45)]
    have H : oR (r_sum a s (-b) t) xi xa xl j Q := H
    have e : r_sum a s (-b) t = chk (a * 10 ^ (max s t - s) - b * 10 ^ (max s t - t)) (max s t) := by unfold r_sum; rw [Int.neg_mul, ← Int.sub_eq_add_neg]
    rw [e] at H
    refine (bR_ret (fun σ => ?_) (fun σ => ?_)).mpr (oR_b H)
    · simp only [wK_v, w_123_115, nb0, nb1, true_and]
    · simp only [wK_v, w_123_115, nb0, nb1, true_and]
  by_cases k3 : k = 47
  · subst k3
    simp only [if_neg k0, if_neg k1, if_neg k2, if_pos (rfl : (47 : Int32) = 47)]
    have H : oR (r_quo c a s b t) xi xa xl j Q := H
    refine (bR_ret (fun σ => ?_) (fun σ => ?_)).mpr (oR_b H)
    · simp only [wK_v, w_123_141, nb0, nb1, true_and]
    · simp only [wK_v, w_123_141, nb0, nb1, true_and]
  by_cases k4 : k = 94
  · subst k4
    simp only [if_neg k0, if_neg k1, if_neg k2, if_neg k3, if_pos (rfl : (94 : Int32) = 94)]
    have H : oR (r_pow c a s b t) xi xa xl j Q := H
    refine f_pow hc hc4 ha hb (oR_m H (fun σ z => ?_) (fun σ z => ?_))
    · simp only [wK_v, w_123_152, nb0, nb1, true_and]
      exact z
    · simp only [wK_v, w_123_152, nb0, nb1, true_and]
      exact z
  have k9 : k = 37 := by
    rcases hk with h | h | h | h | h | h
    · exact h
    · exact absurd h k0
    · exact absurd h k1
    · exact absurd h k2
    · exact absurd h k3
    · exact absurd h k4
  subst k9
  have H : oR (r_rem a s b t) xi xa xl j Q := H
  simp only [if_neg k0, if_neg k1, if_neg k2, if_neg k3, if_neg k4]
  unfold r_rem at H
  by_cases h0 : b = 0
  · rw [if_pos h0] at H
    subst h0
    simp only [wI_some, wJ_some, wR_ref, wR_con, wO_some, s1_eq, s2_eq, dl_nil, dl_cons, dm_nil, dm_cons, lk_cons, cat_int, cat_long, cat_ref, cat_con, args_nil, args_int, args_long, args_ref, args_con, ct_nil, ct_cons, Nat.reduceBEq, Nat.reduceAdd, Nat.reduceLeDiff, Nat.reduceEqDiff, Bool.not_true, Bool.not_false, Bool.and_true, Bool.and_false, Bool.true_and, Bool.false_and, cond_true, cond_false, Nat.zero_add, Nat.add_zero, reduceCtorEq, Nat.zero_le, ui_at, ua_at, ul_at, wK_v, wK_n, wK_t, true_and, and_true, nb0, nb1, not_false_eq_true, not_true_eq_false, ci_0, ci_1, ci_3, ci_5, ci_7, ci_12, ci_15, ci_16, ci_21, ci_22, w_123_0, w_123_1, w_123_3, w_123_6, w_123_7, w_123_10, w_123_12, w_123_14, w_123_15, w_123_16, w_123_18, w_123_19, w_123_20, w_123_23, w_123_24, w_123_26, w_123_28, w_123_29, w_123_31, w_123_33, w_123_34, w_123_37, w_123_38, w_123_40, w_123_41, w_123_92, w_123_93, w_123_95, w_123_97, w_123_98, w_123_100, w_123_103, w_123_104, w_123_105, w_123_107, w_123_109, w_123_110, w_123_112, w_123_115, w_123_116, w_123_117, w_123_118, w_123_119, w_123_120, w_123_122, w_123_123, w_123_125, w_123_128, w_123_129, w_123_130, w_123_131, w_123_132, w_123_133, w_123_135, w_123_136, w_123_138, w_123_141, w_123_142, w_123_143, w_123_144, w_123_145, w_123_147, w_123_149, w_123_152, w_123_153, w_123_155, w_123_158, w_123_159, w_123_160, w_123_163, w_123_164, w_123_165, w_123_166, w_123_168, w_123_170, w_123_171, w_123_173, w_123_176, (show (zI 0 = 0) = True from eq_true rfl), not_true_eq_false, if_false, sf_22_34]
    exact H _ bS_f rfl
  rw [if_neg h0] at H
  have b6 : ¬ b * 10 ^ (max s t - t) = 0 := Int.mul_ne_zero h0 (by omega)
  have b7 : ¬ zI b = 0 := fun z => h0 ((zI_eq (b := 0) (by omega) (by omega) (by omega) (by omega)).mp z)
  simp only [wI_some, wJ_some, wR_ref, wR_con, wO_some, s1_eq, s2_eq, dl_nil, dl_cons, dm_nil, dm_cons, lk_cons, cat_int, cat_long, cat_ref, cat_con, args_nil, args_int, args_long, args_ref, args_con, ct_nil, ct_cons, Nat.reduceBEq, Nat.reduceAdd, Nat.reduceLeDiff, Nat.reduceEqDiff, Bool.not_true, Bool.not_false, Bool.and_true, Bool.and_false, Bool.true_and, Bool.false_and, cond_true, cond_false, Nat.zero_add, Nat.add_zero, reduceCtorEq, Nat.zero_le, ui_at, ua_at, ul_at, wK_v, wK_n, wK_t, true_and, and_true, nb0, nb1, not_false_eq_true, not_true_eq_false, ci_0, ci_1, ci_3, ci_5, ci_7, ci_12, ci_15, ci_16, ci_21, ci_22, w_123_0, w_123_1, w_123_3, w_123_6, w_123_7, w_123_10, w_123_12, w_123_14, w_123_15, w_123_16, w_123_18, w_123_19, w_123_20, w_123_23, w_123_24, w_123_26, w_123_28, w_123_29, w_123_31, w_123_33, w_123_34, w_123_37, w_123_38, w_123_40, w_123_41, w_123_92, w_123_93, w_123_95, w_123_97, w_123_98, w_123_100, w_123_103, w_123_104, w_123_105, w_123_107, w_123_109, w_123_110, w_123_112, w_123_115, w_123_116, w_123_117, w_123_118, w_123_119, w_123_120, w_123_122, w_123_123, w_123_125, w_123_128, w_123_129, w_123_130, w_123_131, w_123_132, w_123_133, w_123_135, w_123_136, w_123_138, w_123_141, w_123_142, w_123_143, w_123_144, w_123_145, w_123_147, w_123_149, w_123_152, w_123_153, w_123_155, w_123_158, w_123_159, w_123_160, w_123_163, w_123_164, w_123_165, w_123_166, w_123_168, w_123_170, w_123_171, w_123_173, if_pos b7, zl_ne b6 (by omega) (by omega), zL_rem (show -2 ^ 63 ≤ a * 10 ^ (max s t - s) by omega) (show a * 10 ^ (max s t - s) < 2 ^ 63 by omega) (show -2 ^ 63 ≤ b * 10 ^ (max s t - t) by omega) (show b * 10 ^ (max s t - t) < 2 ^ 63 by omega), f_result (show -2 ^ 62 ≤ (a * 10 ^ (max s t - s)).tmod (b * 10 ^ (max s t - t)) by omega) (show (a * 10 ^ (max s t - s)).tmod (b * 10 ^ (max s t - t)) < 2 ^ 62 by omega)]
  refine (bR_ret (fun σ => ?_) (fun σ => ?_)).mpr (oR_b H)
  · simp only [wK_v, w_123_176, nb0, nb1, true_and]
  · simp only [wK_v, w_123_176, nb0, nb1, true_and]
end AT
