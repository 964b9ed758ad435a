/-! Further small methods of class and reference. -/
section AU
variable {L : Nat} {xs : Nat → Int32} {d : Nat} {σ : dx_S} {Q : dx_O → dx_S → Prop} {xi : Nat → Int32} {xa : Nat → Nat → Int32} {xl : Nat → Nat → Int64} {j : dx_S} {a b m : Int} {s t p c : Nat}
/-- the first k of a row set to v -/
def fl (f : Nat → Int32) (k : Nat) (v : Int32) : Nat → Int32 := fun i => if i < k then v else f i
def flL (f : Nat → Int64) (k : Nat) (v : Int64) : Nat → Int64 := fun i => if i < k then v else f i
theorem fl_0 {f : Nat → Int32} {v : Int32} : fl f 0 v = f := by
  funext i
  exact if_neg (by omega)
theorem flL_0 {f : Nat → Int64} {v : Int64} : flL f 0 v = f := by
  funext i
  exact if_neg (by omega)
theorem fl_s {f : Nat → Int32} {k : Nat} {v : Int32} : upd (fl f k v) k v = fl f (k + 1) v := by
  funext i
  show (if i = k then v else if i < k then v else f i) = if i < k + 1 then v else f i
  by_cases h : i = k
  · rw [if_pos h, if_pos (by omega)]
  · rw [if_neg h]
    by_cases h2 : i < k
    · rw [if_pos h2, if_pos (by omega)]
    · rw [if_neg h2, if_neg (by omega)]
theorem flL_s {f : Nat → Int64} {k : Nat} {v : Int64} : vp_updL (flL f k v) k v = flL f (k + 1) v := by
  funext i
  show (if i = k then v else if i < k then v else f i) = if i < k + 1 then v else f i
  by_cases h : i = k
  · rw [if_pos h, if_pos (by omega)]
  · rw [if_neg h]
    by_cases h2 : i < k
    · rw [if_pos h2, if_pos (by omega)]
    · rw [if_neg h2, if_neg (by omega)]
theorem l_fillL {v : Int64} : ∀ n i, n + i = 26 → (dx_W (tb_Z L xs) d 149 6 [(3, .int (nI i)), (4, .int 26), (0, .ref 4), (1, .long v)] [] (mk xi xa (ul xl 4 (flL (xl 4) i v)) j) Q ↔ Q (.inl none) (mk xi xa (ul xl 4 (flL (xl 4) 26 v)) j)) := by
  intro n
  induction n with
  | zero =>
    intro i hi
    have e : i = 26 := by omega
    subst e
    rw [w_149_6]
    simp only [wI_some, wJ_some, wR_ref, wR_con, wO_some, s1_eq, s2_eq, dl_nil, dl_cons, dm_nil, dm_cons, lk_cons, cat_int, cat_long, cat_ref, cat_con, args_nil, args_int, args_long, args_ref, args_con, ct_nil, ct_cons, Nat.reduceBEq, Nat.reduceAdd, Nat.reduceLeDiff, Nat.reduceEqDiff, Bool.not_true, Bool.not_false, Bool.and_true, Bool.and_false, Bool.true_and, Bool.false_and, cond_true, cond_false, Nat.zero_add, Nat.add_zero, reduceCtorEq, Nat.zero_le, ui_at, ua_at, ul_at, wK_v, wK_n, wK_t, true_and, and_true, nb0, nb1, not_false_eq_true, not_true_eq_false, ci_0, ci_1, ci_3, ci_5, ci_7, ci_12, ci_15, ci_16, ci_21, ci_22, w_149_0, w_149_1, w_149_2, w_149_3, w_149_4, w_149_7, w_149_9, w_149_12, w_149_13, w_149_14, w_149_15, w_149_16, w_149_19, w_149_22]
    rw [if_pos (by decide)]
  | succ n ih =>
    intro i hi
    have hv : vp_in (nI i) 26 := vp_in_nI (by omega) (by decide)
    rw [w_149_6]
    simp only [wI_some, wJ_some, wR_ref, wR_con, wO_some, s1_eq, s2_eq, dl_nil, dl_cons, dm_nil, dm_cons, lk_cons, cat_int, cat_long, cat_ref, cat_con, args_nil, args_int, args_long, args_ref, args_con, ct_nil, ct_cons, Nat.reduceBEq, Nat.reduceAdd, Nat.reduceLeDiff, Nat.reduceEqDiff, Bool.not_true, Bool.not_false, Bool.and_true, Bool.and_false, Bool.true_and, Bool.false_and, cond_true, cond_false, Nat.zero_add, Nat.add_zero, reduceCtorEq, Nat.zero_le, ui_at, ua_at, ul_at, wK_v, wK_n, wK_t, true_and, and_true, nb0, nb1, not_false_eq_true, not_true_eq_false, ci_0, ci_1, ci_3, ci_5, ci_7, ci_12, ci_15, ci_16, ci_21, ci_22, w_149_0, w_149_1, w_149_2, w_149_3, w_149_4, w_149_7, w_149_9, w_149_12, w_149_13, w_149_14, w_149_15, w_149_16, w_149_19, w_149_22, sa_4 hv, ul_ul, nI_1]
    rw [if_neg (show ¬ (26 : Int32) ≤ nI i from nI_ge (b := 26) (by omega) (by decide)), nI_clamp (by omega), flL_s]
    exact ih (i + 1) (by omega)
theorem l_fillI {v : Int32} : ∀ n i, n + i = 26 → (dx_W (tb_Z L xs) d 150 5 [(2, .int (nI i)), (3, .int 26), (0, .ref 10), (1, .int v)] [] (mk xi (ua xa 10 (fl (xa 10) i v)) xl j) Q ↔ Q (.inl none) (mk xi (ua xa 10 (fl (xa 10) 26 v)) xl j)) := by
  intro n
  induction n with
  | zero =>
    intro i hi
    have e : i = 26 := by omega
    subst e
    rw [w_150_5]
    simp only [wI_some, wJ_some, wR_ref, wR_con, wO_some, s1_eq, s2_eq, dl_nil, dl_cons, dm_nil, dm_cons, lk_cons, cat_int, cat_long, cat_ref, cat_con, args_nil, args_int, args_long, args_ref, args_con, ct_nil, ct_cons, Nat.reduceBEq, Nat.reduceAdd, Nat.reduceLeDiff, Nat.reduceEqDiff, Bool.not_true, Bool.not_false, Bool.and_true, Bool.and_false, Bool.true_and, Bool.false_and, cond_true, cond_false, Nat.zero_add, Nat.add_zero, reduceCtorEq, Nat.zero_le, ui_at, ua_at, ul_at, wK_v, wK_n, wK_t, true_and, and_true, nb0, nb1, not_false_eq_true, not_true_eq_false, ci_0, ci_1, ci_3, ci_5, ci_7, ci_12, ci_15, ci_16, ci_21, ci_22, w_150_0, w_150_1, w_150_2, w_150_3, w_150_4, w_150_6, w_150_7, w_150_10, w_150_11, w_150_12, w_150_13, w_150_14, w_150_17, w_150_20]
    rw [if_pos (by decide)]
  | succ n ih =>
    intro i hi
    have hv : vp_in (nI i) 26 := vp_in_nI (by omega) (by decide)
    rw [w_150_5]
    simp only [wI_some, wJ_some, wR_ref, wR_con, wO_some, s1_eq, s2_eq, dl_nil, dl_cons, dm_nil, dm_cons, lk_cons, cat_int, cat_long, cat_ref, cat_con, args_nil, args_int, args_long, args_ref, args_con, ct_nil, ct_cons, Nat.reduceBEq, Nat.reduceAdd, Nat.reduceLeDiff, Nat.reduceEqDiff, Bool.not_true, Bool.not_false, Bool.and_true, Bool.and_false, Bool.true_and, Bool.false_and, cond_true, cond_false, Nat.zero_add, Nat.add_zero, reduceCtorEq, Nat.zero_le, ui_at, ua_at, ul_at, wK_v, wK_n, wK_t, true_and, and_true, nb0, nb1, not_false_eq_true, not_true_eq_false, ci_0, ci_1, ci_3, ci_5, ci_7, ci_12, ci_15, ci_16, ci_21, ci_22, w_150_0, w_150_1, w_150_2, w_150_3, w_150_4, w_150_6, w_150_7, w_150_10, w_150_11, w_150_12, w_150_13, w_150_14, w_150_17, w_150_20, sa_10 hv, ua_ua, nI_1]
    rw [if_neg (show ¬ (26 : Int32) ≤ nI i from nI_ge (b := 26) (by omega) (by decide)), nI_clamp (by omega), fl_s]
    exact ih (i + 1) (by omega)
theorem e_fillL {v : Int64} : dx_M (tb_Z L xs) (d + 1) 149 [.ref 4, .long v] (mk xi xa xl j) Q ↔ Q (.inl none) (mk xi xa (ul xl 4 (flL (xl 4) 26 v)) j) := by
  have hv : vp_in (0 : Int32) 26 := vp_in_nI (n := 0) (by omega) (by decide)
  have e : vp_updL (xl 4) (0 : Int32).toNatClampNeg v = flL (xl 4) 1 v := by
    rw [← flL_s, flL_0]
    rfl
  rw [dx_M_in (Nat.le_of_ble_eq_true rfl)]
  simp only [wI_some, wJ_some, wR_ref, wR_con, wO_some, s1_eq, s2_eq, dl_nil, dl_cons, dm_nil, dm_cons, lk_cons, cat_int, cat_long, cat_ref, cat_con, args_nil, args_int, args_long, args_ref, args_con, ct_nil, ct_cons, Nat.reduceBEq, Nat.reduceAdd, Nat.reduceLeDiff, Nat.reduceEqDiff, Bool.not_true, Bool.not_false, Bool.and_true, Bool.and_false, Bool.true_and, Bool.false_and, cond_true, cond_false, Nat.zero_add, Nat.add_zero, reduceCtorEq, Nat.zero_le, ui_at, ua_at, ul_at, wK_v, wK_n, wK_t, true_and, and_true, nb0, nb1, not_false_eq_true, not_true_eq_false, ci_0, ci_1, ci_3, ci_5, ci_7, ci_12, ci_15, ci_16, ci_21, ci_22, w_149_0, w_149_1, w_149_2, w_149_3, w_149_4, w_149_7, w_149_9, w_149_12, w_149_13, w_149_14, w_149_15, w_149_16, w_149_19, w_149_22, an_4]
  rw [w_149_6]
  simp only [wI_some, wJ_some, wR_ref, wR_con, wO_some, s1_eq, s2_eq, dl_nil, dl_cons, dm_nil, dm_cons, lk_cons, cat_int, cat_long, cat_ref, cat_con, args_nil, args_int, args_long, args_ref, args_con, ct_nil, ct_cons, Nat.reduceBEq, Nat.reduceAdd, Nat.reduceLeDiff, Nat.reduceEqDiff, Bool.not_true, Bool.not_false, Bool.and_true, Bool.and_false, Bool.true_and, Bool.false_and, cond_true, cond_false, Nat.zero_add, Nat.add_zero, reduceCtorEq, Nat.zero_le, ui_at, ua_at, ul_at, wK_v, wK_n, wK_t, true_and, and_true, nb0, nb1, not_false_eq_true, not_true_eq_false, ci_0, ci_1, ci_3, ci_5, ci_7, ci_12, ci_15, ci_16, ci_21, ci_22, w_149_0, w_149_1, w_149_2, w_149_3, w_149_4, w_149_7, w_149_9, w_149_12, w_149_13, w_149_14, w_149_15, w_149_16, w_149_19, w_149_22, sa_4 hv]
  rw [if_neg (by decide), e]
  exact l_fillL 25 1 rfl
theorem e_fillI {v : Int32} : dx_M (tb_Z L xs) (d + 1) 150 [.ref 10, .int v] (mk xi xa xl j) Q ↔ Q (.inl none) (mk xi (ua xa 10 (fl (xa 10) 26 v)) xl j) := by
  have hv : vp_in (0 : Int32) 26 := vp_in_nI (n := 0) (by omega) (by decide)
  have e : upd (xa 10) (0 : Int32).toNatClampNeg v = fl (xa 10) 1 v := by
    rw [← fl_s, fl_0]
    rfl
  rw [dx_M_in (Nat.le_of_ble_eq_true rfl)]
  simp only [wI_some, wJ_some, wR_ref, wR_con, wO_some, s1_eq, s2_eq, dl_nil, dl_cons, dm_nil, dm_cons, lk_cons, cat_int, cat_long, cat_ref, cat_con, args_nil, args_int, args_long, args_ref, args_con, ct_nil, ct_cons, Nat.reduceBEq, Nat.reduceAdd, Nat.reduceLeDiff, Nat.reduceEqDiff, Bool.not_true, Bool.not_false, Bool.and_true, Bool.and_false, Bool.true_and, Bool.false_and, cond_true, cond_false, Nat.zero_add, Nat.add_zero, reduceCtorEq, Nat.zero_le, ui_at, ua_at, ul_at, wK_v, wK_n, wK_t, true_and, and_true, nb0, nb1, not_false_eq_true, not_true_eq_false, ci_0, ci_1, ci_3, ci_5, ci_7, ci_12, ci_15, ci_16, ci_21, ci_22, w_150_0, w_150_1, w_150_2, w_150_3, w_150_4, w_150_6, w_150_7, w_150_10, w_150_11, w_150_12, w_150_13, w_150_14, w_150_17, w_150_20, an_10]
  rw [w_150_5]
  simp only [wI_some, wJ_some, wR_ref, wR_con, wO_some, s1_eq, s2_eq, dl_nil, dl_cons, dm_nil, dm_cons, lk_cons, cat_int, cat_long, cat_ref, cat_con, args_nil, args_int, args_long, args_ref, args_con, ct_nil, ct_cons, Nat.reduceBEq, Nat.reduceAdd, Nat.reduceLeDiff, Nat.reduceEqDiff, Bool.not_true, Bool.not_false, Bool.and_true, Bool.and_false, Bool.true_and, Bool.false_and, cond_true, cond_false, Nat.zero_add, Nat.add_zero, reduceCtorEq, Nat.zero_le, ui_at, ua_at, ul_at, wK_v, wK_n, wK_t, true_and, and_true, nb0, nb1, not_false_eq_true, not_true_eq_false, ci_0, ci_1, ci_3, ci_5, ci_7, ci_12, ci_15, ci_16, ci_21, ci_22, w_150_0, w_150_1, w_150_2, w_150_3, w_150_4, w_150_6, w_150_7, w_150_10, w_150_11, w_150_12, w_150_13, w_150_14, w_150_17, w_150_20, sa_10 hv]
  rw [if_neg (by decide), e]
  exact l_fillI 25 1 rfl
theorem e_forget : dx_M (tb_Z L xs) (d + 2) 19 [.ref 3] (mk xi xa xl j) Q ↔ Q (.inl none) (mk (ui xi 193 0) xa (ul xl 4 (flL (xl 4) 26 0)) j) := by
  rw [dx_M_in (Nat.le_of_ble_eq_true rfl)]
  simp only [wI_some, wJ_some, wR_ref, wR_con, wO_some, s1_eq, s2_eq, dl_nil, dl_cons, dm_nil, dm_cons, lk_cons, cat_int, cat_long, cat_ref, cat_con, args_nil, args_int, args_long, args_ref, args_con, ct_nil, ct_cons, Nat.reduceBEq, Nat.reduceAdd, Nat.reduceLeDiff, Nat.reduceEqDiff, Bool.not_true, Bool.not_false, Bool.and_true, Bool.and_false, Bool.true_and, Bool.false_and, cond_true, cond_false, Nat.zero_add, Nat.add_zero, reduceCtorEq, Nat.zero_le, ui_at, ua_at, ul_at, wK_v, wK_n, wK_t, true_and, and_true, nb0, nb1, not_false_eq_true, not_true_eq_false, ci_0, ci_1, ci_3, ci_5, ci_7, ci_12, ci_15, ci_16, ci_21, ci_22, w_19_0, w_19_1, w_19_4, w_19_5, w_19_8, w_19_9, w_19_10, w_19_13, gf_3_0, e_fillL, sf_3_1]
theorem e_reset : dx_M (tb_Z L xs) (d + 3) 4 [.ref 0] (mk xi xa xl j) Q ↔ Q (.inl none) (mk (ui xi 193 0) xa (ul xl 4 (flL (xl 4) 26 0)) j) := by
  rw [dx_M_in (Nat.le_of_ble_eq_true rfl)]
  simp only [wI_some, wJ_some, wR_ref, wR_con, wO_some, s1_eq, s2_eq, dl_nil, dl_cons, dm_nil, dm_cons, lk_cons, cat_int, cat_long, cat_ref, cat_con, args_nil, args_int, args_long, args_ref, args_con, ct_nil, ct_cons, Nat.reduceBEq, Nat.reduceAdd, Nat.reduceLeDiff, Nat.reduceEqDiff, Bool.not_true, Bool.not_false, Bool.and_true, Bool.and_false, Bool.true_and, Bool.false_and, cond_true, cond_false, Nat.zero_add, Nat.add_zero, reduceCtorEq, Nat.zero_le, ui_at, ua_at, ul_at, wK_v, wK_n, wK_t, true_and, and_true, nb0, nb1, not_false_eq_true, not_true_eq_false, ci_0, ci_1, ci_3, ci_5, ci_7, ci_12, ci_15, ci_16, ci_21, ci_22, w_4_0, w_4_1, w_4_4, w_4_7, gf_0_1, e_forget]
theorem e_cbegin : dx_M (tb_Z L xs) (d + 2) 27 [.ref 7] (mk xi xa xl j) Q ↔ Q (.inl none) (mk (ui xi 452 0) (ua xa 10 (fl (xa 10) 26 (-1))) xl j) := by
  rw [dx_M_in (Nat.le_of_ble_eq_true rfl)]
  simp only [wI_some, wJ_some, wR_ref, wR_con, wO_some, s1_eq, s2_eq, dl_nil, dl_cons, dm_nil, dm_cons, lk_cons, cat_int, cat_long, cat_ref, cat_con, args_nil, args_int, args_long, args_ref, args_con, ct_nil, ct_cons, Nat.reduceBEq, Nat.reduceAdd, Nat.reduceLeDiff, Nat.reduceEqDiff, Bool.not_true, Bool.not_false, Bool.and_true, Bool.and_false, Bool.true_and, Bool.false_and, cond_true, cond_false, Nat.zero_add, Nat.add_zero, reduceCtorEq, Nat.zero_le, ui_at, ua_at, ul_at, wK_v, wK_n, wK_t, true_and, and_true, nb0, nb1, not_false_eq_true, not_true_eq_false, ci_0, ci_1, ci_3, ci_5, ci_7, ci_12, ci_15, ci_16, ci_21, ci_22, w_27_0, w_27_1, w_27_2, w_27_5, w_27_6, w_27_9, w_27_10, w_27_13, gf_7_2, e_fillI, sf_7_4]
theorem e_land (hc : xi 452 = nI c) (hc2 : c ≤ 600) (hs : s < c) : dx_M (tb_Z L xs) (d + 1) 31 [.ref 7, .int (nI s)] (mk xi xa xl j) Q ↔ Q (.inl none) (mk xi xa (ul xl 9 (vp_updL (xl 9) s (zL c))) j) := by
  rw [dx_M_in (Nat.le_of_ble_eq_true rfl)]
  simp only [wI_some, wJ_some, wR_ref, wR_con, wO_some, s1_eq, s2_eq, dl_nil, dl_cons, dm_nil, dm_cons, lk_cons, cat_int, cat_long, cat_ref, cat_con, args_nil, args_int, args_long, args_ref, args_con, ct_nil, ct_cons, Nat.reduceBEq, Nat.reduceAdd, Nat.reduceLeDiff, Nat.reduceEqDiff, Bool.not_true, Bool.not_false, Bool.and_true, Bool.and_false, Bool.true_and, Bool.false_and, cond_true, cond_false, Nat.zero_add, Nat.add_zero, reduceCtorEq, Nat.zero_le, ui_at, ua_at, ul_at, wK_v, wK_n, wK_t, true_and, and_true, nb0, nb1, not_false_eq_true, not_true_eq_false, ci_0, ci_1, ci_3, ci_5, ci_7, ci_12, ci_15, ci_16, ci_21, ci_22, w_31_0, w_31_1, w_31_4, w_31_5, w_31_6, w_31_9, w_31_12, w_31_13, w_31_16, w_31_17, w_31_18, w_31_21, w_31_22, w_31_23, gf_7_4, gf_7_1, hc, sa_9 (vp_in_nI (show s < 600 by omega) (by decide)), nI_L (show c < 2 ^ 31 by omega), nI_clamp (show s < 2 ^ 31 by omega)]
  rw [if_neg (nI_pos (by omega)), if_neg (nI_ge hs (by omega))]
theorem e_step (hs : xi 323 = nI s) (ht : xi 324 = nI t) (hst : s ≤ t) (ht2 : t ≤ 2000) : dx_M (tb_Z L xs) (d + 2) 23 [.ref 5] (mk xi xa xl j) Q ↔ (if s < t then Q (.inl none) (mk (ui xi 323 (nI (s + 1))) xa xl j) else Q (.inr (46 + j.length)) (mk (ui xi 322 4) xa xl (j ++ [.inr (exc 4, [])]))) := by
  rw [dx_M_in (Nat.le_of_ble_eq_true rfl)]
  simp only [wI_some, wJ_some, wR_ref, wR_con, wO_some, s1_eq, s2_eq, dl_nil, dl_cons, dm_nil, dm_cons, lk_cons, cat_int, cat_long, cat_ref, cat_con, args_nil, args_int, args_long, args_ref, args_con, ct_nil, ct_cons, Nat.reduceBEq, Nat.reduceAdd, Nat.reduceLeDiff, Nat.reduceEqDiff, Bool.not_true, Bool.not_false, Bool.and_true, Bool.and_false, Bool.true_and, Bool.false_and, cond_true, cond_false, Nat.zero_add, Nat.add_zero, reduceCtorEq, Nat.zero_le, ui_at, ua_at, ul_at, wK_v, wK_n, wK_t, true_and, and_true, nb0, nb1, not_false_eq_true, not_true_eq_false, ci_0, ci_1, ci_3, ci_5, ci_7, ci_12, ci_15, ci_16, ci_21, ci_22, w_23_0, w_23_1, w_23_4, w_23_5, w_23_8, w_23_11, w_23_12, w_23_13, w_23_16, w_23_17_int, w_23_17_ref, w_23_17_retAddr, w_23_18, w_23_21, w_23_22, w_23_23, w_23_26, gf_5_3, gf_5_4, sf_5_3, hs, ht, e_raise, nI_1]
  by_cases h : s < t
  · rw [if_pos (nI_lt h (by omega)), if_pos h]
  · rw [if_neg (nI_nlt (by omega) (by omega)), if_neg h]
theorem e_out {i : Int32} (hs : xi 321 = nI s) (hs2 : s ≤ 300) : dx_M (tb_Z L xs) (d + 1) 8 [.ref 0, .int i] (mk xi xa xl j) Q ↔ Q (.inl (some (.int (if i < 0 then -1 else if nI s ≤ i then -1 else xa 6 i.toNatClampNeg)))) (mk xi xa xl j) := by
  rw [dx_M_in (Nat.le_of_ble_eq_true rfl)]
  simp only [wI_some, wJ_some, wR_ref, wR_con, wO_some, s1_eq, s2_eq, dl_nil, dl_cons, dm_nil, dm_cons, lk_cons, cat_int, cat_long, cat_ref, cat_con, args_nil, args_int, args_long, args_ref, args_con, ct_nil, ct_cons, Nat.reduceBEq, Nat.reduceAdd, Nat.reduceLeDiff, Nat.reduceEqDiff, Bool.not_true, Bool.not_false, Bool.and_true, Bool.and_false, Bool.true_and, Bool.false_and, cond_true, cond_false, Nat.zero_add, Nat.add_zero, reduceCtorEq, Nat.zero_le, ui_at, ua_at, ul_at, wK_v, wK_n, wK_t, true_and, and_true, nb0, nb1, not_false_eq_true, not_true_eq_false, ci_0, ci_1, ci_3, ci_5, ci_7, ci_12, ci_15, ci_16, ci_21, ci_22, w_8_0, w_8_1, w_8_4, w_8_5, w_8_6, w_8_9, w_8_12, w_8_15, w_8_16, w_8_19, w_8_22, w_8_24, w_8_27, w_8_28, gf_0_2, gf_5_1, gf_5_0, hs]
  by_cases h : i < 0
  · rw [if_pos h, if_pos h]
  rw [if_neg h, if_neg h]
  by_cases h2 : nI s ≤ i
  · rw [if_pos h2, if_pos h2]
  rw [if_neg h2, if_neg h2]
  obtain ⟨q, hq, e⟩ := nI_of h
  subst e
  have h3 : q < s := by
    exact Nat.lt_of_not_le (fun z => h2 ((nI_leI (a := s) (b := q) (by omega) hq).mpr z))
  simp only [w_8_23, ga_6 (vp_in_nI (show q < 300 by omega) (by decide)), wO_some, w_8_24, w_8_28]
theorem f_out {i : Int32} (hs : xi 1445 = nI s) (hs2 : s ≤ 300) : dx_M (tb_Z L xs) (d + 1) 139 [.ref 22, .int i] (mk xi xa xl j) Q ↔ Q (.inl (some (.int (if i < 0 then -1 else if nI s ≤ i then -1 else xa 44 i.toNatClampNeg)))) (mk xi xa xl j) := by
  rw [dx_M_in (Nat.le_of_ble_eq_true rfl)]
  simp only [wI_some, wJ_some, wR_ref, wR_con, wO_some, s1_eq, s2_eq, dl_nil, dl_cons, dm_nil, dm_cons, lk_cons, cat_int, cat_long, cat_ref, cat_con, args_nil, args_int, args_long, args_ref, args_con, ct_nil, ct_cons, Nat.reduceBEq, Nat.reduceAdd, Nat.reduceLeDiff, Nat.reduceEqDiff, Bool.not_true, Bool.not_false, Bool.and_true, Bool.and_false, Bool.true_and, Bool.false_and, cond_true, cond_false, Nat.zero_add, Nat.add_zero, reduceCtorEq, Nat.zero_le, ui_at, ua_at, ul_at, wK_v, wK_n, wK_t, true_and, and_true, nb0, nb1, not_false_eq_true, not_true_eq_false, ci_0, ci_1, ci_3, ci_5, ci_7, ci_12, ci_15, ci_16, ci_21, ci_22, w_139_0, w_139_1, w_139_4, w_139_5, w_139_6, w_139_9, w_139_12, w_139_13, w_139_16, w_139_18, w_139_21, w_139_22, gf_22_36, gf_22_37, hs]
  by_cases h : i < 0
  · rw [if_pos h, if_pos h]
  rw [if_neg h, if_neg h]
  by_cases h2 : nI s ≤ i
  · rw [if_pos h2, if_pos h2]
  rw [if_neg h2, if_neg h2]
  obtain ⟨q, hq, e⟩ := nI_of h
  subst e
  have h3 : q < s := by
    exact Nat.lt_of_not_le (fun z => h2 ((nI_leI (a := s) (b := q) (by omega) hq).mpr z))
  simp only [w_139_17, ga_44 (vp_in_nI (show q < 300 by omega) (by decide)), wO_some, w_139_18, w_139_22]
theorem f_var {i : Int32} : dx_M (tb_Z L xs) (d + 1) 140 [.ref 22, .int i] (mk xi xa xl j) Q ↔ Q (.inl (some (.int (if i < 0 then 0 else if 26 ≤ i then 0 else xa 24 i.toNatClampNeg)))) (mk xi xa xl j) := by
  rw [dx_M_in (Nat.le_of_ble_eq_true rfl)]
  simp only [wI_some, wJ_some, wR_ref, wR_con, wO_some, s1_eq, s2_eq, dl_nil, dl_cons, dm_nil, dm_cons, lk_cons, cat_int, cat_long, cat_ref, cat_con, args_nil, args_int, args_long, args_ref, args_con, ct_nil, ct_cons, Nat.reduceBEq, Nat.reduceAdd, Nat.reduceLeDiff, Nat.reduceEqDiff, Bool.not_true, Bool.not_false, Bool.and_true, Bool.and_false, Bool.true_and, Bool.false_and, cond_true, cond_false, Nat.zero_add, Nat.add_zero, reduceCtorEq, Nat.zero_le, ui_at, ua_at, ul_at, wK_v, wK_n, wK_t, true_and, and_true, nb0, nb1, not_false_eq_true, not_true_eq_false, ci_0, ci_1, ci_3, ci_5, ci_7, ci_12, ci_15, ci_16, ci_21, ci_22, w_140_0, w_140_1, w_140_4, w_140_5, w_140_7, w_140_10, w_140_11, w_140_14, w_140_16, w_140_19, w_140_20, gf_22_2, gf_22_3]
  by_cases h : i < 0
  · rw [if_pos h, if_pos h]
  rw [if_neg h, if_neg h]
  by_cases h2 : 26 ≤ i
  · rw [if_pos h2, if_pos h2]
  rw [if_neg h2, if_neg h2]
  obtain ⟨q, hq, e⟩ := nI_of h
  subst e
  have h3 : q < 26 := by
    exact Nat.lt_of_not_le (fun z => h2 ((nI_leI (a := 26) (b := q) (by omega) hq).mpr z))
  simp only [w_140_15, ga_24 (vp_in_nI (show q < 26 by omega) (by decide)), wO_some, w_140_16, w_140_20]
theorem f_dec {i : Int32} : dx_M (tb_Z L xs) (d + 1) 141 [.ref 22, .int i] (mk xi xa xl j) Q ↔ Q (.inl (some (.int (if i < 0 then -1 else if 26 ≤ i then -1 else xa 25 i.toNatClampNeg)))) (mk xi xa xl j) := by
  rw [dx_M_in (Nat.le_of_ble_eq_true rfl)]
  simp only [wI_some, wJ_some, wR_ref, wR_con, wO_some, s1_eq, s2_eq, dl_nil, dl_cons, dm_nil, dm_cons, lk_cons, cat_int, cat_long, cat_ref, cat_con, args_nil, args_int, args_long, args_ref, args_con, ct_nil, ct_cons, Nat.reduceBEq, Nat.reduceAdd, Nat.reduceLeDiff, Nat.reduceEqDiff, Bool.not_true, Bool.not_false, Bool.and_true, Bool.and_false, Bool.true_and, Bool.false_and, cond_true, cond_false, Nat.zero_add, Nat.add_zero, reduceCtorEq, Nat.zero_le, ui_at, ua_at, ul_at, wK_v, wK_n, wK_t, true_and, and_true, nb0, nb1, not_false_eq_true, not_true_eq_false, ci_0, ci_1, ci_3, ci_5, ci_7, ci_12, ci_15, ci_16, ci_21, ci_22, w_141_0, w_141_1, w_141_4, w_141_5, w_141_7, w_141_10, w_141_11, w_141_14, w_141_16, w_141_19, w_141_20, gf_22_2, gf_22_3]
  by_cases h : i < 0
  · rw [if_pos h, if_pos h]
  rw [if_neg h, if_neg h]
  by_cases h2 : 26 ≤ i
  · rw [if_pos h2, if_pos h2]
  rw [if_neg h2, if_neg h2]
  obtain ⟨q, hq, e⟩ := nI_of h
  subst e
  have h3 : q < 26 := by
    exact Nat.lt_of_not_le (fun z => h2 ((nI_leI (a := 26) (b := q) (by omega) hq).mpr z))
  simp only [w_141_15, ga_25 (vp_in_nI (show q < 26 by omega) (by decide)), wO_some, w_141_16, w_141_20]
theorem e_var {i : Int32} {v : Nat → Int} {w : Nat → Nat} (hv : ∀ k, k < 26 → xl 4 k = pn (v k) (w k) ∧ nm (v k) (w k)) : dx_M (tb_Z L xs) (d + 2) 9 [.ref 0, .int i] (mk xi xa xl j) Q ↔ Q (.inl (some (.int (if i < 0 then 0 else if 26 ≤ i then 0 else zI (v i.toNatClampNeg))))) (mk xi xa xl j) := by
  rw [dx_M_in (Nat.le_of_ble_eq_true rfl)]
  simp only [wI_some, wJ_some, wR_ref, wR_con, wO_some, s1_eq, s2_eq, dl_nil, dl_cons, dm_nil, dm_cons, lk_cons, cat_int, cat_long, cat_ref, cat_con, args_nil, args_int, args_long, args_ref, args_con, ct_nil, ct_cons, Nat.reduceBEq, Nat.reduceAdd, Nat.reduceLeDiff, Nat.reduceEqDiff, Bool.not_true, Bool.not_false, Bool.and_true, Bool.and_false, Bool.true_and, Bool.false_and, cond_true, cond_false, Nat.zero_add, Nat.add_zero, reduceCtorEq, Nat.zero_le, ui_at, ua_at, ul_at, wK_v, wK_n, wK_t, true_and, and_true, nb0, nb1, not_false_eq_true, not_true_eq_false, ci_0, ci_1, ci_3, ci_5, ci_7, ci_12, ci_15, ci_16, ci_21, ci_22, w_9_0, w_9_1, w_9_4, w_9_7, w_9_8, w_9_11, w_9_14, w_9_16, w_9_19, w_9_20, w_9_23, w_9_24, gf_0_1, gf_3_0, e_isVar]
  by_cases h : i < 0
  · simp only [if_pos h, if_true]
  simp only [if_neg h]
  by_cases h2 : 26 ≤ i
  · simp only [if_pos h2, if_true]
  simp only [if_neg h2, one0, if_false]
  obtain ⟨q, hq, e⟩ := nI_of h
  subst e
  have h3 : q < 26 := by
    exact Nat.lt_of_not_le (fun z => h2 ((nI_leI (a := 26) (b := q) (by omega) hq).mpr z))
  rw [nI_clamp hq]
  simp only [w_9_15, ga_4 (vp_in_nI (show q < 26 by omega) (by decide)), wO_some, nI_clamp hq, (hv q h3).1, e_mantN (hv q h3).2, w_9_16, wK_v, ct_nil, Nat.zero_le, true_and, w_9_19, w_9_20, w_9_24, zL_I]
theorem e_dec {i : Int32} {v : Nat → Int} {w : Nat → Nat} (hv : ∀ k, k < 26 → xl 4 k = pn (v k) (w k) ∧ nm (v k) (w k)) : dx_M (tb_Z L xs) (d + 2) 11 [.ref 0, .int i] (mk xi xa xl j) Q ↔ Q (.inl (some (.int (if i < 0 then -1 else if 26 ≤ i then -1 else nI (w i.toNatClampNeg))))) (mk xi xa xl j) := by
  rw [dx_M_in (Nat.le_of_ble_eq_true rfl)]
  simp only [wI_some, wJ_some, wR_ref, wR_con, wO_some, s1_eq, s2_eq, dl_nil, dl_cons, dm_nil, dm_cons, lk_cons, cat_int, cat_long, cat_ref, cat_con, args_nil, args_int, args_long, args_ref, args_con, ct_nil, ct_cons, Nat.reduceBEq, Nat.reduceAdd, Nat.reduceLeDiff, Nat.reduceEqDiff, Bool.not_true, Bool.not_false, Bool.and_true, Bool.and_false, Bool.true_and, Bool.false_and, cond_true, cond_false, Nat.zero_add, Nat.add_zero, reduceCtorEq, Nat.zero_le, ui_at, ua_at, ul_at, wK_v, wK_n, wK_t, true_and, and_true, nb0, nb1, not_false_eq_true, not_true_eq_false, ci_0, ci_1, ci_3, ci_5, ci_7, ci_12, ci_15, ci_16, ci_21, ci_22, w_11_0, w_11_1, w_11_4, w_11_7, w_11_8, w_11_11, w_11_14, w_11_16, w_11_19, w_11_22, w_11_23, gf_0_1, gf_3_0, e_isVar]
  by_cases h : i < 0
  · simp only [if_pos h, if_true]
  simp only [if_neg h]
  by_cases h2 : 26 ≤ i
  · simp only [if_pos h2, if_true]
  simp only [if_neg h2, one0, if_false]
  obtain ⟨q, hq, e⟩ := nI_of h
  subst e
  have h3 : q < 26 := by
    exact Nat.lt_of_not_le (fun z => h2 ((nI_leI (a := 26) (b := q) (by omega) hq).mpr z))
  rw [nI_clamp hq]
  simp only [w_11_15, ga_4 (vp_in_nI (show q < 26 by omega) (by decide)), wO_some, nI_clamp hq, (hv q h3).1, e_placesN (hv q h3).2, w_11_16, wK_v, ct_nil, Nat.zero_le, true_and, w_11_19, w_11_23, zL_I]
theorem f_put {v : Int32} (hs : s < 300) : dx_M (tb_Z L xs) (d + 1) 134 [.ref 22, .int v, .int (nI s)] (mk xi xa xl j) Q ↔ Q (.inl none) (mk xi (ua xa 44 (upd (xa 44) s v)) xl j) := by
  rw [dx_M_in (Nat.le_of_ble_eq_true rfl)]
  simp only [wI_some, wJ_some, wR_ref, wR_con, wO_some, s1_eq, s2_eq, dl_nil, dl_cons, dm_nil, dm_cons, lk_cons, cat_int, cat_long, cat_ref, cat_con, args_nil, args_int, args_long, args_ref, args_con, ct_nil, ct_cons, Nat.reduceBEq, Nat.reduceAdd, Nat.reduceLeDiff, Nat.reduceEqDiff, Bool.not_true, Bool.not_false, Bool.and_true, Bool.and_false, Bool.true_and, Bool.false_and, cond_true, cond_false, Nat.zero_add, Nat.add_zero, reduceCtorEq, Nat.zero_le, ui_at, ua_at, ul_at, wK_v, wK_n, wK_t, true_and, and_true, nb0, nb1, not_false_eq_true, not_true_eq_false, ci_0, ci_1, ci_3, ci_5, ci_7, ci_12, ci_15, ci_16, ci_21, ci_22, w_134_0, w_134_1, w_134_4, w_134_5, w_134_6, w_134_7, gf_22_36, sa_44 (vp_in_nI hs (by decide)), nI_clamp (show s < 2 ^ 31 by omega)]
theorem f_pushValue {v0 v1 : Int32} (h : xi 1438 = nI s) (hs : s < 300) : dx_M (tb_Z L xs) (d + 1) 122 [.ref 22, .int v0, .int v1] (mk xi xa xl j) Q ↔ Q (.inl none) (mk (ui xi 1438 (nI (s + 1))) (ua (ua xa 37 (upd (xa 37) s v0)) 38 (upd (xa 38) s v1)) xl j) := by
  rw [dx_M_in (Nat.le_of_ble_eq_true rfl)]
  simp only [wI_some, wJ_some, wR_ref, wR_con, wO_some, s1_eq, s2_eq, dl_nil, dl_cons, dm_nil, dm_cons, lk_cons, cat_int, cat_long, cat_ref, cat_con, args_nil, args_int, args_long, args_ref, args_con, ct_nil, ct_cons, Nat.reduceBEq, Nat.reduceAdd, Nat.reduceLeDiff, Nat.reduceEqDiff, Bool.not_true, Bool.not_false, Bool.and_true, Bool.and_false, Bool.true_and, Bool.false_and, cond_true, cond_false, Nat.zero_add, Nat.add_zero, reduceCtorEq, Nat.zero_le, ui_at, ua_at, ul_at, wK_v, wK_n, wK_t, true_and, and_true, nb0, nb1, not_false_eq_true, not_true_eq_false, ci_0, ci_1, ci_3, ci_5, ci_7, ci_12, ci_15, ci_16, ci_21, ci_22, w_122_0, w_122_1, w_122_4, w_122_5, w_122_8, w_122_9, w_122_10, w_122_11, w_122_14, w_122_15, w_122_18, w_122_19, w_122_20, w_122_21_int, w_122_21_ref, w_122_21_retAddr, w_122_22, w_122_25, w_122_26, w_122_27, w_122_30, gf_22_23, gf_22_24, gf_22_30, sf_22_30, h, sa_37 (vp_in_nI (show s < 300 by omega) (by decide)), sa_38 (vp_in_nI (show s < 300 by omega) (by decide)), nI_clamp (show s < 2 ^ 31 by omega), nI_1]
theorem f_token {v0 v1 v2 : Int32} (h : xi 1416 = nI s) (hs : s < 210) : dx_M (tb_Z L xs) (d + 1) 104 [.ref 22, .int v0, .int v1, .int v2] (mk xi xa xl j) Q ↔ Q (.inl none) (mk (ui xi 1416 (nI (s + 1))) (ua (ua (ua xa 26 (upd (xa 26) s v0)) 27 (upd (xa 27) s v1)) 28 (upd (xa 28) s v2)) xl j) := by
  rw [dx_M_in (Nat.le_of_ble_eq_true rfl)]
  simp only [wI_some, wJ_some, wR_ref, wR_con, wO_some, s1_eq, s2_eq, dl_nil, dl_cons, dm_nil, dm_cons, lk_cons, cat_int, cat_long, cat_ref, cat_con, args_nil, args_int, args_long, args_ref, args_con, ct_nil, ct_cons, Nat.reduceBEq, Nat.reduceAdd, Nat.reduceLeDiff, Nat.reduceEqDiff, Bool.not_true, Bool.not_false, Bool.and_true, Bool.and_false, Bool.true_and, Bool.false_and, cond_true, cond_false, Nat.zero_add, Nat.add_zero, reduceCtorEq, Nat.zero_le, ui_at, ua_at, ul_at, wK_v, wK_n, wK_t, true_and, and_true, nb0, nb1, not_false_eq_true, not_true_eq_false, ci_0, ci_1, ci_3, ci_5, ci_7, ci_12, ci_15, ci_16, ci_21, ci_22, w_104_0, w_104_1, w_104_4, w_104_5, w_104_8, w_104_9, w_104_10, w_104_11, w_104_14, w_104_15, w_104_18, w_104_19, w_104_20, w_104_21, w_104_24, w_104_25, w_104_28, w_104_29, w_104_30, w_104_31_int, w_104_31_ref, w_104_31_retAddr, w_104_32, w_104_35, w_104_36, w_104_37, w_104_40, gf_22_5, gf_22_6, gf_22_7, gf_22_8, sf_22_8, h, sa_26 (vp_in_nI (show s < 210 by omega) (by decide)), sa_27 (vp_in_nI (show s < 210 by omega) (by decide)), sa_28 (vp_in_nI (show s < 210 by omega) (by decide)), nI_clamp (show s < 2 ^ 31 by omega), nI_1]
theorem f_push {v0 v1 v2 : Int32} (h : xi 1428 = nI s) (hs : s < 600) : dx_M (tb_Z L xs) (d + 1) 109 [.ref 22, .int v0, .int v1, .int v2] (mk xi xa xl j) Q ↔ Q (.inl none) (mk (ui xi 1428 (nI (s + 1))) (ua (ua (ua xa 34 (upd (xa 34) s v0)) 35 (upd (xa 35) s v1)) 36 (upd (xa 36) s v2)) xl j) := by
  rw [dx_M_in (Nat.le_of_ble_eq_true rfl)]
  simp only [wI_some, wJ_some, wR_ref, wR_con, wO_some, s1_eq, s2_eq, dl_nil, dl_cons, dm_nil, dm_cons, lk_cons, cat_int, cat_long, cat_ref, cat_con, args_nil, args_int, args_long, args_ref, args_con, ct_nil, ct_cons, Nat.reduceBEq, Nat.reduceAdd, Nat.reduceLeDiff, Nat.reduceEqDiff, Bool.not_true, Bool.not_false, Bool.and_true, Bool.and_false, Bool.true_and, Bool.false_and, cond_true, cond_false, Nat.zero_add, Nat.add_zero, reduceCtorEq, Nat.zero_le, ui_at, ua_at, ul_at, wK_v, wK_n, wK_t, true_and, and_true, nb0, nb1, not_false_eq_true, not_true_eq_false, ci_0, ci_1, ci_3, ci_5, ci_7, ci_12, ci_15, ci_16, ci_21, ci_22, w_109_0, w_109_1, w_109_4, w_109_5, w_109_8, w_109_9, w_109_10, w_109_11, w_109_14, w_109_15, w_109_18, w_109_19, w_109_20, w_109_21, w_109_24, w_109_25, w_109_28, w_109_29, w_109_30, w_109_31_int, w_109_31_ref, w_109_31_retAddr, w_109_32, w_109_35, w_109_36, w_109_37, w_109_40, gf_22_17, gf_22_18, gf_22_19, gf_22_20, sf_22_20, h, sa_34 (vp_in_nI (show s < 600 by omega) (by decide)), sa_35 (vp_in_nI (show s < 600 by omega) (by decide)), sa_36 (vp_in_nI (show s < 600 by omega) (by decide)), nI_clamp (show s < 2 ^ 31 by omega), nI_1]
theorem f_emit {v0 v1 v2 : Int32} (h : xi 1422 = nI s) (hs : s < 1200) : dx_M (tb_Z L xs) (d + 1) 114 [.ref 22, .int v0, .int v1, .int v2] (mk xi xa xl j) Q ↔ Q (.inl none) (mk (ui xi 1422 (nI (s + 1))) (ua (ua (ua xa 29 (upd (xa 29) s v0)) 30 (upd (xa 30) s v1)) 31 (upd (xa 31) s v2)) xl j) := by
  rw [dx_M_in (Nat.le_of_ble_eq_true rfl)]
  simp only [wI_some, wJ_some, wR_ref, wR_con, wO_some, s1_eq, s2_eq, dl_nil, dl_cons, dm_nil, dm_cons, lk_cons, cat_int, cat_long, cat_ref, cat_con, args_nil, args_int, args_long, args_ref, args_con, ct_nil, ct_cons, Nat.reduceBEq, Nat.reduceAdd, Nat.reduceLeDiff, Nat.reduceEqDiff, Bool.not_true, Bool.not_false, Bool.and_true, Bool.and_false, Bool.true_and, Bool.false_and, cond_true, cond_false, Nat.zero_add, Nat.add_zero, reduceCtorEq, Nat.zero_le, ui_at, ua_at, ul_at, wK_v, wK_n, wK_t, true_and, and_true, nb0, nb1, not_false_eq_true, not_true_eq_false, ci_0, ci_1, ci_3, ci_5, ci_7, ci_12, ci_15, ci_16, ci_21, ci_22, w_114_0, w_114_1, w_114_4, w_114_5, w_114_8, w_114_9, w_114_10, w_114_11, w_114_14, w_114_15, w_114_18, w_114_19, w_114_20, w_114_21, w_114_24, w_114_25, w_114_28, w_114_29, w_114_30, w_114_31_int, w_114_31_ref, w_114_31_retAddr, w_114_32, w_114_35, w_114_36, w_114_37, w_114_40, gf_22_11, gf_22_12, gf_22_13, gf_22_14, sf_22_14, h, sa_29 (vp_in_nI (show s < 1200 by omega) (by decide)), sa_30 (vp_in_nI (show s < 1200 by omega) (by decide)), sa_31 (vp_in_nI (show s < 1200 by omega) (by decide)), nI_clamp (show s < 2 ^ 31 by omega), nI_1]
theorem f_accept {k : Int32} (h : xi 1417 = nI s) (hs : s < 210) : dx_M (tb_Z L xs) (d + 1) 112 [.ref 22, .int k] (mk xi xa xl j) Q ↔ (if xa 26 s = k then Q (.inl (some (.int 1))) (mk (ui xi 1417 (nI (s + 1))) xa xl j) else Q (.inl (some (.int 0))) (mk xi xa xl j)) := by
  rw [dx_M_in (Nat.le_of_ble_eq_true rfl)]
  simp only [wI_some, wJ_some, wR_ref, wR_con, wO_some, s1_eq, s2_eq, dl_nil, dl_cons, dm_nil, dm_cons, lk_cons, cat_int, cat_long, cat_ref, cat_con, args_nil, args_int, args_long, args_ref, args_con, ct_nil, ct_cons, Nat.reduceBEq, Nat.reduceAdd, Nat.reduceLeDiff, Nat.reduceEqDiff, Bool.not_true, Bool.not_false, Bool.and_true, Bool.and_false, Bool.true_and, Bool.false_and, cond_true, cond_false, Nat.zero_add, Nat.add_zero, reduceCtorEq, Nat.zero_le, ui_at, ua_at, ul_at, wK_v, wK_n, wK_t, true_and, and_true, nb0, nb1, not_false_eq_true, not_true_eq_false, ci_0, ci_1, ci_3, ci_5, ci_7, ci_12, ci_15, ci_16, ci_21, ci_22, w_112_0, w_112_1, w_112_4, w_112_5, w_112_8, w_112_9, w_112_10, w_112_13, w_112_14, w_112_15, w_112_16_int, w_112_16_ref, w_112_16_retAddr, w_112_17, w_112_20, w_112_21, w_112_22, w_112_25, w_112_26, gf_22_5, gf_22_9, sf_22_9, h, ga_26 (vp_in_nI hs (by decide)), nI_clamp (show s < 2 ^ 31 by omega), nI_1]
theorem f_expect {k : Int32} (h : xi 1417 = nI s) (hs : s < 210) : dx_M (tb_Z L xs) (d + 2) 115 [.ref 22, .int k] (mk xi xa xl j) Q ↔ (if xa 26 s = k then Q (.inl none) (mk (ui xi 1417 (nI (s + 1))) xa xl j) else Q (.inl none) (mk (ui xi 1418 1) xa xl j)) := by
  rw [dx_M_in (Nat.le_of_ble_eq_true rfl)]
  simp only [wI_some, wJ_some, wR_ref, wR_con, wO_some, s1_eq, s2_eq, dl_nil, dl_cons, dm_nil, dm_cons, lk_cons, cat_int, cat_long, cat_ref, cat_con, args_nil, args_int, args_long, args_ref, args_con, ct_nil, ct_cons, Nat.reduceBEq, Nat.reduceAdd, Nat.reduceLeDiff, Nat.reduceEqDiff, Bool.not_true, Bool.not_false, Bool.and_true, Bool.and_false, Bool.true_and, Bool.false_and, cond_true, cond_false, Nat.zero_add, Nat.add_zero, reduceCtorEq, Nat.zero_le, ui_at, ua_at, ul_at, wK_v, wK_n, wK_t, true_and, and_true, nb0, nb1, not_false_eq_true, not_true_eq_false, ci_0, ci_1, ci_3, ci_5, ci_7, ci_12, ci_15, ci_16, ci_21, ci_22, w_115_0, w_115_1, w_115_2, w_115_5, w_115_6, w_115_7, w_115_10, w_115_11, w_115_12, w_115_15, f_accept h hs, sf_22_10_1, one0, if_true, if_false]
theorem f_deeper (h : xi 1429 = nI s) (hs : s < 1000) : dx_M (tb_Z L xs) (d + 1) 113 [.ref 22] (mk xi xa xl j) Q ↔ (if s < 6 then Q (.inl none) (mk (ui xi 1429 (nI (s + 1))) xa xl j) else Q (.inl none) (mk (ui (ui xi 1429 (nI (s + 1))) 1418 1) xa xl j)) := by
  rw [dx_M_in (Nat.le_of_ble_eq_true rfl)]
  simp only [wI_some, wJ_some, wR_ref, wR_con, wO_some, s1_eq, s2_eq, dl_nil, dl_cons, dm_nil, dm_cons, lk_cons, cat_int, cat_long, cat_ref, cat_con, args_nil, args_int, args_long, args_ref, args_con, ct_nil, ct_cons, Nat.reduceBEq, Nat.reduceAdd, Nat.reduceLeDiff, Nat.reduceEqDiff, Bool.not_true, Bool.not_false, Bool.and_true, Bool.and_false, Bool.true_and, Bool.false_and, cond_true, cond_false, Nat.zero_add, Nat.add_zero, reduceCtorEq, Nat.zero_le, ui_at, ua_at, ul_at, wK_v, wK_n, wK_t, true_and, and_true, nb0, nb1, not_false_eq_true, not_true_eq_false, ci_0, ci_1, ci_3, ci_5, ci_7, ci_12, ci_15, ci_16, ci_21, ci_22, w_113_0, w_113_1_int, w_113_1_ref, w_113_1_retAddr, w_113_2, w_113_5, w_113_6, w_113_7, w_113_10, w_113_11, w_113_14, w_113_16, w_113_19, w_113_20, w_113_21, w_113_24, gf_22_21, sf_22_21, sf_22_10_1, h, nI_1]
  by_cases h6 : s < 6
  · rw [if_pos (show nI (s + 1) ≤ (6 : Int32) from nI_le (b := 6) (by omega) (by decide)), if_pos h6]
  · rw [if_neg (show ¬ nI (s + 1) ≤ (6 : Int32) from nI_ge (a := 6) (by omega) (by omega)), if_neg h6]
end AU
