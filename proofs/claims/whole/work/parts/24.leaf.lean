/-! What the small methods answer. -/
section LF
variable {L : Nat} {xs : Nat → Int32} {d : Nat} {σ : dx_S} {Q : dx_O → dx_S → Prop} {xi : Nat → Int32} {xa : Nat → Nat → Int32} {xl : Nat → Nat → Int64} {j : dx_S}
theorem e_max {x y : Int32} : dx_M (tb_Z L xs) (d + 1) 145 [.int x, .int y] σ Q ↔ Q (.inl (some (.int (if x < y then y else x)))) σ := by
  rw [dx_M_in (Nat.le_of_ble_eq_true rfl)]
  simp only [wI_some, wJ_some, wR_ref, wR_con, wO_some, s1_eq, s2_eq, dl_nil, dl_cons, dm_nil, dm_cons, lk_cons, cat_int, cat_long, cat_ref, cat_con, args_nil, args_int, args_long, args_ref, args_con, ct_nil, ct_cons, Nat.reduceBEq, Nat.reduceAdd, Nat.reduceLeDiff, Nat.reduceEqDiff, Bool.not_true, Bool.not_false, Bool.and_true, Bool.and_false, Bool.true_and, Bool.false_and, cond_true, cond_false, Nat.zero_add, Nat.add_zero, reduceCtorEq, Nat.zero_le, ui_at, ua_at, ul_at, wK_v, wK_n, wK_t, true_and, and_true, nb0, nb1, not_false_eq_true, not_true_eq_false, ci_0, ci_1, ci_3, ci_5, ci_7, ci_12, ci_15, ci_16, ci_21, ci_22, w_145_0, w_145_1, w_145_2, w_145_5, w_145_6, w_145_9, w_145_10]
  split <;> rfl
theorem e_min {x y : Int32} : dx_M (tb_Z L xs) (d + 1) 144 [.int x, .int y] σ Q ↔ Q (.inl (some (.int (if y < x then y else x)))) σ := by
  rw [dx_M_in (Nat.le_of_ble_eq_true rfl)]
  simp only [wI_some, wJ_some, wR_ref, wR_con, wO_some, s1_eq, s2_eq, dl_nil, dl_cons, dm_nil, dm_cons, lk_cons, cat_int, cat_long, cat_ref, cat_con, args_nil, args_int, args_long, args_ref, args_con, ct_nil, ct_cons, Nat.reduceBEq, Nat.reduceAdd, Nat.reduceLeDiff, Nat.reduceEqDiff, Bool.not_true, Bool.not_false, Bool.and_true, Bool.and_false, Bool.true_and, Bool.false_and, cond_true, cond_false, Nat.zero_add, Nat.add_zero, reduceCtorEq, Nat.zero_le, ui_at, ua_at, ul_at, wK_v, wK_n, wK_t, true_and, and_true, nb0, nb1, not_false_eq_true, not_true_eq_false, ci_0, ci_1, ci_3, ci_5, ci_7, ci_12, ci_15, ci_16, ci_21, ci_22, w_144_0, w_144_1, w_144_2, w_144_5, w_144_6, w_144_9, w_144_10]
  split <;> rfl
theorem e_absi {x : Int32} : dx_M (tb_Z L xs) (d + 1) 147 [.int x] σ Q ↔ Q (.inl (some (.int (if 0 ≤ x then x else -x)))) σ := by
  rw [dx_M_in (Nat.le_of_ble_eq_true rfl)]
  simp only [wI_some, wJ_some, wR_ref, wR_con, wO_some, s1_eq, s2_eq, dl_nil, dl_cons, dm_nil, dm_cons, lk_cons, cat_int, cat_long, cat_ref, cat_con, args_nil, args_int, args_long, args_ref, args_con, ct_nil, ct_cons, Nat.reduceBEq, Nat.reduceAdd, Nat.reduceLeDiff, Nat.reduceEqDiff, Bool.not_true, Bool.not_false, Bool.and_true, Bool.and_false, Bool.true_and, Bool.false_and, cond_true, cond_false, Nat.zero_add, Nat.add_zero, reduceCtorEq, Nat.zero_le, ui_at, ua_at, ul_at, wK_v, wK_n, wK_t, true_and, and_true, nb0, nb1, not_false_eq_true, not_true_eq_false, ci_0, ci_1, ci_3, ci_5, ci_7, ci_12, ci_15, ci_16, ci_21, ci_22, w_147_0, w_147_1, w_147_4, w_147_5, w_147_6, w_147_9, w_147_10]
  split <;> rfl
theorem e_absl {x : Int64} : dx_M (tb_Z L xs) (d + 1) 146 [.long x] σ Q ↔ Q (.inl (some (.long (if 0 ≤ lg_cmp x 0 then x else -x)))) σ := by
  rw [dx_M_in (Nat.le_of_ble_eq_true rfl)]
  simp only [wI_some, wJ_some, wR_ref, wR_con, wO_some, s1_eq, s2_eq, dl_nil, dl_cons, dm_nil, dm_cons, lk_cons, cat_int, cat_long, cat_ref, cat_con, args_nil, args_int, args_long, args_ref, args_con, ct_nil, ct_cons, Nat.reduceBEq, Nat.reduceAdd, Nat.reduceLeDiff, Nat.reduceEqDiff, Bool.not_true, Bool.not_false, Bool.and_true, Bool.and_false, Bool.true_and, Bool.false_and, cond_true, cond_false, Nat.zero_add, Nat.add_zero, reduceCtorEq, Nat.zero_le, ui_at, ua_at, ul_at, wK_v, wK_n, wK_t, true_and, and_true, nb0, nb1, not_false_eq_true, not_true_eq_false, ci_0, ci_1, ci_3, ci_5, ci_7, ci_12, ci_15, ci_16, ci_21, ci_22, w_146_0, w_146_1, w_146_2, w_146_3, w_146_6, w_146_7, w_146_8, w_146_11, w_146_12]
  split <;> rfl
theorem e_lcomp {x y : Int64} : dx_M (tb_Z L xs) (d + 1) 148 [.long x, .long y] σ Q ↔ Q (.inl (some (.int (if 0 ≤ lg_cmp x y then (if ¬ lg_cmp x y = 0 then 1 else 0) else -1)))) σ := by
  rw [dx_M_in (Nat.le_of_ble_eq_true rfl)]
  simp only [wI_some, wJ_some, wR_ref, wR_con, wO_some, s1_eq, s2_eq, dl_nil, dl_cons, dm_nil, dm_cons, lk_cons, cat_int, cat_long, cat_ref, cat_con, args_nil, args_int, args_long, args_ref, args_con, ct_nil, ct_cons, Nat.reduceBEq, Nat.reduceAdd, Nat.reduceLeDiff, Nat.reduceEqDiff, Bool.not_true, Bool.not_false, Bool.and_true, Bool.and_false, Bool.true_and, Bool.false_and, cond_true, cond_false, Nat.zero_add, Nat.add_zero, reduceCtorEq, Nat.zero_le, ui_at, ua_at, ul_at, wK_v, wK_n, wK_t, true_and, and_true, nb0, nb1, not_false_eq_true, not_true_eq_false, ci_0, ci_1, ci_3, ci_5, ci_7, ci_12, ci_15, ci_16, ci_21, ci_22, w_148_0, w_148_1, w_148_2, w_148_3, w_148_6, w_148_7, w_148_10, w_148_11, w_148_12, w_148_13, w_148_16, w_148_17, w_148_20, w_148_21]
  by_cases h : 0 ≤ lg_cmp x y
  · rw [if_pos h, if_pos h]
    split <;> rfl
  · rw [if_neg h, if_neg h]
theorem mk_app {x : dx_E} : mk xi xa xl j ++ [x] = mk xi xa xl (j ++ [x]) := rfl
/-- the text: n characters T -/
def tx (xi : Nat → Int32) (xa : Nat → Nat → Int32) (T : Nat → Nat) (n : Nat) : Prop := xi 65 = nI n ∧ n ≤ 200 ∧ ∀ i, i < n → xa 2 i = nI (T i) ∧ 0 < T i ∧ T i < 256
/-- the character at a place, 0 where there is none -/
def tA (T : Nat → Nat) (n i : Nat) : Nat := if i < n then T i else 0
theorem tA_lt {T : Nat → Nat} {n i : Nat} (h : tx xi xa T n) : tA T n i < 256 := by
  unfold tA
  split
  · rename_i hi
    exact (h.2.2 i hi).2.2
  · decide
theorem e_at {T : Nat → Nat} {n i : Nat} (ht : tx xi xa T n) (hi : i < 2 ^ 31) : dx_M (tb_Z L xs) (d + 1) 17 [.ref 1, .int (nI i)] (mk xi xa xl j) Q ↔ Q (.inl (some (.int (nI (tA T n i))))) (mk xi xa xl j) := by
  rw [dx_M_in (Nat.le_of_ble_eq_true rfl)]
  simp only [wI_some, wJ_some, wR_ref, wR_con, wO_some, s1_eq, s2_eq, dl_nil, dl_cons, dm_nil, dm_cons, lk_cons, cat_int, cat_long, cat_ref, cat_con, args_nil, args_int, args_long, args_ref, args_con, ct_nil, ct_cons, Nat.reduceBEq, Nat.reduceAdd, Nat.reduceLeDiff, Nat.reduceEqDiff, Bool.not_true, Bool.not_false, Bool.and_true, Bool.and_false, Bool.true_and, Bool.false_and, cond_true, cond_false, Nat.zero_add, Nat.add_zero, reduceCtorEq, Nat.zero_le, ui_at, ua_at, ul_at, wK_v, wK_n, wK_t, true_and, and_true, nb0, nb1, not_false_eq_true, not_true_eq_false, ci_0, ci_1, ci_3, ci_5, ci_7, ci_12, ci_15, ci_16, ci_21, ci_22, w_17_0, w_17_1, w_17_4, w_17_5, w_17_6, w_17_9, w_17_12, w_17_13, w_17_16, w_17_17, w_17_18, w_17_21, gf_1_0, gf_1_1]
  rw [if_neg (nI_pos hi), ht.1]
  by_cases h : i < n
  · have h2 := ht.2.1
    rw [if_neg (nI_ge h (by omega)), ga_2 (vp_in_nI (by omega) (by decide)), wO_some, nI_clamp hi, (ht.2.2 i h).1, w_17_22, and_iff_right (pk_charN (by have := (ht.2.2 i h).2.2; omega)).1, show tA T n i = T i from if_pos h]
  · rw [if_pos (nI_le (by omega) hi), w_17_22, and_iff_right (by decide), show tA T n i = 0 from if_neg h]
    exact Iff.rfl
theorem e_begin {f : Int32} : dx_M (tb_Z L xs) (d + 1) 21 [.ref 5, .int f] (mk xi xa xl j) Q ↔ Q (.inl none) (mk (ui (ui (ui (ui xi 321 0) 322 0) 323 0) 324 f) xa xl j) := by
  rw [dx_M_in (Nat.le_of_ble_eq_true rfl)]
  simp only [wI_some, wJ_some, wR_ref, wR_con, wO_some, s1_eq, s2_eq, dl_nil, dl_cons, dm_nil, dm_cons, lk_cons, cat_int, cat_long, cat_ref, cat_con, args_nil, args_int, args_long, args_ref, args_con, ct_nil, ct_cons, Nat.reduceBEq, Nat.reduceAdd, Nat.reduceLeDiff, Nat.reduceEqDiff, Bool.not_true, Bool.not_false, Bool.and_true, Bool.and_false, Bool.true_and, Bool.false_and, cond_true, cond_false, Nat.zero_add, Nat.add_zero, reduceCtorEq, Nat.zero_le, ui_at, ua_at, ul_at, wK_v, wK_n, wK_t, true_and, and_true, nb0, nb1, not_false_eq_true, not_true_eq_false, ci_0, ci_1, ci_3, ci_5, ci_7, ci_12, ci_15, ci_16, ci_21, ci_22, w_21_0, w_21_1, w_21_2, w_21_5, w_21_6, w_21_7, w_21_10, w_21_11, w_21_12, w_21_15, w_21_16, w_21_17, w_21_20, sf_5_1, sf_5_2, sf_5_3, sf_5_4]
/-- which exception a fault throws: the class's number -/
def exc (k : Int32) : Nat := if k = 1 then 10 else if k = 2 ∨ k = 3 ∨ k = 5 then 11 else 12
theorem e_raise {k : Int32} : dx_M (tb_Z L xs) (d + 1) 22 [.ref 5, .int k] (mk xi xa xl j) Q ↔ Q (.inr (46 + j.length)) (mk (ui xi 322 k) xa xl (j ++ [.inr (exc k, [])])) := by
  rw [dx_M_in (Nat.le_of_ble_eq_true rfl)]
  simp only [wI_some, wJ_some, wR_ref, wR_con, wO_some, s1_eq, s2_eq, dl_nil, dl_cons, dm_nil, dm_cons, lk_cons, cat_int, cat_long, cat_ref, cat_con, args_nil, args_int, args_long, args_ref, args_con, ct_nil, ct_cons, Nat.reduceBEq, Nat.reduceAdd, Nat.reduceLeDiff, Nat.reduceEqDiff, Bool.not_true, Bool.not_false, Bool.and_true, Bool.and_false, Bool.true_and, Bool.false_and, cond_true, cond_false, Nat.zero_add, Nat.add_zero, reduceCtorEq, Nat.zero_le, ui_at, ua_at, ul_at, wK_v, wK_n, wK_t, true_and, and_true, nb0, nb1, not_false_eq_true, not_true_eq_false, ci_0, ci_1, ci_3, ci_5, ci_7, ci_12, ci_15, ci_16, ci_21, ci_22, w_22_0, w_22_1, w_22_2, w_22_5, w_22_6, w_22_7, w_22_10, w_22_13_int, w_22_13_ref, w_22_13_retAddr, w_22_18, w_22_19, w_22_20, w_22_23, w_22_24, w_22_25, w_22_28, w_22_29, w_22_30, w_22_33, w_22_36_int, w_22_36_ref, w_22_36_retAddr, w_22_41, w_22_44_int, w_22_44_ref, w_22_44_retAddr, sf_5_2, mk_app, mk_len]
  unfold exc
  by_cases h1 : k = 1
  · rw [if_neg (fun z => z h1), if_pos h1]
  · rw [if_pos h1, if_neg h1]
    by_cases h2 : k = 2
    · rw [if_pos h2, if_pos (Or.inl h2)]
    · rw [if_neg h2]
      by_cases h3 : k = 3
      · rw [if_pos h3, if_pos (Or.inr (Or.inl h3))]
      · rw [if_neg h3]
        by_cases h5 : k = 5
        · rw [if_neg (fun z => z h5), if_pos (Or.inr (Or.inr h5))]
        · rw [if_pos h5, if_neg (fun z => z.elim h2 (fun z => z.elim h3 h5))]
theorem e_isf {k : Int32} (hk : vp_in k 26) : dx_M (tb_Z L xs) (d + 1) 28 [.ref 7, .int k] (mk xi xa xl j) Q ↔ Q (.inl (some (.int (if xa 10 k.toNatClampNeg = -1 then 0 else 1)))) (mk xi xa xl j) := by
  rw [dx_M_in (Nat.le_of_ble_eq_true rfl)]
  simp only [wI_some, wJ_some, wR_ref, wR_con, wO_some, s1_eq, s2_eq, dl_nil, dl_cons, dm_nil, dm_cons, lk_cons, cat_int, cat_long, cat_ref, cat_con, args_nil, args_int, args_long, args_ref, args_con, ct_nil, ct_cons, Nat.reduceBEq, Nat.reduceAdd, Nat.reduceLeDiff, Nat.reduceEqDiff, Bool.not_true, Bool.not_false, Bool.and_true, Bool.and_false, Bool.true_and, Bool.false_and, cond_true, cond_false, Nat.zero_add, Nat.add_zero, reduceCtorEq, Nat.zero_le, ui_at, ua_at, ul_at, wK_v, wK_n, wK_t, true_and, and_true, nb0, nb1, not_false_eq_true, not_true_eq_false, ci_0, ci_1, ci_3, ci_5, ci_7, ci_12, ci_15, ci_16, ci_21, ci_22, w_28_0, w_28_1, w_28_4, w_28_5, w_28_6, w_28_7, w_28_10, w_28_11, w_28_14, w_28_15, gf_7_2, ga_10 hk, wO_some]
  split <;> rfl
theorem e_def {k p : Int32} (hk : vp_in k 26) : dx_M (tb_Z L xs) (d + 1) 30 [.ref 7, .int k, .int p] (mk xi xa xl j) Q ↔ Q (.inl none) (mk xi (ua (ua xa 10 (upd (xa 10) k.toNatClampNeg (xi 452))) 11 (upd (xa 11) k.toNatClampNeg p)) xl j) := by
  rw [dx_M_in (Nat.le_of_ble_eq_true rfl)]
  simp only [wI_some, wJ_some, wR_ref, wR_con, wO_some, s1_eq, s2_eq, dl_nil, dl_cons, dm_nil, dm_cons, lk_cons, cat_int, cat_long, cat_ref, cat_con, args_nil, args_int, args_long, args_ref, args_con, ct_nil, ct_cons, Nat.reduceBEq, Nat.reduceAdd, Nat.reduceLeDiff, Nat.reduceEqDiff, Bool.not_true, Bool.not_false, Bool.and_true, Bool.and_false, Bool.true_and, Bool.false_and, cond_true, cond_false, Nat.zero_add, Nat.add_zero, reduceCtorEq, Nat.zero_le, ui_at, ua_at, ul_at, wK_v, wK_n, wK_t, true_and, and_true, nb0, nb1, not_false_eq_true, not_true_eq_false, ci_0, ci_1, ci_3, ci_5, ci_7, ci_12, ci_15, ci_16, ci_21, ci_22, w_30_0, w_30_1, w_30_4, w_30_5, w_30_6, w_30_9, w_30_10, w_30_11, w_30_14, w_30_15, w_30_16, w_30_17, gf_7_2, gf_7_3, gf_7_4, sa_10 hk, sa_11 hk]
theorem e_emit {p : Int32} {v : Int64} (hs : vp_in (xi 452) 600) : dx_M (tb_Z L xs) (d + 1) 29 [.ref 7, .int p, .long v] (mk xi xa xl j) Q ↔ Q (.inl (some (.int (xi 452)))) (mk (ui xi 452 (xi 452 + 1)) (ua xa 8 (upd (xa 8) (xi 452).toNatClampNeg p)) (ul xl 9 (vp_updL (xl 9) (xi 452).toNatClampNeg v)) j) := by
  rw [dx_M_in (Nat.le_of_ble_eq_true rfl)]
  simp only [wI_some, wJ_some, wR_ref, wR_con, wO_some, s1_eq, s2_eq, dl_nil, dl_cons, dm_nil, dm_cons, lk_cons, cat_int, cat_long, cat_ref, cat_con, args_nil, args_int, args_long, args_ref, args_con, ct_nil, ct_cons, Nat.reduceBEq, Nat.reduceAdd, Nat.reduceLeDiff, Nat.reduceEqDiff, Bool.not_true, Bool.not_false, Bool.and_true, Bool.and_false, Bool.true_and, Bool.false_and, cond_true, cond_false, Nat.zero_add, Nat.add_zero, reduceCtorEq, Nat.zero_le, ui_at, ua_at, ul_at, wK_v, wK_n, wK_t, true_and, and_true, nb0, nb1, not_false_eq_true, not_true_eq_false, ci_0, ci_1, ci_3, ci_5, ci_7, ci_12, ci_15, ci_16, ci_21, ci_22, w_29_0, w_29_1, w_29_4, w_29_7, w_29_10, w_29_11, w_29_14, w_29_15, w_29_18, w_29_19, w_29_20, w_29_21, w_29_24, w_29_25, w_29_28, w_29_29, w_29_30, w_29_31_int, w_29_31_ref, w_29_31_retAddr, w_29_32, w_29_35, w_29_36, w_29_37, w_29_40, w_29_41, w_29_44, w_29_45, w_29_46, gf_7_0, gf_7_1, gf_7_4, sf_7_4, sa_8 hs, sa_9 hs]
  have h6 : ¬ 600 ≤ xi 452 := fun z => by
    obtain ⟨k, hk, e⟩ := vp_in_of hs (by decide)
    rw [e] at z
    exact nI_ge hk (by decide) z
  rw [if_neg h6, show xi 452 + 1 - 1 = xi 452 from Int32.add_sub_cancel _ _]
end LF
