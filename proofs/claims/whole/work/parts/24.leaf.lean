/-! What the small methods answer. -/
section LF
variable {L : Nat} {xs : Nat → Int32} {d : Nat} {σ : dx_S} {Q : dx_O → dx_S → Prop} {xi : Nat → Int32} {xa : Nat → Nat → Int32} {xl : Nat → Nat → Int64} {j : dx_S}
theorem e_max {x y : Int32} : dx_M (tb_Z L xs) (d + 1) 145 [.int x, .int y] σ Q ↔ Q (.inl (some (.int (if x < y then y else x)))) σ := by
  rw [dx_M_in (Nat.le_of_ble_eq_true rfl)]
  simp only [wI_some, wJ_some, wR_ref, wR_con, wO_some, s1_eq, s2_eq, dl_nil, dl_cons, dm_nil, dm_cons, lk_cons, cat_int, cat_long, cat_ref, cat_con, args_nil, args_int, args_long, args_ref, args_con, ct_nil, ct_cons, Nat.reduceBEq, Nat.reduceAdd, Nat.reduceLeDiff, Nat.reduceEqDiff, Bool.not_true, Bool.not_false, Bool.and_true, Bool.and_false, Bool.true_and, Bool.false_and, cond_true, cond_false, Nat.zero_add, Nat.add_zero, reduceCtorEq, w_145_0, w_145_1, w_145_2, w_145_5, w_145_6, w_145_9, w_145_10]
  split <;> rfl
theorem e_min {x y : Int32} : dx_M (tb_Z L xs) (d + 1) 144 [.int x, .int y] σ Q ↔ Q (.inl (some (.int (if y < x then y else x)))) σ := by
  rw [dx_M_in (Nat.le_of_ble_eq_true rfl)]
  simp only [wI_some, wJ_some, wR_ref, wR_con, wO_some, s1_eq, s2_eq, dl_nil, dl_cons, dm_nil, dm_cons, lk_cons, cat_int, cat_long, cat_ref, cat_con, args_nil, args_int, args_long, args_ref, args_con, ct_nil, ct_cons, Nat.reduceBEq, Nat.reduceAdd, Nat.reduceLeDiff, Nat.reduceEqDiff, Bool.not_true, Bool.not_false, Bool.and_true, Bool.and_false, Bool.true_and, Bool.false_and, cond_true, cond_false, Nat.zero_add, Nat.add_zero, reduceCtorEq, w_144_0, w_144_1, w_144_2, w_144_5, w_144_6, w_144_9, w_144_10]
  split <;> rfl
theorem e_absi {x : Int32} : dx_M (tb_Z L xs) (d + 1) 147 [.int x] σ Q ↔ Q (.inl (some (.int (if 0 ≤ x then x else -x)))) σ := by
  rw [dx_M_in (Nat.le_of_ble_eq_true rfl)]
  simp only [wI_some, wJ_some, wR_ref, wR_con, wO_some, s1_eq, s2_eq, dl_nil, dl_cons, dm_nil, dm_cons, lk_cons, cat_int, cat_long, cat_ref, cat_con, args_nil, args_int, args_long, args_ref, args_con, ct_nil, ct_cons, Nat.reduceBEq, Nat.reduceAdd, Nat.reduceLeDiff, Nat.reduceEqDiff, Bool.not_true, Bool.not_false, Bool.and_true, Bool.and_false, Bool.true_and, Bool.false_and, cond_true, cond_false, Nat.zero_add, Nat.add_zero, reduceCtorEq, w_147_0, w_147_1, w_147_4, w_147_5, w_147_6, w_147_9, w_147_10]
  split <;> rfl
theorem e_absl {x : Int64} : dx_M (tb_Z L xs) (d + 1) 146 [.long x] σ Q ↔ Q (.inl (some (.long (if 0 ≤ lg_cmp x 0 then x else -x)))) σ := by
  rw [dx_M_in (Nat.le_of_ble_eq_true rfl)]
  simp only [wI_some, wJ_some, wR_ref, wR_con, wO_some, s1_eq, s2_eq, dl_nil, dl_cons, dm_nil, dm_cons, lk_cons, cat_int, cat_long, cat_ref, cat_con, args_nil, args_int, args_long, args_ref, args_con, ct_nil, ct_cons, Nat.reduceBEq, Nat.reduceAdd, Nat.reduceLeDiff, Nat.reduceEqDiff, Bool.not_true, Bool.not_false, Bool.and_true, Bool.and_false, Bool.true_and, Bool.false_and, cond_true, cond_false, Nat.zero_add, Nat.add_zero, reduceCtorEq, w_146_0, w_146_1, w_146_2, w_146_3, w_146_6, w_146_7, w_146_8, w_146_11, w_146_12]
  split <;> rfl
theorem e_at {p : Int32} : dx_M (tb_Z L xs) (d + 1) 17 [.ref 1, .int p] (mk xi xa xl j) Q ↔ Q (.inl (some (.int (if 0 ≤ p ∧ p < xi 65 then xa 2 p.toNatClampNeg else 0)))) (mk xi xa xl j) := by
  rw [dx_M_in (Nat.le_of_ble_eq_true rfl)]
  simp only [wI_some, wJ_some, wR_ref, wR_con, wO_some, s1_eq, s2_eq, dl_nil, dl_cons, dm_nil, dm_cons, lk_cons, cat_int, cat_long, cat_ref, cat_con, args_nil, args_int, args_long, args_ref, args_con, ct_nil, ct_cons, Nat.reduceBEq, Nat.reduceAdd, Nat.reduceLeDiff, Nat.reduceEqDiff, Bool.not_true, Bool.not_false, Bool.and_true, Bool.and_false, Bool.true_and, Bool.false_and, cond_true, cond_false, Nat.zero_add, Nat.add_zero, reduceCtorEq, w_17_0, w_17_1, w_17_4, w_17_5, w_17_6, w_17_9, w_17_12, w_17_13, w_17_16, w_17_17, w_17_18, w_17_21, w_17_22, gf_1_0, gf_1_1]
  sorry
end LF
