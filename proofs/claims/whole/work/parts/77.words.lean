/-! The words of the language: length and characters. -/
section SS
variable {L : Nat} {xs : Nat → Int32} {d : Nat} {σ : dx_S} {Q : dx_O → dx_S → Prop} {xi : Nat → Int32} {xa : Nat → Nat → Int32} {xl : Nat → Nat → Int64} {j : dx_S} {s t p c k v n i w m z : Nat}
theorem k_cod {r b : Nat} (h1 : dx_gf (tb_K L xs) σ (.retAddr r) 14 1 = some (.int 0)) : dx_M (tb_Z L xs) (d + 1) 152 [.retAddr r] σ Q ↔ Q (.inl (some (.int 0))) σ := by
  rw [dx_M_in (Nat.le_of_ble_eq_true rfl)]
  simp only [wI_some, wJ_some, wR_ref, wR_con, wO_some, s1_eq, s2_eq, dl_nil, dl_cons, dm_nil, dm_cons, lk_cons, cat_int, cat_long, cat_ref, cat_con, args_nil, args_int, args_long, args_ref, args_con, ct_nil, ct_cons, Nat.reduceBEq, Nat.reduceAdd, Nat.reduceLeDiff, Nat.reduceEqDiff, Bool.not_true, Bool.not_false, Bool.and_true, Bool.and_false, Bool.true_and, Bool.false_and, cond_true, cond_false, Nat.zero_add, Nat.add_zero, reduceCtorEq, Nat.zero_le, ui_at, ua_at, ul_at, wK_v, wK_n, wK_t, true_and, and_true, nb0, nb1, not_false_eq_true, not_true_eq_false, ci_0, ci_1, ci_3, ci_5, ci_7, ci_12, ci_15, ci_16, ci_21, ci_22, w_152_0, w_152_3, w_152_6, w_152_7, w_152_10, w_152_13, w_152_14, h1]
  rw [if_neg (show ¬ (1 : Int32) = 0 by decide)]
  exact ⟨fun h => h.2, fun h => ⟨rfl, h⟩⟩
theorem k_lat {r : Nat} (h1 : dx_gf (tb_K L xs) σ (.retAddr r) 14 1 = some (.int 0)) : dx_M (tb_Z L xs) (d + 1) 154 [.retAddr r] σ Q ↔ Q (.inl (some (.int 1))) σ := by
  rw [dx_M_in (Nat.le_of_ble_eq_true rfl)]
  simp only [wI_some, wJ_some, wR_ref, wR_con, wO_some, s1_eq, s2_eq, dl_nil, dl_cons, dm_nil, dm_cons, lk_cons, cat_int, cat_long, cat_ref, cat_con, args_nil, args_int, args_long, args_ref, args_con, ct_nil, ct_cons, Nat.reduceBEq, Nat.reduceAdd, Nat.reduceLeDiff, Nat.reduceEqDiff, Bool.not_true, Bool.not_false, Bool.and_true, Bool.and_false, Bool.true_and, Bool.false_and, cond_true, cond_false, Nat.zero_add, Nat.add_zero, reduceCtorEq, Nat.zero_le, ui_at, ua_at, ul_at, wK_v, wK_n, wK_t, true_and, and_true, nb0, nb1, not_false_eq_true, not_true_eq_false, ci_0, ci_1, ci_3, ci_5, ci_7, ci_12, ci_15, ci_16, ci_21, ci_22, w_154_0, w_154_3, w_154_6, w_154_7, w_154_10, w_154_13, w_154_14, w_154_17, w_154_18, h1, (show ((0 : Int32) = 0) = True from by decide)]
  rw [if_neg (show ¬ (1 : Int32) = 0 by decide), if_neg (show ¬ False from id)]
theorem k_chk (hk : k < n) (hn : n < 1000) : dx_M (tb_Z L xs) (d + 2) 155 [.int (nI k), .int (nI n)] σ Q ↔ Q (.inl none) σ := by
  rw [dx_M_in (Nat.le_of_ble_eq_true rfl)]
  simp only [wI_some, wJ_some, wR_ref, wR_con, wO_some, s1_eq, s2_eq, dl_nil, dl_cons, dm_nil, dm_cons, lk_cons, cat_int, cat_long, cat_ref, cat_con, args_nil, args_int, args_long, args_ref, args_con, ct_nil, ct_cons, Nat.reduceBEq, Nat.reduceAdd, Nat.reduceLeDiff, Nat.reduceEqDiff, Bool.not_true, Bool.not_false, Bool.and_true, Bool.and_false, Bool.true_and, Bool.false_and, cond_true, cond_false, Nat.zero_add, Nat.add_zero, reduceCtorEq, Nat.zero_le, ui_at, ua_at, ul_at, wK_v, wK_n, wK_t, true_and, and_true, nb0, nb1, not_false_eq_true, not_true_eq_false, ci_0, ci_1, ci_3, ci_5, ci_7, ci_12, ci_15, ci_16, ci_21, ci_22, w_155_0, w_155_1, w_155_2, w_155_5, w_155_9]
  rw [dx_M_in (Nat.le_of_ble_eq_true rfl)]
  simp only [wI_some, wJ_some, wR_ref, wR_con, wO_some, s1_eq, s2_eq, dl_nil, dl_cons, dm_nil, dm_cons, lk_cons, cat_int, cat_long, cat_ref, cat_con, args_nil, args_int, args_long, args_ref, args_con, ct_nil, ct_cons, Nat.reduceBEq, Nat.reduceAdd, Nat.reduceLeDiff, Nat.reduceEqDiff, Bool.not_true, Bool.not_false, Bool.and_true, Bool.and_false, Bool.true_and, Bool.false_and, cond_true, cond_false, Nat.zero_add, Nat.add_zero, reduceCtorEq, Nat.zero_le, ui_at, ua_at, ul_at, wK_v, wK_n, wK_t, true_and, and_true, nb0, nb1, not_false_eq_true, not_true_eq_false, ci_0, ci_1, ci_3, ci_5, ci_7, ci_12, ci_15, ci_16, ci_21, ci_22, w_162_0, w_162_1, w_162_4, w_162_5, w_162_6, w_162_9, w_162_10, w_162_11, w_162_16, w_162_17]
  rw [if_neg (nI_pos (by omega)), if_pos (nI_lt hk (by omega))]
  simp only [wI_some, wJ_some, wR_ref, wR_con, wO_some, s1_eq, s2_eq, dl_nil, dl_cons, dm_nil, dm_cons, lk_cons, cat_int, cat_long, cat_ref, cat_con, args_nil, args_int, args_long, args_ref, args_con, ct_nil, ct_cons, Nat.reduceBEq, Nat.reduceAdd, Nat.reduceLeDiff, Nat.reduceEqDiff, Bool.not_true, Bool.not_false, Bool.and_true, Bool.and_false, Bool.true_and, Bool.false_and, cond_true, cond_false, Nat.zero_add, Nat.add_zero, reduceCtorEq, Nat.zero_le, ui_at, ua_at, ul_at, wK_v, wK_n, wK_t, true_and, and_true, nb0, nb1, not_false_eq_true, not_true_eq_false, ci_0, ci_1, ci_3, ci_5, ci_7, ci_12, ci_15, ci_16, ci_21, ci_22, w_155_0, w_155_1, w_155_2, w_155_5, w_155_8_int, w_155_8_ref, w_155_8_retAddr, w_155_9]
theorem kg_0 : dx_gf (tb_K L xs) σ (.retAddr 2) 14 0 = some (.retAddr 8) := rfl
theorem kc_0 : dx_gf (tb_K L xs) σ (.retAddr 2) 14 1 = some (.int 0) := rfl
theorem ki_0 : dx_ci (tb_K L xs) σ (.retAddr 2) = some 14 := rfl
theorem kn_0 : dx_in (tb_K L xs) σ (.retAddr 8) = some 2 := rfl
theorem ke_0 (hk : k < 2) : dx_ei (tb_K L xs) σ 3 (.retAddr 8) (nI k) = some (tb_str0 k) := by
  rw [show dx_ei (tb_K L xs) σ 3 (.retAddr 8) (nI k) = some (tb_str0 (nI k).toNatClampNeg) from if_pos ⟨rfl, vp_in_nI hk (by decide)⟩, nI_clamp (by omega)]
theorem k_len0 : dx_M (tb_Z L xs) (d + 2) 151 [.retAddr 2] σ Q ↔ Q (.inl (some (.int 2))) σ := by
  rw [dx_M_in (Nat.le_of_ble_eq_true rfl)]
  simp only [wI_some, wJ_some, wR_ref, wR_con, wO_some, s1_eq, s2_eq, dl_nil, dl_cons, dm_nil, dm_cons, lk_cons, cat_int, cat_long, cat_ref, cat_con, args_nil, args_int, args_long, args_ref, args_con, ct_nil, ct_cons, Nat.reduceBEq, Nat.reduceAdd, Nat.reduceLeDiff, Nat.reduceEqDiff, Bool.not_true, Bool.not_false, Bool.and_true, Bool.and_false, Bool.true_and, Bool.false_and, cond_true, cond_false, Nat.zero_add, Nat.add_zero, reduceCtorEq, Nat.zero_le, ui_at, ua_at, ul_at, wK_v, wK_n, wK_t, true_and, and_true, nb0, nb1, not_false_eq_true, not_true_eq_false, ci_0, ci_1, ci_3, ci_5, ci_7, ci_12, ci_15, ci_16, ci_21, ci_22, w_151_0, w_151_1, w_151_4, w_151_5, w_151_6, w_151_9, w_151_10, kg_0, kn_0, ki_0, k_cod (b := 0) kc_0, (show (2 : Int32) >>> ((0 : Int32) &&& 31) = 2 from by decide)]
theorem k_chr0 (hk : k < 2) : dx_M (tb_Z L xs) (d + 4) 153 [.retAddr 2, .int (nI k)] σ Q ↔ Q (.inl (some (.int (tb_str0 k)))) σ := by
  have g : ∀ k, k < 2 → nI (tb_str0 k).toNatClampNeg = tb_str0 k ∧ (tb_str0 k).toNatClampNeg < 65536 := by decide
  have nr : narrow FieldType.char (.int (tb_str0 k)) = .int (tb_str0 k) := by
    rw [← (g k hk).1]
    exact (pk_charN (g k hk).2).1
  have f : ∀ k, k < 2 → ((tb_str0 k &&& 255).toUInt32 % 65536).toInt32 = tb_str0 k := by decide
  rw [dx_M_in (Nat.le_of_ble_eq_true rfl)]
  simp only [wI_some, wJ_some, wR_ref, wR_con, wO_some, s1_eq, s2_eq, dl_nil, dl_cons, dm_nil, dm_cons, lk_cons, cat_int, cat_long, cat_ref, cat_con, args_nil, args_int, args_long, args_ref, args_con, ct_nil, ct_cons, Nat.reduceBEq, Nat.reduceAdd, Nat.reduceLeDiff, Nat.reduceEqDiff, Bool.not_true, Bool.not_false, Bool.and_true, Bool.and_false, Bool.true_and, Bool.false_and, cond_true, cond_false, Nat.zero_add, Nat.add_zero, reduceCtorEq, Nat.zero_le, ui_at, ua_at, ul_at, wK_v, wK_n, wK_t, true_and, and_true, nb0, nb1, not_false_eq_true, not_true_eq_false, ci_0, ci_1, ci_3, ci_5, ci_7, ci_12, ci_15, ci_16, ci_21, ci_22, w_153_0, w_153_1, w_153_4, w_153_7, w_153_8, w_153_11, w_153_12, w_153_15, w_153_17, w_153_20, w_153_24, kg_0, ki_0, k_lat kc_0]
  rw [if_neg (show ¬ (1 : Int32) = 0 by decide), dx_M_in (Nat.le_of_ble_eq_true rfl)]
  simp only [wI_some, wJ_some, wR_ref, wR_con, wO_some, s1_eq, s2_eq, dl_nil, dl_cons, dm_nil, dm_cons, lk_cons, cat_int, cat_long, cat_ref, cat_con, args_nil, args_int, args_long, args_ref, args_con, ct_nil, ct_cons, Nat.reduceBEq, Nat.reduceAdd, Nat.reduceLeDiff, Nat.reduceEqDiff, Bool.not_true, Bool.not_false, Bool.and_true, Bool.and_false, Bool.true_and, Bool.false_and, cond_true, cond_false, Nat.zero_add, Nat.add_zero, reduceCtorEq, Nat.zero_le, ui_at, ua_at, ul_at, wK_v, wK_n, wK_t, true_and, and_true, nb0, nb1, not_false_eq_true, not_true_eq_false, ci_0, ci_1, ci_3, ci_5, ci_7, ci_12, ci_15, ci_16, ci_21, ci_22, w_158_0, w_158_1, w_158_2, w_158_3, w_158_6, w_158_7, w_158_8, w_158_9, w_158_12, w_158_13, w_158_14, kn_0, (show (2 : Int32) = nI 2 from rfl), k_chk hk (show 2 < 1000 by decide), ke_0 hk, f k hk, w_153_15, nr]
theorem kg_1 : dx_gf (tb_K L xs) σ (.retAddr 3) 14 0 = some (.retAddr 9) := rfl
theorem kc_1 : dx_gf (tb_K L xs) σ (.retAddr 3) 14 1 = some (.int 0) := rfl
theorem ki_1 : dx_ci (tb_K L xs) σ (.retAddr 3) = some 14 := rfl
theorem kn_1 : dx_in (tb_K L xs) σ (.retAddr 9) = some 5 := rfl
theorem ke_1 (hk : k < 5) : dx_ei (tb_K L xs) σ 3 (.retAddr 9) (nI k) = some (tb_str1 k) := by
  rw [show dx_ei (tb_K L xs) σ 3 (.retAddr 9) (nI k) = some (tb_str1 (nI k).toNatClampNeg) from if_pos ⟨rfl, vp_in_nI hk (by decide)⟩, nI_clamp (by omega)]
theorem k_len1 : dx_M (tb_Z L xs) (d + 2) 151 [.retAddr 3] σ Q ↔ Q (.inl (some (.int 5))) σ := by
  rw [dx_M_in (Nat.le_of_ble_eq_true rfl)]
  simp only [wI_some, wJ_some, wR_ref, wR_con, wO_some, s1_eq, s2_eq, dl_nil, dl_cons, dm_nil, dm_cons, lk_cons, cat_int, cat_long, cat_ref, cat_con, args_nil, args_int, args_long, args_ref, args_con, ct_nil, ct_cons, Nat.reduceBEq, Nat.reduceAdd, Nat.reduceLeDiff, Nat.reduceEqDiff, Bool.not_true, Bool.not_false, Bool.and_true, Bool.and_false, Bool.true_and, Bool.false_and, cond_true, cond_false, Nat.zero_add, Nat.add_zero, reduceCtorEq, Nat.zero_le, ui_at, ua_at, ul_at, wK_v, wK_n, wK_t, true_and, and_true, nb0, nb1, not_false_eq_true, not_true_eq_false, ci_0, ci_1, ci_3, ci_5, ci_7, ci_12, ci_15, ci_16, ci_21, ci_22, w_151_0, w_151_1, w_151_4, w_151_5, w_151_6, w_151_9, w_151_10, kg_1, kn_1, ki_1, k_cod (b := 0) kc_1, (show (5 : Int32) >>> ((0 : Int32) &&& 31) = 5 from by decide)]
theorem k_chr1 (hk : k < 5) : dx_M (tb_Z L xs) (d + 4) 153 [.retAddr 3, .int (nI k)] σ Q ↔ Q (.inl (some (.int (tb_str1 k)))) σ := by
  have g : ∀ k, k < 5 → nI (tb_str1 k).toNatClampNeg = tb_str1 k ∧ (tb_str1 k).toNatClampNeg < 65536 := by decide
  have nr : narrow FieldType.char (.int (tb_str1 k)) = .int (tb_str1 k) := by
    rw [← (g k hk).1]
    exact (pk_charN (g k hk).2).1
  have f : ∀ k, k < 5 → ((tb_str1 k &&& 255).toUInt32 % 65536).toInt32 = tb_str1 k := by decide
  rw [dx_M_in (Nat.le_of_ble_eq_true rfl)]
  simp only [wI_some, wJ_some, wR_ref, wR_con, wO_some, s1_eq, s2_eq, dl_nil, dl_cons, dm_nil, dm_cons, lk_cons, cat_int, cat_long, cat_ref, cat_con, args_nil, args_int, args_long, args_ref, args_con, ct_nil, ct_cons, Nat.reduceBEq, Nat.reduceAdd, Nat.reduceLeDiff, Nat.reduceEqDiff, Bool.not_true, Bool.not_false, Bool.and_true, Bool.and_false, Bool.true_and, Bool.false_and, cond_true, cond_false, Nat.zero_add, Nat.add_zero, reduceCtorEq, Nat.zero_le, ui_at, ua_at, ul_at, wK_v, wK_n, wK_t, true_and, and_true, nb0, nb1, not_false_eq_true, not_true_eq_false, ci_0, ci_1, ci_3, ci_5, ci_7, ci_12, ci_15, ci_16, ci_21, ci_22, w_153_0, w_153_1, w_153_4, w_153_7, w_153_8, w_153_11, w_153_12, w_153_15, w_153_17, w_153_20, w_153_24, kg_1, ki_1, k_lat kc_1]
  rw [if_neg (show ¬ (1 : Int32) = 0 by decide), dx_M_in (Nat.le_of_ble_eq_true rfl)]
  simp only [wI_some, wJ_some, wR_ref, wR_con, wO_some, s1_eq, s2_eq, dl_nil, dl_cons, dm_nil, dm_cons, lk_cons, cat_int, cat_long, cat_ref, cat_con, args_nil, args_int, args_long, args_ref, args_con, ct_nil, ct_cons, Nat.reduceBEq, Nat.reduceAdd, Nat.reduceLeDiff, Nat.reduceEqDiff, Bool.not_true, Bool.not_false, Bool.and_true, Bool.and_false, Bool.true_and, Bool.false_and, cond_true, cond_false, Nat.zero_add, Nat.add_zero, reduceCtorEq, Nat.zero_le, ui_at, ua_at, ul_at, wK_v, wK_n, wK_t, true_and, and_true, nb0, nb1, not_false_eq_true, not_true_eq_false, ci_0, ci_1, ci_3, ci_5, ci_7, ci_12, ci_15, ci_16, ci_21, ci_22, w_158_0, w_158_1, w_158_2, w_158_3, w_158_6, w_158_7, w_158_8, w_158_9, w_158_12, w_158_13, w_158_14, kn_1, (show (5 : Int32) = nI 5 from rfl), k_chk hk (show 5 < 1000 by decide), ke_1 hk, f k hk, w_153_15, nr]
theorem kg_2 : dx_gf (tb_K L xs) σ (.retAddr 4) 14 0 = some (.retAddr 10) := rfl
theorem kc_2 : dx_gf (tb_K L xs) σ (.retAddr 4) 14 1 = some (.int 0) := rfl
theorem ki_2 : dx_ci (tb_K L xs) σ (.retAddr 4) = some 14 := rfl
theorem kn_2 : dx_in (tb_K L xs) σ (.retAddr 10) = some 6 := rfl
theorem ke_2 (hk : k < 6) : dx_ei (tb_K L xs) σ 3 (.retAddr 10) (nI k) = some (tb_str2 k) := by
  rw [show dx_ei (tb_K L xs) σ 3 (.retAddr 10) (nI k) = some (tb_str2 (nI k).toNatClampNeg) from if_pos ⟨rfl, vp_in_nI hk (by decide)⟩, nI_clamp (by omega)]
theorem k_len2 : dx_M (tb_Z L xs) (d + 2) 151 [.retAddr 4] σ Q ↔ Q (.inl (some (.int 6))) σ := by
  rw [dx_M_in (Nat.le_of_ble_eq_true rfl)]
  simp only [wI_some, wJ_some, wR_ref, wR_con, wO_some, s1_eq, s2_eq, dl_nil, dl_cons, dm_nil, dm_cons, lk_cons, cat_int, cat_long, cat_ref, cat_con, args_nil, args_int, args_long, args_ref, args_con, ct_nil, ct_cons, Nat.reduceBEq, Nat.reduceAdd, Nat.reduceLeDiff, Nat.reduceEqDiff, Bool.not_true, Bool.not_false, Bool.and_true, Bool.and_false, Bool.true_and, Bool.false_and, cond_true, cond_false, Nat.zero_add, Nat.add_zero, reduceCtorEq, Nat.zero_le, ui_at, ua_at, ul_at, wK_v, wK_n, wK_t, true_and, and_true, nb0, nb1, not_false_eq_true, not_true_eq_false, ci_0, ci_1, ci_3, ci_5, ci_7, ci_12, ci_15, ci_16, ci_21, ci_22, w_151_0, w_151_1, w_151_4, w_151_5, w_151_6, w_151_9, w_151_10, kg_2, kn_2, ki_2, k_cod (b := 0) kc_2, (show (6 : Int32) >>> ((0 : Int32) &&& 31) = 6 from by decide)]
theorem k_chr2 (hk : k < 6) : dx_M (tb_Z L xs) (d + 4) 153 [.retAddr 4, .int (nI k)] σ Q ↔ Q (.inl (some (.int (tb_str2 k)))) σ := by
  have g : ∀ k, k < 6 → nI (tb_str2 k).toNatClampNeg = tb_str2 k ∧ (tb_str2 k).toNatClampNeg < 65536 := by decide
  have nr : narrow FieldType.char (.int (tb_str2 k)) = .int (tb_str2 k) := by
    rw [← (g k hk).1]
    exact (pk_charN (g k hk).2).1
  have f : ∀ k, k < 6 → ((tb_str2 k &&& 255).toUInt32 % 65536).toInt32 = tb_str2 k := by decide
  rw [dx_M_in (Nat.le_of_ble_eq_true rfl)]
  simp only [wI_some, wJ_some, wR_ref, wR_con, wO_some, s1_eq, s2_eq, dl_nil, dl_cons, dm_nil, dm_cons, lk_cons, cat_int, cat_long, cat_ref, cat_con, args_nil, args_int, args_long, args_ref, args_con, ct_nil, ct_cons, Nat.reduceBEq, Nat.reduceAdd, Nat.reduceLeDiff, Nat.reduceEqDiff, Bool.not_true, Bool.not_false, Bool.and_true, Bool.and_false, Bool.true_and, Bool.false_and, cond_true, cond_false, Nat.zero_add, Nat.add_zero, reduceCtorEq, Nat.zero_le, ui_at, ua_at, ul_at, wK_v, wK_n, wK_t, true_and, and_true, nb0, nb1, not_false_eq_true, not_true_eq_false, ci_0, ci_1, ci_3, ci_5, ci_7, ci_12, ci_15, ci_16, ci_21, ci_22, w_153_0, w_153_1, w_153_4, w_153_7, w_153_8, w_153_11, w_153_12, w_153_15, w_153_17, w_153_20, w_153_24, kg_2, ki_2, k_lat kc_2]
  rw [if_neg (show ¬ (1 : Int32) = 0 by decide), dx_M_in (Nat.le_of_ble_eq_true rfl)]
  simp only [wI_some, wJ_some, wR_ref, wR_con, wO_some, s1_eq, s2_eq, dl_nil, dl_cons, dm_nil, dm_cons, lk_cons, cat_int, cat_long, cat_ref, cat_con, args_nil, args_int, args_long, args_ref, args_con, ct_nil, ct_cons, Nat.reduceBEq, Nat.reduceAdd, Nat.reduceLeDiff, Nat.reduceEqDiff, Bool.not_true, Bool.not_false, Bool.and_true, Bool.and_false, Bool.true_and, Bool.false_and, cond_true, cond_false, Nat.zero_add, Nat.add_zero, reduceCtorEq, Nat.zero_le, ui_at, ua_at, ul_at, wK_v, wK_n, wK_t, true_and, and_true, nb0, nb1, not_false_eq_true, not_true_eq_false, ci_0, ci_1, ci_3, ci_5, ci_7, ci_12, ci_15, ci_16, ci_21, ci_22, w_158_0, w_158_1, w_158_2, w_158_3, w_158_6, w_158_7, w_158_8, w_158_9, w_158_12, w_158_13, w_158_14, kn_2, (show (6 : Int32) = nI 6 from rfl), k_chk hk (show 6 < 1000 by decide), ke_2 hk, f k hk, w_153_15, nr]
theorem kg_3 : dx_gf (tb_K L xs) σ (.retAddr 5) 14 0 = some (.retAddr 11) := rfl
theorem kc_3 : dx_gf (tb_K L xs) σ (.retAddr 5) 14 1 = some (.int 0) := rfl
theorem ki_3 : dx_ci (tb_K L xs) σ (.retAddr 5) = some 14 := rfl
theorem kn_3 : dx_in (tb_K L xs) σ (.retAddr 11) = some 6 := rfl
theorem ke_3 (hk : k < 6) : dx_ei (tb_K L xs) σ 3 (.retAddr 11) (nI k) = some (tb_str3 k) := by
  rw [show dx_ei (tb_K L xs) σ 3 (.retAddr 11) (nI k) = some (tb_str3 (nI k).toNatClampNeg) from if_pos ⟨rfl, vp_in_nI hk (by decide)⟩, nI_clamp (by omega)]
theorem k_len3 : dx_M (tb_Z L xs) (d + 2) 151 [.retAddr 5] σ Q ↔ Q (.inl (some (.int 6))) σ := by
  rw [dx_M_in (Nat.le_of_ble_eq_true rfl)]
  simp only [wI_some, wJ_some, wR_ref, wR_con, wO_some, s1_eq, s2_eq, dl_nil, dl_cons, dm_nil, dm_cons, lk_cons, cat_int, cat_long, cat_ref, cat_con, args_nil, args_int, args_long, args_ref, args_con, ct_nil, ct_cons, Nat.reduceBEq, Nat.reduceAdd, Nat.reduceLeDiff, Nat.reduceEqDiff, Bool.not_true, Bool.not_false, Bool.and_true, Bool.and_false, Bool.true_and, Bool.false_and, cond_true, cond_false, Nat.zero_add, Nat.add_zero, reduceCtorEq, Nat.zero_le, ui_at, ua_at, ul_at, wK_v, wK_n, wK_t, true_and, and_true, nb0, nb1, not_false_eq_true, not_true_eq_false, ci_0, ci_1, ci_3, ci_5, ci_7, ci_12, ci_15, ci_16, ci_21, ci_22, w_151_0, w_151_1, w_151_4, w_151_5, w_151_6, w_151_9, w_151_10, kg_3, kn_3, ki_3, k_cod (b := 0) kc_3, (show (6 : Int32) >>> ((0 : Int32) &&& 31) = 6 from by decide)]
theorem k_chr3 (hk : k < 6) : dx_M (tb_Z L xs) (d + 4) 153 [.retAddr 5, .int (nI k)] σ Q ↔ Q (.inl (some (.int (tb_str3 k)))) σ := by
  have g : ∀ k, k < 6 → nI (tb_str3 k).toNatClampNeg = tb_str3 k ∧ (tb_str3 k).toNatClampNeg < 65536 := by decide
  have nr : narrow FieldType.char (.int (tb_str3 k)) = .int (tb_str3 k) := by
    rw [← (g k hk).1]
    exact (pk_charN (g k hk).2).1
  have f : ∀ k, k < 6 → ((tb_str3 k &&& 255).toUInt32 % 65536).toInt32 = tb_str3 k := by decide
  rw [dx_M_in (Nat.le_of_ble_eq_true rfl)]
  simp only [wI_some, wJ_some, wR_ref, wR_con, wO_some, s1_eq, s2_eq, dl_nil, dl_cons, dm_nil, dm_cons, lk_cons, cat_int, cat_long, cat_ref, cat_con, args_nil, args_int, args_long, args_ref, args_con, ct_nil, ct_cons, Nat.reduceBEq, Nat.reduceAdd, Nat.reduceLeDiff, Nat.reduceEqDiff, Bool.not_true, Bool.not_false, Bool.and_true, Bool.and_false, Bool.true_and, Bool.false_and, cond_true, cond_false, Nat.zero_add, Nat.add_zero, reduceCtorEq, Nat.zero_le, ui_at, ua_at, ul_at, wK_v, wK_n, wK_t, true_and, and_true, nb0, nb1, not_false_eq_true, not_true_eq_false, ci_0, ci_1, ci_3, ci_5, ci_7, ci_12, ci_15, ci_16, ci_21, ci_22, w_153_0, w_153_1, w_153_4, w_153_7, w_153_8, w_153_11, w_153_12, w_153_15, w_153_17, w_153_20, w_153_24, kg_3, ki_3, k_lat kc_3]
  rw [if_neg (show ¬ (1 : Int32) = 0 by decide), dx_M_in (Nat.le_of_ble_eq_true rfl)]
  simp only [wI_some, wJ_some, wR_ref, wR_con, wO_some, s1_eq, s2_eq, dl_nil, dl_cons, dm_nil, dm_cons, lk_cons, cat_int, cat_long, cat_ref, cat_con, args_nil, args_int, args_long, args_ref, args_con, ct_nil, ct_cons, Nat.reduceBEq, Nat.reduceAdd, Nat.reduceLeDiff, Nat.reduceEqDiff, Bool.not_true, Bool.not_false, Bool.and_true, Bool.and_false, Bool.true_and, Bool.false_and, cond_true, cond_false, Nat.zero_add, Nat.add_zero, reduceCtorEq, Nat.zero_le, ui_at, ua_at, ul_at, wK_v, wK_n, wK_t, true_and, and_true, nb0, nb1, not_false_eq_true, not_true_eq_false, ci_0, ci_1, ci_3, ci_5, ci_7, ci_12, ci_15, ci_16, ci_21, ci_22, w_158_0, w_158_1, w_158_2, w_158_3, w_158_6, w_158_7, w_158_8, w_158_9, w_158_12, w_158_13, w_158_14, kn_3, (show (6 : Int32) = nI 6 from rfl), k_chk hk (show 6 < 1000 by decide), ke_3 hk, f k hk, w_153_15, nr]
theorem kg_4 : dx_gf (tb_K L xs) σ (.retAddr 6) 14 0 = some (.retAddr 12) := rfl
theorem kc_4 : dx_gf (tb_K L xs) σ (.retAddr 6) 14 1 = some (.int 0) := rfl
theorem ki_4 : dx_ci (tb_K L xs) σ (.retAddr 6) = some 14 := rfl
theorem kn_4 : dx_in (tb_K L xs) σ (.retAddr 12) = some 5 := rfl
theorem ke_4 (hk : k < 5) : dx_ei (tb_K L xs) σ 3 (.retAddr 12) (nI k) = some (tb_str4 k) := by
  rw [show dx_ei (tb_K L xs) σ 3 (.retAddr 12) (nI k) = some (tb_str4 (nI k).toNatClampNeg) from if_pos ⟨rfl, vp_in_nI hk (by decide)⟩, nI_clamp (by omega)]
theorem k_len4 : dx_M (tb_Z L xs) (d + 2) 151 [.retAddr 6] σ Q ↔ Q (.inl (some (.int 5))) σ := by
  rw [dx_M_in (Nat.le_of_ble_eq_true rfl)]
  simp only [wI_some, wJ_some, wR_ref, wR_con, wO_some, s1_eq, s2_eq, dl_nil, dl_cons, dm_nil, dm_cons, lk_cons, cat_int, cat_long, cat_ref, cat_con, args_nil, args_int, args_long, args_ref, args_con, ct_nil, ct_cons, Nat.reduceBEq, Nat.reduceAdd, Nat.reduceLeDiff, Nat.reduceEqDiff, Bool.not_true, Bool.not_false, Bool.and_true, Bool.and_false, Bool.true_and, Bool.false_and, cond_true, cond_false, Nat.zero_add, Nat.add_zero, reduceCtorEq, Nat.zero_le, ui_at, ua_at, ul_at, wK_v, wK_n, wK_t, true_and, and_true, nb0, nb1, not_false_eq_true, not_true_eq_false, ci_0, ci_1, ci_3, ci_5, ci_7, ci_12, ci_15, ci_16, ci_21, ci_22, w_151_0, w_151_1, w_151_4, w_151_5, w_151_6, w_151_9, w_151_10, kg_4, kn_4, ki_4, k_cod (b := 0) kc_4, (show (5 : Int32) >>> ((0 : Int32) &&& 31) = 5 from by decide)]
theorem k_chr4 (hk : k < 5) : dx_M (tb_Z L xs) (d + 4) 153 [.retAddr 6, .int (nI k)] σ Q ↔ Q (.inl (some (.int (tb_str4 k)))) σ := by
  have g : ∀ k, k < 5 → nI (tb_str4 k).toNatClampNeg = tb_str4 k ∧ (tb_str4 k).toNatClampNeg < 65536 := by decide
  have nr : narrow FieldType.char (.int (tb_str4 k)) = .int (tb_str4 k) := by
    rw [← (g k hk).1]
    exact (pk_charN (g k hk).2).1
  have f : ∀ k, k < 5 → ((tb_str4 k &&& 255).toUInt32 % 65536).toInt32 = tb_str4 k := by decide
  rw [dx_M_in (Nat.le_of_ble_eq_true rfl)]
  simp only [wI_some, wJ_some, wR_ref, wR_con, wO_some, s1_eq, s2_eq, dl_nil, dl_cons, dm_nil, dm_cons, lk_cons, cat_int, cat_long, cat_ref, cat_con, args_nil, args_int, args_long, args_ref, args_con, ct_nil, ct_cons, Nat.reduceBEq, Nat.reduceAdd, Nat.reduceLeDiff, Nat.reduceEqDiff, Bool.not_true, Bool.not_false, Bool.and_true, Bool.and_false, Bool.true_and, Bool.false_and, cond_true, cond_false, Nat.zero_add, Nat.add_zero, reduceCtorEq, Nat.zero_le, ui_at, ua_at, ul_at, wK_v, wK_n, wK_t, true_and, and_true, nb0, nb1, not_false_eq_true, not_true_eq_false, ci_0, ci_1, ci_3, ci_5, ci_7, ci_12, ci_15, ci_16, ci_21, ci_22, w_153_0, w_153_1, w_153_4, w_153_7, w_153_8, w_153_11, w_153_12, w_153_15, w_153_17, w_153_20, w_153_24, kg_4, ki_4, k_lat kc_4]
  rw [if_neg (show ¬ (1 : Int32) = 0 by decide), dx_M_in (Nat.le_of_ble_eq_true rfl)]
  simp only [wI_some, wJ_some, wR_ref, wR_con, wO_some, s1_eq, s2_eq, dl_nil, dl_cons, dm_nil, dm_cons, lk_cons, cat_int, cat_long, cat_ref, cat_con, args_nil, args_int, args_long, args_ref, args_con, ct_nil, ct_cons, Nat.reduceBEq, Nat.reduceAdd, Nat.reduceLeDiff, Nat.reduceEqDiff, Bool.not_true, Bool.not_false, Bool.and_true, Bool.and_false, Bool.true_and, Bool.false_and, cond_true, cond_false, Nat.zero_add, Nat.add_zero, reduceCtorEq, Nat.zero_le, ui_at, ua_at, ul_at, wK_v, wK_n, wK_t, true_and, and_true, nb0, nb1, not_false_eq_true, not_true_eq_false, ci_0, ci_1, ci_3, ci_5, ci_7, ci_12, ci_15, ci_16, ci_21, ci_22, w_158_0, w_158_1, w_158_2, w_158_3, w_158_6, w_158_7, w_158_8, w_158_9, w_158_12, w_158_13, w_158_14, kn_4, (show (5 : Int32) = nI 5 from rfl), k_chk hk (show 5 < 1000 by decide), ke_4 hk, f k hk, w_153_15, nr]
theorem kg_5 : dx_gf (tb_K L xs) σ (.retAddr 7) 14 0 = some (.retAddr 13) := rfl
theorem kc_5 : dx_gf (tb_K L xs) σ (.retAddr 7) 14 1 = some (.int 0) := rfl
theorem ki_5 : dx_ci (tb_K L xs) σ (.retAddr 7) = some 14 := rfl
theorem kn_5 : dx_in (tb_K L xs) σ (.retAddr 13) = some 14 := rfl
theorem ke_5 (hk : k < 14) : dx_ei (tb_K L xs) σ 3 (.retAddr 13) (nI k) = some (tb_str5 k) := by
  rw [show dx_ei (tb_K L xs) σ 3 (.retAddr 13) (nI k) = some (tb_str5 (nI k).toNatClampNeg) from if_pos ⟨rfl, vp_in_nI hk (by decide)⟩, nI_clamp (by omega)]
theorem k_len5 : dx_M (tb_Z L xs) (d + 2) 151 [.retAddr 7] σ Q ↔ Q (.inl (some (.int 14))) σ := by
  rw [dx_M_in (Nat.le_of_ble_eq_true rfl)]
  simp only [wI_some, wJ_some, wR_ref, wR_con, wO_some, s1_eq, s2_eq, dl_nil, dl_cons, dm_nil, dm_cons, lk_cons, cat_int, cat_long, cat_ref, cat_con, args_nil, args_int, args_long, args_ref, args_con, ct_nil, ct_cons, Nat.reduceBEq, Nat.reduceAdd, Nat.reduceLeDiff, Nat.reduceEqDiff, Bool.not_true, Bool.not_false, Bool.and_true, Bool.and_false, Bool.true_and, Bool.false_and, cond_true, cond_false, Nat.zero_add, Nat.add_zero, reduceCtorEq, Nat.zero_le, ui_at, ua_at, ul_at, wK_v, wK_n, wK_t, true_and, and_true, nb0, nb1, not_false_eq_true, not_true_eq_false, ci_0, ci_1, ci_3, ci_5, ci_7, ci_12, ci_15, ci_16, ci_21, ci_22, w_151_0, w_151_1, w_151_4, w_151_5, w_151_6, w_151_9, w_151_10, kg_5, kn_5, ki_5, k_cod (b := 0) kc_5, (show (14 : Int32) >>> ((0 : Int32) &&& 31) = 14 from by decide)]
theorem k_chr5 (hk : k < 14) : dx_M (tb_Z L xs) (d + 4) 153 [.retAddr 7, .int (nI k)] σ Q ↔ Q (.inl (some (.int (tb_str5 k)))) σ := by
  have g : ∀ k, k < 14 → nI (tb_str5 k).toNatClampNeg = tb_str5 k ∧ (tb_str5 k).toNatClampNeg < 65536 := by decide
  have nr : narrow FieldType.char (.int (tb_str5 k)) = .int (tb_str5 k) := by
    rw [← (g k hk).1]
    exact (pk_charN (g k hk).2).1
  have f : ∀ k, k < 14 → ((tb_str5 k &&& 255).toUInt32 % 65536).toInt32 = tb_str5 k := by decide
  rw [dx_M_in (Nat.le_of_ble_eq_true rfl)]
  simp only [wI_some, wJ_some, wR_ref, wR_con, wO_some, s1_eq, s2_eq, dl_nil, dl_cons, dm_nil, dm_cons, lk_cons, cat_int, cat_long, cat_ref, cat_con, args_nil, args_int, args_long, args_ref, args_con, ct_nil, ct_cons, Nat.reduceBEq, Nat.reduceAdd, Nat.reduceLeDiff, Nat.reduceEqDiff, Bool.not_true, Bool.not_false, Bool.and_true, Bool.and_false, Bool.true_and, Bool.false_and, cond_true, cond_false, Nat.zero_add, Nat.add_zero, reduceCtorEq, Nat.zero_le, ui_at, ua_at, ul_at, wK_v, wK_n, wK_t, true_and, and_true, nb0, nb1, not_false_eq_true, not_true_eq_false, ci_0, ci_1, ci_3, ci_5, ci_7, ci_12, ci_15, ci_16, ci_21, ci_22, w_153_0, w_153_1, w_153_4, w_153_7, w_153_8, w_153_11, w_153_12, w_153_15, w_153_17, w_153_20, w_153_24, kg_5, ki_5, k_lat kc_5]
  rw [if_neg (show ¬ (1 : Int32) = 0 by decide), dx_M_in (Nat.le_of_ble_eq_true rfl)]
  simp only [wI_some, wJ_some, wR_ref, wR_con, wO_some, s1_eq, s2_eq, dl_nil, dl_cons, dm_nil, dm_cons, lk_cons, cat_int, cat_long, cat_ref, cat_con, args_nil, args_int, args_long, args_ref, args_con, ct_nil, ct_cons, Nat.reduceBEq, Nat.reduceAdd, Nat.reduceLeDiff, Nat.reduceEqDiff, Bool.not_true, Bool.not_false, Bool.and_true, Bool.and_false, Bool.true_and, Bool.false_and, cond_true, cond_false, Nat.zero_add, Nat.add_zero, reduceCtorEq, Nat.zero_le, ui_at, ua_at, ul_at, wK_v, wK_n, wK_t, true_and, and_true, nb0, nb1, not_false_eq_true, not_true_eq_false, ci_0, ci_1, ci_3, ci_5, ci_7, ci_12, ci_15, ci_16, ci_21, ci_22, w_158_0, w_158_1, w_158_2, w_158_3, w_158_6, w_158_7, w_158_8, w_158_9, w_158_12, w_158_13, w_158_14, kn_5, (show (14 : Int32) = nI 14 from rfl), k_chk hk (show 14 < 1000 by decide), ke_5 hk, f k hk, w_153_15, nr]
end SS
