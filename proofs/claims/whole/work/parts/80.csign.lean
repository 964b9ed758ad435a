/-! The scanner of the project: signs. -/
def ixf (b : Int32) : Nat → Nat → Int32
  | 0, _ => -1
  | n + 1, i => if tb_str5 i = b then nI i else ixf b n (i + 1)
def isSy (c : Nat) : Bool := ([43, 45, 42, 47, 37, 94, 40, 41, 123, 125, 61, 60, 62, 59] : List Nat).contains c
theorem ix_sy : ∀ c, c < 256 → (decide (0 ≤ ixf (nI c).toInt8.toInt32 14 0) = isSy c) := by decide +kernel
/-- the sign before an equal sign -/
def wes (c : Nat) : Int32 := if c = 33 then 266 else if c = 60 then 263 else if c = 61 then 265 else if c = 62 then 264 else 0
/-- the sign at p: its kind, how long it is -/
def syK (C : Nat → Nat) (p : Nat) : Option (Int32 × Nat) := if C (p + 1) = 61 ∧ ¬ wes (C p) = 0 then some (wes (C p), 2) else if C p = 10 then some (59, 1) else if isSy (C p) = true then some (nI (C p), 1) else none
section SY
variable {L : Nat} {xs : Nat → Int32} {d : Nat} {σ : dx_S} {Q : dx_O → dx_S → Prop} {xi : Nat → Int32} {xa : Nat → Nat → Int32} {xl : Nat → Nat → Int64} {j : dx_S} {T : Nat → Nat} {s t p c k v n i w m z : Nat}
theorem l_ix {b a1 : Int32} : ∀ n i, n + i = 14 → (dx_W (tb_Z L xs) d 161 7 [(5, .int (nI i)), (4, .int b), (0, .retAddr 13), (1, .int a1), (2, .int (nI 0)), (3, .int (nI 14))] [] σ Q ↔ Q (.inl (some (.int (ixf b n i)))) σ) := by
  intro n
  induction n with
  | zero =>
    intro i hi
    have e : i = 14 := by omega
    subst e
    rw [w_161_7]
    simp only [wI_some, wJ_some, wR_ref, wR_con, wO_some, s1_eq, s2_eq, dl_nil, dl_cons, dm_nil, dm_cons, lk_cons, cat_int, cat_long, cat_ref, cat_con, args_nil, args_int, args_long, args_ref, args_con, ct_nil, ct_cons, Nat.reduceBEq, Nat.reduceAdd, Nat.reduceLeDiff, Nat.reduceEqDiff, Bool.not_true, Bool.not_false, Bool.and_true, Bool.and_false, Bool.true_and, Bool.false_and, cond_true, cond_false, Nat.zero_add, Nat.add_zero, reduceCtorEq, Nat.zero_le, ui_at, ua_at, ul_at, wK_v, wK_n, wK_t, true_and, and_true, nb0, nb1, not_false_eq_true, not_true_eq_false, ci_0, ci_1, ci_3, ci_5, ci_7, ci_12, ci_15, ci_16, ci_21, ci_22, w_161_0, w_161_1, w_161_2, w_161_4, w_161_5, w_161_9, w_161_10, w_161_13, w_161_14, w_161_16, w_161_17, w_161_19, w_161_22, w_161_24, w_161_25, w_161_28, w_161_31, w_161_32]
    rw [if_pos (show nI 14 ≤ nI 14 by decide)]
    rfl
  | succ n ih =>
    intro i hi
    rw [w_161_7]
    simp only [wI_some, wJ_some, wR_ref, wR_con, wO_some, s1_eq, s2_eq, dl_nil, dl_cons, dm_nil, dm_cons, lk_cons, cat_int, cat_long, cat_ref, cat_con, args_nil, args_int, args_long, args_ref, args_con, ct_nil, ct_cons, Nat.reduceBEq, Nat.reduceAdd, Nat.reduceLeDiff, Nat.reduceEqDiff, Bool.not_true, Bool.not_false, Bool.and_true, Bool.and_false, Bool.true_and, Bool.false_and, cond_true, cond_false, Nat.zero_add, Nat.add_zero, reduceCtorEq, Nat.zero_le, ui_at, ua_at, ul_at, wK_v, wK_n, wK_t, true_and, and_true, nb0, nb1, not_false_eq_true, not_true_eq_false, ci_0, ci_1, ci_3, ci_5, ci_7, ci_12, ci_15, ci_16, ci_21, ci_22, w_161_0, w_161_1, w_161_2, w_161_4, w_161_5, w_161_9, w_161_10, w_161_13, w_161_14, w_161_16, w_161_17, w_161_19, w_161_22, w_161_24, w_161_25, w_161_28, w_161_31, w_161_32, ke_5 (show i < 14 by omega), nI_1]
    rw [if_neg (nI_ge (by omega) (by decide))]
    show _ ↔ Q (.inl (some (.int (if tb_str5 i = b then nI i else ixf b n (i + 1))))) σ
    by_cases h : tb_str5 i = b
    · rw [if_neg (fun y => y h), if_pos h]
    · rw [if_pos h, if_neg h]
      exact ih (i + 1) (by omega)
theorem e_ixf (hc : c < 256) : dx_M (tb_Z L xs) (d + 4) 156 [.retAddr 7, .int (nI c)] σ Q ↔ Q (.inl (some (.int (ixf (nI c).toInt8.toInt32 14 0)))) σ := by
  have h159 : ∀ {Q' : dx_O → dx_S → Prop}, dx_M (tb_Z L xs) (d + 2) 159 [.retAddr 13, .int (nI c), .int 0, .int 14] σ Q' ↔ Q' (.inl (some (.int (ixf (nI c).toInt8.toInt32 14 0)))) σ := by
    intro Q'
    have h160 : ∀ {Q' : dx_O → dx_S → Prop}, dx_M (tb_Z L xs) (d + 1) 160 [.int (nI c)] σ Q' ↔ Q' (.inl (some (.int 1))) σ := by
      intro Q'
      rw [dx_M_in (Nat.le_of_ble_eq_true rfl)]
      simp only [wI_some, wJ_some, wR_ref, wR_con, wO_some, s1_eq, s2_eq, dl_nil, dl_cons, dm_nil, dm_cons, lk_cons, cat_int, cat_long, cat_ref, cat_con, args_nil, args_int, args_long, args_ref, args_con, ct_nil, ct_cons, Nat.reduceBEq, Nat.reduceAdd, Nat.reduceLeDiff, Nat.reduceEqDiff, Bool.not_true, Bool.not_false, Bool.and_true, Bool.and_false, Bool.true_and, Bool.false_and, cond_true, cond_false, Nat.zero_add, Nat.add_zero, reduceCtorEq, Nat.zero_le, ui_at, ua_at, ul_at, wK_v, wK_n, wK_t, true_and, and_true, nb0, nb1, not_false_eq_true, not_true_eq_false, ci_0, ci_1, ci_3, ci_5, ci_7, ci_12, ci_15, ci_16, ci_21, ci_22, w_160_0, w_160_1, w_160_4, w_160_5, w_160_8, w_160_11, w_160_12, w_160_15, w_160_16]
      rw [if_neg (nI_pos (by omega)), if_neg (show ¬ (255 : Int32) < nI c from nI_nlt (a := 255) (by omega) (by decide))]
    have h161 : ∀ {Q' : dx_O → dx_S → Prop}, dx_M (tb_Z L xs) (d + 1) 161 [.retAddr 13, .int (nI c), .int (nI 0), .int (nI 14)] σ Q' ↔ Q' (.inl (some (.int (ixf (nI c).toInt8.toInt32 14 0)))) σ := by
      intro Q'
      rw [dx_M_in (Nat.le_of_ble_eq_true rfl)]
      simp only [wI_some, wJ_some, wR_ref, wR_con, wO_some, s1_eq, s2_eq, dl_nil, dl_cons, dm_nil, dm_cons, lk_cons, cat_int, cat_long, cat_ref, cat_con, args_nil, args_int, args_long, args_ref, args_con, ct_nil, ct_cons, Nat.reduceBEq, Nat.reduceAdd, Nat.reduceLeDiff, Nat.reduceEqDiff, Bool.not_true, Bool.not_false, Bool.and_true, Bool.and_false, Bool.true_and, Bool.false_and, cond_true, cond_false, Nat.zero_add, Nat.add_zero, reduceCtorEq, Nat.zero_le, ui_at, ua_at, ul_at, wK_v, wK_n, wK_t, true_and, and_true, nb0, nb1, not_false_eq_true, not_true_eq_false, ci_0, ci_1, ci_3, ci_5, ci_7, ci_12, ci_15, ci_16, ci_21, ci_22, w_161_0, w_161_1, w_161_2, w_161_4, w_161_5, w_161_9, w_161_10, w_161_13, w_161_14, w_161_16, w_161_17, w_161_19, w_161_22, w_161_24, w_161_25, w_161_28, w_161_31, w_161_32]
      exact l_ix 14 0 rfl
    rw [dx_M_in (Nat.le_of_ble_eq_true rfl)]
    simp only [wI_some, wJ_some, wR_ref, wR_con, wO_some, s1_eq, s2_eq, dl_nil, dl_cons, dm_nil, dm_cons, lk_cons, cat_int, cat_long, cat_ref, cat_con, args_nil, args_int, args_long, args_ref, args_con, ct_nil, ct_cons, Nat.reduceBEq, Nat.reduceAdd, Nat.reduceLeDiff, Nat.reduceEqDiff, Bool.not_true, Bool.not_false, Bool.and_true, Bool.and_false, Bool.true_and, Bool.false_and, cond_true, cond_false, Nat.zero_add, Nat.add_zero, reduceCtorEq, Nat.zero_le, ui_at, ua_at, ul_at, wK_v, wK_n, wK_t, true_and, and_true, nb0, nb1, not_false_eq_true, not_true_eq_false, ci_0, ci_1, ci_3, ci_5, ci_7, ci_12, ci_15, ci_16, ci_21, ci_22, w_159_0, w_159_1, w_159_4, w_159_7, w_159_8, w_159_9, w_159_10, w_159_11, w_159_14, w_159_15, w_159_16, w_159_17, w_159_18, w_159_21, w_159_22, w_159_23, w_159_24, w_159_27, w_159_28, w_159_29, w_159_30, w_159_31, w_159_32, w_159_33, w_159_36, h160, h161, kn_5, (show (0 : Int32) = nI 0 from rfl), (show (14 : Int32) = nI 14 from rfl), e_maxN (show 0 < 2 ^ 31 by decide) (show 0 < 2 ^ 31 by decide), e_minN (show 14 < 2 ^ 31 by decide) (show 14 < 2 ^ 31 by decide), Nat.max_self, Nat.min_self]
    rw [if_pos (show ¬ (1 : Int32) = nI 0 by decide), if_pos (show nI 0 < nI 14 by decide)]
  rw [dx_M_in (Nat.le_of_ble_eq_true rfl)]
  simp only [wI_some, wJ_some, wR_ref, wR_con, wO_some, s1_eq, s2_eq, dl_nil, dl_cons, dm_nil, dm_cons, lk_cons, cat_int, cat_long, cat_ref, cat_con, args_nil, args_int, args_long, args_ref, args_con, ct_nil, ct_cons, Nat.reduceBEq, Nat.reduceAdd, Nat.reduceLeDiff, Nat.reduceEqDiff, Bool.not_true, Bool.not_false, Bool.and_true, Bool.and_false, Bool.true_and, Bool.false_and, cond_true, cond_false, Nat.zero_add, Nat.add_zero, reduceCtorEq, Nat.zero_le, ui_at, ua_at, ul_at, wK_v, wK_n, wK_t, true_and, and_true, nb0, nb1, not_false_eq_true, not_true_eq_false, ci_0, ci_1, ci_3, ci_5, ci_7, ci_12, ci_15, ci_16, ci_21, ci_22, w_156_0, w_156_1, w_156_2, w_156_3, ki_5]
  rw [dx_M_in (Nat.le_of_ble_eq_true rfl)]
  simp only [wI_some, wJ_some, wR_ref, wR_con, wO_some, s1_eq, s2_eq, dl_nil, dl_cons, dm_nil, dm_cons, lk_cons, cat_int, cat_long, cat_ref, cat_con, args_nil, args_int, args_long, args_ref, args_con, ct_nil, ct_cons, Nat.reduceBEq, Nat.reduceAdd, Nat.reduceLeDiff, Nat.reduceEqDiff, Bool.not_true, Bool.not_false, Bool.and_true, Bool.and_false, Bool.true_and, Bool.false_and, cond_true, cond_false, Nat.zero_add, Nat.add_zero, reduceCtorEq, Nat.zero_le, ui_at, ua_at, ul_at, wK_v, wK_n, wK_t, true_and, and_true, nb0, nb1, not_false_eq_true, not_true_eq_false, ci_0, ci_1, ci_3, ci_5, ci_7, ci_12, ci_15, ci_16, ci_21, ci_22, w_157_0, w_157_1, w_157_4, w_157_7, w_157_8, w_157_11, w_157_12, w_157_13, w_157_14, w_157_17, w_157_20, w_157_24, w_157_27, w_157_28, w_157_29, w_157_30, w_157_36, ki_5, kg_5, k_lat kc_5, k_len5, h159, w_156_6]
  rw [if_neg (show ¬ (1 : Int32) = 0 by decide)]
theorem e_wes (hc : c < 65536) : dx_M (tb_Z L xs) (d + 1) 44 [.int (nI c)] σ Q ↔ Q (.inl (some (.int (wes c)))) σ := by
  have q : ∀ {e : Nat}, e < 65536 → ∀ {A B : Prop}, (if nI c = nI e then A else B) = (if c = e then A else B) := by
    intro e he A B
    by_cases h : c = e
    · rw [if_pos h, if_pos (by rw [h])]
    · rw [if_neg h, if_neg (fun y => h ((nI_eq (by omega) (by omega)).mp y))]
  rw [dx_M_in (Nat.le_of_ble_eq_true rfl)]
  simp only [wI_some, wJ_some, wR_ref, wR_con, wO_some, s1_eq, s2_eq, dl_nil, dl_cons, dm_nil, dm_cons, lk_cons, cat_int, cat_long, cat_ref, cat_con, args_nil, args_int, args_long, args_ref, args_con, ct_nil, ct_cons, Nat.reduceBEq, Nat.reduceAdd, Nat.reduceLeDiff, Nat.reduceEqDiff, Bool.not_true, Bool.not_false, Bool.and_true, Bool.and_false, Bool.true_and, Bool.false_and, cond_true, cond_false, Nat.zero_add, Nat.add_zero, reduceCtorEq, Nat.zero_le, ui_at, ua_at, ul_at, wK_v, wK_n, wK_t, true_and, and_true, nb0, nb1, not_false_eq_true, not_true_eq_false, ci_0, ci_1, ci_3, ci_5, ci_7, ci_12, ci_15, ci_16, ci_21, ci_22, w_44_0, w_44_44, w_44_47, w_44_50, w_44_53, w_44_56, w_44_59, w_44_62, w_44_65, w_44_68, w_44_69]
  rw [w_44_1]
  simp only [wI_some, wJ_some, wR_ref, wR_con, wO_some, s1_eq, s2_eq, dl_nil, dl_cons, dm_nil, dm_cons, lk_cons, cat_int, cat_long, cat_ref, cat_con, args_nil, args_int, args_long, args_ref, args_con, ct_nil, ct_cons, Nat.reduceBEq, Nat.reduceAdd, Nat.reduceLeDiff, Nat.reduceEqDiff, Bool.not_true, Bool.not_false, Bool.and_true, Bool.and_false, Bool.true_and, Bool.false_and, cond_true, cond_false, Nat.zero_add, Nat.add_zero, reduceCtorEq, Nat.zero_le, ui_at, ua_at, ul_at, wK_v, wK_n, wK_t, true_and, and_true, nb0, nb1, not_false_eq_true, not_true_eq_false, ci_0, ci_1, ci_3, ci_5, ci_7, ci_12, ci_15, ci_16, ci_21, ci_22, w_44_0, w_44_44, w_44_47, w_44_50, w_44_53, w_44_56, w_44_59, w_44_62, w_44_65, w_44_68, w_44_69]
  rw [show (33 : Int32) = nI 33 from rfl, show (60 : Int32) = nI 60 from rfl, show (61 : Int32) = nI 61 from rfl, show (62 : Int32) = nI 62 from rfl, q (by decide), q (by decide), q (by decide), q (by decide)]
  unfold wes
  repeat' split
  all_goals rfl
theorem e_sym (ht : tx xi xa T z) (hp : p ≤ 1000) (hc : xi 772 = nI c) (hc2 : c < 200) : dx_M (tb_Z L xs) (d + 5) 43 [.ref 12, .int (nI p)] (mk xi xa xl j) Q ↔ (match syK (tA T z) p with
  | some k => Q (.inl (some (.int (nI k.2)))) (mk (ui xi 772 (nI (c + 1))) (ua xa 13 (upd (xa 13) c k.1)) (ul xl 14 (vp_updL (xl 14) c 0)) j)
  | none => Q (.inr (46 + j.length)) (mk (ui xi 322 1) xa xl (j ++ [.inr (exc 1, [])]))) := by
  have ea : ∀ {k : Int32} {v : Int64} {Q' : dx_O → dx_S → Prop}, dx_M (tb_Z L xs) (d + 4) 38 [.ref 12, .int k, .long v] (mk xi xa xl j) Q' ↔ Q' (.inl none) (mk (ui xi 772 (nI (c + 1))) (ua xa 13 (upd (xa 13) c k)) (ul xl 14 (vp_updL (xl 14) c v)) j) := by
    intro k v Q'
    rw [e_add (by rw [hc]; exact vp_in_nI hc2 (by decide)), hc, nI_clamp (by omega), nI_1]
  have c0 : tA T z p < 256 := tA_lt ht
  have c1 : tA T z (p + 1) < 256 := tA_lt ht
  have ix := ix_sy (tA T z p) c0
  rw [dx_M_in (Nat.le_of_ble_eq_true rfl)]
  simp only [wI_some, wJ_some, wR_ref, wR_con, wO_some, s1_eq, s2_eq, dl_nil, dl_cons, dm_nil, dm_cons, lk_cons, cat_int, cat_long, cat_ref, cat_con, args_nil, args_int, args_long, args_ref, args_con, ct_nil, ct_cons, Nat.reduceBEq, Nat.reduceAdd, Nat.reduceLeDiff, Nat.reduceEqDiff, Bool.not_true, Bool.not_false, Bool.and_true, Bool.and_false, Bool.true_and, Bool.false_and, cond_true, cond_false, Nat.zero_add, Nat.add_zero, reduceCtorEq, Nat.zero_le, ui_at, ua_at, ul_at, wK_v, wK_n, wK_t, true_and, and_true, nb0, nb1, not_false_eq_true, not_true_eq_false, ci_0, ci_1, ci_3, ci_5, ci_7, ci_12, ci_15, ci_16, ci_21, ci_22, w_43_0, w_43_1, w_43_4, w_43_5, w_43_8, w_43_9, w_43_10, w_43_13, w_43_14, w_43_15, w_43_16, w_43_19, w_43_21, w_43_25, w_43_28, w_43_31, w_43_32, w_43_34, w_43_37, w_43_38, w_43_39, w_43_40, w_43_43, w_43_44, w_43_45, w_43_46, w_43_48, w_43_51, w_43_53, w_43_54, w_43_57, w_43_60, w_43_61, w_43_64, w_43_65, w_43_68, w_43_69, w_43_70, w_43_72, w_43_75, w_43_77, w_43_80, w_43_81, w_43_82, w_43_85, w_43_86, gf_12_0, nI_1, e_at ht (show p < 2 ^ 31 by omega), e_at ht (show p + 1 < 2 ^ 31 by omega)]
  unfold syK
  have single : ∀ lv : List (Nat × Value), lv = [(3, .int 0), (2, .int (nI (tA T z p))), (0, .ref 12), (1, .int (nI p))] → (dx_W (tb_Z L xs) (d + 4) 43 45 lv [] (mk xi xa xl j) Q ↔ (match (if tA T z p = 10 then some ((59 : Int32), 1) else if isSy (tA T z p) = true then some (nI (tA T z p), 1) else none : Option (Int32 × Nat)) with
    | some k => Q (.inl (some (.int (nI k.2)))) (mk (ui xi 772 (nI (c + 1))) (ua xa 13 (upd (xa 13) c k.1)) (ul xl 14 (vp_updL (xl 14) c 0)) j)
    | none => Q (.inr (46 + j.length)) (mk (ui xi 322 1) xa xl (j ++ [.inr (exc 1, [])])))) := by
    intro lv e
    subst e
    rw [w_43_45]
    simp only [wI_some, wJ_some, wR_ref, wR_con, wO_some, s1_eq, s2_eq, dl_nil, dl_cons, dm_nil, dm_cons, lk_cons, cat_int, cat_long, cat_ref, cat_con, args_nil, args_int, args_long, args_ref, args_con, ct_nil, ct_cons, Nat.reduceBEq, Nat.reduceAdd, Nat.reduceLeDiff, Nat.reduceEqDiff, Bool.not_true, Bool.not_false, Bool.and_true, Bool.and_false, Bool.true_and, Bool.false_and, cond_true, cond_false, Nat.zero_add, Nat.add_zero, reduceCtorEq, Nat.zero_le, ui_at, ua_at, ul_at, wK_v, wK_n, wK_t, true_and, and_true, nb0, nb1, not_false_eq_true, not_true_eq_false, ci_0, ci_1, ci_3, ci_5, ci_7, ci_12, ci_15, ci_16, ci_21, ci_22, w_43_0, w_43_1, w_43_4, w_43_5, w_43_8, w_43_9, w_43_10, w_43_13, w_43_14, w_43_15, w_43_16, w_43_19, w_43_21, w_43_24, w_43_25, w_43_28, w_43_31, w_43_32, w_43_33, w_43_34, w_43_37, w_43_38, w_43_39, w_43_40, w_43_43, w_43_44, w_43_46, w_43_48, w_43_53, w_43_54, w_43_57, w_43_60, w_43_61, w_43_64, w_43_65, w_43_69, w_43_70, w_43_72, w_43_75, w_43_77, w_43_80, w_43_81, w_43_82, w_43_85, w_43_86]
    by_cases h10 : tA T z p = 10
    · rw [if_pos h10, if_pos (show nI (tA T z p) = 10 by rw [h10]; rfl)]
      simp only [wI_some, wJ_some, wR_ref, wR_con, wO_some, s1_eq, s2_eq, dl_nil, dl_cons, dm_nil, dm_cons, lk_cons, cat_int, cat_long, cat_ref, cat_con, args_nil, args_int, args_long, args_ref, args_con, ct_nil, ct_cons, Nat.reduceBEq, Nat.reduceAdd, Nat.reduceLeDiff, Nat.reduceEqDiff, Bool.not_true, Bool.not_false, Bool.and_true, Bool.and_false, Bool.true_and, Bool.false_and, cond_true, cond_false, Nat.zero_add, Nat.add_zero, reduceCtorEq, Nat.zero_le, ui_at, ua_at, ul_at, wK_v, wK_n, wK_t, true_and, and_true, nb0, nb1, not_false_eq_true, not_true_eq_false, ci_0, ci_1, ci_3, ci_5, ci_7, ci_12, ci_15, ci_16, ci_21, ci_22, w_43_0, w_43_1, w_43_4, w_43_5, w_43_8, w_43_9, w_43_10, w_43_13, w_43_14, w_43_15, w_43_16, w_43_19, w_43_21, w_43_24, w_43_25, w_43_28, w_43_31, w_43_32, w_43_33, w_43_34, w_43_37, w_43_38, w_43_39, w_43_40, w_43_43, w_43_44, w_43_46, w_43_48, w_43_51, w_43_53, w_43_54, w_43_57, w_43_60, w_43_61, w_43_64, w_43_65, w_43_68, w_43_69, w_43_70, w_43_72, w_43_75, w_43_77, w_43_80, w_43_81, w_43_82, w_43_85, w_43_86, ea]
      rw [if_neg (fun y => y (by rw [h10]; rfl))]
      rfl
    · have n10 : ¬ nI (tA T z p) = 10 := fun y => h10 ((nI_eq (b := 10) (by omega) (by decide)).mp y)
      rw [if_neg h10, if_neg n10]
      simp only [wI_some, wJ_some, wR_ref, wR_con, wO_some, s1_eq, s2_eq, dl_nil, dl_cons, dm_nil, dm_cons, lk_cons, cat_int, cat_long, cat_ref, cat_con, args_nil, args_int, args_long, args_ref, args_con, ct_nil, ct_cons, Nat.reduceBEq, Nat.reduceAdd, Nat.reduceLeDiff, Nat.reduceEqDiff, Bool.not_true, Bool.not_false, Bool.and_true, Bool.and_false, Bool.true_and, Bool.false_and, cond_true, cond_false, Nat.zero_add, Nat.add_zero, reduceCtorEq, Nat.zero_le, ui_at, ua_at, ul_at, wK_v, wK_n, wK_t, true_and, and_true, nb0, nb1, not_false_eq_true, not_true_eq_false, ci_0, ci_1, ci_3, ci_5, ci_7, ci_12, ci_15, ci_16, ci_21, ci_22, w_43_0, w_43_1, w_43_4, w_43_5, w_43_8, w_43_9, w_43_10, w_43_13, w_43_14, w_43_15, w_43_16, w_43_19, w_43_21, w_43_24, w_43_25, w_43_28, w_43_31, w_43_32, w_43_33, w_43_34, w_43_37, w_43_38, w_43_39, w_43_40, w_43_43, w_43_44, w_43_46, w_43_48, w_43_51, w_43_53, w_43_54, w_43_57, w_43_60, w_43_61, w_43_64, w_43_65, w_43_69, w_43_70, w_43_72, w_43_75, w_43_77, w_43_80, w_43_81, w_43_82, w_43_85, w_43_86, e_ixf c0, ki_5, gf_12_1, e_raise]
      by_cases hs : isSy (tA T z p) = true
      · rw [hs] at ix
        rw [if_pos hs, if_pos (of_decide_eq_true ix)]
        simp only [wI_some, wJ_some, wR_ref, wR_con, wO_some, s1_eq, s2_eq, dl_nil, dl_cons, dm_nil, dm_cons, lk_cons, cat_int, cat_long, cat_ref, cat_con, args_nil, args_int, args_long, args_ref, args_con, ct_nil, ct_cons, Nat.reduceBEq, Nat.reduceAdd, Nat.reduceLeDiff, Nat.reduceEqDiff, Bool.not_true, Bool.not_false, Bool.and_true, Bool.and_false, Bool.true_and, Bool.false_and, cond_true, cond_false, Nat.zero_add, Nat.add_zero, reduceCtorEq, Nat.zero_le, ui_at, ua_at, ul_at, wK_v, wK_n, wK_t, true_and, and_true, nb0, nb1, not_false_eq_true, not_true_eq_false, ci_0, ci_1, ci_3, ci_5, ci_7, ci_12, ci_15, ci_16, ci_21, ci_22, w_43_0, w_43_1, w_43_4, w_43_5, w_43_8, w_43_9, w_43_10, w_43_13, w_43_14, w_43_15, w_43_16, w_43_19, w_43_21, w_43_24, w_43_25, w_43_28, w_43_31, w_43_32, w_43_33, w_43_34, w_43_37, w_43_38, w_43_39, w_43_40, w_43_43, w_43_44, w_43_46, w_43_48, w_43_51, w_43_53, w_43_54, w_43_57, w_43_60, w_43_61, w_43_64, w_43_65, w_43_68, w_43_69, w_43_70, w_43_72, w_43_75, w_43_77, w_43_80, w_43_81, w_43_82, w_43_85, w_43_86, ea]
        rw [if_pos n10]
        rfl
      · rw [if_neg hs, if_neg (fun y => hs (by rw [← ix]; exact decide_eq_true y))]
  by_cases h61 : tA T z (p + 1) = 61
  · rw [if_neg (fun y => y (by rw [h61]; rfl))]
    simp only [wI_some, wJ_some, wR_ref, wR_con, wO_some, s1_eq, s2_eq, dl_nil, dl_cons, dm_nil, dm_cons, lk_cons, cat_int, cat_long, cat_ref, cat_con, args_nil, args_int, args_long, args_ref, args_con, ct_nil, ct_cons, Nat.reduceBEq, Nat.reduceAdd, Nat.reduceLeDiff, Nat.reduceEqDiff, Bool.not_true, Bool.not_false, Bool.and_true, Bool.and_false, Bool.true_and, Bool.false_and, cond_true, cond_false, Nat.zero_add, Nat.add_zero, reduceCtorEq, Nat.zero_le, ui_at, ua_at, ul_at, wK_v, wK_n, wK_t, true_and, and_true, nb0, nb1, not_false_eq_true, not_true_eq_false, ci_0, ci_1, ci_3, ci_5, ci_7, ci_12, ci_15, ci_16, ci_21, ci_22, w_43_0, w_43_1, w_43_4, w_43_5, w_43_8, w_43_9, w_43_10, w_43_13, w_43_14, w_43_15, w_43_16, w_43_19, w_43_21, w_43_24, w_43_25, w_43_28, w_43_31, w_43_32, w_43_33, w_43_34, w_43_38, w_43_39, w_43_40, w_43_43, w_43_44, w_43_46, w_43_48, w_43_51, w_43_53, w_43_54, w_43_57, w_43_60, w_43_61, w_43_64, w_43_65, w_43_68, w_43_69, w_43_70, w_43_72, w_43_75, w_43_77, w_43_80, w_43_81, w_43_82, w_43_85, w_43_86, e_wes (show tA T z p < 65536 by omega)]
    by_cases hw : wes (tA T z p) = 0
    · rw [if_pos hw, if_neg (fun y => y.2 hw), hw]
      exact single _ rfl
    · rw [if_neg hw, if_pos ⟨h61, hw⟩]
      simp only [wI_some, wJ_some, wR_ref, wR_con, wO_some, s1_eq, s2_eq, dl_nil, dl_cons, dm_nil, dm_cons, lk_cons, cat_int, cat_long, cat_ref, cat_con, args_nil, args_int, args_long, args_ref, args_con, ct_nil, ct_cons, Nat.reduceBEq, Nat.reduceAdd, Nat.reduceLeDiff, Nat.reduceEqDiff, Bool.not_true, Bool.not_false, Bool.and_true, Bool.and_false, Bool.true_and, Bool.false_and, cond_true, cond_false, Nat.zero_add, Nat.add_zero, reduceCtorEq, Nat.zero_le, ui_at, ua_at, ul_at, wK_v, wK_n, wK_t, true_and, and_true, nb0, nb1, not_false_eq_true, not_true_eq_false, ci_0, ci_1, ci_3, ci_5, ci_7, ci_12, ci_15, ci_16, ci_21, ci_22, w_43_0, w_43_1, w_43_4, w_43_5, w_43_8, w_43_9, w_43_10, w_43_13, w_43_14, w_43_15, w_43_16, w_43_19, w_43_21, w_43_24, w_43_25, w_43_28, w_43_31, w_43_32, w_43_33, w_43_34, w_43_37, w_43_38, w_43_39, w_43_40, w_43_43, w_43_44, w_43_46, w_43_48, w_43_51, w_43_53, w_43_54, w_43_57, w_43_60, w_43_61, w_43_64, w_43_65, w_43_68, w_43_69, w_43_70, w_43_72, w_43_75, w_43_77, w_43_80, w_43_81, w_43_82, w_43_85, w_43_86, ea, (show (2 : Int32) = nI 2 from rfl)]
  · rw [if_pos (show ¬ nI (tA T z (p + 1)) = 61 from fun y => h61 ((nI_eq (b := 61) (by omega) (by decide)).mp y)), if_neg (fun y => h61 y.1)]
    simp only [wI_some, wJ_some, wR_ref, wR_con, wO_some, s1_eq, s2_eq, dl_nil, dl_cons, dm_nil, dm_cons, lk_cons, cat_int, cat_long, cat_ref, cat_con, args_nil, args_int, args_long, args_ref, args_con, ct_nil, ct_cons, Nat.reduceBEq, Nat.reduceAdd, Nat.reduceLeDiff, Nat.reduceEqDiff, Bool.not_true, Bool.not_false, Bool.and_true, Bool.and_false, Bool.true_and, Bool.false_and, cond_true, cond_false, Nat.zero_add, Nat.add_zero, reduceCtorEq, Nat.zero_le, ui_at, ua_at, ul_at, wK_v, wK_n, wK_t, true_and, and_true, nb0, nb1, not_false_eq_true, not_true_eq_false, ci_0, ci_1, ci_3, ci_5, ci_7, ci_12, ci_15, ci_16, ci_21, ci_22, w_43_0, w_43_1, w_43_4, w_43_5, w_43_8, w_43_9, w_43_10, w_43_13, w_43_14, w_43_15, w_43_16, w_43_19, w_43_21, w_43_24, w_43_25, w_43_28, w_43_31, w_43_32, w_43_33, w_43_34, w_43_38, w_43_39, w_43_40, w_43_43, w_43_44, w_43_46, w_43_48, w_43_51, w_43_53, w_43_54, w_43_57, w_43_60, w_43_61, w_43_64, w_43_65, w_43_68, w_43_69, w_43_70, w_43_72, w_43_75, w_43_77, w_43_80, w_43_81, w_43_82, w_43_85, w_43_86]
    rw [if_pos True.intro]
    exact single _ rfl
end SY
