/-! Loops of the class and of the reference: feeding, forgetting. -/
section LH
variable {L : Nat} {xs : Nat → Int32} {d : Nat} {σ : dx_S} {Q : dx_O → dx_S → Prop} {xi : Nat → Int32} {xa : Nat → Nat → Int32} {xl : Nat → Nat → Int64} {j : dx_S}
theorem nI_4 : (4 : Int32) = nI 4 := rfl
theorem nI_z : (0 : Int32) = nI 0 := rfl
theorem ui_ui {f : Nat → Int32} {k : Nat} {x y : Int32} : ui (ui f k x) k y = ui f k y := by
  funext i
  show (if i = k then y else if i = k then x else f i) = if i = k then y else f i
  split <;> rfl
theorem ua_ua {f : Nat → Nat → Int32} {k : Nat} {x y : Nat → Int32} : ua (ua f k x) k y = ua f k y := by
  funext i
  show (if i = k then y else if i = k then x else f i) = if i = k then y else f i
  split <;> rfl
theorem ul_ul {f : Nat → Nat → Int64} {k : Nat} {x y : Nat → Int64} : ul (ul f k x) k y = ul f k y := by
  funext i
  show (if i = k then y else if i = k then x else f i) = if i = k then y else f i
  split <;> rfl
theorem ua_id {f : Nat → Nat → Int32} {k : Nat} : ua f k (f k) = f := by
  funext i
  show (if i = k then f k else f i) = f i
  split
  · rename_i h; rw [h]
  · rfl
theorem ul_id {f : Nat → Nat → Int64} {k : Nat} : ul f k (f k) = f := by
  funext i
  show (if i = k then f k else f i) = f i
  split
  · rename_i h; rw [h]
  · rfl
theorem ui_id {f : Nat → Int32} {k : Nat} : ui f k (f k) = f := by
  funext i
  show (if i = k then f k else f i) = f i
  split
  · rename_i h; rw [h]
  · rfl
theorem nI0 {a : Nat} (h : a < 2 ^ 31) : nI a = 0 ↔ a = 0 := by
  rw [nI_z, nI_eq h (by decide)]
/-- the character i that is packed in w -/
def by8 (w : Int32) (i : Nat) : Nat := (w >>> (8 * nI i &&& 31)).toBitVec.toNat % 2 ^ 8
theorem by8_eq {w : Int32} {i : Nat} : w >>> (8 * nI i &&& 31) &&& 255 = nI (by8 w i) := pk_and _ 8 (by decide)
theorem by8_lt {w : Int32} {i : Nat} : by8 w i < 256 := Nat.mod_lt _ (by decide)
theorem by8_c {w : Int32} {i : Nat} : ((nI (by8 w i)).toUInt32 % 65536).toInt32 = nI (by8 w i) := by
  have h := by8_lt (w := w) (i := i)
  rw [pk_char, pk_tn (by omega), Nat.mod_eq_of_lt (by omega)]
theorem by8_n {w : Int32} {i : Nat} : vp_nar .char (nI (by8 w i)) = nI (by8 w i) := by
  have h := by8_lt (w := w) (i := i)
  have e := (pk_charN (q := by8 w i) (by omega)).1
  unfold vp_nar
  rw [e]
/-- how many characters are packed in w -/
def pkf (w : Int32) : Nat → Nat → Nat
  | 0, c => c
  | m + 1, c => if by8 w c = 0 then c else pkf w m (c + 1)
def pk (w : Int32) : Nat := pkf w 4 0
theorem pkf_le {w : Int32} : ∀ m c, pkf w m c ≤ m + c
  | 0, c => by show c ≤ _; omega
  | m + 1, c => by
    show (if by8 w c = 0 then c else pkf w m (c + 1)) ≤ _
    split
    · omega
    · have := pkf_le (w := w) m (c + 1); omega
theorem pkf_nz {w : Int32} : ∀ m c i, c ≤ i → i < pkf w m c → by8 w i ≠ 0
  | 0, c, i, h1, h2 => by
    have h2 : i < c := h2
    omega
  | m + 1, c, i, h1, h2 => by
    have h2 : i < (if by8 w c = 0 then c else pkf w m (c + 1)) := h2
    split at h2
    · omega
    · rename_i h
      by_cases he : i = c
      · subst he; exact h
      · exact pkf_nz m (c + 1) i (by omega) h2
theorem pk4 {w : Int32} : pk w ≤ 4 := pkf_le 4 0
/-- what is appended: k characters of w behind n -/
def apd (f : Nat → Int32) (n : Nat) (w : Int32) (k : Nat) : Nat → Int32 := fun i => if n ≤ i ∧ i < n + k then nI (by8 w (i - n)) else f i
theorem apd_0 {f : Nat → Int32} {n : Nat} {w : Int32} : apd f n w 0 = f := by
  funext i
  exact if_neg (by omega)
theorem apd_s {f : Nat → Int32} {n k : Nat} {w : Int32} : upd (apd f n w k) (n + k) (nI (by8 w k)) = apd f n w (k + 1) := by
  funext i
  show (if i = n + k then nI (by8 w k) else if n ≤ i ∧ i < n + k then nI (by8 w (i - n)) else f i) = if n ≤ i ∧ i < n + (k + 1) then nI (by8 w (i - n)) else f i
  by_cases h : i = n + k
  · rw [if_pos h, if_pos (by omega), h, Nat.add_sub_cancel_left]
  · rw [if_neg h]
    by_cases h2 : n ≤ i ∧ i < n + k
    · rw [if_pos h2, if_pos (by omega)]
    · rw [if_neg h2, if_neg (by omega)]
theorem l_packed {w : Int32} : ∀ m c, m + c = 4 → (dx_W (tb_Z L xs) d 16 2 [(1, .int (nI c)), (0, .int w)] [] σ Q ↔ Q (.inl (some (.int (nI (pkf w m c))))) σ) := by
  intro m
  induction m with
  | zero =>
    intro c hc
    rw [w_16_2]
    simp only [wI_some, wJ_some, wR_ref, wR_con, wO_some, s1_eq, s2_eq, dl_nil, dl_cons, dm_nil, dm_cons, lk_cons, cat_int, cat_long, cat_ref, cat_con, args_nil, args_int, args_long, args_ref, args_con, ct_nil, ct_cons, Nat.reduceBEq, Nat.reduceAdd, Nat.reduceLeDiff, Nat.reduceEqDiff, Bool.not_true, Bool.not_false, Bool.and_true, Bool.and_false, Bool.true_and, Bool.false_and, cond_true, cond_false, Nat.zero_add, Nat.add_zero, reduceCtorEq, Nat.zero_le, ui_at, ua_at, ul_at, wK_v, wK_n, wK_t, true_and, and_true, nb0, nb1, not_false_eq_true, not_true_eq_false, ci_0, ci_1, ci_3, ci_5, ci_7, ci_12, ci_15, ci_16, ci_21, ci_22, w_16_0, w_16_1, w_16_3, w_16_4, w_16_7, w_16_8, w_16_10, w_16_11, w_16_12, w_16_13, w_16_16, w_16_17, w_16_20, w_16_23, w_16_26, w_16_27]
    rw [if_pos (show (4 : Int32) ≤ nI c from nI_le (a := 4) (by omega) (by omega))]
    exact Iff.rfl
  | succ m ih =>
    intro c hc
    rw [w_16_2]
    simp only [wI_some, wJ_some, wR_ref, wR_con, wO_some, s1_eq, s2_eq, dl_nil, dl_cons, dm_nil, dm_cons, lk_cons, cat_int, cat_long, cat_ref, cat_con, args_nil, args_int, args_long, args_ref, args_con, ct_nil, ct_cons, Nat.reduceBEq, Nat.reduceAdd, Nat.reduceLeDiff, Nat.reduceEqDiff, Bool.not_true, Bool.not_false, Bool.and_true, Bool.and_false, Bool.true_and, Bool.false_and, cond_true, cond_false, Nat.zero_add, Nat.add_zero, reduceCtorEq, Nat.zero_le, ui_at, ua_at, ul_at, wK_v, wK_n, wK_t, true_and, and_true, nb0, nb1, not_false_eq_true, not_true_eq_false, ci_0, ci_1, ci_3, ci_5, ci_7, ci_12, ci_15, ci_16, ci_21, ci_22, w_16_0, w_16_1, w_16_3, w_16_4, w_16_7, w_16_8, w_16_10, w_16_11, w_16_12, w_16_13, w_16_16, w_16_17, w_16_20, w_16_23, w_16_26, w_16_27]
    rw [if_neg (show ¬ (4 : Int32) ≤ nI c from nI_ge (b := 4) (by omega) (by decide)), by8_eq]
    by_cases h : by8 w c = 0
    · rw [if_pos (by rw [h]; rfl), show pkf w (m + 1) c = c from if_pos h]
    · rw [if_neg (fun z => h ((nI0 (by have := by8_lt (w := w) (i := c); omega)).mp z)), show pkf w (m + 1) c = pkf w m (c + 1) from if_neg h, nI_1]
      exact ih (c + 1) (by omega)
theorem e_packed {w : Int32} : dx_M (tb_Z L xs) (d + 1) 16 [.int w] σ Q ↔ Q (.inl (some (.int (nI (pk w))))) σ := by
  rw [dx_M_in (Nat.le_of_ble_eq_true rfl)]
  simp only [wI_some, wJ_some, wR_ref, wR_con, wO_some, s1_eq, s2_eq, dl_nil, dl_cons, dm_nil, dm_cons, lk_cons, cat_int, cat_long, cat_ref, cat_con, args_nil, args_int, args_long, args_ref, args_con, ct_nil, ct_cons, Nat.reduceBEq, Nat.reduceAdd, Nat.reduceLeDiff, Nat.reduceEqDiff, Bool.not_true, Bool.not_false, Bool.and_true, Bool.and_false, Bool.true_and, Bool.false_and, cond_true, cond_false, Nat.zero_add, Nat.add_zero, reduceCtorEq, Nat.zero_le, ui_at, ua_at, ul_at, wK_v, wK_n, wK_t, true_and, and_true, nb0, nb1, not_false_eq_true, not_true_eq_false, ci_0, ci_1, ci_3, ci_5, ci_7, ci_12, ci_15, ci_16, ci_21, ci_22, w_16_0, w_16_1, w_16_3, w_16_4, w_16_7, w_16_8, w_16_10, w_16_11, w_16_12, w_16_13, w_16_16, w_16_17, w_16_20, w_16_23, w_16_26, w_16_27]
  exact l_packed 4 0 rfl
theorem l_append {w : Int32} {n k : Nat} (hn : xi 65 = nI n) (hk : n + k ≤ 200) : ∀ m i, m + i = k → (dx_W (tb_Z L xs) d 15 21 [(3, .int (nI i)), (2, .int (nI k)), (0, .ref 1), (1, .int w)] [] (mk xi (ua xa 2 (apd (xa 2) n w i)) xl j) Q ↔ Q (.inl (some (.int (nI k)))) (mk (ui xi 65 (nI (n + k))) (ua xa 2 (apd (xa 2) n w k)) xl j)) := by
  intro m
  induction m with
  | zero =>
    intro i hi
    have e : i = k := by omega
    subst e
    rw [w_15_21]
    simp only [wI_some, wJ_some, wR_ref, wR_con, wO_some, s1_eq, s2_eq, dl_nil, dl_cons, dm_nil, dm_cons, lk_cons, cat_int, cat_long, cat_ref, cat_con, args_nil, args_int, args_long, args_ref, args_con, ct_nil, ct_cons, Nat.reduceBEq, Nat.reduceAdd, Nat.reduceLeDiff, Nat.reduceEqDiff, Bool.not_true, Bool.not_false, Bool.and_true, Bool.and_false, Bool.true_and, Bool.false_and, cond_true, cond_false, Nat.zero_add, Nat.add_zero, reduceCtorEq, Nat.zero_le, ui_at, ua_at, ul_at, wK_v, wK_n, wK_t, true_and, and_true, nb0, nb1, not_false_eq_true, not_true_eq_false, ci_0, ci_1, ci_3, ci_5, ci_7, ci_12, ci_15, ci_16, ci_21, ci_22, w_15_0, w_15_1, w_15_4, w_15_5, w_15_6, w_15_9, w_15_10, w_15_11, w_15_14, w_15_17, w_15_18, w_15_19, w_15_20, w_15_22, w_15_23, w_15_26, w_15_27, w_15_30, w_15_31, w_15_34, w_15_35, w_15_36, w_15_37, w_15_39, w_15_40, w_15_41, w_15_42, w_15_45, w_15_46, w_15_47, w_15_48, w_15_51, w_15_54, w_15_55_int, w_15_55_ref, w_15_55_retAddr, w_15_56, w_15_59, w_15_60, w_15_61, w_15_64, w_15_65, gf_1_0, gf_1_1, sf_1_1, hn, nI_add]
    rw [if_pos (nI_le (Nat.le_refl _) (by omega))]
  | succ m ih =>
    intro i hi
    have hv : vp_in (nI (n + i)) 200 := vp_in_nI (by omega) (by decide)
    rw [w_15_21]
    simp only [wI_some, wJ_some, wR_ref, wR_con, wO_some, s1_eq, s2_eq, dl_nil, dl_cons, dm_nil, dm_cons, lk_cons, cat_int, cat_long, cat_ref, cat_con, args_nil, args_int, args_long, args_ref, args_con, ct_nil, ct_cons, Nat.reduceBEq, Nat.reduceAdd, Nat.reduceLeDiff, Nat.reduceEqDiff, Bool.not_true, Bool.not_false, Bool.and_true, Bool.and_false, Bool.true_and, Bool.false_and, cond_true, cond_false, Nat.zero_add, Nat.add_zero, reduceCtorEq, Nat.zero_le, ui_at, ua_at, ul_at, wK_v, wK_n, wK_t, true_and, and_true, nb0, nb1, not_false_eq_true, not_true_eq_false, ci_0, ci_1, ci_3, ci_5, ci_7, ci_12, ci_15, ci_16, ci_21, ci_22, w_15_0, w_15_1, w_15_4, w_15_5, w_15_6, w_15_9, w_15_10, w_15_11, w_15_14, w_15_17, w_15_18, w_15_19, w_15_20, w_15_22, w_15_23, w_15_26, w_15_27, w_15_30, w_15_31, w_15_34, w_15_35, w_15_36, w_15_37, w_15_39, w_15_40, w_15_41, w_15_42, w_15_45, w_15_46, w_15_47, w_15_48, w_15_51, w_15_54, w_15_55_int, w_15_55_ref, w_15_55_retAddr, w_15_56, w_15_59, w_15_60, w_15_61, w_15_64, w_15_65, gf_1_0, gf_1_1, sf_1_1, hn, nI_add, by8_eq, by8_c, by8_n, sa_2 hv, ua_ua, nI_1, nI_clamp, apd_s]
    rw [if_neg (nI_ge (by omega) (by omega)), nI_clamp (by omega), apd_s]
    exact ih (i + 1) (by omega)
theorem e_append {w : Int32} {n : Nat} (hn : xi 65 = nI n) (h2 : n ≤ 200) : dx_M (tb_Z L xs) (d + 2) 15 [.ref 1, .int w] (mk xi xa xl j) Q ↔ (if n + pk w ≤ 200 then Q (.inl (some (.int (nI (pk w))))) (mk (ui xi 65 (nI (n + pk w))) (ua xa 2 (apd (xa 2) n w (pk w))) xl j) else Q (.inl (some (.int (-1)))) (mk xi xa xl j)) := by
  have h4 := pk4 (w := w)
  rw [dx_M_in (Nat.le_of_ble_eq_true rfl)]
  simp only [wI_some, wJ_some, wR_ref, wR_con, wO_some, s1_eq, s2_eq, dl_nil, dl_cons, dm_nil, dm_cons, lk_cons, cat_int, cat_long, cat_ref, cat_con, args_nil, args_int, args_long, args_ref, args_con, ct_nil, ct_cons, Nat.reduceBEq, Nat.reduceAdd, Nat.reduceLeDiff, Nat.reduceEqDiff, Bool.not_true, Bool.not_false, Bool.and_true, Bool.and_false, Bool.true_and, Bool.false_and, cond_true, cond_false, Nat.zero_add, Nat.add_zero, reduceCtorEq, Nat.zero_le, ui_at, ua_at, ul_at, wK_v, wK_n, wK_t, true_and, and_true, nb0, nb1, not_false_eq_true, not_true_eq_false, ci_0, ci_1, ci_3, ci_5, ci_7, ci_12, ci_15, ci_16, ci_21, ci_22, w_15_0, w_15_1, w_15_4, w_15_5, w_15_6, w_15_9, w_15_10, w_15_11, w_15_14, w_15_17, w_15_18, w_15_19, w_15_20, w_15_22, w_15_23, w_15_26, w_15_27, w_15_30, w_15_31, w_15_34, w_15_35, w_15_36, w_15_37, w_15_39, w_15_40, w_15_41, w_15_42, w_15_45, w_15_46, w_15_47, w_15_48, w_15_51, w_15_54, w_15_55_int, w_15_55_ref, w_15_55_retAddr, w_15_56, w_15_59, w_15_60, w_15_61, w_15_64, w_15_65, e_packed, gf_1_1, hn, nI_add]
  by_cases h : n + pk w ≤ 200
  · rw [if_pos (show nI (n + pk w) ≤ (200 : Int32) from nI_le (b := 200) h (by decide)), if_pos h]
    have := l_append (L := L) (xs := xs) (d := d + 1) (Q := Q) (xa := xa) (xl := xl) (j := j) (w := w) hn h (pk w) 0 (by omega)
    rw [apd_0, ua_id] at this
    exact this
  · rw [if_neg (show ¬ nI (n + pk w) ≤ (200 : Int32) from nI_ge (a := 200) (by omega) (by omega)), if_neg h]
theorem f_pack {w : Int32} : ∀ m c, m + c = 4 → (dx_W (tb_Z L xs) d 95 2 [(2, .int (nI c)), (0, .ref 22), (1, .int w)] [] σ Q ↔ dx_W (tb_Z L xs) d 95 26 [(2, .int (nI (pkf w m c))), (0, .ref 22), (1, .int w)] [] σ Q) := by
  intro m
  induction m with
  | zero =>
    intro c hc
    rw [w_95_2]
    simp only [wI_some, wJ_some, wR_ref, wR_con, wO_some, s1_eq, s2_eq, dl_nil, dl_cons, dm_nil, dm_cons, lk_cons, cat_int, cat_long, cat_ref, cat_con, args_nil, args_int, args_long, args_ref, args_con, ct_nil, ct_cons, Nat.reduceBEq, Nat.reduceAdd, Nat.reduceLeDiff, Nat.reduceEqDiff, Bool.not_true, Bool.not_false, Bool.and_true, Bool.and_false, Bool.true_and, Bool.false_and, cond_true, cond_false, Nat.zero_add, Nat.add_zero, reduceCtorEq, Nat.zero_le, ui_at, ua_at, ul_at, wK_v, wK_n, wK_t, true_and, and_true, nb0, nb1, not_false_eq_true, not_true_eq_false, ci_0, ci_1, ci_3, ci_5, ci_7, ci_12, ci_15, ci_16, ci_21, ci_22, w_95_0, w_95_1, w_95_3, w_95_4, w_95_7, w_95_8, w_95_10, w_95_11, w_95_12, w_95_13, w_95_16, w_95_17, w_95_20, w_95_23, w_95_27, w_95_30, w_95_31, w_95_32, w_95_35, w_95_38, w_95_39, w_95_40, w_95_41, w_95_42, w_95_43, w_95_44, w_95_47, w_95_48, w_95_51, w_95_52, w_95_55, w_95_56, w_95_57, w_95_58, w_95_60, w_95_61, w_95_62, w_95_63, w_95_66, w_95_67, w_95_68, w_95_71, w_95_74, w_95_75_int, w_95_75_ref, w_95_75_retAddr, w_95_76, w_95_79, w_95_80, w_95_81, w_95_84, w_95_85]
    rw [if_pos (show (4 : Int32) ≤ nI c from nI_le (a := 4) (by omega) (by omega))]
    exact Iff.rfl
  | succ m ih =>
    intro c hc
    rw [w_95_2]
    simp only [wI_some, wJ_some, wR_ref, wR_con, wO_some, s1_eq, s2_eq, dl_nil, dl_cons, dm_nil, dm_cons, lk_cons, cat_int, cat_long, cat_ref, cat_con, args_nil, args_int, args_long, args_ref, args_con, ct_nil, ct_cons, Nat.reduceBEq, Nat.reduceAdd, Nat.reduceLeDiff, Nat.reduceEqDiff, Bool.not_true, Bool.not_false, Bool.and_true, Bool.and_false, Bool.true_and, Bool.false_and, cond_true, cond_false, Nat.zero_add, Nat.add_zero, reduceCtorEq, Nat.zero_le, ui_at, ua_at, ul_at, wK_v, wK_n, wK_t, true_and, and_true, nb0, nb1, not_false_eq_true, not_true_eq_false, ci_0, ci_1, ci_3, ci_5, ci_7, ci_12, ci_15, ci_16, ci_21, ci_22, w_95_0, w_95_1, w_95_3, w_95_4, w_95_7, w_95_8, w_95_10, w_95_11, w_95_12, w_95_13, w_95_16, w_95_17, w_95_20, w_95_23, w_95_27, w_95_30, w_95_31, w_95_32, w_95_35, w_95_38, w_95_39, w_95_40, w_95_41, w_95_42, w_95_43, w_95_44, w_95_47, w_95_48, w_95_51, w_95_52, w_95_55, w_95_56, w_95_57, w_95_58, w_95_60, w_95_61, w_95_62, w_95_63, w_95_66, w_95_67, w_95_68, w_95_71, w_95_74, w_95_75_int, w_95_75_ref, w_95_75_retAddr, w_95_76, w_95_79, w_95_80, w_95_81, w_95_84, w_95_85]
    rw [if_neg (show ¬ (4 : Int32) ≤ nI c from nI_ge (b := 4) (by omega) (by decide)), by8_eq]
    by_cases h : by8 w c = 0
    · rw [if_pos (by rw [h]; rfl), show pkf w (m + 1) c = c from if_pos h]
    · rw [if_neg (fun z => h ((nI0 (by have := by8_lt (w := w) (i := c); omega)).mp z)), show pkf w (m + 1) c = pkf w m (c + 1) from if_neg h, nI_1]
      exact ih (c + 1) (by omega)
theorem f_app {w : Int32} {n k : Nat} (hn : xi 1409 = nI n) (hk : n + k ≤ 200) : ∀ m i, m + i = k → (dx_W (tb_Z L xs) d 95 42 [(3, .int (nI i)), (2, .int (nI k)), (0, .ref 22), (1, .int w)] [] (mk xi (ua xa 23 (apd (xa 23) n w i)) xl j) Q ↔ Q (.inl (some (.int (nI k)))) (mk (ui xi 1409 (nI (n + k))) (ua xa 23 (apd (xa 23) n w k)) xl j)) := by
  intro m
  induction m with
  | zero =>
    intro i hi
    have e : i = k := by omega
    subst e
    rw [w_95_42]
    simp only [wI_some, wJ_some, wR_ref, wR_con, wO_some, s1_eq, s2_eq, dl_nil, dl_cons, dm_nil, dm_cons, lk_cons, cat_int, cat_long, cat_ref, cat_con, args_nil, args_int, args_long, args_ref, args_con, ct_nil, ct_cons, Nat.reduceBEq, Nat.reduceAdd, Nat.reduceLeDiff, Nat.reduceEqDiff, Bool.not_true, Bool.not_false, Bool.and_true, Bool.and_false, Bool.true_and, Bool.false_and, cond_true, cond_false, Nat.zero_add, Nat.add_zero, reduceCtorEq, Nat.zero_le, ui_at, ua_at, ul_at, wK_v, wK_n, wK_t, true_and, and_true, nb0, nb1, not_false_eq_true, not_true_eq_false, ci_0, ci_1, ci_3, ci_5, ci_7, ci_12, ci_15, ci_16, ci_21, ci_22, w_95_0, w_95_1, w_95_2, w_95_3, w_95_4, w_95_7, w_95_8, w_95_10, w_95_11, w_95_12, w_95_13, w_95_16, w_95_17, w_95_20, w_95_23, w_95_26, w_95_27, w_95_30, w_95_31, w_95_32, w_95_35, w_95_38, w_95_39, w_95_40, w_95_41, w_95_43, w_95_44, w_95_47, w_95_48, w_95_51, w_95_52, w_95_55, w_95_56, w_95_57, w_95_58, w_95_60, w_95_61, w_95_62, w_95_63, w_95_66, w_95_67, w_95_68, w_95_71, w_95_74, w_95_75_int, w_95_75_ref, w_95_75_retAddr, w_95_76, w_95_79, w_95_80, w_95_81, w_95_84, w_95_85, gf_22_0, gf_22_1, sf_22_1, hn, nI_add]
    rw [if_pos (nI_le (Nat.le_refl _) (by omega))]
  | succ m ih =>
    intro i hi
    have hv : vp_in (nI (n + i)) 200 := vp_in_nI (by omega) (by decide)
    rw [w_95_42]
    simp only [wI_some, wJ_some, wR_ref, wR_con, wO_some, s1_eq, s2_eq, dl_nil, dl_cons, dm_nil, dm_cons, lk_cons, cat_int, cat_long, cat_ref, cat_con, args_nil, args_int, args_long, args_ref, args_con, ct_nil, ct_cons, Nat.reduceBEq, Nat.reduceAdd, Nat.reduceLeDiff, Nat.reduceEqDiff, Bool.not_true, Bool.not_false, Bool.and_true, Bool.and_false, Bool.true_and, Bool.false_and, cond_true, cond_false, Nat.zero_add, Nat.add_zero, reduceCtorEq, Nat.zero_le, ui_at, ua_at, ul_at, wK_v, wK_n, wK_t, true_and, and_true, nb0, nb1, not_false_eq_true, not_true_eq_false, ci_0, ci_1, ci_3, ci_5, ci_7, ci_12, ci_15, ci_16, ci_21, ci_22, w_95_0, w_95_1, w_95_2, w_95_3, w_95_4, w_95_7, w_95_8, w_95_10, w_95_11, w_95_12, w_95_13, w_95_16, w_95_17, w_95_20, w_95_23, w_95_26, w_95_27, w_95_30, w_95_31, w_95_32, w_95_35, w_95_38, w_95_39, w_95_40, w_95_41, w_95_43, w_95_44, w_95_47, w_95_48, w_95_51, w_95_52, w_95_55, w_95_56, w_95_57, w_95_58, w_95_60, w_95_61, w_95_62, w_95_63, w_95_66, w_95_67, w_95_68, w_95_71, w_95_74, w_95_75_int, w_95_75_ref, w_95_75_retAddr, w_95_76, w_95_79, w_95_80, w_95_81, w_95_84, w_95_85, gf_22_0, gf_22_1, sf_22_1, hn, nI_add, by8_eq, sa_23 hv, ua_ua, nI_1, nI_clamp, apd_s]
    rw [if_neg (nI_ge (by omega) (by omega)), nI_clamp (by omega), apd_s]
    exact ih (i + 1) (by omega)
theorem f_feed {w : Int32} {n : Nat} (hn : xi 1409 = nI n) (h2 : n ≤ 200) : dx_M (tb_Z L xs) (d + 1) 95 [.ref 22, .int w] (mk xi xa xl j) Q ↔ (if n + pk w ≤ 200 then Q (.inl (some (.int (nI (pk w))))) (mk (ui xi 1409 (nI (n + pk w))) (ua xa 23 (apd (xa 23) n w (pk w))) xl j) else Q (.inl (some (.int (-1)))) (mk xi xa xl j)) := by
  have h4 := pk4 (w := w)
  rw [dx_M_in (Nat.le_of_ble_eq_true rfl)]
  simp only [wI_some, wJ_some, wR_ref, wR_con, wO_some, s1_eq, s2_eq, dl_nil, dl_cons, dm_nil, dm_cons, lk_cons, cat_int, cat_long, cat_ref, cat_con, args_nil, args_int, args_long, args_ref, args_con, ct_nil, ct_cons, Nat.reduceBEq, Nat.reduceAdd, Nat.reduceLeDiff, Nat.reduceEqDiff, Bool.not_true, Bool.not_false, Bool.and_true, Bool.and_false, Bool.true_and, Bool.false_and, cond_true, cond_false, Nat.zero_add, Nat.add_zero, reduceCtorEq, Nat.zero_le, ui_at, ua_at, ul_at, wK_v, wK_n, wK_t, true_and, and_true, nb0, nb1, not_false_eq_true, not_true_eq_false, ci_0, ci_1, ci_3, ci_5, ci_7, ci_12, ci_15, ci_16, ci_21, ci_22, w_95_0, w_95_1, w_95_3, w_95_4, w_95_7, w_95_8, w_95_10, w_95_11, w_95_12, w_95_13, w_95_16, w_95_17, w_95_20, w_95_23, w_95_27, w_95_30, w_95_31, w_95_32, w_95_35, w_95_38, w_95_39, w_95_40, w_95_41, w_95_42, w_95_43, w_95_44, w_95_47, w_95_48, w_95_51, w_95_52, w_95_55, w_95_56, w_95_57, w_95_58, w_95_60, w_95_61, w_95_62, w_95_63, w_95_66, w_95_67, w_95_68, w_95_71, w_95_74, w_95_75_int, w_95_75_ref, w_95_75_retAddr, w_95_76, w_95_79, w_95_80, w_95_81, w_95_84, w_95_85]
  rw [show ((0 : Int32)) = nI 0 from rfl, f_pack 4 0 rfl, show pkf w 4 0 = pk w from rfl]
  simp only [wI_some, wJ_some, wR_ref, wR_con, wO_some, s1_eq, s2_eq, dl_nil, dl_cons, dm_nil, dm_cons, lk_cons, cat_int, cat_long, cat_ref, cat_con, args_nil, args_int, args_long, args_ref, args_con, ct_nil, ct_cons, Nat.reduceBEq, Nat.reduceAdd, Nat.reduceLeDiff, Nat.reduceEqDiff, Bool.not_true, Bool.not_false, Bool.and_true, Bool.and_false, Bool.true_and, Bool.false_and, cond_true, cond_false, Nat.zero_add, Nat.add_zero, reduceCtorEq, Nat.zero_le, ui_at, ua_at, ul_at, wK_v, wK_n, wK_t, true_and, and_true, nb0, nb1, not_false_eq_true, not_true_eq_false, ci_0, ci_1, ci_3, ci_5, ci_7, ci_12, ci_15, ci_16, ci_21, ci_22, w_95_0, w_95_1, w_95_3, w_95_4, w_95_7, w_95_8, w_95_10, w_95_11, w_95_12, w_95_13, w_95_16, w_95_17, w_95_20, w_95_23, w_95_26, w_95_27, w_95_30, w_95_31, w_95_32, w_95_35, w_95_38, w_95_39, w_95_40, w_95_41, w_95_43, w_95_44, w_95_47, w_95_48, w_95_51, w_95_52, w_95_55, w_95_56, w_95_57, w_95_58, w_95_60, w_95_61, w_95_62, w_95_63, w_95_66, w_95_67, w_95_68, w_95_71, w_95_74, w_95_75_int, w_95_75_ref, w_95_75_retAddr, w_95_76, w_95_79, w_95_80, w_95_81, w_95_84, w_95_85, gf_22_1, hn, nI_add]
  by_cases h : n + pk w ≤ 200
  · rw [if_pos (show nI (n + pk w) ≤ (200 : Int32) from nI_le (b := 200) h (by decide)), if_pos h]
    have := f_app (L := L) (xs := xs) (d := d) (Q := Q) (xa := xa) (xl := xl) (j := j) (w := w) hn h (pk w) 0 (by omega)
    rw [apd_0, ua_id] at this
    exact this
  · rw [if_neg (show ¬ nI (n + pk w) ≤ (200 : Int32) from nI_ge (a := 200) (by omega) (by omega)), if_neg h]
end LH
