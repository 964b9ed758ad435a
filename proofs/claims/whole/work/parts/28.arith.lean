/-! The class's reckoning: whole numbers, powers, comparisons. -/
def r_pwi (c : Nat) (a : Int) (s : Nat) : Nat → Int → Nat → Nat ⊕ (Int × Nat)
  | 0, m, t => .inr (m, t)
  | n + 1, m, t => match r_pro c m t a s with
    | .inl f => .inl f
    | .inr q => r_pwi c a s n q.1 q.2
def r_pow (c : Nat) (a : Int) (s : Nat) (b : Int) (t : Nat) : Nat ⊕ (Int × Nat) := match r_who b t (-99) 99 with
  | .inl f => .inl f
  | .inr n => match r_pwi c a s n.natAbs 1 0 with
    | .inl f => .inl f
    | .inr q => if n < 0 then r_quo c 1 0 q.1 q.2 else .inr q
/-- what a comparison says -/
def rl (k : Int32) (x y : Int) : Bool := if k = 60 then decide (x < y) else if k = 62 then decide (y < x) else if k = 263 then decide (x ≤ y) else if k = 264 then decide (y ≤ x) else if k = 265 then decide (x = y) else decide (¬ x = y)
def r_op (c : Nat) (k : Int32) (a : Int) (s : Nat) (b : Int) (t : Nat) : Nat ⊕ (Int × Nat) :=
  if k = 37 then r_rem a s b t else if k = 42 then r_pro c a s b t else if k = 43 then r_sum a s b t else if k = 45 then r_sum a s (-b) t else if k = 47 then r_quo c a s b t else if k = 94 then r_pow c a s b t else .inr (if rl k (a * 10 ^ (4 - s)) (b * 10 ^ (4 - t)) = true then 1 else 0, 0)
section AS
variable {L : Nat} {xs : Nat → Int32} {d : Nat} {σ : dx_S} {Q : dx_O → dx_S → Prop} {xi : Nat → Int32} {xa : Nat → Nat → Int32} {xl : Nat → Nat → Int64} {j : dx_S} {a b m : Int} {s t p c : Nat}
theorem chk_nm {x : Int} {q : Int × Nat} (h : chk x s = .inr q) (hs : s ≤ 4) : nm q.1 q.2 := by
  unfold chk at h
  split at h
  · cases h
  · split at h
    · cases h
      exact ⟨by omega, by omega, hs⟩
    · cases h
theorem pro_nm {q : Int × Nat} (hc4 : c ≤ 4) (ha : nm a s) (hb : nm b t) (h : r_pro c a s b t = .inr q) : nm q.1 q.2 := by
  have h1 := ha.2.2
  have h2 := hb.2.2
  exact chk_nm h (by omega)
theorem quo_nm {q : Int × Nat} (hc4 : c ≤ 4) (h : r_quo c a s b t = .inr q) : nm q.1 q.2 := by
  unfold r_quo at h
  split at h
  · cases h
  · exact chk_nm h hc4
theorem sum_nm {q : Int × Nat} (ha : nm a s) (hb : nm b t) (h : r_sum a s b t = .inr q) : nm q.1 q.2 := by
  have h1 := ha.2.2
  have h2 := hb.2.2
  exact chk_nm h (by omega)
theorem rem_nm {q : Int × Nat} (ha : nm a s) (hb : nm b t) (h : r_rem a s b t = .inr q) : nm q.1 q.2 := by
  have h1 := ha.2.2
  have h2 := hb.2.2
  unfold r_rem at h
  split at h
  · cases h
  · exact chk_nm h (by omega)
theorem pwi_nm {q : Int × Nat} (hc4 : c ≤ 4) (ha : nm a s) : ∀ n m t, nm m t → r_pwi c a s n m t = .inr q → nm q.1 q.2
  | 0, m, t, h1, h => by
    cases h
    exact h1
  | n + 1, m, t, h1, h => by
    unfold r_pwi at h
    split at h
    · cases h
    · rename_i q' hq
      exact pwi_nm hc4 ha n q'.1 q'.2 (pro_nm hc4 h1 ha hq) h
theorem pow_nm {q : Int × Nat} (hc4 : c ≤ 4) (ha : nm a s) (h : r_pow c a s b t = .inr q) : nm q.1 q.2 := by
  unfold r_pow at h
  split at h
  · cases h
  · split at h
    · cases h
    · rename_i n hn q' hq
      split at h
      · exact quo_nm hc4 h
      · cases h
        exact pwi_nm hc4 ha _ _ _ ⟨by decide, by decide, by decide⟩ hq
theorem neg_nm (hb : nm b t) : nm (-b) t := by
  unfold nm at hb ⊢
  omega
theorem op_nm {k : Int32} {q : Int × Nat} (hc4 : c ≤ 4) (ha : nm a s) (hb : nm b t) (h : r_op c k a s b t = .inr q) : nm q.1 q.2 := by
  unfold r_op at h
  split at h
  · exact rem_nm ha hb h
  split at h
  · exact pro_nm hc4 ha hb h
  split at h
  · exact sum_nm ha hb h
  split at h
  · exact sum_nm ha (neg_nm hb) h
  split at h
  · exact quo_nm hc4 h
  split at h
  · exact pow_nm hc4 ha h
  · split at h <;> (cases h; exact ⟨by decide, by decide, by decide⟩)
theorem who_b {n lo hi : Int} (h : r_who b t lo hi = .inr n) : lo ≤ n ∧ n ≤ hi := by
  unfold r_who at h
  split at h
  · cases h
  split at h
  · cases h
  split at h
  · cases h
    omega
  · cases h
theorem zL_rm2 {x y : Int} : zL x - zL (x.tdiv y) * zL y = zL (x.tmod y) := by
  rw [zL_mul, zL_sub, Int.tmod_def, Int.mul_comm y]
/-- how whole ends -/
def aW (r : Nat ⊕ Int) (xi : Nat → Int32) (xa : Nat → Nat → Int32) (xl : Nat → Nat → Int64) (j : dx_S) (Q : dx_O → dx_S → Prop) : Prop := match r with
  | .inl k => Q (.inr (46 + j.length)) (mk (ui xi 322 (nI k)) xa xl (j ++ [.inr (exc (nI k), [])]))
  | .inr n => Q (.inl (some (.int (zI n)))) (mk xi xa xl j)
theorem e_pack10 : dx_M (tb_Z L xs) (d + 1) 81 [.long 1, .int 0] σ Q ↔ Q (.inl (some (.long (pn 1 0)))) σ := e_packN (m := 1) (s := 0) (by decide)
theorem e_whole {lo hi : Int} (hb : nm b t) (hl : -2 ^ 31 ≤ lo) (hl2 : lo < 2 ^ 31) (hh : -2 ^ 31 ≤ hi) (hh2 : hi < 2 ^ 31) : dx_M (tb_Z L xs) (d + 3) 82 [.ref 21, .long (pn b t), .int (zI lo), .int (zI hi)] (mk xi xa xl j) Q ↔ aW (r_who b t lo hi) xi xa xl j Q := by
  have ht := hb.2.2
  have b1 := ten_4 ht
  have h := hb
  unfold nm at h
  have b2 := tq_b (x := b) (y := 10 ^ t) h.1 h.2.1
  have b3 := tm_b (x := b) (y := 10 ^ t) h.1 h.2.1
  rw [dx_M_in (Nat.le_of_ble_eq_true rfl)]
  simp only [wI_some, wJ_some, wR_ref, wR_con, wO_some, s1_eq, s2_eq, dl_nil, dl_cons, dm_nil, dm_cons, lk_cons, cat_int, cat_long, cat_ref, cat_con, args_nil, args_int, args_long, args_ref, args_con, ct_nil, ct_cons, Nat.reduceBEq, Nat.reduceAdd, Nat.reduceLeDiff, Nat.reduceEqDiff, Bool.not_true, Bool.not_false, Bool.and_true, Bool.and_false, Bool.true_and, Bool.false_and, cond_true, cond_false, Nat.zero_add, Nat.add_zero, reduceCtorEq, Nat.zero_le, ui_at, ua_at, ul_at, wK_v, wK_n, wK_t, true_and, and_true, nb0, nb1, not_false_eq_true, not_true_eq_false, ci_0, ci_1, ci_3, ci_5, ci_7, ci_12, ci_15, ci_16, ci_21, ci_22, w_82_0, w_82_3, w_82_4, w_82_7, w_82_8, w_82_10, w_82_11, w_82_14, w_82_16, w_82_17, w_82_19, w_82_20, w_82_23, w_82_25, w_82_26, w_82_27, w_82_28, w_82_31, w_82_33, w_82_34, w_82_35, w_82_36, w_82_39, w_82_41, w_82_43, w_82_44, w_82_45, w_82_48, w_82_49, w_82_52, w_82_53, w_82_56, w_82_58, w_82_59, e_placesN hb, e_mantN hb, gf_21_1, ga_ten (show t ≤ 8 by omega), (show (zL (10 ^ t) = zL 0) = False from ten_ne (show t ≤ 8 by omega)), zL_div (show -2 ^ 63 ≤ b by omega) (show b < 2 ^ 63 by omega) (show -2 ^ 63 ≤ (10 : Int) ^ t by omega) (show (10 : Int) ^ t < 2 ^ 63 by omega), zL_rm2, L0, lg_cmp_eq, lg_cmp_lt, lg_cmp_le, zI_L hl hl2, zI_L hh hh2, zL_I, e_raise]
  simp only [zL_eq (a := b.tmod (10 ^ t)) (b := 0) (by omega) (by omega) (by omega) (by omega), zL_lt (a := b.tdiv (10 ^ t)) (b := lo) (by omega) (by omega) (by omega) (by omega), zL_le (a := b.tdiv (10 ^ t)) (b := hi) (by omega) (by omega) (by omega) (by omega)]
  unfold r_who
  by_cases h1 : b.tmod (10 ^ t) = 0
  · have n1 : ¬ ¬ b.tmod (10 ^ t) = 0 := fun z => z h1
    rw [if_neg n1, if_neg n1]
    by_cases h2 : b.tdiv (10 ^ t) < lo
    · rw [if_pos h2, if_pos h2]
      exact Iff.rfl
    · rw [if_neg h2, if_neg h2]
      by_cases h3 : b.tdiv (10 ^ t) ≤ hi
      · rw [if_pos h3, if_pos h3]
        exact Iff.rfl
      · rw [if_neg h3, if_neg h3]
        exact Iff.rfl
  · rw [if_pos h1, if_pos h1]
    exact Iff.rfl
theorem e_absN {e : Int} (h1 : -99 ≤ e) (h2 : e ≤ 99) : dx_M (tb_Z L xs) (d + 1) 147 [.int (zI e)] σ Q ↔ Q (.inl (some (.int (nI e.natAbs)))) σ := by
  rw [e_absi]
  by_cases h : 0 ≤ e
  · rw [if_pos (show (0 : Int32) ≤ zI e from (zI_le (a := 0) (by omega) (by omega) (by omega) (by omega)).mpr h), nI_z', show ((e.natAbs : Nat) : Int) = e by omega]
  · rw [if_neg (show ¬ (0 : Int32) ≤ zI e from fun z => h ((zI_le (a := 0) (by omega) (by omega) (by omega) (by omega)).mp z)), zI_neg, nI_z', show ((e.natAbs : Nat) : Int) = -e by omega]
theorem l_pow {e : Int} (hc : xi 193 = nI c) (hc4 : c ≤ 4) (ha : nm a s) (h1 : -99 ≤ e) (h2 : e ≤ 99) : ∀ n i m t, n + i = e.natAbs → nm m t → (dx_W (tb_Z L xs) (d + 3) 92 21 [(8, .int (nI i)), (6, .long (pn m t)), (5, .int (zI e)), (0, .ref 21), (1, .long (pn a s)), (3, .long (pn b p))] [] (mk xi xa xl j) Q ↔ (match r_pwi c a s n m t with
  | .inl k => Q (.inr (46 + j.length)) (mk (ui xi 322 (nI k)) xa xl (j ++ [.inr (exc (nI k), [])]))
  | .inr q => dx_W (tb_Z L xs) (d + 3) 92 46 [(8, .int (nI e.natAbs)), (6, .long (pn q.1 q.2)), (5, .int (zI e)), (0, .ref 21), (1, .long (pn a s)), (3, .long (pn b p))] [] (mk xi xa xl j) Q)) := by
  intro n
  induction n with
  | zero =>
    intro i m t hi hm
    have e1 : i = e.natAbs := by omega
    subst e1
    rw [w_92_21]
    simp only [wI_some, wJ_some, wR_ref, wR_con, wO_some, s1_eq, s2_eq, dl_nil, dl_cons, dm_nil, dm_cons, lk_cons, cat_int, cat_long, cat_ref, cat_con, args_nil, args_int, args_long, args_ref, args_con, ct_nil, ct_cons, Nat.reduceBEq, Nat.reduceAdd, Nat.reduceLeDiff, Nat.reduceEqDiff, Bool.not_true, Bool.not_false, Bool.and_true, Bool.and_false, Bool.true_and, Bool.false_and, cond_true, cond_false, Nat.zero_add, Nat.add_zero, reduceCtorEq, Nat.zero_le, ui_at, ua_at, ul_at, wK_v, wK_n, wK_t, true_and, and_true, nb0, nb1, not_false_eq_true, not_true_eq_false, ci_0, ci_1, ci_3, ci_5, ci_7, ci_12, ci_15, ci_16, ci_21, ci_22, w_92_0, w_92_1, w_92_2, w_92_4, w_92_6, w_92_9, w_92_11, w_92_12, w_92_13, w_92_16, w_92_18, w_92_19, w_92_23, w_92_25, w_92_28, w_92_31, w_92_32, w_92_34, w_92_35, w_92_38, w_92_40, w_92_43, w_92_48, w_92_51, w_92_52, w_92_53, w_92_54, w_92_57, w_92_59, w_92_62, w_92_65, w_92_67, e_absN h1 h2]
    rw [if_pos (nI_le (Nat.le_refl _) (by omega))]
    exact Iff.rfl
  | succ n ih =>
    intro i m t hi hm
    rw [w_92_21]
    simp only [wI_some, wJ_some, wR_ref, wR_con, wO_some, s1_eq, s2_eq, dl_nil, dl_cons, dm_nil, dm_cons, lk_cons, cat_int, cat_long, cat_ref, cat_con, args_nil, args_int, args_long, args_ref, args_con, ct_nil, ct_cons, Nat.reduceBEq, Nat.reduceAdd, Nat.reduceLeDiff, Nat.reduceEqDiff, Bool.not_true, Bool.not_false, Bool.and_true, Bool.and_false, Bool.true_and, Bool.false_and, cond_true, cond_false, Nat.zero_add, Nat.add_zero, reduceCtorEq, Nat.zero_le, ui_at, ua_at, ul_at, wK_v, wK_n, wK_t, true_and, and_true, nb0, nb1, not_false_eq_true, not_true_eq_false, ci_0, ci_1, ci_3, ci_5, ci_7, ci_12, ci_15, ci_16, ci_21, ci_22, w_92_0, w_92_1, w_92_2, w_92_4, w_92_6, w_92_9, w_92_11, w_92_12, w_92_13, w_92_16, w_92_18, w_92_19, w_92_23, w_92_25, w_92_28, w_92_31, w_92_32, w_92_34, w_92_35, w_92_40, w_92_43, w_92_48, w_92_51, w_92_52, w_92_53, w_92_54, w_92_57, w_92_59, w_92_62, w_92_65, w_92_67, e_absN h1 h2, e_pro hc hc4 hm ha]
    rw [if_neg (nI_ge (by omega) (by omega))]
    have e2 : r_pwi c a s (n + 1) m t = (match r_pro c m t a s with
      | .inl f => .inl f
      | .inr q => r_pwi c a s n q.1 q.2) := rfl
    rw [e2]
    cases hq : r_pro c m t a s with
    | inl f => exact Iff.rfl
    | inr q =>
      show wK _ _ _ _ _ _ _ (.inl (some (.long (pn q.1 q.2)))) _ ↔ _
      simp only [wI_some, wJ_some, wR_ref, wR_con, wO_some, s1_eq, s2_eq, dl_nil, dl_cons, dm_nil, dm_cons, lk_cons, cat_int, cat_long, cat_ref, cat_con, args_nil, args_int, args_long, args_ref, args_con, ct_nil, ct_cons, Nat.reduceBEq, Nat.reduceAdd, Nat.reduceLeDiff, Nat.reduceEqDiff, Bool.not_true, Bool.not_false, Bool.and_true, Bool.and_false, Bool.true_and, Bool.false_and, cond_true, cond_false, Nat.zero_add, Nat.add_zero, reduceCtorEq, Nat.zero_le, ui_at, ua_at, ul_at, wK_v, wK_n, wK_t, true_and, and_true, nb0, nb1, not_false_eq_true, not_true_eq_false, ci_0, ci_1, ci_3, ci_5, ci_7, ci_12, ci_15, ci_16, ci_21, ci_22, w_92_0, w_92_1, w_92_2, w_92_4, w_92_6, w_92_9, w_92_11, w_92_12, w_92_13, w_92_16, w_92_18, w_92_19, w_92_23, w_92_25, w_92_28, w_92_31, w_92_32, w_92_34, w_92_35, w_92_38, w_92_40, w_92_43, w_92_48, w_92_51, w_92_52, w_92_53, w_92_54, w_92_57, w_92_59, w_92_62, w_92_65, w_92_67, nI_1]
      exact ih (i + 1) q.1 q.2 (by omega) (pro_nm hc4 hm ha hq)
theorem e_pow (hc : xi 193 = nI c) (hc4 : c ≤ 4) (ha : nm a s) (hb : nm b t) : dx_M (tb_Z L xs) (d + 4) 92 [.ref 21, .long (pn a s), .long (pn b t)] (mk xi xa xl j) Q ↔ aR (r_pow c a s b t) xi xa xl j Q := by
  rw [dx_M_in (Nat.le_of_ble_eq_true rfl)]
  simp only [wI_some, wJ_some, wR_ref, wR_con, wO_some, s1_eq, s2_eq, dl_nil, dl_cons, dm_nil, dm_cons, lk_cons, cat_int, cat_long, cat_ref, cat_con, args_nil, args_int, args_long, args_ref, args_con, ct_nil, ct_cons, Nat.reduceBEq, Nat.reduceAdd, Nat.reduceLeDiff, Nat.reduceEqDiff, Bool.not_true, Bool.not_false, Bool.and_true, Bool.and_false, Bool.true_and, Bool.false_and, cond_true, cond_false, Nat.zero_add, Nat.add_zero, reduceCtorEq, Nat.zero_le, ui_at, ua_at, ul_at, wK_v, wK_n, wK_t, true_and, and_true, nb0, nb1, not_false_eq_true, not_true_eq_false, ci_0, ci_1, ci_3, ci_5, ci_7, ci_12, ci_15, ci_16, ci_21, ci_22, w_92_0, w_92_1, w_92_2, w_92_4, w_92_6, w_92_11, w_92_12, w_92_13, w_92_16, w_92_18, w_92_19, w_92_21, w_92_23, w_92_25, w_92_28, w_92_31, w_92_32, w_92_34, w_92_35, w_92_38, w_92_40, w_92_43, w_92_46, w_92_48, w_92_51, w_92_52, w_92_53, w_92_54, w_92_57, w_92_59, w_92_62, w_92_65, w_92_67]
  rw [show ((-99 : Int32)) = zI (-99) from rfl, show ((99 : Int32)) = zI 99 from rfl, e_whole hb (by decide) (by decide) (by decide) (by decide)]
  unfold r_pow
  cases hw : r_who b t (-99) 99 with
  | inl f => exact Iff.rfl
  | inr e =>
    have he := who_b hw
    show wK _ _ _ _ _ _ _ (.inl (some (.int (zI e)))) _ ↔ _
    simp only [wI_some, wJ_some, wR_ref, wR_con, wO_some, s1_eq, s2_eq, dl_nil, dl_cons, dm_nil, dm_cons, lk_cons, cat_int, cat_long, cat_ref, cat_con, args_nil, args_int, args_long, args_ref, args_con, ct_nil, ct_cons, Nat.reduceBEq, Nat.reduceAdd, Nat.reduceLeDiff, Nat.reduceEqDiff, Bool.not_true, Bool.not_false, Bool.and_true, Bool.and_false, Bool.true_and, Bool.false_and, cond_true, cond_false, Nat.zero_add, Nat.add_zero, reduceCtorEq, Nat.zero_le, ui_at, ua_at, ul_at, wK_v, wK_n, wK_t, true_and, and_true, nb0, nb1, not_false_eq_true, not_true_eq_false, ci_0, ci_1, ci_3, ci_5, ci_7, ci_12, ci_15, ci_16, ci_21, ci_22, w_92_0, w_92_1, w_92_2, w_92_4, w_92_6, w_92_9, w_92_11, w_92_12, w_92_13, w_92_16, w_92_18, w_92_19, w_92_23, w_92_25, w_92_28, w_92_31, w_92_32, w_92_34, w_92_35, w_92_38, w_92_40, w_92_43, w_92_46, w_92_48, w_92_51, w_92_52, w_92_53, w_92_54, w_92_57, w_92_59, w_92_62, w_92_65, w_92_67, e_pack10]
    rw [show ((0 : Int32)) = nI 0 from rfl, l_pow hc hc4 ha he.1 he.2 e.natAbs 0 1 0 rfl ⟨by decide, by decide, by decide⟩]
    cases hq : r_pwi c a s e.natAbs 1 0 with
    | inl f => exact Iff.rfl
    | inr q =>
      have hn := pwi_nm hc4 ha _ _ _ ⟨by decide, by decide, by decide⟩ hq
      by_cases h0 : e < 0
      · show _ ↔ aR (if e < 0 then r_quo c 1 0 q.1 q.2 else .inr q) xi xa xl j Q
        rw [if_pos h0]
        show dx_W _ _ _ _ _ _ _ _ ↔ _
        simp only [wI_some, wJ_some, wR_ref, wR_con, wO_some, s1_eq, s2_eq, dl_nil, dl_cons, dm_nil, dm_cons, lk_cons, cat_int, cat_long, cat_ref, cat_con, args_nil, args_int, args_long, args_ref, args_con, ct_nil, ct_cons, Nat.reduceBEq, Nat.reduceAdd, Nat.reduceLeDiff, Nat.reduceEqDiff, Bool.not_true, Bool.not_false, Bool.and_true, Bool.and_false, Bool.true_and, Bool.false_and, cond_true, cond_false, Nat.zero_add, Nat.add_zero, reduceCtorEq, Nat.zero_le, ui_at, ua_at, ul_at, wK_v, wK_n, wK_t, true_and, and_true, nb0, nb1, not_false_eq_true, not_true_eq_false, ci_0, ci_1, ci_3, ci_5, ci_7, ci_12, ci_15, ci_16, ci_21, ci_22, w_92_0, w_92_1, w_92_2, w_92_4, w_92_6, w_92_9, w_92_11, w_92_12, w_92_13, w_92_16, w_92_18, w_92_19, w_92_21, w_92_23, w_92_25, w_92_28, w_92_31, w_92_32, w_92_34, w_92_35, w_92_38, w_92_40, w_92_43, w_92_46, w_92_48, w_92_51, w_92_52, w_92_53, w_92_54, w_92_57, w_92_59, w_92_65, w_92_67, e_pack10, e_quo hc hc4 (show nm 1 0 from ⟨by decide, by decide, by decide⟩) hn]
        rw [if_neg (show ¬ (0 : Int32) ≤ zI e from fun z => by have := (zI_le (a := 0) (by omega) (by omega) (by omega) (by omega)).mp z; omega)]
        refine aR_ret (fun v σ => ?_) (fun w σ => ?_)
        · simp only [wK_v, w_92_62, w_92_67]
        · exact Iff.rfl
      · show _ ↔ aR (if e < 0 then r_quo c 1 0 q.1 q.2 else .inr q) xi xa xl j Q
        rw [if_neg h0]
        show dx_W _ _ _ _ _ _ _ _ ↔ _
        simp only [wI_some, wJ_some, wR_ref, wR_con, wO_some, s1_eq, s2_eq, dl_nil, dl_cons, dm_nil, dm_cons, lk_cons, cat_int, cat_long, cat_ref, cat_con, args_nil, args_int, args_long, args_ref, args_con, ct_nil, ct_cons, Nat.reduceBEq, Nat.reduceAdd, Nat.reduceLeDiff, Nat.reduceEqDiff, Bool.not_true, Bool.not_false, Bool.and_true, Bool.and_false, Bool.true_and, Bool.false_and, cond_true, cond_false, Nat.zero_add, Nat.add_zero, reduceCtorEq, Nat.zero_le, ui_at, ua_at, ul_at, wK_v, wK_n, wK_t, true_and, and_true, nb0, nb1, not_false_eq_true, not_true_eq_false, ci_0, ci_1, ci_3, ci_5, ci_7, ci_12, ci_15, ci_16, ci_21, ci_22, w_92_0, w_92_1, w_92_2, w_92_4, w_92_6, w_92_9, w_92_11, w_92_12, w_92_13, w_92_16, w_92_18, w_92_19, w_92_21, w_92_23, w_92_25, w_92_28, w_92_31, w_92_32, w_92_34, w_92_35, w_92_38, w_92_40, w_92_43, w_92_46, w_92_48, w_92_51, w_92_52, w_92_53, w_92_54, w_92_57, w_92_59, w_92_65, w_92_67, e_pack10, e_quo hc hc4 (show nm 1 0 from ⟨by decide, by decide, by decide⟩) hn]
        rw [if_pos (show (0 : Int32) ≤ zI e from (zI_le (a := 0) (by omega) (by omega) (by omega) (by omega)).mpr (by omega))]
        exact Iff.rfl
def cmpI (x y : Int) : Int32 := if x < y then -1 else if x = y then 0 else 1
theorem e_lcompN {x y : Int} (h1 : -2 ^ 62 ≤ x) (h2 : x < 2 ^ 62) (h3 : -2 ^ 62 ≤ y) (h4 : y < 2 ^ 62) : dx_M (tb_Z L xs) (d + 1) 148 [.long (zL x), .long (zL y)] σ Q ↔ Q (.inl (some (.int (cmpI x y)))) σ := by
  rw [e_lcomp]
  simp only [lg_cmp_ge, lg_cmp_eq, zL_le (a := y) (b := x) (by omega) (by omega) (by omega) (by omega), zL_eq (a := x) (b := y) (by omega) (by omega) (by omega) (by omega)]
  unfold cmpI
  by_cases hl : x < y
  · rw [if_neg (show ¬ y ≤ x by omega), if_pos hl]
  · rw [if_pos (show y ≤ x by omega), if_neg hl]
    by_cases he : x = y
    · rw [if_neg (fun z : ¬ x = y => z he), if_pos he]
    · rw [if_pos he, if_neg he]
theorem e_holds {k : Int32} (ha : nm a s) (hb : nm b t) : dx_M (tb_Z L xs) (d + 3) 93 [.int k, .long (pn a s), .long (pn b t)] σ Q ↔ Q (.inl (some (.int (if rl k (a * 10 ^ (4 - s)) (b * 10 ^ (4 - t)) = true then 1 else 0)))) σ := by
  have b1 := al_b ha (Nat.le_refl 4)
  have b2 := al_b hb (Nat.le_refl 4)
  have z4 : (4 : Int32) = nI 4 := rfl
  rw [dx_M_in (Nat.le_of_ble_eq_true rfl)]
  simp only [wI_some, wJ_some, wR_ref, wR_con, wO_some, s1_eq, s2_eq, dl_nil, dl_cons, dm_nil, dm_cons, lk_cons, cat_int, cat_long, cat_ref, cat_con, args_nil, args_int, args_long, args_ref, args_con, ct_nil, ct_cons, Nat.reduceBEq, Nat.reduceAdd, Nat.reduceLeDiff, Nat.reduceEqDiff, Bool.not_true, Bool.not_false, Bool.and_true, Bool.and_false, Bool.true_and, Bool.false_and, cond_true, cond_false, Nat.zero_add, Nat.add_zero, reduceCtorEq, Nat.zero_le, ui_at, ua_at, ul_at, wK_v, wK_n, wK_t, true_and, and_true, nb0, nb1, not_false_eq_true, not_true_eq_false, ci_0, ci_1, ci_3, ci_5, ci_7, ci_12, ci_15, ci_16, ci_21, ci_22, w_93_0, w_93_1, w_93_2, w_93_5, w_93_6, w_93_7, w_93_10, w_93_13, w_93_15, w_93_16, w_93_68, w_93_70, w_93_73, w_93_74, w_93_77, w_93_78, w_93_81, w_93_83, w_93_86, w_93_87, w_93_90, w_93_91, w_93_94, w_93_96, w_93_99, w_93_100, w_93_103, w_93_104, w_93_107, w_93_109, w_93_112, w_93_113, w_93_116, w_93_117, w_93_120, w_93_122, w_93_125, w_93_126, w_93_129, w_93_130, w_93_133, w_93_135, w_93_138, w_93_139, w_93_142, w_93_143, z4, e_aligned ha ha.2.2 (Nat.le_refl 4), e_aligned hb hb.2.2 (Nat.le_refl 4), e_lcompN (show -2 ^ 62 ≤ a * 10 ^ (4 - s) by omega) (show a * 10 ^ (4 - s) < 2 ^ 62 by omega) (show -2 ^ 62 ≤ b * 10 ^ (4 - t) by omega) (show b * 10 ^ (4 - t) < 2 ^ 62 by omega)]
  generalize a * 10 ^ (4 - s) = x
  generalize b * 10 ^ (4 - t) = y
  unfold rl cmpI
  by_cases hl : x < y
  · have p1 : ¬ y < x := by omega
    have p2 : x ≤ y := by omega
    have p3 : ¬ y ≤ x := by omega
    have p4 : ¬ x = y := by omega
    simp only [if_pos hl, decide_eq_true hl, decide_eq_false p1, decide_eq_true p2, decide_eq_false p3, decide_eq_false p4, decide_eq_true (p := ¬ x = y) p4]
    by_cases k1 : k = 60
    · simp only [if_pos k1]
      exact Iff.rfl
    by_cases k2 : k = 62
    · simp only [if_neg k1, if_pos k2]
      exact Iff.rfl
    by_cases k3 : k = 263
    · simp only [if_neg k1, if_neg k2, if_pos k3]
      exact Iff.rfl
    by_cases k4 : k = 264
    · simp only [if_neg k1, if_neg k2, if_neg k3, if_pos k4]
      exact Iff.rfl
    by_cases k5 : k = 265
    · simp only [if_neg k1, if_neg k2, if_neg k3, if_neg k4, if_pos k5]
      exact Iff.rfl
    simp only [if_neg k1, if_neg k2, if_neg k3, if_neg k4, if_neg k5]
    exact Iff.rfl
  · by_cases he : x = y
    · have p1 : ¬ y < x := by omega
      have p2 : x ≤ y := by omega
      have p3 : y ≤ x := by omega
      simp only [if_neg hl, if_pos he, decide_eq_false hl, decide_eq_false p1, decide_eq_true p2, decide_eq_true p3, decide_eq_true he, decide_eq_false (p := ¬ x = y) (fun z => z he)]
      by_cases k1 : k = 60
      · simp only [if_pos k1]
        exact Iff.rfl
      by_cases k2 : k = 62
      · simp only [if_neg k1, if_pos k2]
        exact Iff.rfl
      by_cases k3 : k = 263
      · simp only [if_neg k1, if_neg k2, if_pos k3]
        exact Iff.rfl
      by_cases k4 : k = 264
      · simp only [if_neg k1, if_neg k2, if_neg k3, if_pos k4]
        exact Iff.rfl
      by_cases k5 : k = 265
      · simp only [if_neg k1, if_neg k2, if_neg k3, if_neg k4, if_pos k5]
        exact Iff.rfl
      simp only [if_neg k1, if_neg k2, if_neg k3, if_neg k4, if_neg k5]
      exact Iff.rfl
    · have p1 : y < x := by omega
      have p2 : ¬ x ≤ y := by omega
      have p3 : y ≤ x := by omega
      simp only [if_neg hl, if_neg he, decide_eq_false hl, decide_eq_true p1, decide_eq_false p2, decide_eq_true p3, decide_eq_false he, decide_eq_true (p := ¬ x = y) he]
      by_cases k1 : k = 60
      · simp only [if_pos k1]
        exact Iff.rfl
      by_cases k2 : k = 62
      · simp only [if_neg k1, if_pos k2]
        exact Iff.rfl
      by_cases k3 : k = 263
      · simp only [if_neg k1, if_neg k2, if_pos k3]
        exact Iff.rfl
      by_cases k4 : k = 264
      · simp only [if_neg k1, if_neg k2, if_neg k3, if_pos k4]
        exact Iff.rfl
      by_cases k5 : k = 265
      · simp only [if_neg k1, if_neg k2, if_neg k3, if_neg k4, if_pos k5]
        exact Iff.rfl
      simp only [if_neg k1, if_neg k2, if_neg k3, if_neg k4, if_neg k5]
      exact Iff.rfl
theorem e_op {k : Int32} (hc : xi 193 = nI c) (hc4 : c ≤ 4) (ha : nm a s) (hb : nm b t) : dx_M (tb_Z L xs) (d + 5) 84 [.ref 21, .int k, .long (pn a s), .long (pn b t)] (mk xi xa xl j) Q ↔ aR (r_op c k a s b t) xi xa xl j Q := by
  rw [dx_M_in (Nat.le_of_ble_eq_true rfl)]
  simp only [wI_some, wJ_some, wR_ref, wR_con, wO_some, s1_eq, s2_eq, dl_nil, dl_cons, dm_nil, dm_cons, lk_cons, cat_int, cat_long, cat_ref, cat_con, args_nil, args_int, args_long, args_ref, args_con, ct_nil, ct_cons, Nat.reduceBEq, Nat.reduceAdd, Nat.reduceLeDiff, Nat.reduceEqDiff, Bool.not_true, Bool.not_false, Bool.and_true, Bool.and_false, Bool.true_and, Bool.false_and, cond_true, cond_false, Nat.zero_add, Nat.add_zero, reduceCtorEq, Nat.zero_le, ui_at, ua_at, ul_at, wK_v, wK_n, wK_t, true_and, and_true, nb0, nb1, not_false_eq_true, not_true_eq_false, ci_0, ci_1, ci_3, ci_5, ci_7, ci_12, ci_15, ci_16, ci_21, ci_22, w_84_0, w_84_1, w_84_60, w_84_61, w_84_62, w_84_64, w_84_70, w_84_71, w_84_72, w_84_74, w_84_77, w_84_83, w_84_84, w_84_85, w_84_87, w_84_93, w_84_94, w_84_95, w_84_97, w_84_103, w_84_104, w_84_105, w_84_107, w_84_113, w_84_114, w_84_115, w_84_117, w_84_123, w_84_124, w_84_125, w_84_127, w_84_130, w_84_133, w_84_134, w_84_135, w_84_138, w_84_141, w_84_142, e_rem ha hb, e_pro hc hc4 ha hb, e_sum ha hb, e_negN hb, e_sum ha (neg_nm hb), e_quo hc hc4 ha hb, e_pow hc hc4 ha hb, e_holds ha hb, e_pack10]
  unfold r_op
  by_cases k0 : k = 37
  · simp only [if_pos k0]
    refine aR_ret (fun v σ => ?_) (fun w σ => ?_)
    · simp only [wK_v, w_84_110, w_84_142]
    · exact Iff.rfl
  by_cases k1 : k = 42
  · simp only [if_neg k0, if_pos k1]
    refine aR_ret (fun v σ => ?_) (fun w σ => ?_)
    · simp only [wK_v, w_84_90, w_84_142]
    · exact Iff.rfl
  by_cases k2 : k = 43
  · simp only [if_neg k0, if_neg k1, if_pos k2]
    refine aR_ret (fun v σ => ?_) (fun w σ => ?_)
    · simp only [wK_v, w_84_67, w_84_142]
    · exact Iff.rfl
  by_cases k3 : k = 45
  · simp only [if_neg k0, if_neg k1, if_neg k2, if_pos k3]
    refine aR_ret (fun v σ => ?_) (fun w σ => ?_)
    · simp only [wK_v, w_84_80, w_84_142]
    · exact Iff.rfl
  by_cases k4 : k = 47
  · simp only [if_neg k0, if_neg k1, if_neg k2, if_neg k3, if_pos k4]
    refine aR_ret (fun v σ => ?_) (fun w σ => ?_)
    · simp only [wK_v, w_84_100, w_84_142]
    · exact Iff.rfl
  by_cases k5 : k = 94
  · simp only [if_neg k0, if_neg k1, if_neg k2, if_neg k3, if_neg k4, if_pos k5]
    refine aR_ret (fun v σ => ?_) (fun w σ => ?_)
    · simp only [wK_v, w_84_120, w_84_142]
    · exact Iff.rfl
  simp only [if_neg k0, if_neg k1, if_neg k2, if_neg k3, if_neg k4, if_neg k5]
  cases rl k (a * 10 ^ (4 - s)) (b * 10 ^ (4 - t)) <;> exact Iff.rfl
end AS
