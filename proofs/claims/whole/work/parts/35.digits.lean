/-! Writing a number: how many digits. -/
/-- how many digits, counted from c on, n more at most -/
def dgo (v : Nat) : Nat → Nat → Nat
  | 0, c => c
  | n + 1, c => if 10 ^ c ≤ v then dgo v n (c + 1) else c
def dgn (v : Nat) : Nat := dgo v 8 1
theorem dgo_le {v : Nat} : ∀ n c, c ≤ dgo v n c ∧ dgo v n c ≤ n + c
  | 0, c => ⟨Nat.le_refl _, by show c ≤ _; omega⟩
  | n + 1, c => by
    have h := dgo_le (v := v) n (c + 1)
    show c ≤ (if 10 ^ c ≤ v then dgo v n (c + 1) else c) ∧ (if 10 ^ c ≤ v then dgo v n (c + 1) else c) ≤ n + 1 + c
    split <;> omega
theorem dgn_b {v : Nat} : 1 ≤ dgn v ∧ dgn v ≤ 9 := dgo_le 8 1
section QB
variable {L : Nat} {xs : Nat → Int32} {d : Nat} {σ : dx_S} {Q : dx_O → dx_S → Prop} {xi : Nat → Int32} {xa : Nat → Nat → Int32} {xl : Nat → Nat → Int64} {j : dx_S} {s t p c k v n : Nat}
theorem l_digits (hv : v < 2 ^ 31) : ∀ n c, n + c = 9 → (dx_W (tb_Z L xs) d 25 2 [(2, .int (nI c)), (0, .long (zL v))] [] σ Q ↔ Q (.inl (some (.int (nI (dgo v n c))))) σ) := by
  intro n
  induction n with
  | zero =>
    intro c hc
    rw [w_25_2]
    simp only [wI_some, wJ_some, wR_ref, wR_con, wO_some, s1_eq, s2_eq, dl_nil, dl_cons, dm_nil, dm_cons, lk_cons, cat_int, cat_long, cat_ref, cat_con, args_nil, args_int, args_long, args_ref, args_con, ct_nil, ct_cons, Nat.reduceBEq, Nat.reduceAdd, Nat.reduceLeDiff, Nat.reduceEqDiff, Bool.not_true, Bool.not_false, Bool.and_true, Bool.and_false, Bool.true_and, Bool.false_and, cond_true, cond_false, Nat.zero_add, Nat.add_zero, reduceCtorEq, Nat.zero_le, ui_at, ua_at, ul_at, wK_v, wK_n, wK_t, true_and, and_true, nb0, nb1, not_false_eq_true, not_true_eq_false, ci_0, ci_1, ci_3, ci_5, ci_7, ci_12, ci_15, ci_16, ci_21, ci_22, w_25_0, w_25_1, w_25_3, w_25_5, w_25_8, w_25_9, w_25_12, w_25_13, w_25_14, w_25_15, w_25_18, w_25_21, w_25_24, w_25_25]
    rw [if_pos (show (9 : Int32) ≤ nI c from nI_le (a := 9) (by omega) (by omega))]
    exact Iff.rfl
  | succ n ih =>
    intro c hc
    have b := ten_b (show c ≤ 8 by omega)
    rw [w_25_2]
    simp only [wI_some, wJ_some, wR_ref, wR_con, wO_some, s1_eq, s2_eq, dl_nil, dl_cons, dm_nil, dm_cons, lk_cons, cat_int, cat_long, cat_ref, cat_con, args_nil, args_int, args_long, args_ref, args_con, ct_nil, ct_cons, Nat.reduceBEq, Nat.reduceAdd, Nat.reduceLeDiff, Nat.reduceEqDiff, Bool.not_true, Bool.not_false, Bool.and_true, Bool.and_false, Bool.true_and, Bool.false_and, cond_true, cond_false, Nat.zero_add, Nat.add_zero, reduceCtorEq, Nat.zero_le, ui_at, ua_at, ul_at, wK_v, wK_n, wK_t, true_and, and_true, nb0, nb1, not_false_eq_true, not_true_eq_false, ci_0, ci_1, ci_3, ci_5, ci_7, ci_12, ci_15, ci_16, ci_21, ci_22, w_25_0, w_25_1, w_25_3, w_25_5, w_25_8, w_25_9, w_25_12, w_25_13, w_25_14, w_25_15, w_25_18, w_25_21, w_25_24, w_25_25, ga_ten (show c ≤ 8 by omega), lg_cmp_lt, nI_1]
    rw [if_neg (show ¬ (9 : Int32) ≤ nI c from nI_ge (b := 9) (by omega) (by decide))]
    simp only [zL_lt (a := (v : Int)) (b := 10 ^ c) (by omega) (by omega) (by omega) (by omega)]
    unfold dgo
    have e : ((10 ^ c : Nat) : Int) = (10 : Int) ^ c := by
      rw [Int.natCast_pow]
      rfl
    by_cases h : 10 ^ c ≤ v
    · rw [if_neg (show ¬ (v : Int) < 10 ^ c by omega), if_pos h]
      exact ih (c + 1) (by omega)
    · rw [if_pos (show (v : Int) < 10 ^ c by omega), if_neg h]
theorem e_digits (hv : v < 2 ^ 31) : dx_M (tb_Z L xs) (d + 1) 25 [.long (zL v)] σ Q ↔ Q (.inl (some (.int (nI (dgn v))))) σ := by
  rw [dx_M_in (Nat.le_of_ble_eq_true rfl)]
  simp only [wI_some, wJ_some, wR_ref, wR_con, wO_some, s1_eq, s2_eq, dl_nil, dl_cons, dm_nil, dm_cons, lk_cons, cat_int, cat_long, cat_ref, cat_con, args_nil, args_int, args_long, args_ref, args_con, ct_nil, ct_cons, Nat.reduceBEq, Nat.reduceAdd, Nat.reduceLeDiff, Nat.reduceEqDiff, Bool.not_true, Bool.not_false, Bool.and_true, Bool.and_false, Bool.true_and, Bool.false_and, cond_true, cond_false, Nat.zero_add, Nat.add_zero, reduceCtorEq, Nat.zero_le, ui_at, ua_at, ul_at, wK_v, wK_n, wK_t, true_and, and_true, nb0, nb1, not_false_eq_true, not_true_eq_false, ci_0, ci_1, ci_3, ci_5, ci_7, ci_12, ci_15, ci_16, ci_21, ci_22, w_25_0, w_25_1, w_25_3, w_25_5, w_25_8, w_25_9, w_25_12, w_25_13, w_25_14, w_25_15, w_25_18, w_25_21, w_25_24, w_25_25]
  exact l_digits hv 8 1 rfl
theorem e_abslN {m : Int} (h1 : -2 ^ 62 ≤ m) (h2 : m < 2 ^ 62) : dx_M (tb_Z L xs) (d + 1) 146 [.long (zL m)] σ Q ↔ Q (.inl (some (.long (zL (m.natAbs : Nat))))) σ := by
  rw [e_absl]
  simp only [lg_cmp_ge, L0, zL_neg, zL_le (a := 0) (b := m) (by omega) (by omega) (by omega) (by omega)]
  by_cases h : 0 ≤ m
  · rw [if_pos h, show ((m.natAbs : Nat) : Int) = m by omega]
  · rw [if_neg h, show ((m.natAbs : Nat) : Int) = -m by omega]
end QB
