/-! The scanner of the project: digits. -/
abbrev isD (c : Nat) : Prop := 48 ≤ c ∧ c ≤ 57
abbrev isW (c : Nat) : Prop := 97 ≤ c ∧ c ≤ 122
/-- how many digits from p on, w of them seen, n more at most -/
def dgs (C : Nat → Nat) (p : Nat) : Nat → Nat → Nat
  | 0, w => w
  | n + 1, w => if isD (C (p + w)) then dgs C p n (w + 1) else w
theorem dgs_le {C : Nat → Nat} {p : Nat} : ∀ n w, w ≤ dgs C p n w ∧ dgs C p n w ≤ n + w
  | 0, w => ⟨Nat.le_refl _, by show w ≤ _; omega⟩
  | n + 1, w => by
    have h := dgs_le (C := C) (p := p) n (w + 1)
    show w ≤ (if isD (C (p + w)) then dgs C p n (w + 1) else w) ∧ (if isD (C (p + w)) then dgs C p n (w + 1) else w) ≤ n + 1 + w
    split <;> omega
/-- what the digits among n characters from i on make of m -/
def vfw (C : Nat → Nat) : Nat → Nat → Nat → Nat
  | 0, _, m => m
  | n + 1, i, m => vfw C n (i + 1) (if isD (C i) then m * 10 + (C i - 48) else m)
theorem dg_is {c : Nat} (h : c < 65536) : (if nI c < 48 then (0 : Int32) else if 57 < nI c then 0 else 1) = if isD c then 1 else 0 := by
  by_cases h1 : c < 48
  · rw [if_pos (show nI c < 48 from nI_lt (b := 48) h1 (by decide)), if_neg (show ¬ isD c from fun z => by have := z.1; omega)]
  · rw [if_neg (show ¬ nI c < 48 from nI_nlt (b := 48) (by omega) (by omega))]
    by_cases h2 : c ≤ 57
    · rw [if_neg (show ¬ 57 < nI c from nI_nlt (a := 57) h2 (by decide)), if_pos ⟨by omega, h2⟩]
    · rw [if_pos (show 57 < nI c from nI_lt (a := 57) (by omega) (by omega)), if_neg (show ¬ isD c from fun z => h2 z.2)]
section SA
variable {L : Nat} {xs : Nat → Int32} {d : Nat} {σ : dx_S} {Q : dx_O → dx_S → Prop} {xi : Nat → Int32} {xa : Nat → Nat → Int32} {xl : Nat → Nat → Int64} {j : dx_S} {T : Nat → Nat} {s t p c k v n i w m z : Nat}
theorem l_dgs (ht : tx xi xa T z) (hp : p ≤ 1000) (hk : k ≤ 9) : ∀ n w, n + w = k → (dx_W (tb_Z L xs) (d + 1) 37 2 [(3, .int (nI w)), (0, .ref 12), (1, .int (nI p)), (2, .int (nI k))] [] (mk xi xa xl j) Q ↔ Q (.inl (some (.int (nI (dgs (tA T z) p n w))))) (mk xi xa xl j)) := by
  intro n
  induction n with
  | zero =>
    intro w hw
    have e : w = k := by omega
    subst e
    rw [w_37_2]
    simp only [wI_some, wJ_some, wR_ref, wR_con, wO_some, s1_eq, s2_eq, dl_nil, dl_cons, dm_nil, dm_cons, lk_cons, cat_int, cat_long, cat_ref, cat_con, args_nil, args_int, args_long, args_ref, args_con, ct_nil, ct_cons, Nat.reduceBEq, Nat.reduceAdd, Nat.reduceLeDiff, Nat.reduceEqDiff, Bool.not_true, Bool.not_false, Bool.and_true, Bool.and_false, Bool.true_and, Bool.false_and, cond_true, cond_false, Nat.zero_add, Nat.add_zero, reduceCtorEq, Nat.zero_le, ui_at, ua_at, ul_at, wK_v, wK_n, wK_t, true_and, and_true, nb0, nb1, not_false_eq_true, not_true_eq_false, ci_0, ci_1, ci_3, ci_5, ci_7, ci_12, ci_15, ci_16, ci_21, ci_22, w_37_0, w_37_1, w_37_3, w_37_4, w_37_7, w_37_8, w_37_11, w_37_12, w_37_13, w_37_14, w_37_17, w_37_20, w_37_23, w_37_26, w_37_29, w_37_30]
    rw [if_pos (nI_le (Nat.le_refl _) (by omega))]
    rfl
  | succ n ih =>
    intro w hw
    rw [w_37_2]
    have cl : tA T z (p + w) < 65536 := Nat.lt_trans (tA_lt ht) (by decide)
    simp only [wI_some, wJ_some, wR_ref, wR_con, wO_some, s1_eq, s2_eq, dl_nil, dl_cons, dm_nil, dm_cons, lk_cons, cat_int, cat_long, cat_ref, cat_con, args_nil, args_int, args_long, args_ref, args_con, ct_nil, ct_cons, Nat.reduceBEq, Nat.reduceAdd, Nat.reduceLeDiff, Nat.reduceEqDiff, Bool.not_true, Bool.not_false, Bool.and_true, Bool.and_false, Bool.true_and, Bool.false_and, cond_true, cond_false, Nat.zero_add, Nat.add_zero, reduceCtorEq, Nat.zero_le, ui_at, ua_at, ul_at, wK_v, wK_n, wK_t, true_and, and_true, nb0, nb1, not_false_eq_true, not_true_eq_false, ci_0, ci_1, ci_3, ci_5, ci_7, ci_12, ci_15, ci_16, ci_21, ci_22, w_37_0, w_37_1, w_37_3, w_37_4, w_37_7, w_37_8, w_37_11, w_37_12, w_37_13, w_37_14, w_37_17, w_37_20, w_37_23, w_37_26, w_37_29, w_37_30, gf_12_0, nI_add, nI_1, e_at ht (show p + w < 2 ^ 31 by omega), e_isDigit]
    rw [if_neg (nI_ge (by omega) (by omega)), dg_is cl]
    show _ ↔ Q (.inl (some (.int (nI (if isD (tA T z (p + w)) then dgs (tA T z) p n (w + 1) else w))))) (mk xi xa xl j)
    by_cases h : isD (tA T z (p + w))
    · rw [if_pos h, if_pos h, if_neg (show ¬ (1 : Int32) = 0 by decide)]
      exact ih (w + 1) (by omega)
    · rw [if_neg h, if_neg h, if_pos (show (0 : Int32) = 0 from rfl)]
theorem e_dgs (ht : tx xi xa T z) (hp : p ≤ 1000) (hk : k ≤ 9) : dx_M (tb_Z L xs) (d + 2) 37 [.ref 12, .int (nI p), .int (nI k)] (mk xi xa xl j) Q ↔ Q (.inl (some (.int (nI (dgs (tA T z) p k 0))))) (mk xi xa xl j) := by
  rw [dx_M_in (Nat.le_of_ble_eq_true rfl)]
  simp only [wI_some, wJ_some, wR_ref, wR_con, wO_some, s1_eq, s2_eq, dl_nil, dl_cons, dm_nil, dm_cons, lk_cons, cat_int, cat_long, cat_ref, cat_con, args_nil, args_int, args_long, args_ref, args_con, ct_nil, ct_cons, Nat.reduceBEq, Nat.reduceAdd, Nat.reduceLeDiff, Nat.reduceEqDiff, Bool.not_true, Bool.not_false, Bool.and_true, Bool.and_false, Bool.true_and, Bool.false_and, cond_true, cond_false, Nat.zero_add, Nat.add_zero, reduceCtorEq, Nat.zero_le, ui_at, ua_at, ul_at, wK_v, wK_n, wK_t, true_and, and_true, nb0, nb1, not_false_eq_true, not_true_eq_false, ci_0, ci_1, ci_3, ci_5, ci_7, ci_12, ci_15, ci_16, ci_21, ci_22, w_37_0, w_37_1, w_37_3, w_37_4, w_37_7, w_37_8, w_37_11, w_37_12, w_37_13, w_37_14, w_37_17, w_37_20, w_37_23, w_37_26, w_37_29, w_37_30]
  exact l_dgs ht hp hk k 0 rfl
end SA
