/-! The scanner of the project: names and words. -/
/-- how many small letters from p on, w of them seen, n more at most -/
def lts (C : Nat → Nat) (p : Nat) : Nat → Nat → Nat
  | 0, w => w
  | n + 1, w => if isW (C (p + w)) then lts C p n (w + 1) else w
theorem lts_le {C : Nat → Nat} {p : Nat} : ∀ n w, w ≤ lts C p n w ∧ lts C p n w ≤ n + w
  | 0, w => ⟨Nat.le_refl _, by show w ≤ _; omega⟩
  | n + 1, w => by
    have h := lts_le (C := C) (p := p) n (w + 1)
    show w ≤ (if isW (C (p + w)) then lts C p n (w + 1) else w) ∧ (if isW (C (p + w)) then lts C p n (w + 1) else w) ≤ n + 1 + w
    split <;> omega
theorem lt_is {c : Nat} (h : c < 65536) : (if nI c < 97 then (0 : Int32) else if 122 < nI c then 0 else 1) = if isW c then 1 else 0 := by
  by_cases h1 : c < 97
  · rw [if_pos (show nI c < 97 from nI_lt (b := 97) h1 (by decide)), if_neg (show ¬ isW c from fun z => by have := z.1; omega)]
  · rw [if_neg (show ¬ nI c < 97 from nI_nlt (b := 97) (by omega) (by omega))]
    by_cases h2 : c ≤ 122
    · rw [if_neg (show ¬ 122 < nI c from nI_nlt (a := 122) h2 (by decide)), if_pos ⟨by omega, h2⟩]
    · rw [if_pos (show 122 < nI c from nI_lt (a := 122) (by omega) (by omega)), if_neg (show ¬ isW c from fun z => h2 z.2)]
/-- the kind of the word at p, and its value -/
def woK (C : Nat → Nat) (p : Nat) : Option Int32 := if lts C p 199 1 = 1 then some 257 else rsv C p (lts C p 199 1)
def woV (C : Nat → Nat) (p : Nat) : Int64 := if lts C p 199 1 = 1 then zL ((C p - 97 : Nat) : Int) else 0
section SX
variable {L : Nat} {xs : Nat → Int32} {d : Nat} {σ : dx_S} {Q : dx_O → dx_S → Prop} {xi : Nat → Int32} {xa : Nat → Nat → Int32} {xl : Nat → Nat → Int64} {j : dx_S} {T : Nat → Nat} {s t p c k v n i w m z : Nat}
theorem l_lts (ht : tx xi xa T z) (hp : p ≤ 1000) : ∀ n w, n + w = 200 → (dx_W (tb_Z L xs) (d + 1) 40 2 [(2, .int (nI w)), (0, .ref 12), (1, .int (nI p))] [] (mk xi xa xl j) Q ↔ dx_W (tb_Z L xs) (d + 1) 40 31 [(2, .int (nI (lts (tA T z) p n w))), (0, .ref 12), (1, .int (nI p))] [] (mk xi xa xl j) Q) := by
  intro n
  induction n with
  | zero =>
    intro w hw
    have e : w = 200 := by omega
    subst e
    rw [w_40_2]
    simp only [wI_some, wJ_some, wR_ref, wR_con, wO_some, s1_eq, s2_eq, dl_nil, dl_cons, dm_nil, dm_cons, lk_cons, cat_int, cat_long, cat_ref, cat_con, args_nil, args_int, args_long, args_ref, args_con, ct_nil, ct_cons, Nat.reduceBEq, Nat.reduceAdd, Nat.reduceLeDiff, Nat.reduceEqDiff, Bool.not_true, Bool.not_false, Bool.and_true, Bool.and_false, Bool.true_and, Bool.false_and, cond_true, cond_false, Nat.zero_add, Nat.add_zero, reduceCtorEq, Nat.zero_le, ui_at, ua_at, ul_at, wK_v, wK_n, wK_t, true_and, and_true, nb0, nb1, not_false_eq_true, not_true_eq_false, ci_0, ci_1, ci_3, ci_5, ci_7, ci_12, ci_15, ci_16, ci_21, ci_22, w_40_0, w_40_1, w_40_3, w_40_6, w_40_9, w_40_10, w_40_13, w_40_14, w_40_15, w_40_16, w_40_19, w_40_22, w_40_25, w_40_28, w_40_32, w_40_33, w_40_36, w_40_37, w_40_40, w_40_41, w_40_44, w_40_45, w_40_48, w_40_50, w_40_51, w_40_52, w_40_55, w_40_58, w_40_59, w_40_60, w_40_61, w_40_62, w_40_65, w_40_66, w_40_69, w_40_70]
    rw [if_pos (show (200 : Int32) ≤ nI 200 by decide)]
    rfl
  | succ n ih =>
    intro w hw
    rw [w_40_2]
    have cl : tA T z (p + w) < 65536 := Nat.lt_trans (tA_lt ht) (by decide)
    simp only [wI_some, wJ_some, wR_ref, wR_con, wO_some, s1_eq, s2_eq, dl_nil, dl_cons, dm_nil, dm_cons, lk_cons, cat_int, cat_long, cat_ref, cat_con, args_nil, args_int, args_long, args_ref, args_con, ct_nil, ct_cons, Nat.reduceBEq, Nat.reduceAdd, Nat.reduceLeDiff, Nat.reduceEqDiff, Bool.not_true, Bool.not_false, Bool.and_true, Bool.and_false, Bool.true_and, Bool.false_and, cond_true, cond_false, Nat.zero_add, Nat.add_zero, reduceCtorEq, Nat.zero_le, ui_at, ua_at, ul_at, wK_v, wK_n, wK_t, true_and, and_true, nb0, nb1, not_false_eq_true, not_true_eq_false, ci_0, ci_1, ci_3, ci_5, ci_7, ci_12, ci_15, ci_16, ci_21, ci_22, w_40_0, w_40_1, w_40_3, w_40_6, w_40_9, w_40_10, w_40_13, w_40_14, w_40_15, w_40_16, w_40_19, w_40_22, w_40_25, w_40_28, w_40_32, w_40_33, w_40_36, w_40_37, w_40_40, w_40_41, w_40_44, w_40_45, w_40_48, w_40_50, w_40_51, w_40_52, w_40_55, w_40_58, w_40_59, w_40_60, w_40_61, w_40_62, w_40_65, w_40_66, w_40_69, w_40_70, gf_12_0, nI_add, nI_1, e_at ht (show p + w < 2 ^ 31 by omega), e_isLetter]
    rw [if_neg (show ¬ (200 : Int32) ≤ nI w from nI_ge (b := 200) (by omega) (by decide)), lt_is cl]
    show _ ↔ dx_W (tb_Z L xs) (d + 1) 40 31 [(2, .int (nI (if isW (tA T z (p + w)) then lts (tA T z) p n (w + 1) else w))), (0, .ref 12), (1, .int (nI p))] [] (mk xi xa xl j) Q
    by_cases h : isW (tA T z (p + w))
    · rw [if_pos h, if_pos h, if_neg (show ¬ (1 : Int32) = 0 by decide)]
      exact ih (w + 1) (by omega)
    · rw [if_neg h, if_neg h, if_pos (show (0 : Int32) = 0 from rfl)]
theorem e_word (ht : tx xi xa T z) (hp : p ≤ 1000) (hc : xi 772 = nI c) (hc2 : c < 200) (hC : isW (tA T z p)) : dx_M (tb_Z L xs) (d + 7) 40 [.ref 12, .int (nI p)] (mk xi xa xl j) Q ↔ (match woK (tA T z) p with
  | some k => Q (.inl (some (.int (nI (lts (tA T z) p 199 1))))) (mk (ui xi 772 (nI (c + 1))) (ua xa 13 (upd (xa 13) c k)) (ul xl 14 (vp_updL (xl 14) c (woV (tA T z) p))) j)
  | none => Q (.inr (46 + j.length)) (mk (ui xi 322 1) xa xl (j ++ [.inr (exc 1, [])]))) := by
  have hl := lts_le (C := tA T z) (p := p) 199 1
  have ea : ∀ {k : Int32} {v : Int64} {Q' : dx_O → dx_S → Prop}, dx_M (tb_Z L xs) (d + 6) 38 [.ref 12, .int k, .long v] (mk xi xa xl j) Q' ↔ Q' (.inl none) (mk (ui xi 772 (nI (c + 1))) (ua xa 13 (upd (xa 13) c k)) (ul xl 14 (vp_updL (xl 14) c v)) j) := by
    intro k v Q'
    rw [e_add (by rw [hc]; exact vp_in_nI hc2 (by decide)), hc, nI_clamp (by omega), nI_1]
  have lt := l_lts (L := L) (xs := xs) (d := d + 5) (Q := Q) (xl := xl) (j := j) ht hp 199 1 rfl
  rw [dx_M_in (Nat.le_of_ble_eq_true rfl)]
  simp only [wI_some, wJ_some, wR_ref, wR_con, wO_some, s1_eq, s2_eq, dl_nil, dl_cons, dm_nil, dm_cons, lk_cons, cat_int, cat_long, cat_ref, cat_con, args_nil, args_int, args_long, args_ref, args_con, ct_nil, ct_cons, Nat.reduceBEq, Nat.reduceAdd, Nat.reduceLeDiff, Nat.reduceEqDiff, Bool.not_true, Bool.not_false, Bool.and_true, Bool.and_false, Bool.true_and, Bool.false_and, cond_true, cond_false, Nat.zero_add, Nat.add_zero, reduceCtorEq, Nat.zero_le, ui_at, ua_at, ul_at, wK_v, wK_n, wK_t, true_and, and_true, nb0, nb1, not_false_eq_true, not_true_eq_false, ci_0, ci_1, ci_3, ci_5, ci_7, ci_12, ci_15, ci_16, ci_21, ci_22, w_40_0, w_40_1, w_40_3, w_40_6, w_40_9, w_40_10, w_40_13, w_40_14, w_40_15, w_40_16, w_40_19, w_40_22, w_40_25, w_40_28, w_40_31, w_40_32, w_40_33, w_40_36, w_40_37, w_40_40, w_40_41, w_40_44, w_40_45, w_40_48, w_40_50, w_40_51, w_40_52, w_40_55, w_40_58, w_40_59, w_40_60, w_40_61, w_40_62, w_40_65, w_40_66, w_40_69, w_40_70]
  refine lt.trans ?_
  unfold woK woV
  generalize hW : lts (tA T z) p 199 1 = W at hl
  rw [w_40_31]
  simp only [wI_some, wJ_some, wR_ref, wR_con, wO_some, s1_eq, s2_eq, dl_nil, dl_cons, dm_nil, dm_cons, lk_cons, cat_int, cat_long, cat_ref, cat_con, args_nil, args_int, args_long, args_ref, args_con, ct_nil, ct_cons, Nat.reduceBEq, Nat.reduceAdd, Nat.reduceLeDiff, Nat.reduceEqDiff, Bool.not_true, Bool.not_false, Bool.and_true, Bool.and_false, Bool.true_and, Bool.false_and, cond_true, cond_false, Nat.zero_add, Nat.add_zero, reduceCtorEq, Nat.zero_le, ui_at, ua_at, ul_at, wK_v, wK_n, wK_t, true_and, and_true, nb0, nb1, not_false_eq_true, not_true_eq_false, ci_0, ci_1, ci_3, ci_5, ci_7, ci_12, ci_15, ci_16, ci_21, ci_22, w_40_0, w_40_1, w_40_2, w_40_3, w_40_6, w_40_9, w_40_10, w_40_13, w_40_14, w_40_15, w_40_16, w_40_19, w_40_22, w_40_25, w_40_28, w_40_32, w_40_33, w_40_37, w_40_40, w_40_41, w_40_44, w_40_45, w_40_48, w_40_50, w_40_51, w_40_52, w_40_55, w_40_59, w_40_60, w_40_61, w_40_62, w_40_65, w_40_66, w_40_69, w_40_70]
  by_cases h1 : W = 1
  · rw [if_neg (fun y => y (by rw [h1]; rfl)), if_pos h1, if_pos h1]
    have e1 : nI (tA T z p) - 97 = nI (tA T z p - 97) := (show nI (tA T z p) - nI 97 = nI (tA T z p - 97) from pk_sub hC.1)
    have b := hC.2
    simp only [wI_some, wJ_some, wR_ref, wR_con, wO_some, s1_eq, s2_eq, dl_nil, dl_cons, dm_nil, dm_cons, lk_cons, cat_int, cat_long, cat_ref, cat_con, args_nil, args_int, args_long, args_ref, args_con, ct_nil, ct_cons, Nat.reduceBEq, Nat.reduceAdd, Nat.reduceLeDiff, Nat.reduceEqDiff, Bool.not_true, Bool.not_false, Bool.and_true, Bool.and_false, Bool.true_and, Bool.false_and, cond_true, cond_false, Nat.zero_add, Nat.add_zero, reduceCtorEq, Nat.zero_le, ui_at, ua_at, ul_at, wK_v, wK_n, wK_t, true_and, and_true, nb0, nb1, not_false_eq_true, not_true_eq_false, ci_0, ci_1, ci_3, ci_5, ci_7, ci_12, ci_15, ci_16, ci_21, ci_22, w_40_0, w_40_1, w_40_2, w_40_3, w_40_6, w_40_9, w_40_10, w_40_13, w_40_14, w_40_15, w_40_16, w_40_19, w_40_22, w_40_25, w_40_28, w_40_32, w_40_33, w_40_36, w_40_37, w_40_40, w_40_41, w_40_44, w_40_45, w_40_48, w_40_50, w_40_51, w_40_52, w_40_55, w_40_58, w_40_59, w_40_60, w_40_61, w_40_62, w_40_65, w_40_66, w_40_69, w_40_70, gf_12_0, e_at ht (show p < 2 ^ 31 by omega), e1, nI_L (show tA T z p - 97 < 2 ^ 31 by omega), ea]
  · rw [if_pos (show ¬ nI W = 1 from fun y => h1 ((nI_eq (b := 1) (by omega) (by decide)).mp y)), if_neg h1, if_neg h1]
    simp only [wI_some, wJ_some, wR_ref, wR_con, wO_some, s1_eq, s2_eq, dl_nil, dl_cons, dm_nil, dm_cons, lk_cons, cat_int, cat_long, cat_ref, cat_con, args_nil, args_int, args_long, args_ref, args_con, ct_nil, ct_cons, Nat.reduceBEq, Nat.reduceAdd, Nat.reduceLeDiff, Nat.reduceEqDiff, Bool.not_true, Bool.not_false, Bool.and_true, Bool.and_false, Bool.true_and, Bool.false_and, cond_true, cond_false, Nat.zero_add, Nat.add_zero, reduceCtorEq, Nat.zero_le, ui_at, ua_at, ul_at, wK_v, wK_n, wK_t, true_and, and_true, nb0, nb1, not_false_eq_true, not_true_eq_false, ci_0, ci_1, ci_3, ci_5, ci_7, ci_12, ci_15, ci_16, ci_21, ci_22, w_40_0, w_40_1, w_40_2, w_40_3, w_40_6, w_40_9, w_40_10, w_40_13, w_40_14, w_40_15, w_40_16, w_40_19, w_40_22, w_40_25, w_40_28, w_40_32, w_40_33, w_40_36, w_40_37, w_40_40, w_40_41, w_40_44, w_40_45, w_40_48, w_40_50, w_40_51, w_40_52, w_40_55, w_40_58, w_40_59, w_40_60, w_40_61, w_40_62, w_40_66, w_40_69, w_40_70, e_rsv ht hp (show W ≤ 200 by omega)]
    cases hr : rsv (tA T z) p W with
    | some k =>
      show wK _ _ _ _ _ _ _ (.inl (some (.int k))) _ ↔ _
      simp only [wI_some, wJ_some, wR_ref, wR_con, wO_some, s1_eq, s2_eq, dl_nil, dl_cons, dm_nil, dm_cons, lk_cons, cat_int, cat_long, cat_ref, cat_con, args_nil, args_int, args_long, args_ref, args_con, ct_nil, ct_cons, Nat.reduceBEq, Nat.reduceAdd, Nat.reduceLeDiff, Nat.reduceEqDiff, Bool.not_true, Bool.not_false, Bool.and_true, Bool.and_false, Bool.true_and, Bool.false_and, cond_true, cond_false, Nat.zero_add, Nat.add_zero, reduceCtorEq, Nat.zero_le, ui_at, ua_at, ul_at, wK_v, wK_n, wK_t, true_and, and_true, nb0, nb1, not_false_eq_true, not_true_eq_false, ci_0, ci_1, ci_3, ci_5, ci_7, ci_12, ci_15, ci_16, ci_21, ci_22, w_40_0, w_40_1, w_40_2, w_40_3, w_40_6, w_40_9, w_40_10, w_40_13, w_40_14, w_40_15, w_40_16, w_40_19, w_40_22, w_40_25, w_40_28, w_40_32, w_40_33, w_40_36, w_40_37, w_40_40, w_40_41, w_40_44, w_40_45, w_40_48, w_40_50, w_40_51, w_40_52, w_40_55, w_40_58, w_40_59, w_40_60, w_40_61, w_40_62, w_40_65, w_40_66, w_40_69, w_40_70, ea]
    | none => exact Iff.rfl
end SX
