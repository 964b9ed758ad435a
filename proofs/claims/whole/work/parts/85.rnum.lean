/-! The scanner of the reference: numerals. -/
/-- place behind the numeral at p, value, digits, decimals -/
def nr (C : Nat → Nat) (p : Nat) : Nat × Nat × Nat × Nat := if C (nl C 251 p 0 0).1 = 46 ∧ isD (C ((nl C 251 p 0 0).1 + 1)) then ((nl C 251 ((nl C 251 p 0 0).1 + 1) (nl C 251 p 0 0).2.1 (nl C 251 p 0 0).2.2).1, (nl C 251 ((nl C 251 p 0 0).1 + 1) (nl C 251 p 0 0).2.1 (nl C 251 p 0 0).2.2).2.1, (nl C 251 ((nl C 251 p 0 0).1 + 1) (nl C 251 p 0 0).2.1 (nl C 251 p 0 0).2.2).2.2, (nl C 251 ((nl C 251 p 0 0).1 + 1) (nl C 251 p 0 0).2.1 (nl C 251 p 0 0).2.2).2.2 - (nl C 251 p 0 0).2.2) else ((nl C 251 p 0 0).1, (nl C 251 p 0 0).2.1, (nl C 251 p 0 0).2.2, 0)
theorem nl_z {T : Nat → Nat} {z : Nat} : ∀ N i v g, i ≤ z → (nl (tA T z) N i v g).1 ≤ z ∧ (nl (tA T z) N i v g).2.2 + i = g + (nl (tA T z) N i v g).1
  | 0, i, v, g, h => ⟨h, rfl⟩
  | N + 1, i, v, g, h => by
    unfold nl
    split
    · rename_i hd
      have il : i < z := by
        by_cases e : i < z
        · exact e
        · have := tA_ge (T := T) (show z ≤ i by omega)
          rw [this] at hd
          exact absurd hd (by decide)
      have := nl_z (T := T) (z := z) N (i + 1) (vst (tA T z i) v g) (g + 1) (by omega)
      omega
    · exact ⟨h, rfl⟩
theorem is_lt {T : Nat → Nat} {z i : Nat} (hd : isD (tA T z i)) : i < z := by
  by_cases e : i < z
  · exact e
  · rw [tA_ge (T := T) (show z ≤ i by omega)] at hd
    exact absurd hd (by decide)
section TD2
variable {L : Nat} {xs : Nat → Int32} {d : Nat} {σ : dx_S} {Q : dx_O → dx_S → Prop} {xi : Nat → Int32} {xa : Nat → Nat → Int32} {xl : Nat → Nat → Int64} {j : dx_S} {T : Nat → Nat} {s t p c k v n i w m z N g : Nat} {a5 a1 : Int32}
theorem l_neC (hc : xi 1416 = nI c) (hc2 : c < 210) (hg : g ≤ 2000) (htt : t ≤ 2000) : dx_W (tb_Z L xs) (d + 1) 103 121 [(2, .int (nI i)), (5, .int (nI t)), (4, .int (nI g)), (3, .int (nI v)), (0, .ref 22), (1, .int a1)] [] (mk xi xa xl j) Q ↔ (if 9 < g ∨ 4 < t then Q (.inl (some (.int 0))) (mk xi xa xl j) else Q (.inl (some (.int (nI i)))) (mk (ui xi 1416 (nI (c + 1))) (ua (ua (ua xa 26 (upd (xa 26) c 110)) 27 (upd (xa 27) c (nI v))) 28 (upd (xa 28) c (nI t))) xl j)) := by
  rw [w_103_121]
  simp only [wI_some, wJ_some, wR_ref, wR_con, wO_some, s1_eq, s2_eq, dl_nil, dl_cons, dm_nil, dm_cons, lk_cons, cat_int, cat_long, cat_ref, cat_con, args_nil, args_int, args_long, args_ref, args_con, ct_nil, ct_cons, Nat.reduceBEq, Nat.reduceAdd, Nat.reduceLeDiff, Nat.reduceEqDiff, Bool.not_true, Bool.not_false, Bool.and_true, Bool.and_false, Bool.true_and, Bool.false_and, cond_true, cond_false, Nat.zero_add, Nat.add_zero, reduceCtorEq, Nat.zero_le, ui_at, ua_at, ul_at, wK_v, wK_n, wK_t, true_and, and_true, nb0, nb1, not_false_eq_true, not_true_eq_false, ci_0, ci_1, ci_3, ci_5, ci_7, ci_12, ci_15, ci_16, ci_21, ci_22, w_103_0, w_103_1, w_103_2, w_103_3, w_103_4, w_103_5, w_103_7, w_103_8, w_103_10, w_103_11, w_103_12, w_103_15, w_103_18, w_103_21, w_103_23, w_103_25, w_103_28, w_103_30, w_103_31, w_103_32, w_103_33, w_103_34, w_103_37, w_103_38, w_103_40, w_103_41, w_103_42, w_103_45, w_103_48, w_103_51, w_103_52, w_103_53, w_103_56, w_103_58, w_103_61, w_103_62, w_103_63, w_103_64, w_103_65, w_103_68, w_103_71, w_103_74, w_103_77, w_103_78, w_103_79, w_103_82, w_103_85, w_103_88, w_103_90, w_103_92, w_103_95, w_103_97, w_103_98, w_103_99, w_103_100, w_103_101, w_103_104, w_103_105, w_103_107, w_103_108, w_103_109, w_103_112, w_103_115, w_103_118, w_103_123, w_103_125, w_103_128, w_103_130, w_103_131, w_103_134, w_103_135, w_103_136, w_103_137, w_103_139, w_103_140, w_103_142, w_103_145, w_103_146, f_token hc hc2]
  by_cases h1 : 9 < g
  · rw [if_pos (show (9 : Int32) < nI g from nI_lt (a := 9) h1 (by omega)), if_pos (Or.inl h1)]
  rw [if_neg (show ¬ (9 : Int32) < nI g from nI_nlt (a := 9) (by omega) (by decide))]
  by_cases h2 : 4 < t
  · rw [if_neg (show ¬ nI t ≤ (4 : Int32) from nI_ge (a := 4) h2 (by omega)), if_pos (Or.inr h2)]
  · rw [if_pos (show nI t ≤ (4 : Int32) from nI_le (b := 4) (by omega) (by decide)), if_neg (fun y => y.elim h1 h2)]
theorem l_neB (hc : xi 1416 = nI c) (hc2 : c < 210) (hg : g ≤ 2000) (htt : t ≤ 2000) : dx_W (tb_Z L xs) (d + 1) 103 121 [(2, .int (nI i)), (4, .int (nI g)), (3, .int (nI v)), (5, .int (nI t)), (0, .ref 22), (1, .int a1)] [] (mk xi xa xl j) Q ↔ (if 9 < g ∨ 4 < t then Q (.inl (some (.int 0))) (mk xi xa xl j) else Q (.inl (some (.int (nI i)))) (mk (ui xi 1416 (nI (c + 1))) (ua (ua (ua xa 26 (upd (xa 26) c 110)) 27 (upd (xa 27) c (nI v))) 28 (upd (xa 28) c (nI t))) xl j)) := by
  rw [w_103_121]
  simp only [wI_some, wJ_some, wR_ref, wR_con, wO_some, s1_eq, s2_eq, dl_nil, dl_cons, dm_nil, dm_cons, lk_cons, cat_int, cat_long, cat_ref, cat_con, args_nil, args_int, args_long, args_ref, args_con, ct_nil, ct_cons, Nat.reduceBEq, Nat.reduceAdd, Nat.reduceLeDiff, Nat.reduceEqDiff, Bool.not_true, Bool.not_false, Bool.and_true, Bool.and_false, Bool.true_and, Bool.false_and, cond_true, cond_false, Nat.zero_add, Nat.add_zero, reduceCtorEq, Nat.zero_le, ui_at, ua_at, ul_at, wK_v, wK_n, wK_t, true_and, and_true, nb0, nb1, not_false_eq_true, not_true_eq_false, ci_0, ci_1, ci_3, ci_5, ci_7, ci_12, ci_15, ci_16, ci_21, ci_22, w_103_0, w_103_1, w_103_2, w_103_3, w_103_4, w_103_5, w_103_7, w_103_8, w_103_10, w_103_11, w_103_12, w_103_15, w_103_18, w_103_21, w_103_23, w_103_25, w_103_28, w_103_30, w_103_31, w_103_32, w_103_33, w_103_34, w_103_37, w_103_38, w_103_40, w_103_41, w_103_42, w_103_45, w_103_48, w_103_51, w_103_52, w_103_53, w_103_56, w_103_58, w_103_61, w_103_62, w_103_63, w_103_64, w_103_65, w_103_68, w_103_71, w_103_74, w_103_77, w_103_78, w_103_79, w_103_82, w_103_85, w_103_88, w_103_90, w_103_92, w_103_95, w_103_97, w_103_98, w_103_99, w_103_100, w_103_101, w_103_104, w_103_105, w_103_107, w_103_108, w_103_109, w_103_112, w_103_115, w_103_118, w_103_123, w_103_125, w_103_128, w_103_130, w_103_131, w_103_134, w_103_135, w_103_136, w_103_137, w_103_139, w_103_140, w_103_142, w_103_145, w_103_146, f_token hc hc2]
  by_cases h1 : 9 < g
  · rw [if_pos (show (9 : Int32) < nI g from nI_lt (a := 9) h1 (by omega)), if_pos (Or.inl h1)]
  rw [if_neg (show ¬ (9 : Int32) < nI g from nI_nlt (a := 9) (by omega) (by decide))]
  by_cases h2 : 4 < t
  · rw [if_neg (show ¬ nI t ≤ (4 : Int32) from nI_ge (a := 4) h2 (by omega)), if_pos (Or.inr h2)]
  · rw [if_pos (show nI t ≤ (4 : Int32) from nI_le (b := 4) (by omega) (by decide)), if_neg (fun y => y.elim h1 h2)]
theorem f_num (ht : txR xi xa T z) (hc : xi 1416 = nI c) (hc2 : c < 210) (hd : isD (tA T z p)) : dx_M (tb_Z L xs) (d + 2) 103 [.ref 22, .int (nI p)] (mk xi xa xl j) Q ↔ (if 9 < (nr (tA T z) p).2.2.1 ∨ 4 < (nr (tA T z) p).2.2.2 then Q (.inl (some (.int 0))) (mk xi xa xl j) else Q (.inl (some (.int (nI (nr (tA T z) p).1)))) (mk (ui xi 1416 (nI (c + 1))) (ua (ua (ua xa 26 (upd (xa 26) c 110)) 27 (upd (xa 27) c (nI (nr (tA T z) p).2.1))) 28 (upd (xa 28) c (nI (nr (tA T z) p).2.2.2))) xl j)) := by
  have hz := ht.2.1
  have pl := is_lt hd
  have cl : ∀ i, tA T z i < 65536 := fun i => Nat.lt_trans (tR_lt ht) (by decide)
  have e1 : nl (tA T z) 251 p 0 0 = nl (tA T z) 250 (p + 1) (10 * 0 + (tA T z p - 48)) 1 := by
    show (if isD (tA T z p) then nl (tA T z) 250 (p + 1) (vst (tA T z p) 0 0) (0 + 1) else _) = _
    rw [if_pos hd]
    rfl
  rw [dx_M_in (Nat.le_of_ble_eq_true rfl)]
  simp only [wI_some, wJ_some, wR_ref, wR_con, wO_some, s1_eq, s2_eq, dl_nil, dl_cons, dm_nil, dm_cons, lk_cons, cat_int, cat_long, cat_ref, cat_con, args_nil, args_int, args_long, args_ref, args_con, ct_nil, ct_cons, Nat.reduceBEq, Nat.reduceAdd, Nat.reduceLeDiff, Nat.reduceEqDiff, Bool.not_true, Bool.not_false, Bool.and_true, Bool.and_false, Bool.true_and, Bool.false_and, cond_true, cond_false, Nat.zero_add, Nat.add_zero, reduceCtorEq, Nat.zero_le, ui_at, ua_at, ul_at, wK_v, wK_n, wK_t, true_and, and_true, nb0, nb1, not_false_eq_true, not_true_eq_false, ci_0, ci_1, ci_3, ci_5, ci_7, ci_12, ci_15, ci_16, ci_21, ci_22, w_103_0, w_103_1, w_103_2, w_103_3, w_103_4, w_103_5, w_103_7, w_103_8, w_103_11, w_103_12, w_103_15, w_103_18, w_103_21, w_103_23, w_103_25, w_103_28, w_103_30, w_103_31, w_103_32, w_103_33, w_103_34, w_103_37, w_103_38, w_103_40, w_103_41, w_103_42, w_103_45, w_103_48, w_103_51, w_103_52, w_103_53, w_103_56, w_103_58, w_103_61, w_103_62, w_103_63, w_103_64, w_103_65, w_103_68, w_103_71, w_103_74, w_103_77, w_103_78, w_103_79, w_103_82, w_103_85, w_103_88, w_103_90, w_103_92, w_103_95, w_103_97, w_103_98, w_103_99, w_103_100, w_103_101, w_103_104, w_103_105, w_103_107, w_103_108, w_103_109, w_103_112, w_103_115, w_103_118, w_103_121, w_103_123, w_103_125, w_103_128, w_103_130, w_103_131, w_103_134, w_103_135, w_103_136, w_103_137, w_103_139, w_103_140, w_103_142, w_103_145, w_103_146]
  rw [w_103_10]
  simp only [wI_some, wJ_some, wR_ref, wR_con, wO_some, s1_eq, s2_eq, dl_nil, dl_cons, dm_nil, dm_cons, lk_cons, cat_int, cat_long, cat_ref, cat_con, args_nil, args_int, args_long, args_ref, args_con, ct_nil, ct_cons, Nat.reduceBEq, Nat.reduceAdd, Nat.reduceLeDiff, Nat.reduceEqDiff, Bool.not_true, Bool.not_false, Bool.and_true, Bool.and_false, Bool.true_and, Bool.false_and, cond_true, cond_false, Nat.zero_add, Nat.add_zero, reduceCtorEq, Nat.zero_le, ui_at, ua_at, ul_at, wK_v, wK_n, wK_t, true_and, and_true, nb0, nb1, not_false_eq_true, not_true_eq_false, ci_0, ci_1, ci_3, ci_5, ci_7, ci_12, ci_15, ci_16, ci_21, ci_22, w_103_0, w_103_1, w_103_2, w_103_3, w_103_4, w_103_5, w_103_7, w_103_8, w_103_11, w_103_12, w_103_15, w_103_18, w_103_21, w_103_23, w_103_25, w_103_28, w_103_30, w_103_31, w_103_32, w_103_33, w_103_34, w_103_37, w_103_38, w_103_40, w_103_41, w_103_42, w_103_45, w_103_48, w_103_52, w_103_53, w_103_56, w_103_58, w_103_61, w_103_62, w_103_63, w_103_64, w_103_65, w_103_68, w_103_71, w_103_74, w_103_77, w_103_78, w_103_79, w_103_82, w_103_85, w_103_88, w_103_90, w_103_92, w_103_95, w_103_97, w_103_98, w_103_99, w_103_100, w_103_101, w_103_104, w_103_105, w_103_107, w_103_108, w_103_109, w_103_112, w_103_115, w_103_118, w_103_121, w_103_123, w_103_125, w_103_128, w_103_130, w_103_131, w_103_134, w_103_135, w_103_136, w_103_137, w_103_139, w_103_140, w_103_142, w_103_145, w_103_146, f_chr ht (show p < 2 ^ 31 by omega), f_isDigit, nI_1, (show (0 : Int32) + 1 = nI 1 from rfl)]
  rw [dg_is (cl p), if_pos hd, if_neg (show ¬ (1 : Int32) = 0 by decide), if_neg (show ¬ (9 : Int32) ≤ 0 by decide), show (10 : Int32) * 0 + nI (tA T z p) - 48 = nI (10 * 0 + (tA T z p - 48)) from vs_e (v := 0) hd.1]
  refine (l_nl1 (a5 := 0) (a1 := nI p) ht 250 (p + 1) (10 * 0 + (tA T z p - 48)) 1 (by omega) (by omega) (by omega)).trans ?_
  rw [← e1]
  have nz := nl_z (T := T) (z := z) 251 p 0 0 (by omega)
  unfold nr
  generalize nl (tA T z) 251 p 0 0 = A at nz ⊢
  obtain ⟨J, V, G⟩ := A
  have nz1 : J ≤ z := nz.1
  have nz2 : G + p = 0 + J := nz.2
  show dx_W (tb_Z L xs) (d + 1) 103 51 [(2, .int (nI J)), (4, .int (nI G)), (3, .int (nI V)), (5, .int 0), (0, .ref 22), (1, .int (nI p))] [] (mk xi xa xl j) Q ↔ _
  have none' : dx_W (tb_Z L xs) (d + 1) 103 121 [(2, .int (nI J)), (4, .int (nI G)), (3, .int (nI V)), (5, .int 0), (0, .ref 22), (1, .int (nI p))] [] (mk xi xa xl j) Q ↔ (if 9 < G ∨ 4 < 0 then Q (.inl (some (.int 0))) (mk xi xa xl j) else Q (.inl (some (.int (nI J)))) (mk (ui xi 1416 (nI (c + 1))) (ua (ua (ua xa 26 (upd (xa 26) c 110)) 27 (upd (xa 27) c (nI V))) 28 (upd (xa 28) c (nI 0))) xl j)) := l_neB (t := 0) hc hc2 (by omega) (by decide)
  rw [w_103_51]
  simp only [wI_some, wJ_some, wR_ref, wR_con, wO_some, s1_eq, s2_eq, dl_nil, dl_cons, dm_nil, dm_cons, lk_cons, cat_int, cat_long, cat_ref, cat_con, args_nil, args_int, args_long, args_ref, args_con, ct_nil, ct_cons, Nat.reduceBEq, Nat.reduceAdd, Nat.reduceLeDiff, Nat.reduceEqDiff, Bool.not_true, Bool.not_false, Bool.and_true, Bool.and_false, Bool.true_and, Bool.false_and, cond_true, cond_false, Nat.zero_add, Nat.add_zero, reduceCtorEq, Nat.zero_le, ui_at, ua_at, ul_at, wK_v, wK_n, wK_t, true_and, and_true, nb0, nb1, not_false_eq_true, not_true_eq_false, ci_0, ci_1, ci_3, ci_5, ci_7, ci_12, ci_15, ci_16, ci_21, ci_22, w_103_0, w_103_1, w_103_2, w_103_3, w_103_4, w_103_5, w_103_7, w_103_8, w_103_10, w_103_11, w_103_12, w_103_15, w_103_18, w_103_21, w_103_23, w_103_25, w_103_28, w_103_30, w_103_31, w_103_32, w_103_33, w_103_34, w_103_37, w_103_38, w_103_40, w_103_41, w_103_42, w_103_45, w_103_48, w_103_52, w_103_53, w_103_56, w_103_58, w_103_61, w_103_62, w_103_63, w_103_64, w_103_65, w_103_68, w_103_71, w_103_74, w_103_78, w_103_79, w_103_82, w_103_85, w_103_88, w_103_90, w_103_92, w_103_95, w_103_97, w_103_98, w_103_99, w_103_100, w_103_101, w_103_104, w_103_105, w_103_107, w_103_108, w_103_109, w_103_112, w_103_115, w_103_118, w_103_123, w_103_125, w_103_128, w_103_130, w_103_131, w_103_134, w_103_135, w_103_136, w_103_137, w_103_139, w_103_140, w_103_142, w_103_145, w_103_146, f_chr ht (show J < 2 ^ 31 by omega), f_chr ht (show J + 1 < 2 ^ 31 by omega), f_isDigit, nI_1]
  by_cases h46 : ¬ tA T z J = 46
  · rw [if_pos (show ¬ nI (tA T z J) = 46 from fun y => h46 ((nI_eq (b := 46) (Nat.lt_trans (cl J) (by decide)) (by decide)).mp y))]
    rw [if_neg (show ¬ (tA T z J = 46 ∧ isD (tA T z (J + 1))) from fun y => h46 y.1)]
    exact none'
  have h46 := Decidable.not_not.mp h46
  rw [if_neg (fun y => y (by rw [h46]; rfl)), dg_is (cl (J + 1))]
  by_cases h2 : isD (tA T z (J + 1))
  · rw [if_pos h2, if_neg (show ¬ (1 : Int32) = 0 by decide), if_pos (show tA T z J = 46 ∧ isD (tA T z (J + 1)) from ⟨h46, h2⟩)]
    have jl := is_lt h2
    have e2 : nl (tA T z) 251 (J + 1) V G = nl (tA T z) 250 (J + 1 + 1) (vst (tA T z (J + 1)) V G) (G + 1) := by
      show (if isD (tA T z (J + 1)) then _ else _) = _
      rw [if_pos h2]
    rw [w_103_77]
    simp only [wI_some, wJ_some, wR_ref, wR_con, wO_some, s1_eq, s2_eq, dl_nil, dl_cons, dm_nil, dm_cons, lk_cons, cat_int, cat_long, cat_ref, cat_con, args_nil, args_int, args_long, args_ref, args_con, ct_nil, ct_cons, Nat.reduceBEq, Nat.reduceAdd, Nat.reduceLeDiff, Nat.reduceEqDiff, Bool.not_true, Bool.not_false, Bool.and_true, Bool.and_false, Bool.true_and, Bool.false_and, cond_true, cond_false, Nat.zero_add, Nat.add_zero, reduceCtorEq, Nat.zero_le, ui_at, ua_at, ul_at, wK_v, wK_n, wK_t, true_and, and_true, nb0, nb1, not_false_eq_true, not_true_eq_false, ci_0, ci_1, ci_3, ci_5, ci_7, ci_12, ci_15, ci_16, ci_21, ci_22, w_103_0, w_103_1, w_103_2, w_103_3, w_103_4, w_103_5, w_103_7, w_103_8, w_103_10, w_103_11, w_103_12, w_103_15, w_103_18, w_103_21, w_103_23, w_103_25, w_103_28, w_103_30, w_103_31, w_103_32, w_103_33, w_103_34, w_103_37, w_103_38, w_103_40, w_103_41, w_103_42, w_103_45, w_103_48, w_103_51, w_103_52, w_103_53, w_103_56, w_103_58, w_103_61, w_103_62, w_103_63, w_103_64, w_103_65, w_103_68, w_103_71, w_103_74, w_103_78, w_103_79, w_103_82, w_103_85, w_103_88, w_103_90, w_103_92, w_103_95, w_103_97, w_103_98, w_103_99, w_103_100, w_103_101, w_103_104, w_103_105, w_103_107, w_103_108, w_103_109, w_103_112, w_103_115, w_103_118, w_103_123, w_103_125, w_103_128, w_103_130, w_103_131, w_103_134, w_103_135, w_103_136, w_103_137, w_103_139, w_103_140, w_103_142, w_103_145, w_103_146, f_chr ht (show J + 1 < 2 ^ 31 by omega), f_isDigit, nI_1, (show (0 : Int32) + 1 = nI 1 from rfl)]
    rw [dg_is (cl (J + 1)), if_pos h2, if_neg (show ¬ (1 : Int32) = 0 by decide)]
    have l2 := l_nl2 (L := L) (xs := xs) (d := d) (Q := Q) (xl := xl) (j := j) (a1 := nI p) ht 250 (J + 1 + 1) (vst (tA T z (J + 1)) V G) (G + 1) 1 (by omega) (by omega) (by omega) (by omega)
    have nz3 := nl_z (T := T) (z := z) 251 (J + 1) V G (by omega)
    have gg := nl_g (C := tA T z) 250 (J + 1 + 1) (vst (tA T z (J + 1)) V G) (G + 1)
    rw [← e2] at l2 gg
    have e3 : 1 + ((nl (tA T z) 251 (J + 1) V G).2.2 - (G + 1)) = (nl (tA T z) 251 (J + 1) V G).2.2 - G := by omega
    rw [e3] at l2
    have fin := l2.trans (l_neC (t := (nl (tA T z) 251 (J + 1) V G).2.2 - G) hc hc2 (by omega) (by omega))
    by_cases h9 : G < 9
    · rw [if_neg (show ¬ (9 : Int32) ≤ nI G from nI_ge (b := 9) h9 (by decide)), vs_e h2.1]
      rw [show vst (tA T z (J + 1)) V G = 10 * V + (tA T z (J + 1) - 48) from if_pos h9] at fin
      exact fin
    · rw [if_pos (show (9 : Int32) ≤ nI G from nI_le (a := 9) (by omega) (by omega))]
      rw [show vst (tA T z (J + 1)) V G = V from if_neg h9] at fin
      exact fin
  · rw [if_neg h2, if_pos (show (0 : Int32) = 0 from rfl), if_neg (show ¬ (tA T z J = 46 ∧ isD (tA T z (J + 1))) from fun y => h2 y.2)]
    exact none'
end TD2
