/-! The reference's parser: parse. -/
section RZ
variable {L : Nat} {xs : Nat → Int32} {d : Nat} {σ : dx_S} {Q : dx_O → dx_S → Prop} {xi : Nat → Int32} {xa : Nat → Nat → Int32} {xl : Nat → Nat → Int64} {j : dx_S} {R P : RS} {s t p c k v n i q m N : Nat} {w x y : Int32}
theorem l_st1 : ∀ n i, n + i = 26 → (dx_W (tb_Z L xs) d 108 27 [(1, .int (nI i)), (0, .ref 22)] [] (mk xi (ua xa 32 (fl (xa 32) i (-1))) xl j) Q ↔ dx_W (tb_Z L xs) d 108 46 [(1, .int (nI 26)), (0, .ref 22)] [] (mk xi (ua xa 32 (fl (xa 32) 26 (-1))) xl j) Q) := by
  intro n
  induction n with
  | zero =>
    intro i hi
    have e : i = 26 := by omega
    subst e
    rw [w_108_27]
    simp only [wI_some, wJ_some, wR_ref, wR_con, wO_some, s1_eq, s2_eq, dl_nil, dl_cons, dm_nil, dm_cons, lk_cons, cat_int, cat_long, cat_ref, cat_con, args_nil, args_int, args_long, args_ref, args_con, ct_nil, ct_cons, Nat.reduceBEq, Nat.reduceAdd, Nat.reduceLeDiff, Nat.reduceEqDiff, Bool.not_true, Bool.not_false, Bool.and_true, Bool.and_false, Bool.true_and, Bool.false_and, cond_true, cond_false, Nat.zero_add, Nat.add_zero, reduceCtorEq, Nat.zero_le, ui_at, ua_at, ul_at, wK_v, wK_n, wK_t, true_and, and_true, nb0, nb1, not_false_eq_true, not_true_eq_false, ci_0, ci_1, ci_3, ci_5, ci_7, ci_12, ci_15, ci_16, ci_21, ci_22, w_108_0, w_108_1, w_108_2, w_108_5, w_108_6, w_108_7, w_108_10, w_108_11, w_108_12, w_108_15, w_108_16, w_108_17, w_108_20, w_108_21, w_108_22, w_108_25, w_108_26, w_108_28, w_108_30, w_108_33, w_108_34, w_108_37, w_108_38, w_108_39, w_108_40, w_108_43, w_108_47, w_108_48, w_108_49, w_108_50, w_108_53, w_108_54, w_108_55, w_108_56, w_108_59, w_108_62, w_108_63, w_108_66, w_108_69, w_108_70, w_108_73, w_108_76, w_108_77_int, w_108_77_ref, w_108_77_retAddr, w_108_78, w_108_81, w_108_82, w_108_83, w_108_86, w_108_87, w_108_90, w_108_91, w_108_94, w_108_95, w_108_96, w_108_97, w_108_100, w_108_101, w_108_104, w_108_105, w_108_106, w_108_107, w_108_110, w_108_111, w_108_114, w_108_115, w_108_117, w_108_118, w_108_120, w_108_123, w_108_124, w_108_125, w_108_128, w_108_131, w_108_132, w_108_134, w_108_137, w_108_138, w_108_139, w_108_142, w_108_145, w_108_146, w_108_148, w_108_151, w_108_152, w_108_153, w_108_155, w_108_156, w_108_159, w_108_162, w_108_163, w_108_164, w_108_165, w_108_167, w_108_170, w_108_173, w_108_176, w_108_177, w_108_179, w_108_180, w_108_181, w_108_184]
    rw [if_pos (by decide)]
  | succ n ih =>
    intro i hi
    have hv : vp_in (nI i) 26 := vp_in_nI (by omega) (by decide)
    rw [w_108_27]
    simp only [wI_some, wJ_some, wR_ref, wR_con, wO_some, s1_eq, s2_eq, dl_nil, dl_cons, dm_nil, dm_cons, lk_cons, cat_int, cat_long, cat_ref, cat_con, args_nil, args_int, args_long, args_ref, args_con, ct_nil, ct_cons, Nat.reduceBEq, Nat.reduceAdd, Nat.reduceLeDiff, Nat.reduceEqDiff, Bool.not_true, Bool.not_false, Bool.and_true, Bool.and_false, Bool.true_and, Bool.false_and, cond_true, cond_false, Nat.zero_add, Nat.add_zero, reduceCtorEq, Nat.zero_le, ui_at, ua_at, ul_at, wK_v, wK_n, wK_t, true_and, and_true, nb0, nb1, not_false_eq_true, not_true_eq_false, ci_0, ci_1, ci_3, ci_5, ci_7, ci_12, ci_15, ci_16, ci_21, ci_22, w_108_0, w_108_1, w_108_2, w_108_5, w_108_6, w_108_7, w_108_10, w_108_11, w_108_12, w_108_15, w_108_16, w_108_17, w_108_20, w_108_21, w_108_22, w_108_25, w_108_26, w_108_28, w_108_30, w_108_33, w_108_34, w_108_37, w_108_38, w_108_39, w_108_40, w_108_43, w_108_47, w_108_48, w_108_49, w_108_50, w_108_53, w_108_54, w_108_55, w_108_56, w_108_59, w_108_62, w_108_63, w_108_66, w_108_69, w_108_70, w_108_73, w_108_76, w_108_77_int, w_108_77_ref, w_108_77_retAddr, w_108_78, w_108_81, w_108_82, w_108_83, w_108_86, w_108_87, w_108_90, w_108_91, w_108_94, w_108_95, w_108_96, w_108_97, w_108_100, w_108_101, w_108_104, w_108_105, w_108_106, w_108_107, w_108_110, w_108_111, w_108_114, w_108_115, w_108_117, w_108_118, w_108_120, w_108_123, w_108_124, w_108_125, w_108_128, w_108_131, w_108_132, w_108_134, w_108_137, w_108_138, w_108_139, w_108_142, w_108_145, w_108_146, w_108_148, w_108_151, w_108_152, w_108_153, w_108_155, w_108_156, w_108_159, w_108_162, w_108_163, w_108_164, w_108_165, w_108_167, w_108_170, w_108_173, w_108_176, w_108_177, w_108_179, w_108_180, w_108_181, w_108_184, gf_22_15, sa_32 hv, nI_1]
    rw [if_neg (show ¬ (26 : Int32) ≤ nI i from nI_ge (b := 26) (by omega) (by decide)), nI_clamp (by omega), fl_s, ua_ua]
    exact ih (i + 1) (by omega)
/-- where parse begins -/
def rR0 (xa : Nat → Nat → Int32) : RS := (0, 0, 0, 0, 0, 0, xa 29, xa 30, xa 31, fl (xa 32) 26 (-1), xa 33, xa 34, xa 35, xa 36)
theorem rq_0 (hf : xi 1418 = 0) : mk (ui (ui (ui (ui (ui xi 1417 0) 1422 0) 1428 0) 1429 0) 1430 0) (ua xa 32 (fl (xa 32) 26 (-1))) xl j = rq xi xa xl j (rR0 xa) := by
  unfold rq
  congr 1
  · funext i
    show (if i = 1430 then 0 else if i = 1429 then 0 else if i = 1428 then 0 else if i = 1422 then 0 else if i = 1417 then 0 else xi i) = if i = 1417 then nI 0 else if i = 1422 then nI 0 else if i = 1428 then nI 0 else if i = 1429 then 0 else if i = 1418 then 0 else if i = 1430 then 0 else xi i
    by_cases h1 : i = 1417
    · subst h1
      rfl
    by_cases h2 : i = 1422
    · subst h2
      rfl
    by_cases h3 : i = 1428
    · subst h3
      rfl
    by_cases h4 : i = 1429
    · subst h4
      rfl
    by_cases h5 : i = 1418
    · subst h5
      exact hf
    by_cases h6 : i = 1430
    · subst h6
      rfl
    simp only [if_neg h1, if_neg h2, if_neg h3, if_neg h4, if_neg h5, if_neg h6]
  · funext i
    show (if i = 32 then fl (xa 32) 26 (-1) else xa i) = if i = 29 then xa 29 else if i = 30 then xa 30 else if i = 31 then xa 31 else if i = 32 then fl (xa 32) 26 (-1) else if i = 33 then xa 33 else if i = 34 then xa 34 else if i = 35 then xa 35 else if i = 36 then xa 36 else xa i
    by_cases h0 : i = 32
    · subst h0
      rfl
    rw [if_neg h0, if_neg h0]
    by_cases h1 : i = 29
    · rw [if_pos h1, h1]
    rw [if_neg h1]
    by_cases h2 : i = 30
    · rw [if_pos h2, h2]
    rw [if_neg h2]
    by_cases h3 : i = 31
    · rw [if_pos h3, h3]
    rw [if_neg h3]
    by_cases h4 : i = 33
    · rw [if_pos h4, h4]
    rw [if_neg h4]
    by_cases h5 : i = 34
    · rw [if_pos h5, h5]
    rw [if_neg h5]
    by_cases h6 : i = 35
    · rw [if_pos h6, h6]
    rw [if_neg h6]
    by_cases h7 : i = 36
    · rw [if_pos h7, h7]
    rw [if_neg h7]
theorem f_parse {G : PS → RS → Prop} {r : PR} (hf : xi 1418 = 0) (hq : xi 1416 = nI q) (hq2 : q ≤ 200) (hv : ∀ i, i ≤ 201 → xa 26 i = 97 → ∃ k, k < 26 ∧ xa 27 i = nI k) (hO : OK (xa 26) (xa 27) (xa 28) q G r 20000 (rPu 1 0 0 (rR0 xa))) (hl : ∀ R', R'.fa ≠ 0 → R'.n ≤ 700 → (∃ S, r = .inl S) → Q (.inl none) (rq xi xa xl j (rEm 15 0 0 R'))) (hr : ∀ S R', r = .inr S → G S R' → R'.fa = 0 → R'.n ≤ 700 → Q (.inl none) (rq xi xa xl j (rEm 15 0 0 R'))) : dx_M (tb_Z L xs) (d + 7) 108 [.ref 22] (mk xi xa xl j) Q := by
  rw [dx_M_in (Nat.le_of_ble_eq_true rfl)]
  simp only [wI_some, wJ_some, wR_ref, wR_con, wO_some, s1_eq, s2_eq, dl_nil, dl_cons, dm_nil, dm_cons, lk_cons, cat_int, cat_long, cat_ref, cat_con, args_nil, args_int, args_long, args_ref, args_con, ct_nil, ct_cons, Nat.reduceBEq, Nat.reduceAdd, Nat.reduceLeDiff, Nat.reduceEqDiff, Bool.not_true, Bool.not_false, Bool.and_true, Bool.and_false, Bool.true_and, Bool.false_and, cond_true, cond_false, Nat.zero_add, Nat.add_zero, reduceCtorEq, Nat.zero_le, ui_at, ua_at, ul_at, wK_v, wK_n, wK_t, true_and, and_true, nb0, nb1, not_false_eq_true, not_true_eq_false, ci_0, ci_1, ci_3, ci_5, ci_7, ci_12, ci_15, ci_16, ci_21, ci_22, w_108_0, w_108_1, w_108_2, w_108_5, w_108_6, w_108_7, w_108_10, w_108_11, w_108_12, w_108_15, w_108_16, w_108_17, w_108_20, w_108_21, w_108_22, w_108_25, w_108_26, w_108_28, w_108_30, w_108_33, w_108_34, w_108_37, w_108_38, w_108_39, w_108_40, w_108_43, w_108_46, w_108_47, w_108_48, w_108_49, w_108_50, w_108_53, w_108_54, w_108_55, w_108_56, w_108_59, w_108_62, w_108_63, w_108_66, w_108_69, w_108_70, w_108_73, w_108_76, w_108_77_int, w_108_77_ref, w_108_77_retAddr, w_108_78, w_108_81, w_108_82, w_108_83, w_108_86, w_108_87, w_108_90, w_108_91, w_108_94, w_108_95, w_108_96, w_108_97, w_108_100, w_108_101, w_108_104, w_108_105, w_108_106, w_108_107, w_108_110, w_108_111, w_108_114, w_108_115, w_108_117, w_108_118, w_108_120, w_108_123, w_108_124, w_108_125, w_108_128, w_108_131, w_108_132, w_108_134, w_108_137, w_108_138, w_108_139, w_108_142, w_108_145, w_108_146, w_108_148, w_108_151, w_108_152, w_108_153, w_108_155, w_108_156, w_108_159, w_108_162, w_108_163, w_108_164, w_108_165, w_108_167, w_108_170, w_108_173, w_108_176, w_108_177, w_108_179, w_108_180, w_108_181, w_108_184, sf_22_9, sf_22_14, sf_22_20, sf_22_21, sf_22_22_0]
  have l := l_st1 (L := L) (xs := xs) (d := d + 6) (Q := Q) (xi := ui (ui (ui (ui (ui xi 1417 0) 1422 0) 1428 0) 1429 0) 1430 0) (xa := xa) (xl := xl) (j := j) 26 0 rfl
  rw [fl_0, ua_id] at l
  refine l.mpr ?_
  rw [rq_0 hf, w_108_46]
  simp only [wI_some, wJ_some, wR_ref, wR_con, wO_some, s1_eq, s2_eq, dl_nil, dl_cons, dm_nil, dm_cons, lk_cons, cat_int, cat_long, cat_ref, cat_con, args_nil, args_int, args_long, args_ref, args_con, ct_nil, ct_cons, Nat.reduceBEq, Nat.reduceAdd, Nat.reduceLeDiff, Nat.reduceEqDiff, Bool.not_true, Bool.not_false, Bool.and_true, Bool.and_false, Bool.true_and, Bool.false_and, cond_true, cond_false, Nat.zero_add, Nat.add_zero, reduceCtorEq, Nat.zero_le, ui_at, ua_at, ul_at, wK_v, wK_n, wK_t, true_and, and_true, nb0, nb1, not_false_eq_true, not_true_eq_false, ci_0, ci_1, ci_3, ci_5, ci_7, ci_12, ci_15, ci_16, ci_21, ci_22, w_108_0, w_108_1, w_108_2, w_108_5, w_108_6, w_108_7, w_108_10, w_108_11, w_108_12, w_108_15, w_108_16, w_108_17, w_108_20, w_108_21, w_108_22, w_108_25, w_108_26, w_108_27, w_108_28, w_108_30, w_108_33, w_108_34, w_108_37, w_108_38, w_108_39, w_108_40, w_108_43, w_108_47, w_108_48, w_108_49, w_108_50, w_108_53, w_108_54, w_108_56, w_108_59, w_108_62, w_108_63, w_108_66, w_108_69, w_108_70, w_108_73, w_108_76, w_108_77_int, w_108_77_ref, w_108_77_retAddr, w_108_78, w_108_81, w_108_82, w_108_83, w_108_86, w_108_87, w_108_90, w_108_91, w_108_94, w_108_95, w_108_96, w_108_97, w_108_100, w_108_101, w_108_104, w_108_105, w_108_106, w_108_107, w_108_110, w_108_111, w_108_114, w_108_115, w_108_117, w_108_118, w_108_120, w_108_123, w_108_124, w_108_125, w_108_128, w_108_131, w_108_132, w_108_134, w_108_137, w_108_138, w_108_139, w_108_142, w_108_145, w_108_146, w_108_148, w_108_151, w_108_152, w_108_153, w_108_155, w_108_156, w_108_159, w_108_162, w_108_163, w_108_164, w_108_165, w_108_167, w_108_170, w_108_173, w_108_176, w_108_177, w_108_179, w_108_180, w_108_181, w_108_184, q_ci, q_push (R := rR0 xa) (show 0 < 600 by decide)]
  exact q_loop hq hq2 hv hl hr 20000 0 (rPu 1 0 0 (rR0 xa)) _ (Or.inl rfl) (by decide) hO (N_pu (Or.inl (by decide)) ⟨fun k hk => absurd hk (Nat.not_lt_zero _), Nat.zero_le _⟩) (show 1 ≤ 405 by decide)
end RZ
