/-! The scanner of the reference: split, the whole. -/
theorem nr_ge {T : Nat → Nat} {z p : Nat} (hd : isD (tA T z p)) : p < (nr (tA T z) p).1 ∧ (nr (tA T z) p).1 ≤ z := by
  have pl := is_lt hd
  have h1 := nl_z (T := T) (z := z) 251 p 0 0 (by omega)
  have h2 : 1 ≤ (nl (tA T z) 251 p 0 0).2.2 := by
    show 1 ≤ (if isD (tA T z p) then nl (tA T z) 250 (p + 1) (vst (tA T z p) 0 0) (0 + 1) else (p, 0, 0)).2.2
    rw [if_pos hd]
    exact nl_g 250 (p + 1) _ 1
  unfold nr
  split
  · rename_i h
    have jl := is_lt h.2
    have h3 := nl_z (T := T) (z := z) 251 ((nl (tA T z) 251 p 0 0).1 + 1) (nl (tA T z) 251 p 0 0).2.1 (nl (tA T z) 251 p 0 0).2.2 (by omega)
    have h4 := nl_g (C := tA T z) 251 ((nl (tA T z) 251 p 0 0).1 + 1) (nl (tA T z) 251 p 0 0).2.1 (nl (tA T z) 251 p 0 0).2.2
    show p < (nl (tA T z) 251 ((nl (tA T z) 251 p 0 0).1 + 1) (nl (tA T z) 251 p 0 0).2.1 (nl (tA T z) 251 p 0 0).2.2).1 ∧ _
    omega
  · show p < (nl (tA T z) 251 p 0 0).1 ∧ _
    omega
/-- names that the reference knows -/
def HR (s : SR) : Prop := ∀ i, s.2.1 i = 97 → ∃ k, k < 26 ∧ s.2.2.1 i = nI k
theorem hr_0 {s : SR} {a b : Nat} {m : Nat} (h : HR s) : HR (m, upd (upd s.2.1 a 0) b 0, s.2.2.1, s.2.2.2) := by
  intro i hi
  have hi' : upd (upd s.2.1 a 0) b 0 i = 97 := hi
  by_cases e : i = b
  · rw [e, upd_eq] at hi'
    exact absurd hi' (by decide)
  rw [upd_ne e] at hi'
  by_cases e : i = a
  · rw [e, upd_eq] at hi'
    exact absurd hi' (by decide)
  rw [upd_ne e] at hi'
  exact h i hi'
theorem hr_A {s : SR} {k x y : Int32} (hk : k = 97 → ∃ q, q < 26 ∧ x = nI q) (h : HR s) : HR (srA (some (k, x, y)) s) := by
  intro i hi
  have hi' : upd s.2.1 s.1 k i = 97 := hi
  show ∃ q, q < 26 ∧ upd s.2.2.1 s.1 x i = nI q
  by_cases e : i = s.1
  · rw [e, upd_eq] at hi' ⊢
    exact hk hi'
  · rw [upd_ne e] at hi' ⊢
    exact h i hi'
theorem sg_97 : ∀ c, c < 256 → ∀ e : Bool, sgX (nI c) e ≠ 97 := by decide +kernel
section TG2
variable {L : Nat} {xs : Nat → Int32} {d : Nat} {σ : dx_S} {Q : dx_O → dx_S → Prop} {xi : Nat → Int32} {xa : Nat → Nat → Int32} {xl : Nat → Nat → Int64} {j : dx_S} {T : Nat → Nat} {q r t p c k v n i w m z N g : Nat} {s : SR} {f : Int32} {rest : dx_L}
theorem l_end {lv : dx_L} (hr : dx_lk lv 0 = some (.ref 22)) (hs : s.1 ≤ 207) : dx_W (tb_Z L xs) d 100 196 lv [] (sm xi xa xl j f s) Q ↔ Q (.inl none) (sm xi xa xl j f (s.1, upd (upd s.2.1 s.1 0) (s.1 + 1) 0, s.2.2.1, s.2.2.2)) := by
  have p1 := m_p26 (xi := xi) (xa := xa) (xl := xl) (j := j) (f := f) (s := s) (k := s.1) (x := 0) (by omega)
  have p2 := m_p26 (xi := xi) (xa := xa) (xl := xl) (j := j) (f := f) (s := (s.1, upd s.2.1 s.1 0, s.2.2.1, s.2.2.2)) (k := s.1 + 1) (x := 0) (by omega)
  have g8 : dx_gf (tb_K L xs) (sm xi xa xl j f (s.1, upd s.2.1 s.1 0, s.2.2.1, s.2.2.2)) (.ref 22) 9 8 = some (.int (nI s.1)) := rfl
  rw [w_100_196]
  simp only [wI_some, wJ_some, wR_ref, wR_con, wO_some, s1_eq, s2_eq, dl_nil, dl_cons, dm_nil, dm_cons, lk_cons, cat_int, cat_long, cat_ref, cat_con, args_nil, args_int, args_long, args_ref, args_con, ct_nil, ct_cons, Nat.reduceBEq, Nat.reduceAdd, Nat.reduceLeDiff, Nat.reduceEqDiff, Bool.not_true, Bool.not_false, Bool.and_true, Bool.and_false, Bool.true_and, Bool.false_and, cond_true, cond_false, Nat.zero_add, Nat.add_zero, reduceCtorEq, Nat.zero_le, ui_at, ua_at, ul_at, wK_v, wK_n, wK_t, true_and, and_true, nb0, nb1, not_false_eq_true, not_true_eq_false, ci_0, ci_1, ci_3, ci_5, ci_7, ci_12, ci_15, ci_16, ci_21, ci_22, w_100_0, w_100_1, w_100_2, w_100_5, w_100_6, w_100_7, w_100_8, w_100_9, w_100_12, w_100_15, w_100_16, w_100_19, w_100_22, w_100_23, w_100_24, w_100_27, w_100_28, w_100_29, w_100_31, w_100_34, w_100_37, w_100_40, w_100_41, w_100_44, w_100_47, w_100_48, w_100_49, w_100_52, w_100_53, w_100_54, w_100_55, w_100_58, w_100_59, w_100_62, w_100_63, w_100_66, w_100_69, w_100_70, w_100_73, w_100_76, w_100_77, w_100_78, w_100_79, w_100_80, w_100_83, w_100_86, w_100_89, w_100_92, w_100_95, w_100_96, w_100_97, w_100_98, w_100_99, w_100_100, w_100_103, w_100_105, w_100_106, w_100_108, w_100_111, w_100_112, w_100_115, w_100_116, w_100_119, w_100_120, w_100_122, w_100_123, w_100_125, w_100_126, w_100_127, w_100_130, w_100_131, w_100_132, w_100_135, w_100_136, w_100_137, w_100_140, w_100_141, w_100_142, w_100_143, w_100_146, w_100_147, w_100_150, w_100_151, w_100_154, w_100_155, w_100_156, w_100_157, w_100_158, w_100_161, w_100_162, w_100_163, w_100_165, w_100_168, w_100_169, w_100_171, w_100_174, w_100_175, w_100_177, w_100_180, w_100_181, w_100_183, w_100_186, w_100_187, w_100_190, w_100_191, w_100_192, w_100_193, w_100_197, w_100_200, w_100_201, w_100_204, w_100_205, w_100_206, w_100_207, w_100_210, w_100_211, w_100_214, w_100_215, w_100_216, w_100_217, w_100_218, m_ci, m_g5, m_g8, p1, p2, g8, hr, nI_1]
theorem l_bad {v : Int32} (ht : txR xi xa T z) (hr : dx_lk rest 0 = some (.ref 22)) (hs : s.1 ≤ 207) (hH : HR s) (hl : ∀ s' : SR, HR s' → Q (.inl none) (sm xi xa xl j 1 s')) : dx_W (tb_Z L xs) d 100 7 ((1, .int v) :: rest) [] (sm xi xa xl j 1 s) Q := by
  have hx := ht.1
  have hr1 : dx_lk ((1, Value.int v) :: rest) 0 = some (.ref 22) := by rw [lk_cons]; exact hr
  rw [w_100_7]
  simp only [wI_some, wJ_some, wR_ref, wR_con, wO_some, s1_eq, s2_eq, dl_nil, dl_cons, dm_nil, dm_cons, lk_cons, cat_int, cat_long, cat_ref, cat_con, args_nil, args_int, args_long, args_ref, args_con, ct_nil, ct_cons, Nat.reduceBEq, Nat.reduceAdd, Nat.reduceLeDiff, Nat.reduceEqDiff, Bool.not_true, Bool.not_false, Bool.and_true, Bool.and_false, Bool.true_and, Bool.false_and, cond_true, cond_false, Nat.zero_add, Nat.add_zero, reduceCtorEq, Nat.zero_le, ui_at, ua_at, ul_at, wK_v, wK_n, wK_t, true_and, and_true, nb0, nb1, not_false_eq_true, not_true_eq_false, ci_0, ci_1, ci_3, ci_5, ci_7, ci_12, ci_15, ci_16, ci_21, ci_22, w_100_0, w_100_1, w_100_2, w_100_5, w_100_6, w_100_8, w_100_9, w_100_12, w_100_15, w_100_16, w_100_19, w_100_23, w_100_24, w_100_27, w_100_28, w_100_29, w_100_31, w_100_34, w_100_37, w_100_40, w_100_41, w_100_44, w_100_47, w_100_48, w_100_49, w_100_52, w_100_53, w_100_54, w_100_55, w_100_58, w_100_59, w_100_62, w_100_63, w_100_66, w_100_69, w_100_70, w_100_73, w_100_76, w_100_77, w_100_78, w_100_79, w_100_80, w_100_83, w_100_86, w_100_89, w_100_92, w_100_95, w_100_96, w_100_97, w_100_98, w_100_99, w_100_100, w_100_103, w_100_105, w_100_106, w_100_108, w_100_111, w_100_112, w_100_115, w_100_116, w_100_119, w_100_120, w_100_122, w_100_123, w_100_125, w_100_126, w_100_127, w_100_130, w_100_131, w_100_132, w_100_135, w_100_136, w_100_137, w_100_140, w_100_141, w_100_142, w_100_143, w_100_146, w_100_147, w_100_150, w_100_151, w_100_154, w_100_155, w_100_156, w_100_157, w_100_158, w_100_161, w_100_162, w_100_163, w_100_165, w_100_168, w_100_169, w_100_171, w_100_174, w_100_175, w_100_177, w_100_180, w_100_181, w_100_183, w_100_186, w_100_187, w_100_190, w_100_191, w_100_192, w_100_193, w_100_197, w_100_200, w_100_201, w_100_204, w_100_205, w_100_206, w_100_207, w_100_210, w_100_211, w_100_214, w_100_215, w_100_216, w_100_217, w_100_218, m_ci, m_g1, m_g5, m_g8, m_g10, hx, hr, nI_1]
  by_cases h : nI z ≤ v
  · rw [if_pos h]
    exact (l_end hr1 hs).mpr (hl _ (hr_0 hH))
  · rw [if_neg h, if_pos (show ¬ (1 : Int32) = 0 by decide)]
    exact (l_end hr1 hs).mpr (hl _ (hr_0 hH))
theorem l_split (ht : txR xi xa T z) : ∀ N p (s : SR) (rest : dx_L), z ≤ N + p → p ≤ 460 → s.1 ≤ p → s.1 ≤ 200 → dx_lk rest 0 = some (.ref 22) → (∀ s', srl (tA T z) z N p s = some s' → Q (.inl none) (sm xi xa xl j 0 (s'.1, upd (upd s'.2.1 s'.1 0) (s'.1 + 1) 0, s'.2.2.1, s'.2.2.2))) → (srl (tA T z) z N p s = none → ∀ s' : SR, HR s' → Q (.inl none) (sm xi xa xl j 1 s')) → HR s → dx_W (tb_Z L xs) (d + 2) 100 7 ((1, .int (nI p)) :: rest) [] (sm xi xa xl j 0 s) Q := by
  have hz := ht.2.1
  have hx := ht.1
  have fin : ∀ p (s : SR) (rest : dx_L), z ≤ p → p ≤ 460 → s.1 ≤ 200 → dx_lk rest 0 = some (.ref 22) → Q (.inl none) (sm xi xa xl j 0 (s.1, upd (upd s.2.1 s.1 0) (s.1 + 1) 0, s.2.2.1, s.2.2.2)) → dx_W (tb_Z L xs) (d + 2) 100 7 ((1, .int (nI p)) :: rest) [] (sm xi xa xl j 0 s) Q := by
    intro p s rest h1 h2 h3 hr hQ
    have hr1 : dx_lk ((1, Value.int (nI p)) :: rest) 0 = some (.ref 22) := by rw [lk_cons]; exact hr
    rw [w_100_7]
    simp only [wI_some, wJ_some, wR_ref, wR_con, wO_some, s1_eq, s2_eq, dl_nil, dl_cons, dm_nil, dm_cons, lk_cons, cat_int, cat_long, cat_ref, cat_con, args_nil, args_int, args_long, args_ref, args_con, ct_nil, ct_cons, Nat.reduceBEq, Nat.reduceAdd, Nat.reduceLeDiff, Nat.reduceEqDiff, Bool.not_true, Bool.not_false, Bool.and_true, Bool.and_false, Bool.true_and, Bool.false_and, cond_true, cond_false, Nat.zero_add, Nat.add_zero, reduceCtorEq, Nat.zero_le, ui_at, ua_at, ul_at, wK_v, wK_n, wK_t, true_and, and_true, nb0, nb1, not_false_eq_true, not_true_eq_false, ci_0, ci_1, ci_3, ci_5, ci_7, ci_12, ci_15, ci_16, ci_21, ci_22, w_100_0, w_100_1, w_100_2, w_100_5, w_100_6, w_100_8, w_100_9, w_100_12, w_100_16, w_100_19, w_100_22, w_100_23, w_100_24, w_100_27, w_100_28, w_100_29, w_100_31, w_100_34, w_100_37, w_100_40, w_100_41, w_100_44, w_100_47, w_100_48, w_100_49, w_100_52, w_100_53, w_100_54, w_100_55, w_100_58, w_100_59, w_100_62, w_100_63, w_100_66, w_100_69, w_100_70, w_100_73, w_100_76, w_100_77, w_100_78, w_100_79, w_100_80, w_100_83, w_100_86, w_100_89, w_100_92, w_100_95, w_100_96, w_100_97, w_100_98, w_100_99, w_100_100, w_100_103, w_100_105, w_100_106, w_100_108, w_100_111, w_100_112, w_100_115, w_100_116, w_100_119, w_100_120, w_100_122, w_100_123, w_100_125, w_100_126, w_100_127, w_100_130, w_100_131, w_100_132, w_100_135, w_100_136, w_100_137, w_100_140, w_100_141, w_100_142, w_100_143, w_100_146, w_100_147, w_100_150, w_100_151, w_100_154, w_100_155, w_100_156, w_100_157, w_100_158, w_100_161, w_100_162, w_100_163, w_100_165, w_100_168, w_100_169, w_100_171, w_100_174, w_100_175, w_100_177, w_100_180, w_100_181, w_100_183, w_100_186, w_100_187, w_100_190, w_100_191, w_100_192, w_100_193, w_100_197, w_100_200, w_100_201, w_100_204, w_100_205, w_100_206, w_100_207, w_100_210, w_100_211, w_100_214, w_100_215, w_100_216, w_100_217, w_100_218, m_ci, m_g1, m_g5, m_g8, m_g10, hx, hr, nI_1]
    rw [if_pos (nI_le h1 (by omega))]
    exact (l_end hr1 (by omega)).mpr hQ
  intro N
  induction N with
  | zero =>
    intro p s rest h1 h2 h3 h4 hr K hl hH
    exact fin p s rest (by omega) h2 h4 hr (K s rfl)
  | succ N ih =>
    intro p s rest h1 h2 h3 h4 hr K hl hH
    by_cases hlt : ¬ p < z
    · exact fin p s rest (by omega) h2 h4 hr (K s (if_neg hlt))
    have hlt := Decidable.not_not.mp hlt
    have K2 : srl (tA T z) z (N + 1) p s = (match tkR (tA T z) p with
      | none => none
      | some t => srl (tA T z) z N (p + t.2) (srA t.1 s)) := if_pos hlt
    rw [K2] at K hl
    have c0 : tA T z p < 256 := tR_lt ht
    have hr2 : dx_lk (dx_dl rest 2) 0 = some (.ref 22) := lk_dl rest 2 (by decide) hr
    have hr1 : dx_lk (dx_dl rest 1) 0 = some (.ref 22) := lk_dl rest 1 (by decide) hr
    have hr21 : dx_lk (dx_dl (dx_dl rest 2) 1) 0 = some (.ref 22) := lk_dl _ 1 (by decide) hr2
    rw [w_100_7]
    simp only [wI_some, wJ_some, wR_ref, wR_con, wO_some, s1_eq, s2_eq, dl_nil, dl_cons, dm_nil, dm_cons, lk_cons, cat_int, cat_long, cat_ref, cat_con, args_nil, args_int, args_long, args_ref, args_con, ct_nil, ct_cons, Nat.reduceBEq, Nat.reduceAdd, Nat.reduceLeDiff, Nat.reduceEqDiff, Bool.not_true, Bool.not_false, Bool.and_true, Bool.and_false, Bool.true_and, Bool.false_and, cond_true, cond_false, Nat.zero_add, Nat.add_zero, reduceCtorEq, Nat.zero_le, ui_at, ua_at, ul_at, wK_v, wK_n, wK_t, true_and, and_true, nb0, nb1, not_false_eq_true, not_true_eq_false, ci_0, ci_1, ci_3, ci_5, ci_7, ci_12, ci_15, ci_16, ci_21, ci_22, w_100_0, w_100_1, w_100_2, w_100_5, w_100_6, w_100_8, w_100_9, w_100_12, w_100_15, w_100_16, w_100_19, w_100_22, w_100_23, w_100_24, w_100_27, w_100_28, w_100_29, w_100_31, w_100_37, w_100_41, w_100_44, w_100_47, w_100_48, w_100_49, w_100_52, w_100_53, w_100_54, w_100_55, w_100_58, w_100_59, w_100_62, w_100_63, w_100_66, w_100_69, w_100_70, w_100_73, w_100_76, w_100_77, w_100_78, w_100_79, w_100_80, w_100_83, w_100_86, w_100_89, w_100_92, w_100_95, w_100_96, w_100_97, w_100_98, w_100_99, w_100_100, w_100_103, w_100_105, w_100_106, w_100_108, w_100_111, w_100_112, w_100_115, w_100_116, w_100_119, w_100_120, w_100_122, w_100_123, w_100_125, w_100_126, w_100_127, w_100_130, w_100_131, w_100_132, w_100_135, w_100_136, w_100_137, w_100_140, w_100_141, w_100_142, w_100_143, w_100_146, w_100_147, w_100_150, w_100_151, w_100_154, w_100_155, w_100_156, w_100_157, w_100_158, w_100_161, w_100_162, w_100_163, w_100_165, w_100_168, w_100_169, w_100_171, w_100_174, w_100_175, w_100_177, w_100_180, w_100_181, w_100_183, w_100_186, w_100_187, w_100_190, w_100_191, w_100_192, w_100_193, w_100_197, w_100_200, w_100_201, w_100_204, w_100_205, w_100_206, w_100_207, w_100_210, w_100_211, w_100_214, w_100_215, w_100_216, w_100_217, w_100_218, m_ci, m_g1, m_g5, m_g8, m_g10, hx, hr, nI_1, m_chr ht (show p < 2 ^ 31 by omega), (show ((0 : Int32) = 0) = True from by decide), not_true_eq_false, ite_false]
    rw [if_neg (nI_ge hlt (by omega))]
    have m10a := fun (s : SR) (f : Int32) => m_p10 (xi := xi) (xa := xa) (xl := xl) (j := j) (s := s) (f := f) (x := 1) (Or.inr rfl)
    have m10b := fun (s : SR) (f : Int32) => m_p10 (xi := xi) (xa := xa) (xl := xl) (j := j) (s := s) (f := f) (x := 0) (Or.inl rfl)
    by_cases hb : tA T z p = 32
    · have et : tkR (tA T z) p = some (none, 1) := if_pos hb
      rw [et] at K hl
      rw [if_neg (fun y => y (by rw [hb]; rfl)), w_100_34]
      simp only [wI_some, wJ_some, wR_ref, wR_con, wO_some, s1_eq, s2_eq, dl_nil, dl_cons, dm_nil, dm_cons, lk_cons, cat_int, cat_long, cat_ref, cat_con, args_nil, args_int, args_long, args_ref, args_con, ct_nil, ct_cons, Nat.reduceBEq, Nat.reduceAdd, Nat.reduceLeDiff, Nat.reduceEqDiff, Bool.not_true, Bool.not_false, Bool.and_true, Bool.and_false, Bool.true_and, Bool.false_and, cond_true, cond_false, Nat.zero_add, Nat.add_zero, reduceCtorEq, Nat.zero_le, ui_at, ua_at, ul_at, wK_v, wK_n, wK_t, true_and, and_true, nb0, nb1, not_false_eq_true, not_true_eq_false, ci_0, ci_1, ci_3, ci_5, ci_7, ci_12, ci_15, ci_16, ci_21, ci_22, w_100_0, w_100_1, w_100_2, w_100_5, w_100_6, w_100_8, w_100_9, w_100_12, w_100_15, w_100_16, w_100_19, w_100_22, w_100_23, w_100_24, w_100_27, w_100_28, w_100_29, w_100_31, w_100_37, w_100_40, w_100_41, w_100_44, w_100_47, w_100_48, w_100_49, w_100_52, w_100_53, w_100_54, w_100_55, w_100_58, w_100_59, w_100_62, w_100_63, w_100_66, w_100_69, w_100_70, w_100_73, w_100_76, w_100_77, w_100_78, w_100_79, w_100_80, w_100_83, w_100_86, w_100_89, w_100_92, w_100_95, w_100_96, w_100_97, w_100_98, w_100_99, w_100_100, w_100_103, w_100_105, w_100_106, w_100_108, w_100_111, w_100_112, w_100_115, w_100_116, w_100_119, w_100_120, w_100_122, w_100_123, w_100_125, w_100_126, w_100_127, w_100_130, w_100_131, w_100_132, w_100_135, w_100_136, w_100_137, w_100_140, w_100_141, w_100_142, w_100_143, w_100_146, w_100_147, w_100_150, w_100_151, w_100_154, w_100_155, w_100_156, w_100_157, w_100_158, w_100_161, w_100_162, w_100_163, w_100_165, w_100_168, w_100_169, w_100_171, w_100_174, w_100_175, w_100_177, w_100_180, w_100_181, w_100_183, w_100_186, w_100_187, w_100_190, w_100_191, w_100_192, w_100_193, w_100_196, w_100_197, w_100_200, w_100_201, w_100_204, w_100_205, w_100_206, w_100_207, w_100_210, w_100_211, w_100_214, w_100_215, w_100_216, w_100_217, w_100_218, m_ci, m_g1, m_g5, m_g8, m_g10, hx, hr, nI_1, hr2, hr21]
      exact ih (p + 1) s _ (by omega) (by omega) (by omega) h4 (by rw [lk_cons]; exact hr21) K hl hH
    rw [if_pos (show ¬ nI (tA T z p) = 32 from fun y => hb ((nI_eq (b := 32) (by omega) (by decide)).mp y)), w_100_40]
    simp only [wI_some, wJ_some, wR_ref, wR_con, wO_some, s1_eq, s2_eq, dl_nil, dl_cons, dm_nil, dm_cons, lk_cons, cat_int, cat_long, cat_ref, cat_con, args_nil, args_int, args_long, args_ref, args_con, ct_nil, ct_cons, Nat.reduceBEq, Nat.reduceAdd, Nat.reduceLeDiff, Nat.reduceEqDiff, Bool.not_true, Bool.not_false, Bool.and_true, Bool.and_false, Bool.true_and, Bool.false_and, cond_true, cond_false, Nat.zero_add, Nat.add_zero, reduceCtorEq, Nat.zero_le, ui_at, ua_at, ul_at, wK_v, wK_n, wK_t, true_and, and_true, nb0, nb1, not_false_eq_true, not_true_eq_false, ci_0, ci_1, ci_3, ci_5, ci_7, ci_12, ci_15, ci_16, ci_21, ci_22, w_100_0, w_100_1, w_100_2, w_100_5, w_100_6, w_100_7, w_100_8, w_100_9, w_100_12, w_100_15, w_100_16, w_100_19, w_100_22, w_100_23, w_100_24, w_100_27, w_100_28, w_100_29, w_100_31, w_100_34, w_100_37, w_100_41, w_100_44, w_100_48, w_100_49, w_100_52, w_100_53, w_100_54, w_100_55, w_100_58, w_100_59, w_100_62, w_100_63, w_100_66, w_100_70, w_100_73, w_100_76, w_100_77, w_100_78, w_100_79, w_100_80, w_100_83, w_100_86, w_100_89, w_100_92, w_100_95, w_100_96, w_100_97, w_100_98, w_100_99, w_100_100, w_100_103, w_100_105, w_100_106, w_100_108, w_100_111, w_100_112, w_100_115, w_100_116, w_100_119, w_100_120, w_100_122, w_100_123, w_100_125, w_100_126, w_100_127, w_100_130, w_100_131, w_100_132, w_100_135, w_100_136, w_100_137, w_100_140, w_100_141, w_100_142, w_100_143, w_100_146, w_100_147, w_100_150, w_100_151, w_100_154, w_100_155, w_100_156, w_100_157, w_100_158, w_100_161, w_100_162, w_100_163, w_100_165, w_100_168, w_100_169, w_100_171, w_100_174, w_100_175, w_100_177, w_100_180, w_100_181, w_100_183, w_100_186, w_100_187, w_100_190, w_100_191, w_100_192, w_100_193, w_100_196, w_100_197, w_100_200, w_100_201, w_100_204, w_100_205, w_100_206, w_100_207, w_100_210, w_100_211, w_100_214, w_100_215, w_100_216, w_100_217, w_100_218, m_ci, m_g1, m_g5, m_g8, m_g10, hx, hr, nI_1, hr2, f_isDigit]
    rw [dg_is (show tA T z p < 65536 by omega)]
    by_cases hd : isD (tA T z p)
    · have ng := nr_ge hd
      rw [if_pos hd, if_neg (show ¬ (1 : Int32) = 0 by decide)]
      simp only [wI_some, wJ_some, wR_ref, wR_con, wO_some, s1_eq, s2_eq, dl_nil, dl_cons, dm_nil, dm_cons, lk_cons, cat_int, cat_long, cat_ref, cat_con, args_nil, args_int, args_long, args_ref, args_con, ct_nil, ct_cons, Nat.reduceBEq, Nat.reduceAdd, Nat.reduceLeDiff, Nat.reduceEqDiff, Bool.not_true, Bool.not_false, Bool.and_true, Bool.and_false, Bool.true_and, Bool.false_and, cond_true, cond_false, Nat.zero_add, Nat.add_zero, reduceCtorEq, Nat.zero_le, ui_at, ua_at, ul_at, wK_v, wK_n, wK_t, true_and, and_true, nb0, nb1, not_false_eq_true, not_true_eq_false, ci_0, ci_1, ci_3, ci_5, ci_7, ci_12, ci_15, ci_16, ci_21, ci_22, w_100_0, w_100_1, w_100_2, w_100_5, w_100_6, w_100_7, w_100_8, w_100_9, w_100_12, w_100_15, w_100_16, w_100_19, w_100_22, w_100_23, w_100_24, w_100_27, w_100_28, w_100_29, w_100_31, w_100_34, w_100_37, w_100_40, w_100_41, w_100_44, w_100_47, w_100_48, w_100_49, w_100_53, w_100_54, w_100_55, w_100_58, w_100_59, w_100_62, w_100_63, w_100_66, w_100_69, w_100_70, w_100_73, w_100_76, w_100_77, w_100_78, w_100_79, w_100_80, w_100_83, w_100_86, w_100_89, w_100_92, w_100_95, w_100_96, w_100_97, w_100_98, w_100_99, w_100_100, w_100_103, w_100_105, w_100_106, w_100_108, w_100_111, w_100_112, w_100_115, w_100_116, w_100_119, w_100_120, w_100_122, w_100_123, w_100_125, w_100_126, w_100_127, w_100_130, w_100_131, w_100_132, w_100_135, w_100_136, w_100_137, w_100_140, w_100_141, w_100_142, w_100_143, w_100_146, w_100_147, w_100_150, w_100_151, w_100_154, w_100_155, w_100_156, w_100_157, w_100_158, w_100_161, w_100_162, w_100_163, w_100_165, w_100_168, w_100_169, w_100_171, w_100_174, w_100_175, w_100_177, w_100_180, w_100_181, w_100_183, w_100_186, w_100_187, w_100_190, w_100_191, w_100_192, w_100_193, w_100_196, w_100_197, w_100_200, w_100_201, w_100_204, w_100_205, w_100_206, w_100_207, w_100_210, w_100_211, w_100_214, w_100_215, w_100_216, w_100_217, w_100_218, m_ci, m_g1, m_g5, m_g8, m_g10, hx, hr, nI_1, hr2]
      rw [m_num ht (show s.1 < 210 by omega) hd]
      by_cases hlong : 9 < (nr (tA T z) p).2.2.1 ∨ 4 < (nr (tA T z) p).2.2.2
      · rw [if_pos hlong]
        simp only [wI_some, wJ_some, wR_ref, wR_con, wO_some, s1_eq, s2_eq, dl_nil, dl_cons, dm_nil, dm_cons, lk_cons, cat_int, cat_long, cat_ref, cat_con, args_nil, args_int, args_long, args_ref, args_con, ct_nil, ct_cons, Nat.reduceBEq, Nat.reduceAdd, Nat.reduceLeDiff, Nat.reduceEqDiff, Bool.not_true, Bool.not_false, Bool.and_true, Bool.and_false, Bool.true_and, Bool.false_and, cond_true, cond_false, Nat.zero_add, Nat.add_zero, reduceCtorEq, Nat.zero_le, ui_at, ua_at, ul_at, wK_v, wK_n, wK_t, true_and, and_true, nb0, nb1, not_false_eq_true, not_true_eq_false, ci_0, ci_1, ci_3, ci_5, ci_7, ci_12, ci_15, ci_16, ci_21, ci_22, w_100_0, w_100_1, w_100_2, w_100_5, w_100_6, w_100_8, w_100_9, w_100_12, w_100_15, w_100_16, w_100_19, w_100_22, w_100_23, w_100_24, w_100_27, w_100_28, w_100_29, w_100_31, w_100_34, w_100_37, w_100_40, w_100_41, w_100_44, w_100_47, w_100_48, w_100_49, w_100_52, w_100_53, w_100_54, w_100_55, w_100_58, w_100_59, w_100_62, w_100_63, w_100_66, w_100_69, w_100_70, w_100_73, w_100_76, w_100_77, w_100_78, w_100_79, w_100_80, w_100_83, w_100_86, w_100_89, w_100_92, w_100_95, w_100_96, w_100_97, w_100_98, w_100_99, w_100_100, w_100_103, w_100_105, w_100_106, w_100_108, w_100_111, w_100_112, w_100_115, w_100_116, w_100_119, w_100_120, w_100_122, w_100_123, w_100_125, w_100_126, w_100_127, w_100_130, w_100_131, w_100_132, w_100_135, w_100_136, w_100_137, w_100_140, w_100_141, w_100_142, w_100_143, w_100_146, w_100_147, w_100_150, w_100_151, w_100_154, w_100_155, w_100_156, w_100_157, w_100_158, w_100_161, w_100_162, w_100_163, w_100_165, w_100_168, w_100_169, w_100_171, w_100_174, w_100_175, w_100_177, w_100_180, w_100_181, w_100_183, w_100_186, w_100_187, w_100_190, w_100_191, w_100_192, w_100_193, w_100_196, w_100_197, w_100_200, w_100_201, w_100_204, w_100_205, w_100_206, w_100_207, w_100_210, w_100_211, w_100_214, w_100_215, w_100_216, w_100_217, w_100_218, m_ci, m_g1, m_g5, m_g8, m_g10, hx, hr, nI_1, hr2, hr21, m10a, m10b, (show ((0 : Int32) = 0) = True from by decide), not_true_eq_false, ite_false]
        have et0 : tkR (tA T z) p = none := (if_neg hb).trans ((if_pos hd).trans (if_pos hlong))
        rw [et0] at hl
        exact l_bad ht (by rw [lk_cons]; exact hr21) (by omega) hH (hl rfl)
      · have et : tkR (tA T z) p = some (some (110, nI (nr (tA T z) p).2.1, nI (nr (tA T z) p).2.2.2), (nr (tA T z) p).1 - p) := (if_neg hb).trans ((if_pos hd).trans (if_neg hlong))
        rw [et] at K hl
        rw [if_neg hlong]
        simp only [wI_some, wJ_some, wR_ref, wR_con, wO_some, s1_eq, s2_eq, dl_nil, dl_cons, dm_nil, dm_cons, lk_cons, cat_int, cat_long, cat_ref, cat_con, args_nil, args_int, args_long, args_ref, args_con, ct_nil, ct_cons, Nat.reduceBEq, Nat.reduceAdd, Nat.reduceLeDiff, Nat.reduceEqDiff, Bool.not_true, Bool.not_false, Bool.and_true, Bool.and_false, Bool.true_and, Bool.false_and, cond_true, cond_false, Nat.zero_add, Nat.add_zero, reduceCtorEq, Nat.zero_le, ui_at, ua_at, ul_at, wK_v, wK_n, wK_t, true_and, and_true, nb0, nb1, not_false_eq_true, not_true_eq_false, ci_0, ci_1, ci_3, ci_5, ci_7, ci_12, ci_15, ci_16, ci_21, ci_22, w_100_0, w_100_1, w_100_2, w_100_5, w_100_6, w_100_8, w_100_9, w_100_12, w_100_15, w_100_16, w_100_19, w_100_22, w_100_23, w_100_24, w_100_27, w_100_28, w_100_29, w_100_31, w_100_34, w_100_37, w_100_40, w_100_41, w_100_44, w_100_47, w_100_48, w_100_49, w_100_52, w_100_53, w_100_54, w_100_55, w_100_58, w_100_59, w_100_62, w_100_63, w_100_66, w_100_69, w_100_70, w_100_73, w_100_76, w_100_77, w_100_78, w_100_79, w_100_80, w_100_83, w_100_86, w_100_89, w_100_92, w_100_95, w_100_96, w_100_97, w_100_98, w_100_99, w_100_100, w_100_103, w_100_105, w_100_106, w_100_108, w_100_111, w_100_112, w_100_115, w_100_116, w_100_119, w_100_120, w_100_122, w_100_123, w_100_125, w_100_126, w_100_127, w_100_130, w_100_131, w_100_132, w_100_135, w_100_136, w_100_137, w_100_140, w_100_141, w_100_142, w_100_143, w_100_146, w_100_147, w_100_150, w_100_151, w_100_154, w_100_155, w_100_156, w_100_157, w_100_158, w_100_161, w_100_162, w_100_163, w_100_165, w_100_168, w_100_169, w_100_171, w_100_174, w_100_175, w_100_177, w_100_180, w_100_181, w_100_183, w_100_186, w_100_187, w_100_190, w_100_191, w_100_192, w_100_193, w_100_196, w_100_197, w_100_200, w_100_201, w_100_204, w_100_205, w_100_206, w_100_207, w_100_210, w_100_211, w_100_214, w_100_215, w_100_216, w_100_217, w_100_218, m_ci, m_g1, m_g5, m_g8, m_g10, hx, hr, nI_1, hr2, hr21, m10a, m10b]
        rw [if_pos (show ¬ nI (nr (tA T z) p).1 = 0 from nI_ne0 (by omega) (by omega))]
        have e : p + ((nr (tA T z) p).1 - p) = (nr (tA T z) p).1 := by omega
        have K' : ∀ s', srl (tA T z) z N (nr (tA T z) p).1 (srA (some (110, nI (nr (tA T z) p).2.1, nI (nr (tA T z) p).2.2.2)) s) = some s' → Q (.inl none) (sm xi xa xl j 0 (s'.1, upd (upd s'.2.1 s'.1 0) (s'.1 + 1) 0, s'.2.2.1, s'.2.2.2)) := by
          intro s' hs'
          apply K s'
          show srl (tA T z) z N (p + ((nr (tA T z) p).1 - p)) _ = _
          rw [e]
          exact hs'
        exact ih (nr (tA T z) p).1 (srA (some (110, nI (nr (tA T z) p).2.1, nI (nr (tA T z) p).2.2.2)) s) _ (by omega) (by omega) (show s.1 + 1 ≤ _ by omega) (show s.1 + 1 ≤ 200 by omega) (by rw [lk_cons]; exact hr21) K' (fun hn => hl (show srl (tA T z) z N (p + ((nr (tA T z) p).1 - p)) _ = _ by rw [e]; exact hn)) (hr_A (fun y => absurd y (by decide)) hH)
    rw [if_neg hd, if_pos (show (0 : Int32) = 0 from rfl), w_100_69]
    simp only [wI_some, wJ_some, wR_ref, wR_con, wO_some, s1_eq, s2_eq, dl_nil, dl_cons, dm_nil, dm_cons, lk_cons, cat_int, cat_long, cat_ref, cat_con, args_nil, args_int, args_long, args_ref, args_con, ct_nil, ct_cons, Nat.reduceBEq, Nat.reduceAdd, Nat.reduceLeDiff, Nat.reduceEqDiff, Bool.not_true, Bool.not_false, Bool.and_true, Bool.and_false, Bool.true_and, Bool.false_and, cond_true, cond_false, Nat.zero_add, Nat.add_zero, reduceCtorEq, Nat.zero_le, ui_at, ua_at, ul_at, wK_v, wK_n, wK_t, true_and, and_true, nb0, nb1, not_false_eq_true, not_true_eq_false, ci_0, ci_1, ci_3, ci_5, ci_7, ci_12, ci_15, ci_16, ci_21, ci_22, w_100_0, w_100_1, w_100_2, w_100_5, w_100_6, w_100_7, w_100_8, w_100_9, w_100_12, w_100_15, w_100_16, w_100_19, w_100_22, w_100_23, w_100_24, w_100_27, w_100_28, w_100_29, w_100_31, w_100_34, w_100_37, w_100_40, w_100_41, w_100_44, w_100_47, w_100_48, w_100_49, w_100_52, w_100_53, w_100_54, w_100_55, w_100_58, w_100_59, w_100_62, w_100_63, w_100_66, w_100_70, w_100_73, w_100_76, w_100_77, w_100_79, w_100_80, w_100_83, w_100_86, w_100_89, w_100_92, w_100_95, w_100_96, w_100_97, w_100_98, w_100_99, w_100_100, w_100_103, w_100_105, w_100_106, w_100_108, w_100_111, w_100_112, w_100_115, w_100_116, w_100_119, w_100_120, w_100_122, w_100_123, w_100_125, w_100_126, w_100_127, w_100_130, w_100_131, w_100_132, w_100_136, w_100_137, w_100_140, w_100_141, w_100_142, w_100_143, w_100_146, w_100_147, w_100_150, w_100_151, w_100_154, w_100_155, w_100_156, w_100_157, w_100_158, w_100_161, w_100_162, w_100_163, w_100_165, w_100_168, w_100_169, w_100_171, w_100_174, w_100_175, w_100_177, w_100_180, w_100_181, w_100_183, w_100_186, w_100_187, w_100_190, w_100_191, w_100_192, w_100_193, w_100_196, w_100_197, w_100_200, w_100_201, w_100_204, w_100_205, w_100_206, w_100_207, w_100_210, w_100_211, w_100_214, w_100_215, w_100_216, w_100_217, w_100_218, m_ci, m_g1, m_g5, m_g8, m_g10, hx, hr, nI_1, hr2, f_isSmall]
    rw [lt_is (show tA T z p < 65536 by omega)]
    by_cases hw : isW (tA T z p)
    · rw [if_pos hw, if_neg (show ¬ (1 : Int32) = 0 by decide)]
      have hr3 : dx_lk (dx_dl (dx_dl rest 2) 3) 0 = some (.ref 22) := lk_dl _ 3 (by decide) hr2
      have lw := lts_le (C := tA T z) (p := p) 250 0
      have l1 : 1 ≤ lts (tA T z) p 250 0 := by
        show 1 ≤ (if isW (tA T z (p + 0)) then lts (tA T z) p 249 (0 + 1) else 0)
        rw [if_pos (show isW (tA T z (p + 0)) from hw)]
        exact (lts_le 249 1).1
      refine (l_let (d := d + 1) (x := nI (tA T z p)) ht (by omega) hr3 (dl_dl _ 3) 250 0 (by omega) (by omega)).mpr ?_
      generalize hW : lts (tA T z) p 250 0 = W at lw l1
      have e1 : nI (tA T z p) - 97 = nI (tA T z p - 97) := (show nI (tA T z p) - nI 97 = nI (tA T z p - 97) from pk_sub hw.1)
      have e2 : nI (p + W) - nI p = nI W := by rw [pk_sub (show p ≤ p + W by omega), Nat.add_sub_cancel_left]
      have hr4 : dx_lk (dx_dl (dx_dl (dx_dl rest 2) 3) 4) 0 = some (.ref 22) := lk_dl _ 4 (by decide) hr3
      have hr5 : dx_lk (dx_dl (dx_dl (dx_dl (dx_dl rest 2) 3) 4) 1) 0 = some (.ref 22) := lk_dl _ 1 (by decide) hr4
      have w26 : woR (tA T z) p W = 97 → ∃ q, q < 26 ∧ nI (tA T z p - 97) = nI q := fun _ => ⟨tA T z p - 97, by have := hw.2; omega, rfl⟩
      rw [w_100_95]
      simp only [wI_some, wJ_some, wR_ref, wR_con, wO_some, s1_eq, s2_eq, dl_nil, dl_cons, dm_nil, dm_cons, lk_cons, cat_int, cat_long, cat_ref, cat_con, args_nil, args_int, args_long, args_ref, args_con, ct_nil, ct_cons, Nat.reduceBEq, Nat.reduceAdd, Nat.reduceLeDiff, Nat.reduceEqDiff, Bool.not_true, Bool.not_false, Bool.and_true, Bool.and_false, Bool.true_and, Bool.false_and, cond_true, cond_false, Nat.zero_add, Nat.add_zero, reduceCtorEq, Nat.zero_le, ui_at, ua_at, ul_at, wK_v, wK_n, wK_t, true_and, and_true, nb0, nb1, not_false_eq_true, not_true_eq_false, ci_0, ci_1, ci_3, ci_5, ci_7, ci_12, ci_15, ci_16, ci_21, ci_22, w_100_0, w_100_1, w_100_2, w_100_5, w_100_6, w_100_8, w_100_9, w_100_12, w_100_15, w_100_16, w_100_19, w_100_22, w_100_23, w_100_24, w_100_27, w_100_28, w_100_29, w_100_31, w_100_34, w_100_37, w_100_40, w_100_41, w_100_44, w_100_47, w_100_48, w_100_49, w_100_52, w_100_53, w_100_54, w_100_55, w_100_58, w_100_59, w_100_62, w_100_63, w_100_66, w_100_69, w_100_70, w_100_73, w_100_76, w_100_77, w_100_78, w_100_79, w_100_80, w_100_83, w_100_86, w_100_89, w_100_92, w_100_96, w_100_97, w_100_98, w_100_99, w_100_100, w_100_103, w_100_105, w_100_106, w_100_108, w_100_112, w_100_116, w_100_119, w_100_120, w_100_122, w_100_123, w_100_125, w_100_126, w_100_127, w_100_130, w_100_131, w_100_132, w_100_135, w_100_136, w_100_137, w_100_140, w_100_141, w_100_142, w_100_143, w_100_146, w_100_147, w_100_150, w_100_151, w_100_154, w_100_155, w_100_156, w_100_157, w_100_158, w_100_161, w_100_162, w_100_163, w_100_165, w_100_168, w_100_169, w_100_171, w_100_174, w_100_175, w_100_177, w_100_180, w_100_181, w_100_183, w_100_186, w_100_187, w_100_190, w_100_191, w_100_192, w_100_193, w_100_196, w_100_197, w_100_200, w_100_201, w_100_204, w_100_205, w_100_206, w_100_207, w_100_210, w_100_211, w_100_214, w_100_215, w_100_216, w_100_217, w_100_218, m_ci, m_g1, m_g5, m_g8, m_g10, hx, hr, nI_1, hr3, hr2, hr4, e2, m_word ht (show p ≤ 1000 by omega) (show W ≤ 300 by omega)]
      by_cases h0 : woR (tA T z) p W = 0
      · rw [if_neg (fun y => y h0)]
        simp only [wI_some, wJ_some, wR_ref, wR_con, wO_some, s1_eq, s2_eq, dl_nil, dl_cons, dm_nil, dm_cons, lk_cons, cat_int, cat_long, cat_ref, cat_con, args_nil, args_int, args_long, args_ref, args_con, ct_nil, ct_cons, Nat.reduceBEq, Nat.reduceAdd, Nat.reduceLeDiff, Nat.reduceEqDiff, Bool.not_true, Bool.not_false, Bool.and_true, Bool.and_false, Bool.true_and, Bool.false_and, cond_true, cond_false, Nat.zero_add, Nat.add_zero, reduceCtorEq, Nat.zero_le, ui_at, ua_at, ul_at, wK_v, wK_n, wK_t, true_and, and_true, nb0, nb1, not_false_eq_true, not_true_eq_false, ci_0, ci_1, ci_3, ci_5, ci_7, ci_12, ci_15, ci_16, ci_21, ci_22, w_100_0, w_100_1, w_100_2, w_100_5, w_100_6, w_100_8, w_100_9, w_100_12, w_100_15, w_100_16, w_100_19, w_100_22, w_100_23, w_100_24, w_100_27, w_100_28, w_100_29, w_100_31, w_100_34, w_100_37, w_100_40, w_100_41, w_100_44, w_100_47, w_100_48, w_100_49, w_100_52, w_100_53, w_100_54, w_100_55, w_100_58, w_100_59, w_100_62, w_100_63, w_100_66, w_100_69, w_100_70, w_100_73, w_100_76, w_100_77, w_100_78, w_100_79, w_100_80, w_100_83, w_100_86, w_100_89, w_100_92, w_100_95, w_100_96, w_100_97, w_100_98, w_100_99, w_100_100, w_100_103, w_100_105, w_100_106, w_100_108, w_100_111, w_100_112, w_100_115, w_100_116, w_100_119, w_100_120, w_100_122, w_100_123, w_100_125, w_100_126, w_100_127, w_100_130, w_100_131, w_100_132, w_100_135, w_100_136, w_100_137, w_100_140, w_100_141, w_100_142, w_100_143, w_100_146, w_100_147, w_100_150, w_100_151, w_100_154, w_100_155, w_100_156, w_100_157, w_100_158, w_100_161, w_100_162, w_100_163, w_100_165, w_100_168, w_100_169, w_100_171, w_100_174, w_100_175, w_100_177, w_100_180, w_100_181, w_100_183, w_100_186, w_100_187, w_100_190, w_100_191, w_100_192, w_100_193, w_100_196, w_100_197, w_100_200, w_100_201, w_100_204, w_100_205, w_100_206, w_100_207, w_100_210, w_100_211, w_100_214, w_100_215, w_100_216, w_100_217, w_100_218, m_ci, m_g1, m_g5, m_g8, m_g10, hx, hr, nI_1, hr2, hr3, hr4, hr5, m10a, m10b, e1, m_tok (show s.1 < 210 by omega)]
        have et0 : tkR (tA T z) p = none := by
          unfold tkR
          rw [if_neg hb, if_neg hd, if_pos hw, hW, if_pos h0]
        rw [et0] at hl
        exact l_bad ht (by rw [lk_cons, lk_cons, lk_cons]; exact hr5) (show s.1 + 1 ≤ 207 by omega) (hr_A w26 hH) (hl rfl)
      · have et : tkR (tA T z) p = some (some (woR (tA T z) p W, nI (tA T z p - 97), 0), W) := by
          unfold tkR
          rw [if_neg hb, if_neg hd, if_pos hw, hW, if_neg h0]
        rw [et] at K hl
        rw [if_pos h0]
        simp only [wI_some, wJ_some, wR_ref, wR_con, wO_some, s1_eq, s2_eq, dl_nil, dl_cons, dm_nil, dm_cons, lk_cons, cat_int, cat_long, cat_ref, cat_con, args_nil, args_int, args_long, args_ref, args_con, ct_nil, ct_cons, Nat.reduceBEq, Nat.reduceAdd, Nat.reduceLeDiff, Nat.reduceEqDiff, Bool.not_true, Bool.not_false, Bool.and_true, Bool.and_false, Bool.true_and, Bool.false_and, cond_true, cond_false, Nat.zero_add, Nat.add_zero, reduceCtorEq, Nat.zero_le, ui_at, ua_at, ul_at, wK_v, wK_n, wK_t, true_and, and_true, nb0, nb1, not_false_eq_true, not_true_eq_false, ci_0, ci_1, ci_3, ci_5, ci_7, ci_12, ci_15, ci_16, ci_21, ci_22, w_100_0, w_100_1, w_100_2, w_100_5, w_100_6, w_100_8, w_100_9, w_100_12, w_100_15, w_100_16, w_100_19, w_100_22, w_100_23, w_100_24, w_100_27, w_100_28, w_100_29, w_100_31, w_100_34, w_100_37, w_100_40, w_100_41, w_100_44, w_100_47, w_100_48, w_100_49, w_100_52, w_100_53, w_100_54, w_100_55, w_100_58, w_100_59, w_100_62, w_100_63, w_100_66, w_100_69, w_100_70, w_100_73, w_100_76, w_100_77, w_100_78, w_100_79, w_100_80, w_100_83, w_100_86, w_100_89, w_100_92, w_100_95, w_100_96, w_100_97, w_100_98, w_100_99, w_100_100, w_100_103, w_100_105, w_100_106, w_100_108, w_100_111, w_100_112, w_100_115, w_100_116, w_100_119, w_100_120, w_100_122, w_100_123, w_100_125, w_100_126, w_100_127, w_100_130, w_100_131, w_100_132, w_100_135, w_100_136, w_100_137, w_100_140, w_100_141, w_100_142, w_100_143, w_100_146, w_100_147, w_100_150, w_100_151, w_100_154, w_100_155, w_100_156, w_100_157, w_100_158, w_100_161, w_100_162, w_100_163, w_100_165, w_100_168, w_100_169, w_100_171, w_100_174, w_100_175, w_100_177, w_100_180, w_100_181, w_100_183, w_100_186, w_100_187, w_100_190, w_100_191, w_100_192, w_100_193, w_100_196, w_100_197, w_100_200, w_100_201, w_100_204, w_100_205, w_100_206, w_100_207, w_100_210, w_100_211, w_100_214, w_100_215, w_100_216, w_100_217, w_100_218, m_ci, m_g1, m_g5, m_g8, m_g10, hx, hr, nI_1, hr2, hr3, hr4, hr5, m10a, m10b, e1, m_tok (show s.1 < 210 by omega)]
        exact ih (p + W) (srA (some (woR (tA T z) p W, nI (tA T z p - 97), 0)) s) _ (by omega) (by omega) (show s.1 + 1 ≤ _ by omega) (show s.1 + 1 ≤ 200 by omega) (by rw [lk_cons, lk_cons, lk_cons]; exact hr5) K hl (hr_A w26 hH)
    rw [if_neg hw, if_pos (show (0 : Int32) = 0 from rfl)]
    rw [w_100_135]
    have hr3 : dx_lk (dx_dl (dx_dl rest 2) 3) 0 = some (.ref 22) := lk_dl _ 3 (by decide) hr2
    have hr5 : dx_lk (dx_dl (dx_dl (dx_dl rest 2) 3) 1) 0 = some (.ref 22) := lk_dl _ 1 (by decide) hr3
    simp only [wI_some, wJ_some, wR_ref, wR_con, wO_some, s1_eq, s2_eq, dl_nil, dl_cons, dm_nil, dm_cons, lk_cons, cat_int, cat_long, cat_ref, cat_con, args_nil, args_int, args_long, args_ref, args_con, ct_nil, ct_cons, Nat.reduceBEq, Nat.reduceAdd, Nat.reduceLeDiff, Nat.reduceEqDiff, Bool.not_true, Bool.not_false, Bool.and_true, Bool.and_false, Bool.true_and, Bool.false_and, cond_true, cond_false, Nat.zero_add, Nat.add_zero, reduceCtorEq, Nat.zero_le, ui_at, ua_at, ul_at, wK_v, wK_n, wK_t, true_and, and_true, nb0, nb1, not_false_eq_true, not_true_eq_false, ci_0, ci_1, ci_3, ci_5, ci_7, ci_12, ci_15, ci_16, ci_21, ci_22, w_100_0, w_100_1, w_100_2, w_100_5, w_100_6, w_100_8, w_100_9, w_100_12, w_100_15, w_100_16, w_100_19, w_100_22, w_100_23, w_100_24, w_100_27, w_100_28, w_100_29, w_100_31, w_100_34, w_100_37, w_100_40, w_100_41, w_100_44, w_100_47, w_100_48, w_100_49, w_100_52, w_100_53, w_100_54, w_100_55, w_100_58, w_100_59, w_100_62, w_100_63, w_100_66, w_100_69, w_100_70, w_100_73, w_100_76, w_100_77, w_100_78, w_100_79, w_100_80, w_100_83, w_100_86, w_100_89, w_100_92, w_100_95, w_100_96, w_100_97, w_100_98, w_100_99, w_100_100, w_100_103, w_100_105, w_100_106, w_100_108, w_100_111, w_100_112, w_100_115, w_100_116, w_100_119, w_100_120, w_100_122, w_100_123, w_100_125, w_100_126, w_100_127, w_100_130, w_100_131, w_100_132, w_100_136, w_100_137, w_100_140, w_100_141, w_100_142, w_100_143, w_100_147, w_100_151, w_100_154, w_100_155, w_100_156, w_100_157, w_100_158, w_100_161, w_100_162, w_100_163, w_100_165, w_100_168, w_100_169, w_100_171, w_100_174, w_100_175, w_100_177, w_100_180, w_100_181, w_100_183, w_100_186, w_100_187, w_100_190, w_100_191, w_100_192, w_100_193, w_100_196, w_100_197, w_100_200, w_100_201, w_100_204, w_100_205, w_100_206, w_100_207, w_100_210, w_100_211, w_100_214, w_100_215, w_100_216, w_100_217, w_100_218, m_ci, m_g1, m_g5, m_g8, m_g10, hx, hr, nI_1, hr2, hr3, m_sign ht (show p ≤ 1000 by omega)]
    generalize hS : sgK (tA T z) p = S'
    have ev : tkR (tA T z) p = (if S' = 0 then none else some (some (S', 0, 0), if S' = 76 ∨ S' = 71 ∨ S' = 69 ∨ S' = 78 then 2 else 1)) := by
      unfold tkR
      rw [if_neg hb, if_neg hd, if_neg hw, hS]
    have s97 : S' = 97 → ∃ q, q < 26 ∧ (0 : Int32) = nI q := fun y => absurd y (by rw [← hS, ← sg_eq c0]; exact sg_97 _ c0 _)
    by_cases h0 : S' = 0
    · rw [if_pos h0] at ev
      rw [ev] at hl
      rw [if_neg (fun y => y h0)]
      simp only [wI_some, wJ_some, wR_ref, wR_con, wO_some, s1_eq, s2_eq, dl_nil, dl_cons, dm_nil, dm_cons, lk_cons, cat_int, cat_long, cat_ref, cat_con, args_nil, args_int, args_long, args_ref, args_con, ct_nil, ct_cons, Nat.reduceBEq, Nat.reduceAdd, Nat.reduceLeDiff, Nat.reduceEqDiff, Bool.not_true, Bool.not_false, Bool.and_true, Bool.and_false, Bool.true_and, Bool.false_and, cond_true, cond_false, Nat.zero_add, Nat.add_zero, reduceCtorEq, Nat.zero_le, ui_at, ua_at, ul_at, wK_v, wK_n, wK_t, true_and, and_true, nb0, nb1, not_false_eq_true, not_true_eq_false, ci_0, ci_1, ci_3, ci_5, ci_7, ci_12, ci_15, ci_16, ci_21, ci_22, w_100_0, w_100_1, w_100_2, w_100_5, w_100_6, w_100_8, w_100_9, w_100_12, w_100_15, w_100_16, w_100_19, w_100_22, w_100_23, w_100_24, w_100_27, w_100_28, w_100_29, w_100_31, w_100_34, w_100_37, w_100_40, w_100_41, w_100_44, w_100_47, w_100_48, w_100_49, w_100_52, w_100_53, w_100_54, w_100_55, w_100_58, w_100_59, w_100_62, w_100_63, w_100_66, w_100_69, w_100_70, w_100_73, w_100_76, w_100_77, w_100_78, w_100_79, w_100_80, w_100_83, w_100_86, w_100_89, w_100_92, w_100_95, w_100_96, w_100_97, w_100_98, w_100_99, w_100_100, w_100_103, w_100_105, w_100_106, w_100_108, w_100_111, w_100_112, w_100_115, w_100_116, w_100_119, w_100_120, w_100_122, w_100_123, w_100_125, w_100_126, w_100_127, w_100_130, w_100_131, w_100_132, w_100_135, w_100_136, w_100_137, w_100_140, w_100_141, w_100_142, w_100_143, w_100_146, w_100_147, w_100_150, w_100_151, w_100_154, w_100_155, w_100_156, w_100_157, w_100_158, w_100_161, w_100_162, w_100_163, w_100_165, w_100_168, w_100_169, w_100_171, w_100_174, w_100_175, w_100_177, w_100_180, w_100_181, w_100_183, w_100_186, w_100_187, w_100_190, w_100_191, w_100_192, w_100_193, w_100_196, w_100_197, w_100_200, w_100_201, w_100_204, w_100_205, w_100_206, w_100_207, w_100_210, w_100_211, w_100_214, w_100_215, w_100_216, w_100_217, w_100_218, m_ci, m_g1, m_g5, m_g8, m_g10, hx, hr, nI_1, hr2, hr3, hr5, m10a, m10b, m_tok (show s.1 < 210 by omega)]
      split
      · exact l_bad ht (by rw [lk_cons, lk_cons]; exact hr5) (show s.1 + 1 ≤ 207 by omega) (hr_A s97 hH) (hl rfl)
      split
      · exact l_bad ht (by rw [lk_cons, lk_cons]; exact hr5) (show s.1 + 1 ≤ 207 by omega) (hr_A s97 hH) (hl rfl)
      split
      · exact l_bad ht (by rw [lk_cons, lk_cons]; exact hr5) (show s.1 + 1 ≤ 207 by omega) (hr_A s97 hH) (hl rfl)
      split
      · exact l_bad ht (by rw [lk_cons, lk_cons]; exact hr5) (show s.1 + 1 ≤ 207 by omega) (hr_A s97 hH) (hl rfl)
      · exact l_bad ht (by rw [lk_cons, lk_cons]; exact hr5) (show s.1 + 1 ≤ 207 by omega) (hr_A s97 hH) (hl rfl)
    · rw [if_neg h0] at ev
      rw [ev] at K hl
      rw [if_pos h0]
      simp only [wI_some, wJ_some, wR_ref, wR_con, wO_some, s1_eq, s2_eq, dl_nil, dl_cons, dm_nil, dm_cons, lk_cons, cat_int, cat_long, cat_ref, cat_con, args_nil, args_int, args_long, args_ref, args_con, ct_nil, ct_cons, Nat.reduceBEq, Nat.reduceAdd, Nat.reduceLeDiff, Nat.reduceEqDiff, Bool.not_true, Bool.not_false, Bool.and_true, Bool.and_false, Bool.true_and, Bool.false_and, cond_true, cond_false, Nat.zero_add, Nat.add_zero, reduceCtorEq, Nat.zero_le, ui_at, ua_at, ul_at, wK_v, wK_n, wK_t, true_and, and_true, nb0, nb1, not_false_eq_true, not_true_eq_false, ci_0, ci_1, ci_3, ci_5, ci_7, ci_12, ci_15, ci_16, ci_21, ci_22, w_100_0, w_100_1, w_100_2, w_100_5, w_100_6, w_100_8, w_100_9, w_100_12, w_100_15, w_100_16, w_100_19, w_100_22, w_100_23, w_100_24, w_100_27, w_100_28, w_100_29, w_100_31, w_100_34, w_100_37, w_100_40, w_100_41, w_100_44, w_100_47, w_100_48, w_100_49, w_100_52, w_100_53, w_100_54, w_100_55, w_100_58, w_100_59, w_100_62, w_100_63, w_100_66, w_100_69, w_100_70, w_100_73, w_100_76, w_100_77, w_100_78, w_100_79, w_100_80, w_100_83, w_100_86, w_100_89, w_100_92, w_100_95, w_100_96, w_100_97, w_100_98, w_100_99, w_100_100, w_100_103, w_100_105, w_100_106, w_100_108, w_100_111, w_100_112, w_100_115, w_100_116, w_100_119, w_100_120, w_100_122, w_100_123, w_100_125, w_100_126, w_100_127, w_100_130, w_100_131, w_100_132, w_100_135, w_100_136, w_100_137, w_100_140, w_100_141, w_100_142, w_100_143, w_100_146, w_100_147, w_100_150, w_100_151, w_100_154, w_100_155, w_100_156, w_100_157, w_100_158, w_100_161, w_100_162, w_100_163, w_100_165, w_100_168, w_100_169, w_100_171, w_100_174, w_100_175, w_100_177, w_100_180, w_100_181, w_100_183, w_100_186, w_100_187, w_100_190, w_100_191, w_100_192, w_100_193, w_100_196, w_100_197, w_100_200, w_100_201, w_100_204, w_100_205, w_100_206, w_100_207, w_100_210, w_100_211, w_100_214, w_100_215, w_100_216, w_100_217, w_100_218, m_ci, m_g1, m_g5, m_g8, m_g10, hx, hr, nI_1, hr2, hr3, hr5, m10a, m10b, m_tok (show s.1 < 210 by omega)]
      have two : (S' = 76 ∨ S' = 71 ∨ S' = 69 ∨ S' = 78) → dx_W (tb_Z L xs) (d + 2) 100 7 ((1, .int (nI p + 2)) :: (3, .int S') :: (2, .int (nI (tA T z p))) :: dx_dl (dx_dl (dx_dl rest 2) 3) 1) [] (sm xi xa xl j 0 (srA (some (S', 0, 0)) s)) Q := by
        intro h
        rw [show nI p + 2 = nI (p + 2) from (show nI p + nI 2 = nI (p + 2) from nI_add _ _)]
        refine ih (p + 2) (srA (some (S', 0, 0)) s) _ (by omega) (by omega) (show s.1 + 1 ≤ _ by omega) (show s.1 + 1 ≤ 200 by omega) (by rw [lk_cons, lk_cons]; exact hr5) ?_ ?_ (hr_A s97 hH)
        · intro s' hs'
          apply K s'
          show srl (tA T z) z N (p + (if S' = 76 ∨ S' = 71 ∨ S' = 69 ∨ S' = 78 then 2 else 1)) _ = _
          rw [if_pos h]
          exact hs'
        · intro hn
          apply hl
          show srl (tA T z) z N (p + (if S' = 76 ∨ S' = 71 ∨ S' = 69 ∨ S' = 78 then 2 else 1)) _ = _
          rw [if_pos h]
          exact hn
      by_cases a1 : S' = 76
      · rw [if_pos a1]
        exact two (Or.inl a1)
      rw [if_neg a1]
      by_cases a2 : S' = 71
      · rw [if_pos a2]
        exact two (Or.inr (Or.inl a2))
      rw [if_neg a2]
      by_cases a3 : S' = 69
      · rw [if_pos a3]
        exact two (Or.inr (Or.inr (Or.inl a3)))
      rw [if_neg a3]
      by_cases a4 : S' = 78
      · rw [if_neg (fun y => y a4)]
        exact two (Or.inr (Or.inr (Or.inr a4)))
      · rw [if_pos a4]
        refine ih (p + 1) (srA (some (S', 0, 0)) s) _ (by omega) (by omega) (show s.1 + 1 ≤ _ by omega) (show s.1 + 1 ≤ 200 by omega) (by rw [lk_cons, lk_cons]; exact hr5) ?_ ?_ (hr_A s97 hH)
        · intro s' hs'
          apply K s'
          show srl (tA T z) z N (p + (if S' = 76 ∨ S' = 71 ∨ S' = 69 ∨ S' = 78 then 2 else 1)) _ = _
          rw [if_neg (fun y => y.elim a1 (fun y => y.elim a2 (fun y => y.elim a3 a4)))]
          exact hs'
        · intro hn
          apply hl
          show srl (tA T z) z N (p + (if S' = 76 ∨ S' = 71 ∨ S' = 69 ∨ S' = 78 then 2 else 1)) _ = _
          rw [if_neg (fun y => y.elim a1 (fun y => y.elim a2 (fun y => y.elim a3 a4)))]
          exact hn
theorem f_split (ht : txR xi xa T z) (hf : xi 1418 = 0) (hH : HR (0, xa 26, xa 27, xa 28)) (hl : srl (tA T z) z 200 0 (0, xa 26, xa 27, xa 28) = none → ∀ s' : SR, HR s' → Q (.inl none) (sm xi xa xl j 1 s')) (hr : ∀ s', srl (tA T z) z 200 0 (0, xa 26, xa 27, xa 28) = some s' → Q (.inl none) (sm xi xa xl j 0 (s'.1, upd (upd s'.2.1 s'.1 0) (s'.1 + 1) 0, s'.2.2.1, s'.2.2.2))) : dx_M (tb_Z L xs) (d + 3) 100 [.ref 22] (mk xi xa xl j) Q := by
  have hz := ht.2.1
  have e : mk (ui xi 1416 0) xa xl j = sm xi xa xl j 0 (0, xa 26, xa 27, xa 28) := by
    unfold sm
    rw [ua_id, ua_id, ua_id]
    congr 1
    funext i
    show (if i = 1416 then 0 else xi i) = if i = 1418 then 0 else if i = 1416 then nI 0 else xi i
    by_cases h1 : i = 1418
    · subst h1
      exact hf
    · rw [if_neg h1]
      rfl
  rw [dx_M_in (Nat.le_of_ble_eq_true rfl)]
  simp only [wI_some, wJ_some, wR_ref, wR_con, wO_some, s1_eq, s2_eq, dl_nil, dl_cons, dm_nil, dm_cons, lk_cons, cat_int, cat_long, cat_ref, cat_con, args_nil, args_int, args_long, args_ref, args_con, ct_nil, ct_cons, Nat.reduceBEq, Nat.reduceAdd, Nat.reduceLeDiff, Nat.reduceEqDiff, Bool.not_true, Bool.not_false, Bool.and_true, Bool.and_false, Bool.true_and, Bool.false_and, cond_true, cond_false, Nat.zero_add, Nat.add_zero, reduceCtorEq, Nat.zero_le, ui_at, ua_at, ul_at, wK_v, wK_n, wK_t, true_and, and_true, nb0, nb1, not_false_eq_true, not_true_eq_false, ci_0, ci_1, ci_3, ci_5, ci_7, ci_12, ci_15, ci_16, ci_21, ci_22, w_100_0, w_100_1, w_100_2, w_100_5, w_100_6, w_100_8, w_100_9, w_100_12, w_100_15, w_100_16, w_100_19, w_100_22, w_100_23, w_100_24, w_100_27, w_100_28, w_100_29, w_100_31, w_100_34, w_100_37, w_100_40, w_100_41, w_100_44, w_100_47, w_100_48, w_100_49, w_100_52, w_100_53, w_100_54, w_100_55, w_100_58, w_100_59, w_100_62, w_100_63, w_100_66, w_100_69, w_100_70, w_100_73, w_100_76, w_100_77, w_100_78, w_100_79, w_100_80, w_100_83, w_100_86, w_100_89, w_100_92, w_100_95, w_100_96, w_100_97, w_100_98, w_100_99, w_100_100, w_100_103, w_100_105, w_100_106, w_100_108, w_100_111, w_100_112, w_100_115, w_100_116, w_100_119, w_100_120, w_100_122, w_100_123, w_100_125, w_100_126, w_100_127, w_100_130, w_100_131, w_100_132, w_100_135, w_100_136, w_100_137, w_100_140, w_100_141, w_100_142, w_100_143, w_100_146, w_100_147, w_100_150, w_100_151, w_100_154, w_100_155, w_100_156, w_100_157, w_100_158, w_100_161, w_100_162, w_100_163, w_100_165, w_100_168, w_100_169, w_100_171, w_100_174, w_100_175, w_100_177, w_100_180, w_100_181, w_100_183, w_100_186, w_100_187, w_100_190, w_100_191, w_100_192, w_100_193, w_100_196, w_100_197, w_100_200, w_100_201, w_100_204, w_100_205, w_100_206, w_100_207, w_100_210, w_100_211, w_100_214, w_100_215, w_100_216, w_100_217, w_100_218, sf_22_8]
  rw [e]
  exact l_split ht 200 0 (0, xa 26, xa 27, xa 28) [(0, .ref 22)] (by omega) (by decide) (Nat.zero_le _) (Nat.zero_le _) rfl hr hl hH
end TG2
