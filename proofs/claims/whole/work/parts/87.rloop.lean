/-! The scanner of the reference: split, its loop. -/
theorem lk_dl : ∀ (l : dx_L) (k : Nat), k ≠ 0 → dx_lk l 0 = some (.ref 22) → dx_lk (dx_dl l k) 0 = some (.ref 22)
  | [], _, _, h => h
  | (a, v) :: l, k, hk, h => by
    rw [lk_cons] at h
    rw [dl_cons]
    by_cases ha : a = 0
    · subst ha
      have hv : v = .ref 22 := by
        simpa using h
      subst hv
      have e : (!((0 : Nat) == k) && !((0 : Nat) + 1 == k && (Value.ref 22).category == 2)) = true := by
        have h1 : ((0 : Nat) == k) = false := beq_eq_false_iff_ne.mpr (fun y => hk y.symm)
        rw [h1]
        simp [Value.category]
      rw [e]
      exact h
    · have ha' : (a == 0) = false := beq_eq_false_iff_ne.mpr ha
      rw [ha'] at h
      have ih := lk_dl l k hk h
      cases (!(a == k) && !(a + 1 == k && v.category == 2)) with
      | true =>
        show dx_lk ((a, v) :: dx_dl l k) 0 = _
        rw [lk_cons, ha']
        exact ih
      | false => exact ih
theorem dl_dl (l : dx_L) (k : Nat) : dx_dl (dx_dl l k) k = dx_dl l k := by
  unfold dx_dl
  rw [List.filter_filter]
  congr 1
  funext q
  exact Bool.and_self _
theorem txM {xi : Nat → Int32} {xa : Nat → Nat → Int32} {T : Nat → Nat} {z : Nat} {s : SR} {f : Int32} (h : txR xi xa T z) : txR (ui (ui xi 1416 (nI s.1)) 1418 f) (ua (ua (ua xa 26 s.2.1) 27 s.2.2.1) 28 s.2.2.2) T z := h
section TF2
variable {L : Nat} {xs : Nat → Int32} {d : Nat} {σ : dx_S} {Q : dx_O → dx_S → Prop} {xi : Nat → Int32} {xa : Nat → Nat → Int32} {xl : Nat → Nat → Int64} {j : dx_S} {T : Nat → Nat} {q r t p c k v n i w m z N g : Nat} {s : SR} {f : Int32}
theorem m_chr (ht : txR xi xa T z) (hi : i < 2 ^ 31) : dx_M (tb_Z L xs) (d + 1) 101 [.ref 22, .int (nI i)] (sm xi xa xl j f s) Q ↔ Q (.inl (some (.int (nI (tA T z i))))) (sm xi xa xl j f s) := f_chr (txM ht) hi
theorem m_word (ht : txR xi xa T z) (hp : p ≤ 1000) (hn : n ≤ 300) : dx_M (tb_Z L xs) (d + 2) 106 [.ref 22, .int (nI p), .int (nI n)] (sm xi xa xl j f s) Q ↔ Q (.inl (some (.int (woR (tA T z) p n)))) (sm xi xa xl j f s) := f_word (txM ht) hp hn
theorem m_sign (ht : txR xi xa T z) (hp : p ≤ 1000) : dx_M (tb_Z L xs) (d + 2) 107 [.ref 22, .int (nI p)] (sm xi xa xl j f s) Q ↔ Q (.inl (some (.int (sgK (tA T z) p)))) (sm xi xa xl j f s) := f_sign (txM ht) hp
theorem m_num (ht : txR xi xa T z) (h : s.1 < 210) (hd : isD (tA T z p)) : dx_M (tb_Z L xs) (d + 2) 103 [.ref 22, .int (nI p)] (sm xi xa xl j f s) Q ↔ (if 9 < (nr (tA T z) p).2.2.1 ∨ 4 < (nr (tA T z) p).2.2.2 then Q (.inl (some (.int 0))) (sm xi xa xl j f s) else Q (.inl (some (.int (nI (nr (tA T z) p).1)))) (sm xi xa xl j f (srA (some (110, nI (nr (tA T z) p).2.1, nI (nr (tA T z) p).2.2.2)) s))) := by
  have h1 := f_num (L := L) (xs := xs) (d := d) (Q := Q) (xl := xl) (j := j) (c := s.1) (txM (s := s) (f := f) ht) rfl h hd
  have h2 := m_tok (L := L) (xs := xs) (d := d) (Q := fun _ σ => Q (.inl (some (.int (nI (nr (tA T z) p).1)))) σ) (xi := xi) (xa := xa) (xl := xl) (j := j) (f := f) (s := s) (a := 110) (b := nI (nr (tA T z) p).2.1) (c' := nI (nr (tA T z) p).2.2.2) h
  unfold sm at h2 ⊢
  rw [f_token (s := s.1) rfl h] at h2
  refine h1.trans ?_
  by_cases hc : 9 < (nr (tA T z) p).2.2.1 ∨ 4 < (nr (tA T z) p).2.2.2
  · rw [if_pos hc, if_pos hc]
  · rw [if_neg hc, if_neg hc]
    exact h2
theorem l_let {x : Int32} {rest : dx_L} (ht : txR xi xa T z) (hp : p ≤ 400) (hr : dx_lk rest 0 = some (.ref 22)) (hr3 : dx_dl rest 3 = rest) : ∀ N w, z ≤ N + (p + w) → p + w ≤ 1000 → (dx_W (tb_Z L xs) (d + 1) 100 78 ((3, .int (nI (p + w))) :: (2, .int x) :: (1, .int (nI p)) :: rest) [] (sm xi xa xl j f s) Q ↔ dx_W (tb_Z L xs) (d + 1) 100 95 ((3, .int (nI (p + lts (tA T z) p N w))) :: (2, .int x) :: (1, .int (nI p)) :: rest) [] (sm xi xa xl j f s) Q) := by
  intro N
  induction N with
  | zero =>
    intro w h1 h2
    rw [w_100_78]
    simp only [wI_some, wJ_some, wR_ref, wR_con, wO_some, s1_eq, s2_eq, dl_nil, dl_cons, dm_nil, dm_cons, lk_cons, cat_int, cat_long, cat_ref, cat_con, args_nil, args_int, args_long, args_ref, args_con, ct_nil, ct_cons, Nat.reduceBEq, Nat.reduceAdd, Nat.reduceLeDiff, Nat.reduceEqDiff, Bool.not_true, Bool.not_false, Bool.and_true, Bool.and_false, Bool.true_and, Bool.false_and, cond_true, cond_false, Nat.zero_add, Nat.add_zero, reduceCtorEq, Nat.zero_le, ui_at, ua_at, ul_at, wK_v, wK_n, wK_t, true_and, and_true, nb0, nb1, not_false_eq_true, not_true_eq_false, ci_0, ci_1, ci_3, ci_5, ci_7, ci_12, ci_15, ci_16, ci_21, ci_22, w_100_0, w_100_1, w_100_2, w_100_5, w_100_6, w_100_7, w_100_8, w_100_9, w_100_12, w_100_15, w_100_16, w_100_19, w_100_22, w_100_23, w_100_24, w_100_27, w_100_28, w_100_29, w_100_31, w_100_34, w_100_37, w_100_40, w_100_41, w_100_44, w_100_47, w_100_48, w_100_49, w_100_52, w_100_53, w_100_54, w_100_55, w_100_58, w_100_59, w_100_62, w_100_63, w_100_66, w_100_69, w_100_70, w_100_73, w_100_76, w_100_77, w_100_79, w_100_80, w_100_83, w_100_86, w_100_89, w_100_92, w_100_96, w_100_97, w_100_98, w_100_99, w_100_100, w_100_103, w_100_105, w_100_106, w_100_108, w_100_111, w_100_112, w_100_115, w_100_116, w_100_119, w_100_120, w_100_122, w_100_123, w_100_125, w_100_126, w_100_127, w_100_130, w_100_131, w_100_132, w_100_135, w_100_136, w_100_137, w_100_140, w_100_141, w_100_142, w_100_143, w_100_146, w_100_147, w_100_150, w_100_151, w_100_154, w_100_155, w_100_156, w_100_157, w_100_158, w_100_161, w_100_162, w_100_163, w_100_165, w_100_168, w_100_169, w_100_171, w_100_174, w_100_175, w_100_177, w_100_180, w_100_181, w_100_183, w_100_186, w_100_187, w_100_190, w_100_191, w_100_192, w_100_193, w_100_196, w_100_197, w_100_200, w_100_201, w_100_204, w_100_205, w_100_206, w_100_207, w_100_210, w_100_211, w_100_214, w_100_215, w_100_216, w_100_217, w_100_218, hr, hr3, m_ci, m_chr ht (show p + w < 2 ^ 31 by omega), f_isSmall, nI_1]
    rw [lt_is (Nat.lt_trans (tR_lt ht) (by decide)), tA_ge (show z ≤ p + w by omega), if_neg (show ¬ isW 0 by decide), if_pos (show (0 : Int32) = 0 from rfl)]
    rfl
  | succ N ih =>
    intro w h1 h2
    rw [w_100_78]
    simp only [wI_some, wJ_some, wR_ref, wR_con, wO_some, s1_eq, s2_eq, dl_nil, dl_cons, dm_nil, dm_cons, lk_cons, cat_int, cat_long, cat_ref, cat_con, args_nil, args_int, args_long, args_ref, args_con, ct_nil, ct_cons, Nat.reduceBEq, Nat.reduceAdd, Nat.reduceLeDiff, Nat.reduceEqDiff, Bool.not_true, Bool.not_false, Bool.and_true, Bool.and_false, Bool.true_and, Bool.false_and, cond_true, cond_false, Nat.zero_add, Nat.add_zero, reduceCtorEq, Nat.zero_le, ui_at, ua_at, ul_at, wK_v, wK_n, wK_t, true_and, and_true, nb0, nb1, not_false_eq_true, not_true_eq_false, ci_0, ci_1, ci_3, ci_5, ci_7, ci_12, ci_15, ci_16, ci_21, ci_22, w_100_0, w_100_1, w_100_2, w_100_5, w_100_6, w_100_7, w_100_8, w_100_9, w_100_12, w_100_15, w_100_16, w_100_19, w_100_22, w_100_23, w_100_24, w_100_27, w_100_28, w_100_29, w_100_31, w_100_34, w_100_37, w_100_40, w_100_41, w_100_44, w_100_47, w_100_48, w_100_49, w_100_52, w_100_53, w_100_54, w_100_55, w_100_58, w_100_59, w_100_62, w_100_63, w_100_66, w_100_69, w_100_70, w_100_73, w_100_76, w_100_77, w_100_79, w_100_80, w_100_83, w_100_86, w_100_89, w_100_92, w_100_96, w_100_97, w_100_98, w_100_99, w_100_100, w_100_103, w_100_105, w_100_106, w_100_108, w_100_111, w_100_112, w_100_115, w_100_116, w_100_119, w_100_120, w_100_122, w_100_123, w_100_125, w_100_126, w_100_127, w_100_130, w_100_131, w_100_132, w_100_135, w_100_136, w_100_137, w_100_140, w_100_141, w_100_142, w_100_143, w_100_146, w_100_147, w_100_150, w_100_151, w_100_154, w_100_155, w_100_156, w_100_157, w_100_158, w_100_161, w_100_162, w_100_163, w_100_165, w_100_168, w_100_169, w_100_171, w_100_174, w_100_175, w_100_177, w_100_180, w_100_181, w_100_183, w_100_186, w_100_187, w_100_190, w_100_191, w_100_192, w_100_193, w_100_196, w_100_197, w_100_200, w_100_201, w_100_204, w_100_205, w_100_206, w_100_207, w_100_210, w_100_211, w_100_214, w_100_215, w_100_216, w_100_217, w_100_218, hr, hr3, m_ci, m_chr ht (show p + w < 2 ^ 31 by omega), f_isSmall, nI_1]
    rw [lt_is (Nat.lt_trans (tR_lt ht) (by decide))]
    unfold lts
    by_cases hw : isW (tA T z (p + w))
    · have il : p + w < z := by
        by_cases e : p + w < z
        · exact e
        · rw [tA_ge (T := T) (show z ≤ p + w by omega)] at hw
          exact absurd hw (by decide)
      have hz := ht.2.1
      rw [if_pos hw, if_pos hw, if_neg (show ¬ (1 : Int32) = 0 by decide)]
      exact ih (w + 1) (by omega) (by omega)
    · rw [if_neg hw, if_neg hw, if_pos (show (0 : Int32) = 0 from rfl)]
end TF2
