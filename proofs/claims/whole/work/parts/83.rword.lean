/-! The scanner of the reference: words. -/
theorem ite_nn {P : Prop} [Decidable P] {A B : Prop} : (if ¬ P then A else B) = if P then B else A := by
  by_cases h : P
  · rw [if_pos h, if_neg (fun y => y h)]
  · rw [if_neg h, if_pos h]
theorem ite_an {P R : Prop} [Decidable P] [Decidable R] {A B : Prop} : (if P then (if R then A else B) else B) = if P ∧ R then A else B := by
  by_cases h : P
  · by_cases g : R
    · rw [if_pos h, if_pos g, if_pos ⟨h, g⟩]
    · rw [if_pos h, if_neg g, if_neg (fun y => g y.2)]
  · rw [if_neg h, if_neg (fun y => h y.1)]
theorem spl_0 {C : Nat → Nat} {p : Nat} : spl tb_str0 C p 2 0 = true ↔ (nI (C (p)) = 105 ∧ nI (C (p + 1)) = 102) := by
  show (if (105 : Int32) = nI (C (p + 0)) then if (102 : Int32) = nI (C (p + 1)) then true else false else false) = true ↔ _
  by_cases h0 : nI (C (p + 0)) = 105
  case neg => rw [if_neg (show ¬ (105 : Int32) = nI (C (p + 0)) from fun y => h0 y.symm)]; exact ⟨fun y => absurd y (by decide), fun y => absurd y.1 h0⟩
  by_cases h1 : nI (C (p + 1)) = 102
  case neg => rw [if_pos h0.symm, if_neg (show ¬ (102 : Int32) = nI (C (p + 1)) from fun y => h1 y.symm)]; exact ⟨fun y => absurd y (by decide), fun y => absurd y.2 h1⟩
  rw [if_pos h0.symm, if_pos h1.symm]
  exact ⟨fun _ => ⟨h0, h1⟩, fun _ => rfl⟩
theorem spl_1 {C : Nat → Nat} {p : Nat} : spl tb_str1 C p 5 0 = true ↔ (nI (C (p)) = 119 ∧ nI (C (p + 1)) = 104 ∧ nI (C (p + 2)) = 105 ∧ nI (C (p + 3)) = 108 ∧ nI (C (p + 4)) = 101) := by
  show (if (119 : Int32) = nI (C (p + 0)) then if (104 : Int32) = nI (C (p + 1)) then if (105 : Int32) = nI (C (p + 2)) then if (108 : Int32) = nI (C (p + 3)) then if (101 : Int32) = nI (C (p + 4)) then true else false else false else false else false else false) = true ↔ _
  by_cases h0 : nI (C (p + 0)) = 119
  case neg => rw [if_neg (show ¬ (119 : Int32) = nI (C (p + 0)) from fun y => h0 y.symm)]; exact ⟨fun y => absurd y (by decide), fun y => absurd y.1 h0⟩
  by_cases h1 : nI (C (p + 1)) = 104
  case neg => rw [if_pos h0.symm, if_neg (show ¬ (104 : Int32) = nI (C (p + 1)) from fun y => h1 y.symm)]; exact ⟨fun y => absurd y (by decide), fun y => absurd y.2.1 h1⟩
  by_cases h2 : nI (C (p + 2)) = 105
  case neg => rw [if_pos h0.symm, if_pos h1.symm, if_neg (show ¬ (105 : Int32) = nI (C (p + 2)) from fun y => h2 y.symm)]; exact ⟨fun y => absurd y (by decide), fun y => absurd y.2.2.1 h2⟩
  by_cases h3 : nI (C (p + 3)) = 108
  case neg => rw [if_pos h0.symm, if_pos h1.symm, if_pos h2.symm, if_neg (show ¬ (108 : Int32) = nI (C (p + 3)) from fun y => h3 y.symm)]; exact ⟨fun y => absurd y (by decide), fun y => absurd y.2.2.2.1 h3⟩
  by_cases h4 : nI (C (p + 4)) = 101
  case neg => rw [if_pos h0.symm, if_pos h1.symm, if_pos h2.symm, if_pos h3.symm, if_neg (show ¬ (101 : Int32) = nI (C (p + 4)) from fun y => h4 y.symm)]; exact ⟨fun y => absurd y (by decide), fun y => absurd y.2.2.2.2 h4⟩
  rw [if_pos h0.symm, if_pos h1.symm, if_pos h2.symm, if_pos h3.symm, if_pos h4.symm]
  exact ⟨fun _ => ⟨h0, h1, h2, h3, h4⟩, fun _ => rfl⟩
theorem spl_2 {C : Nat → Nat} {p : Nat} : spl tb_str2 C p 6 0 = true ↔ (nI (C (p)) = 100 ∧ nI (C (p + 1)) = 101 ∧ nI (C (p + 2)) = 102 ∧ nI (C (p + 3)) = 105 ∧ nI (C (p + 4)) = 110 ∧ nI (C (p + 5)) = 101) := by
  show (if (100 : Int32) = nI (C (p + 0)) then if (101 : Int32) = nI (C (p + 1)) then if (102 : Int32) = nI (C (p + 2)) then if (105 : Int32) = nI (C (p + 3)) then if (110 : Int32) = nI (C (p + 4)) then if (101 : Int32) = nI (C (p + 5)) then true else false else false else false else false else false else false) = true ↔ _
  by_cases h0 : nI (C (p + 0)) = 100
  case neg => rw [if_neg (show ¬ (100 : Int32) = nI (C (p + 0)) from fun y => h0 y.symm)]; exact ⟨fun y => absurd y (by decide), fun y => absurd y.1 h0⟩
  by_cases h1 : nI (C (p + 1)) = 101
  case neg => rw [if_pos h0.symm, if_neg (show ¬ (101 : Int32) = nI (C (p + 1)) from fun y => h1 y.symm)]; exact ⟨fun y => absurd y (by decide), fun y => absurd y.2.1 h1⟩
  by_cases h2 : nI (C (p + 2)) = 102
  case neg => rw [if_pos h0.symm, if_pos h1.symm, if_neg (show ¬ (102 : Int32) = nI (C (p + 2)) from fun y => h2 y.symm)]; exact ⟨fun y => absurd y (by decide), fun y => absurd y.2.2.1 h2⟩
  by_cases h3 : nI (C (p + 3)) = 105
  case neg => rw [if_pos h0.symm, if_pos h1.symm, if_pos h2.symm, if_neg (show ¬ (105 : Int32) = nI (C (p + 3)) from fun y => h3 y.symm)]; exact ⟨fun y => absurd y (by decide), fun y => absurd y.2.2.2.1 h3⟩
  by_cases h4 : nI (C (p + 4)) = 110
  case neg => rw [if_pos h0.symm, if_pos h1.symm, if_pos h2.symm, if_pos h3.symm, if_neg (show ¬ (110 : Int32) = nI (C (p + 4)) from fun y => h4 y.symm)]; exact ⟨fun y => absurd y (by decide), fun y => absurd y.2.2.2.2.1 h4⟩
  by_cases h5 : nI (C (p + 5)) = 101
  case neg => rw [if_pos h0.symm, if_pos h1.symm, if_pos h2.symm, if_pos h3.symm, if_pos h4.symm, if_neg (show ¬ (101 : Int32) = nI (C (p + 5)) from fun y => h5 y.symm)]; exact ⟨fun y => absurd y (by decide), fun y => absurd y.2.2.2.2.2 h5⟩
  rw [if_pos h0.symm, if_pos h1.symm, if_pos h2.symm, if_pos h3.symm, if_pos h4.symm, if_pos h5.symm]
  exact ⟨fun _ => ⟨h0, h1, h2, h3, h4, h5⟩, fun _ => rfl⟩
theorem spl_3 {C : Nat → Nat} {p : Nat} : spl tb_str3 C p 6 0 = true ↔ (nI (C (p)) = 114 ∧ nI (C (p + 1)) = 101 ∧ nI (C (p + 2)) = 116 ∧ nI (C (p + 3)) = 117 ∧ nI (C (p + 4)) = 114 ∧ nI (C (p + 5)) = 110) := by
  show (if (114 : Int32) = nI (C (p + 0)) then if (101 : Int32) = nI (C (p + 1)) then if (116 : Int32) = nI (C (p + 2)) then if (117 : Int32) = nI (C (p + 3)) then if (114 : Int32) = nI (C (p + 4)) then if (110 : Int32) = nI (C (p + 5)) then true else false else false else false else false else false else false) = true ↔ _
  by_cases h0 : nI (C (p + 0)) = 114
  case neg => rw [if_neg (show ¬ (114 : Int32) = nI (C (p + 0)) from fun y => h0 y.symm)]; exact ⟨fun y => absurd y (by decide), fun y => absurd y.1 h0⟩
  by_cases h1 : nI (C (p + 1)) = 101
  case neg => rw [if_pos h0.symm, if_neg (show ¬ (101 : Int32) = nI (C (p + 1)) from fun y => h1 y.symm)]; exact ⟨fun y => absurd y (by decide), fun y => absurd y.2.1 h1⟩
  by_cases h2 : nI (C (p + 2)) = 116
  case neg => rw [if_pos h0.symm, if_pos h1.symm, if_neg (show ¬ (116 : Int32) = nI (C (p + 2)) from fun y => h2 y.symm)]; exact ⟨fun y => absurd y (by decide), fun y => absurd y.2.2.1 h2⟩
  by_cases h3 : nI (C (p + 3)) = 117
  case neg => rw [if_pos h0.symm, if_pos h1.symm, if_pos h2.symm, if_neg (show ¬ (117 : Int32) = nI (C (p + 3)) from fun y => h3 y.symm)]; exact ⟨fun y => absurd y (by decide), fun y => absurd y.2.2.2.1 h3⟩
  by_cases h4 : nI (C (p + 4)) = 114
  case neg => rw [if_pos h0.symm, if_pos h1.symm, if_pos h2.symm, if_pos h3.symm, if_neg (show ¬ (114 : Int32) = nI (C (p + 4)) from fun y => h4 y.symm)]; exact ⟨fun y => absurd y (by decide), fun y => absurd y.2.2.2.2.1 h4⟩
  by_cases h5 : nI (C (p + 5)) = 110
  case neg => rw [if_pos h0.symm, if_pos h1.symm, if_pos h2.symm, if_pos h3.symm, if_pos h4.symm, if_neg (show ¬ (110 : Int32) = nI (C (p + 5)) from fun y => h5 y.symm)]; exact ⟨fun y => absurd y (by decide), fun y => absurd y.2.2.2.2.2 h5⟩
  rw [if_pos h0.symm, if_pos h1.symm, if_pos h2.symm, if_pos h3.symm, if_pos h4.symm, if_pos h5.symm]
  exact ⟨fun _ => ⟨h0, h1, h2, h3, h4, h5⟩, fun _ => rfl⟩
theorem spl_4 {C : Nat → Nat} {p : Nat} : spl tb_str4 C p 5 0 = true ↔ (nI (C (p)) = 115 ∧ nI (C (p + 1)) = 99 ∧ nI (C (p + 2)) = 97 ∧ nI (C (p + 3)) = 108 ∧ nI (C (p + 4)) = 101) := by
  show (if (115 : Int32) = nI (C (p + 0)) then if (99 : Int32) = nI (C (p + 1)) then if (97 : Int32) = nI (C (p + 2)) then if (108 : Int32) = nI (C (p + 3)) then if (101 : Int32) = nI (C (p + 4)) then true else false else false else false else false else false) = true ↔ _
  by_cases h0 : nI (C (p + 0)) = 115
  case neg => rw [if_neg (show ¬ (115 : Int32) = nI (C (p + 0)) from fun y => h0 y.symm)]; exact ⟨fun y => absurd y (by decide), fun y => absurd y.1 h0⟩
  by_cases h1 : nI (C (p + 1)) = 99
  case neg => rw [if_pos h0.symm, if_neg (show ¬ (99 : Int32) = nI (C (p + 1)) from fun y => h1 y.symm)]; exact ⟨fun y => absurd y (by decide), fun y => absurd y.2.1 h1⟩
  by_cases h2 : nI (C (p + 2)) = 97
  case neg => rw [if_pos h0.symm, if_pos h1.symm, if_neg (show ¬ (97 : Int32) = nI (C (p + 2)) from fun y => h2 y.symm)]; exact ⟨fun y => absurd y (by decide), fun y => absurd y.2.2.1 h2⟩
  by_cases h3 : nI (C (p + 3)) = 108
  case neg => rw [if_pos h0.symm, if_pos h1.symm, if_pos h2.symm, if_neg (show ¬ (108 : Int32) = nI (C (p + 3)) from fun y => h3 y.symm)]; exact ⟨fun y => absurd y (by decide), fun y => absurd y.2.2.2.1 h3⟩
  by_cases h4 : nI (C (p + 4)) = 101
  case neg => rw [if_pos h0.symm, if_pos h1.symm, if_pos h2.symm, if_pos h3.symm, if_neg (show ¬ (101 : Int32) = nI (C (p + 4)) from fun y => h4 y.symm)]; exact ⟨fun y => absurd y (by decide), fun y => absurd y.2.2.2.2 h4⟩
  rw [if_pos h0.symm, if_pos h1.symm, if_pos h2.symm, if_pos h3.symm, if_pos h4.symm]
  exact ⟨fun _ => ⟨h0, h1, h2, h3, h4⟩, fun _ => rfl⟩
/-- the kind that the reference gives a word of n letters -/
def woR (C : Nat → Nat) (p n : Nat) : Int32 := if n = 1 then 97 else match rsv C p n with
  | some k => kp k
  | none => 0
section TB2
variable {L : Nat} {xs : Nat → Int32} {d : Nat} {σ : dx_S} {Q : dx_O → dx_S → Prop} {xi : Nat → Int32} {xa : Nat → Nat → Int32} {xl : Nat → Nat → Int64} {j : dx_S} {T : Nat → Nat} {s t p c k v n i w m z N : Nat}
theorem f_word (ht : txR xi xa T z) (hp : p ≤ 1000) (hn : n ≤ 300) : dx_M (tb_Z L xs) (d + 2) 106 [.ref 22, .int (nI p), .int (nI n)] (mk xi xa xl j) Q ↔ Q (.inl (some (.int (woR (tA T z) p n)))) (mk xi xa xl j) := by
  have q : ∀ {e : Nat}, e < 65536 → (nI n = nI e) = (n = e) := fun he => propext (nI_eq (by omega) (by omega))
  have q1 : (nI n = 1) = (n = 1) := q (e := 1) (by decide)
  have q2 : (nI n = 2) = (n = 2) := q (e := 2) (by decide)
  have q5 : (nI n = 5) = (n = 5) := q (e := 5) (by decide)
  have q6 : (nI n = 6) = (n = 6) := q (e := 6) (by decide)
  have a2 : nI p + 2 = nI (p + 2) := (show nI p + nI 2 = nI (p + 2) from nI_add _ _)
  have a3 : nI p + 3 = nI (p + 3) := (show nI p + nI 3 = nI (p + 3) from nI_add _ _)
  have a4 : nI p + 4 = nI (p + 4) := (show nI p + nI 4 = nI (p + 4) from nI_add _ _)
  have a5 : nI p + 5 = nI (p + 5) := (show nI p + nI 5 = nI (p + 5) from nI_add _ _)
  rw [dx_M_in (Nat.le_of_ble_eq_true rfl)]
  simp only [wI_some, wJ_some, wR_ref, wR_con, wO_some, s1_eq, s2_eq, dl_nil, dl_cons, dm_nil, dm_cons, lk_cons, cat_int, cat_long, cat_ref, cat_con, args_nil, args_int, args_long, args_ref, args_con, ct_nil, ct_cons, Nat.reduceBEq, Nat.reduceAdd, Nat.reduceLeDiff, Nat.reduceEqDiff, Bool.not_true, Bool.not_false, Bool.and_true, Bool.and_false, Bool.true_and, Bool.false_and, cond_true, cond_false, Nat.zero_add, Nat.add_zero, reduceCtorEq, Nat.zero_le, ui_at, ua_at, ul_at, wK_v, wK_n, wK_t, true_and, and_true, nb0, nb1, not_false_eq_true, not_true_eq_false, ci_0, ci_1, ci_3, ci_5, ci_7, ci_12, ci_15, ci_16, ci_21, ci_22, w_106_0, w_106_1, w_106_2, w_106_5, w_106_6, w_106_7, w_106_8, w_106_11, w_106_13, w_106_14, w_106_15, w_106_16, w_106_19, w_106_20, w_106_22, w_106_25, w_106_26, w_106_27, w_106_28, w_106_29, w_106_32, w_106_34, w_106_37, w_106_39, w_106_42, w_106_43, w_106_44, w_106_45, w_106_46, w_106_47, w_106_48, w_106_51, w_106_53, w_106_54, w_106_55, w_106_56, w_106_57, w_106_60, w_106_62, w_106_63, w_106_64, w_106_65, w_106_66, w_106_69, w_106_71, w_106_72, w_106_73, w_106_74, w_106_75, w_106_78, w_106_80, w_106_81, w_106_82, w_106_83, w_106_84, w_106_87, w_106_89, w_106_90, w_106_91, w_106_94, w_106_95, w_106_97, w_106_100, w_106_102, w_106_104, w_106_107, w_106_109, w_106_111, w_106_114, w_106_116, w_106_118, w_106_121, w_106_123, w_106_125, w_106_128, w_106_130, w_106_131, w_106_132, w_106_133, w_106_136, w_106_137, w_106_139, w_106_142, w_106_144, w_106_146, w_106_149, w_106_151, w_106_153, w_106_156, w_106_158, w_106_160, w_106_163, w_106_165, w_106_167, w_106_170, w_106_172, w_106_173, w_106_174, w_106_176, w_106_179, w_106_180, w_106_182, w_106_185, w_106_187, w_106_189, w_106_192, w_106_194, w_106_196, w_106_199, w_106_201, w_106_203, w_106_206, w_106_208, w_106_210, w_106_213, w_106_215, w_106_217, w_106_220, w_106_222, w_106_223, w_106_224, w_106_226, w_106_229, w_106_230, w_106_232, w_106_235, w_106_237, w_106_239, w_106_242, w_106_244, w_106_246, w_106_249, w_106_251, w_106_253, w_106_256, w_106_258, w_106_260, w_106_263, w_106_265, w_106_267, w_106_270, w_106_272, w_106_273, w_106_274, nI_1, a2, a3, a4, a5, f_chr ht (show p < 2 ^ 31 by omega), f_chr ht (show p + 1 < 2 ^ 31 by omega), f_chr ht (show p + 2 < 2 ^ 31 by omega), f_chr ht (show p + 3 < 2 ^ 31 by omega), f_chr ht (show p + 4 < 2 ^ 31 by omega), f_chr ht (show p + 5 < 2 ^ 31 by omega), q1, q2, q5, q6, ite_nn, ite_an]
  unfold woR rsv
  simp only [spl_0, spl_1, spl_2, spl_3, spl_4]
  by_cases h1 : n = 1
  · rw [if_pos h1, if_pos h1]
  rw [if_neg h1, if_neg h1]
  by_cases h2 : n = 2
  · subst h2
    simp only [Nat.reduceEqDiff, true_and, false_and, if_true, if_false]
    by_cases g : nI (tA T z p) = 105 ∧ nI (tA T z (p + 1)) = 102
    · rw [if_pos g, if_pos g]
      rfl
    · rw [if_neg g, if_neg g]
  have n2 : ∀ {P : Prop}, ¬ (n = 2 ∧ P) := fun y => h2 y.1
  rw [if_neg h2, if_neg n2]
  by_cases h5 : n = 5
  · subst h5
    simp only [Nat.reduceEqDiff, true_and, false_and, if_true, if_false]
    by_cases g : nI (tA T z p) = 119 ∧ nI (tA T z (p + 1)) = 104 ∧ nI (tA T z (p + 2)) = 105 ∧ nI (tA T z (p + 3)) = 108 ∧ nI (tA T z (p + 4)) = 101
    · rw [if_pos g, if_pos g]
      rfl
    rw [if_neg g, if_neg g]
    by_cases g2 : nI (tA T z p) = 115 ∧ nI (tA T z (p + 1)) = 99 ∧ nI (tA T z (p + 2)) = 97 ∧ nI (tA T z (p + 3)) = 108 ∧ nI (tA T z (p + 4)) = 101
    · rw [if_pos g2, if_pos g2]
      rfl
    · rw [if_neg g2, if_neg g2]
  have n5 : ∀ {P : Prop}, ¬ (n = 5 ∧ P) := fun y => h5 y.1
  rw [if_neg n5, if_neg n5, if_neg n5]
  by_cases h6 : n = 6
  · subst h6
    simp only [true_and]
    by_cases g : nI (tA T z p) = 100 ∧ nI (tA T z (p + 1)) = 101 ∧ nI (tA T z (p + 2)) = 102 ∧ nI (tA T z (p + 3)) = 105 ∧ nI (tA T z (p + 4)) = 110 ∧ nI (tA T z (p + 5)) = 101
    · rw [if_pos g, if_pos g]
      rfl
    rw [if_neg g, if_neg g]
    by_cases g2 : nI (tA T z p) = 114 ∧ nI (tA T z (p + 1)) = 101 ∧ nI (tA T z (p + 2)) = 116 ∧ nI (tA T z (p + 3)) = 117 ∧ nI (tA T z (p + 4)) = 114 ∧ nI (tA T z (p + 5)) = 110
    · rw [if_pos g2, if_pos g2]
      rfl
    · rw [if_neg g2, if_neg g2, if_neg (fun y => absurd y.1 (by decide))]
  · have n6 : ∀ {P : Prop}, ¬ (n = 6 ∧ P) := fun y => h6 y.1
    rw [if_neg n6, if_neg n6, if_neg n6, if_neg n6, if_neg n5]
end TB2
