/-! The reference: the run of its machine. -/
section RQ
variable {L : Nat} {xs : Nat → Int32} {d : Nat} {σ : dx_S} {Q : dx_O → dx_S → Prop} {xi : Nat → Int32} {xa : Nat → Nat → Int32} {xl : Nat → Nat → Int64} {j : dx_S} {f : Nat → Int32} {g : Nat → Int64} {e a o x y sa pa : Nat → Int32} {n N fu p i k : Nat} {A : AM} {w : Int32}
theorem e_rgo (hi : i < 100000000) (hp : p < 2 ^ 31) : dx_W (tb_Z L xs) d 99 99 [(3, .int (nI i)), (2, .int (nI p)), (0, .ref 22), (1, .int w)] [] (mk xi xa xl j) Q ↔ dx_M (tb_Z L xs) d 121 [.ref 22, .int (nI p)] (mk xi xa xl j) (wK (tb_Z L xs) d 99 115 [(3, .int (nI i)), (2, .int (nI p)), (0, .ref 22), (1, .int w)] [] Q) := by
  rw [w_99_99]
  simp only [wI_some, wJ_some, wR_ref, wR_con, wO_some, s1_eq, s2_eq, dl_nil, dl_cons, dm_nil, dm_cons, lk_cons, cat_int, cat_long, cat_ref, cat_con, args_nil, args_int, args_long, args_ref, args_con, ct_nil, ct_cons, Nat.reduceBEq, Nat.reduceAdd, Nat.reduceLeDiff, Nat.reduceEqDiff, Bool.not_true, Bool.not_false, Bool.and_true, Bool.and_false, Bool.true_and, Bool.false_and, cond_true, cond_false, Nat.zero_add, Nat.add_zero, reduceCtorEq, Nat.zero_le, ui_at, ua_at, ul_at, wK_v, wK_n, wK_t, true_and, and_true, nb0, nb1, not_false_eq_true, not_true_eq_false, ci_0, ci_1, ci_3, ci_5, ci_7, ci_12, ci_15, ci_16, ci_21, ci_22, w_99_0, w_99_1, w_99_2, w_99_5, w_99_6, w_99_9, w_99_10, w_99_13, w_99_16, w_99_19, w_99_22, w_99_23, w_99_26, w_99_27, w_99_28, w_99_31, w_99_32, w_99_33, w_99_36, w_99_37, w_99_38, w_99_41, w_99_42, w_99_43, w_99_46, w_99_47, w_99_48, w_99_51, w_99_52, w_99_55, w_99_56, w_99_59, w_99_62, w_99_63, w_99_66, w_99_67, w_99_70, w_99_73, w_99_74, w_99_75, w_99_78, w_99_79, w_99_80, w_99_83, w_99_84, w_99_85, w_99_86, w_99_87, w_99_90, w_99_91, w_99_92, w_99_95, w_99_96, w_99_97, w_99_98, w_99_100, w_99_103, w_99_106, w_99_107, w_99_110, w_99_111, w_99_112, w_99_116, w_99_119, w_99_122, w_99_123, w_99_126, w_99_129, w_99_130, w_99_131, w_99_134, w_99_135, w_99_138, w_99_139, w_99_142, w_99_143, w_99_146, w_99_147, w_99_150, w_99_151, w_99_154, w_99_155, w_99_158, w_99_159, w_99_162, w_99_163, w_99_166, w_99_169, w_99_170, w_99_173, w_99_174, w_99_177]
  rw [if_neg (show ¬ (100000000 : Int32) ≤ nI i from nI_ge (b := 100000000) hi (by decide)), if_neg (nI_pos hp)]
theorem e_rnx {v : Int32} : wK (tb_Z L xs) d 99 115 [(3, .int (nI i)), (2, .int (nI p)), (0, .ref 22), (1, .int w)] [] Q (.inl (some (.int v))) σ ↔ dx_W (tb_Z L xs) d 99 99 [(3, .int (nI (i + 1))), (2, .int v), (0, .ref 22), (1, .int w)] [] σ Q := by
  simp only [wI_some, wJ_some, wR_ref, wR_con, wO_some, s1_eq, s2_eq, dl_nil, dl_cons, dm_nil, dm_cons, lk_cons, cat_int, cat_long, cat_ref, cat_con, args_nil, args_int, args_long, args_ref, args_con, ct_nil, ct_cons, Nat.reduceBEq, Nat.reduceAdd, Nat.reduceLeDiff, Nat.reduceEqDiff, Bool.not_true, Bool.not_false, Bool.and_true, Bool.and_false, Bool.true_and, Bool.false_and, cond_true, cond_false, Nat.zero_add, Nat.add_zero, reduceCtorEq, Nat.zero_le, ui_at, ua_at, ul_at, wK_v, wK_n, wK_t, true_and, and_true, nb0, nb1, not_false_eq_true, not_true_eq_false, ci_0, ci_1, ci_3, ci_5, ci_7, ci_12, ci_15, ci_16, ci_21, ci_22, w_99_0, w_99_1, w_99_2, w_99_5, w_99_6, w_99_9, w_99_10, w_99_13, w_99_16, w_99_19, w_99_22, w_99_23, w_99_26, w_99_27, w_99_28, w_99_31, w_99_32, w_99_33, w_99_36, w_99_37, w_99_38, w_99_41, w_99_42, w_99_43, w_99_46, w_99_47, w_99_48, w_99_51, w_99_52, w_99_55, w_99_56, w_99_59, w_99_62, w_99_63, w_99_66, w_99_67, w_99_70, w_99_73, w_99_74, w_99_75, w_99_78, w_99_79, w_99_80, w_99_83, w_99_84, w_99_85, w_99_86, w_99_87, w_99_90, w_99_91, w_99_92, w_99_95, w_99_96, w_99_97, w_99_98, w_99_100, w_99_103, w_99_106, w_99_107, w_99_110, w_99_111, w_99_112, w_99_115, w_99_116, w_99_119, w_99_122, w_99_123, w_99_126, w_99_129, w_99_130, w_99_131, w_99_134, w_99_135, w_99_138, w_99_139, w_99_142, w_99_143, w_99_146, w_99_147, w_99_150, w_99_151, w_99_154, w_99_155, w_99_158, w_99_159, w_99_162, w_99_163, w_99_166, w_99_169, w_99_170, w_99_173, w_99_174, w_99_177, nI_1]
theorem e_rend (hi : i < 100000000) : dx_W (tb_Z L xs) d 99 99 [(3, .int (nI i)), (2, .int (-1)), (0, .ref 22), (1, .int w)] [] σ Q ↔ dx_W (tb_Z L xs) d 99 122 [(3, .int (nI i)), (2, .int (-1)), (0, .ref 22), (1, .int w)] [] σ Q := by
  rw [w_99_99]
  simp only [wI_some, wJ_some, wR_ref, wR_con, wO_some, s1_eq, s2_eq, dl_nil, dl_cons, dm_nil, dm_cons, lk_cons, cat_int, cat_long, cat_ref, cat_con, args_nil, args_int, args_long, args_ref, args_con, ct_nil, ct_cons, Nat.reduceBEq, Nat.reduceAdd, Nat.reduceLeDiff, Nat.reduceEqDiff, Bool.not_true, Bool.not_false, Bool.and_true, Bool.and_false, Bool.true_and, Bool.false_and, cond_true, cond_false, Nat.zero_add, Nat.add_zero, reduceCtorEq, Nat.zero_le, ui_at, ua_at, ul_at, wK_v, wK_n, wK_t, true_and, and_true, nb0, nb1, not_false_eq_true, not_true_eq_false, ci_0, ci_1, ci_3, ci_5, ci_7, ci_12, ci_15, ci_16, ci_21, ci_22, w_99_0, w_99_1, w_99_2, w_99_5, w_99_6, w_99_9, w_99_10, w_99_13, w_99_16, w_99_19, w_99_22, w_99_23, w_99_26, w_99_27, w_99_28, w_99_31, w_99_32, w_99_33, w_99_36, w_99_37, w_99_38, w_99_41, w_99_42, w_99_43, w_99_46, w_99_47, w_99_48, w_99_51, w_99_52, w_99_55, w_99_56, w_99_59, w_99_62, w_99_63, w_99_66, w_99_67, w_99_70, w_99_73, w_99_74, w_99_75, w_99_78, w_99_79, w_99_80, w_99_83, w_99_84, w_99_85, w_99_86, w_99_87, w_99_90, w_99_91, w_99_92, w_99_95, w_99_96, w_99_97, w_99_98, w_99_100, w_99_103, w_99_106, w_99_107, w_99_111, w_99_112, w_99_115, w_99_116, w_99_119, w_99_123, w_99_126, w_99_129, w_99_130, w_99_131, w_99_134, w_99_135, w_99_138, w_99_139, w_99_142, w_99_143, w_99_146, w_99_147, w_99_150, w_99_151, w_99_154, w_99_155, w_99_158, w_99_159, w_99_162, w_99_163, w_99_166, w_99_169, w_99_170, w_99_173, w_99_174, w_99_177]
  rw [if_neg (show ¬ (100000000 : Int32) ≤ nI i from nI_ge (b := 100000000) hi (by decide)), if_pos (show (-1 : Int32) < 0 by decide)]
theorem e_rt0 (hf : xi 1442 = 0) : dx_W (tb_Z L xs) d 99 122 [(3, .int (nI i)), (2, .int (-1)), (0, .ref 22), (1, .int w)] [] (mk xi xa xl j) Q ↔ Q (.inl (some (.int (xi 1441)))) (mk xi xa xl j) := by
  rw [w_99_122]
  simp only [wI_some, wJ_some, wR_ref, wR_con, wO_some, s1_eq, s2_eq, dl_nil, dl_cons, dm_nil, dm_cons, lk_cons, cat_int, cat_long, cat_ref, cat_con, args_nil, args_int, args_long, args_ref, args_con, ct_nil, ct_cons, Nat.reduceBEq, Nat.reduceAdd, Nat.reduceLeDiff, Nat.reduceEqDiff, Bool.not_true, Bool.not_false, Bool.and_true, Bool.and_false, Bool.true_and, Bool.false_and, cond_true, cond_false, Nat.zero_add, Nat.add_zero, reduceCtorEq, Nat.zero_le, ui_at, ua_at, ul_at, wK_v, wK_n, wK_t, true_and, and_true, nb0, nb1, not_false_eq_true, not_true_eq_false, ci_0, ci_1, ci_3, ci_5, ci_7, ci_12, ci_15, ci_16, ci_21, ci_22, w_99_0, w_99_1, w_99_2, w_99_5, w_99_6, w_99_9, w_99_10, w_99_13, w_99_16, w_99_19, w_99_22, w_99_23, w_99_26, w_99_27, w_99_28, w_99_31, w_99_32, w_99_33, w_99_36, w_99_37, w_99_38, w_99_41, w_99_42, w_99_43, w_99_46, w_99_47, w_99_48, w_99_51, w_99_52, w_99_55, w_99_56, w_99_59, w_99_62, w_99_63, w_99_66, w_99_67, w_99_70, w_99_73, w_99_74, w_99_75, w_99_78, w_99_79, w_99_80, w_99_83, w_99_84, w_99_85, w_99_86, w_99_87, w_99_90, w_99_91, w_99_92, w_99_95, w_99_96, w_99_97, w_99_98, w_99_99, w_99_100, w_99_103, w_99_106, w_99_107, w_99_110, w_99_111, w_99_112, w_99_115, w_99_116, w_99_119, w_99_123, w_99_126, w_99_129, w_99_130, w_99_131, w_99_134, w_99_135, w_99_138, w_99_139, w_99_142, w_99_143, w_99_146, w_99_147, w_99_150, w_99_151, w_99_154, w_99_155, w_99_158, w_99_159, w_99_162, w_99_163, w_99_166, w_99_169, w_99_170, w_99_173, w_99_174, w_99_177, gf_22_33, gf_22_34, hf]
  rw [if_pos True.intro, if_pos True.intro]
theorem e_rt1 (hf : xi 1442 = nI k) (hk : 1 ≤ k) (hk8 : k ≤ 8) : dx_W (tb_Z L xs) d 99 122 [(3, .int (nI i)), (2, .int (-1)), (0, .ref 22), (1, .int w)] [] (mk xi xa xl j) Q ↔ Q (.inl (some (.int 0))) (mk (ui xi 1443 (if k = 2 ∨ k = 3 ∨ k = 5 then 2 else 3)) xa xl j) := by
  rw [w_99_122]
  simp only [wI_some, wJ_some, wR_ref, wR_con, wO_some, s1_eq, s2_eq, dl_nil, dl_cons, dm_nil, dm_cons, lk_cons, cat_int, cat_long, cat_ref, cat_con, args_nil, args_int, args_long, args_ref, args_con, ct_nil, ct_cons, Nat.reduceBEq, Nat.reduceAdd, Nat.reduceLeDiff, Nat.reduceEqDiff, Bool.not_true, Bool.not_false, Bool.and_true, Bool.and_false, Bool.true_and, Bool.false_and, cond_true, cond_false, Nat.zero_add, Nat.add_zero, reduceCtorEq, Nat.zero_le, ui_at, ua_at, ul_at, wK_v, wK_n, wK_t, true_and, and_true, nb0, nb1, not_false_eq_true, not_true_eq_false, ci_0, ci_1, ci_3, ci_5, ci_7, ci_12, ci_15, ci_16, ci_21, ci_22, w_99_0, w_99_1, w_99_2, w_99_5, w_99_6, w_99_9, w_99_10, w_99_13, w_99_16, w_99_19, w_99_22, w_99_23, w_99_26, w_99_27, w_99_28, w_99_31, w_99_32, w_99_33, w_99_36, w_99_37, w_99_38, w_99_41, w_99_42, w_99_43, w_99_46, w_99_47, w_99_48, w_99_51, w_99_52, w_99_55, w_99_56, w_99_59, w_99_62, w_99_63, w_99_66, w_99_67, w_99_70, w_99_73, w_99_74, w_99_75, w_99_78, w_99_79, w_99_80, w_99_83, w_99_84, w_99_85, w_99_86, w_99_87, w_99_90, w_99_91, w_99_92, w_99_95, w_99_96, w_99_97, w_99_98, w_99_99, w_99_100, w_99_103, w_99_106, w_99_107, w_99_110, w_99_111, w_99_112, w_99_115, w_99_116, w_99_119, w_99_123, w_99_126, w_99_129, w_99_130, w_99_131, w_99_134, w_99_135, w_99_138, w_99_139, w_99_142, w_99_143, w_99_146, w_99_147, w_99_150, w_99_151, w_99_154, w_99_155, w_99_158, w_99_159, w_99_162, w_99_163, w_99_166, w_99_169, w_99_170, w_99_173, w_99_174, w_99_177, gf_22_33, gf_22_34, sf_22_35, hf]
  match k, hk, hk8 with
  | 1, _, _ => rfl
  | 2, _, _ => rfl
  | 3, _, _ => rfl
  | 4, _, _ => rfl
  | 5, _, _ => rfl
  | 6, _, _ => rfl
  | 7, _, _ => rfl
  | 8, _, _ => rfl
/-- how its run ends -/
def rE (fu : Nat) (r : Nat × AM) (xi : Nat → Int32) (xa : Nat → Nat → Int32) (xl : Nat → Nat → Int64) (j : dx_S) (Q : dx_O → dx_S → Prop) : Prop := ∀ xi' xa', RR0 fu r.2 xi' xa' → FrR xi xa xi' xa' → (r.1 = 100 → xi' 1442 = 0 → Q (.inl (some (.int (nI r.2.k)))) (mk xi' xa' xl j)) ∧ (r.1 ≠ 100 → xi' 1442 = nI r.1 → Q (.inl (some (.int 0))) (mk (ui xi' 1443 (if r.1 = 2 ∨ r.1 = 3 ∨ r.1 = 5 then 2 else 3)) xa' xl j))
theorem rE_F {r : Nat × AM} {xi2 : Nat → Int32} {xa2 : Nat → Nat → Int32} (h : rE fu r xi xa xl j Q) (hF : FrR xi xa xi2 xa2) : rE fu r xi2 xa2 xl j Q := fun xi' xa' r0 fr => h xi' xa' r0 (Fr_t hF fr)
theorem aS_f (hC : CDX f g e a o x y sa pa n N) (hI : AIv o n fu A) : (aS o x y sa pa fu A).1 ≤ 8 ∨ (aS o x y sa pa fu A).1 = 100 := by
  refine a_cases hC hI ?_ ?_ ?_ ?_ ?_ ?_ ?_ ?_ ?_ ?_ ?_ ?_ ?_ ?_ ?_ ?_
  · intro m s _ ho _ _ _ _ _ _
    rw [as_1 ho]
    exact Or.inl (Nat.zero_le _)
  · intro v _ ho _ _ _ _ _
    rw [as_2 ho]
    exact Or.inl (Nat.zero_le _)
  · intro _ ho _ _
    rw [as_3 ho]
    exact Or.inl (Nat.zero_le _)
  · intro m l _ ho _ hs _ _
    rw [as_4 ho hs]
    exact Or.inl (Nat.zero_le _)
  · intro m w l _ ho _ _ hs _ _
    cases hr : r_op A.sc (x A.b) w.1 w.2 m.1 m.2 with
    | inl z =>
      have := op_f' hr
      rw [as_5f ho hs hr]
      exact Or.inl (show z ≤ 8 by omega)
    | inr z =>
      rw [as_5 ho hs hr]
      exact Or.inl (Nat.zero_le _)
  · intro m l v _ ho _ _ _ _ hs _ _
    by_cases h0 : 0 ≤ sa (x A.b).toNatClampNeg
    · by_cases h4 : A.fr.length = 4
      · rw [as_6f ho hs h0 h4]
        exact Or.inl (show 7 ≤ 8 by decide)
      · rw [as_6 ho hs h0 h4]
        exact Or.inl (Nat.zero_le _)
    · rw [as_6n ho hs h0]
      exact Or.inl (show 6 ≤ 8 by decide)
  · intro m w l k _ ho _ _ _ hs _
    rw [as_7 ho hs]
    exact Or.inl (Nat.zero_le _)
  · intro m l v _ ho _ _ _ _ hs _
    rw [as_8 ho hs]
    exact Or.inl (Nat.zero_le _)
  · intro m l _ ho _ hs _
    cases hr : r_who m.1 m.2 0 4 with
    | inl z =>
      have := who_f hr
      rw [as_9f ho hs hr]
      exact Or.inl (show z ≤ 8 by omega)
    | inr z =>
      rw [as_9 ho hs hr]
      exact Or.inl (Nat.zero_le _)
  · intro m l _ ho _ hs _
    by_cases hr : A.z + wl m.1 m.2 (max (m.2 + 1) (dgn m.1.natAbs)) ≤ 300
    · rw [as_10 ho hs hr]
      exact Or.inl (Nat.zero_le _)
    · rw [as_10f ho hs hr]
      exact Or.inl (show 8 ≤ 8 by decide)
  · intro m l F L _ ho _ _ hF _ _
    rw [as_11 ho hF]
    exact Or.inl (Nat.zero_le _)
  · intro t _ ho _ _ _ _ _ _ _ _
    rw [as_12 ho]
    exact Or.inl (Nat.zero_le _)
  · intro t _ ho _ _ _ _ _ _ _ _
    rw [as_13 ho]
    exact Or.inl (Nat.zero_le _)
  · intro _ ho _ _
    by_cases hk : A.k < fu
    · rw [as_14 ho hk]
      exact Or.inl (Nat.zero_le _)
    · rw [as_14f ho hk]
      exact Or.inl (show 4 ≤ 8 by decide)
  · intro F L _ ho _ _ _ hF _ _
    rw [as_15 ho hF]
    exact Or.inl (Nat.zero_le _)
  · intro _ ho hF _
    rw [as_16 ho hF]
    exact Or.inr rfl
theorem rr_loop (hC : CDX f g e a o x y sa pa n N) (hfu : fu ≤ 2000) : ∀ W i A xi xa, AIv o n fu A → RR0 fu A xi xa → RRM o A xi xa → CR o x y sa pa xa → xi 1442 = 0 → pot o fu A < W → i + W < 100000000 → rE fu (aI o x y sa pa fu W A) xi xa xl j Q → dx_W (tb_Z L xs) (d + 5) 99 99 [(3, .int (nI i)), (2, .int (nI A.b)), (0, .ref 22), (1, .int w)] [] (mk xi xa xl j) Q := by
  intro W
  induction W with
  | zero =>
    intro i A xi xa _ _ _ _ _ hpot
    exact absurd hpot (by omega)
  | succ V ih =>
    intro i A xi xa hI h0 hM hK hz hpot hi hE
    obtain ⟨a1, a2, a3⟩ := a_inv hC hI
    have af := aS_f hC hI
    have pg := psi_ge (o := o) n
    have c5 := hC.2.2.2.2.1
    have c6 := hC.2.2.2.2.2.1
    have i6 := hI.2.2.2.2.2.1
    rw [e_rgo (by omega) (by omega)]
    refine r_step hC hI h0 hM hK hfu ?_ ?_
    · intro A' xi' xa' has r0 rm fr h42
      obtain ⟨b1, b2⟩ := a3 (by rw [has])
      rw [has] at b1 b2
      have ai : aI o x y sa pa fu (V + 1) A = aI o x y sa pa fu V A' := by
        show (if (aS o x y sa pa fu A).1 = 0 then aI o x y sa pa fu V (aS o x y sa pa fu A).2 else aS o x y sa pa fu A) = _
        rw [has, if_pos rfl]
      rw [ai] at hE
      rw [e_rnx]
      have b3 : pot o fu A' + 1 ≤ pot o fu A := by
        split at b2
        · have : pot o fu A' + 2 ≤ pot o fu A := b2
          omega
        · exact b2
      exact ih (i + 1) A' xi' xa' b1 r0 rm (CR_F hK fr) (h42.trans hz) (by omega) (by omega) (rE_F hE fr)
    · intro k xi' xa' has hk0 r0 fr h42
      have ai : aI o x y sa pa fu (V + 1) A = (k, A) := by
        show (if (aS o x y sa pa fu A).1 = 0 then aI o x y sa pa fu V (aS o x y sa pa fu A).2 else aS o x y sa pa fu A) = _
        rw [has, if_neg hk0]
      rw [ai] at hE
      rw [has] at af
      rw [e_rnx, e_rend (by omega)]
      obtain ⟨h1, h2⟩ := hE xi' xa' r0 fr
      by_cases hk : k = 100
      · rw [if_pos hk] at h42
        rw [e_rt0 (h42.trans hz), r0.2.2.1]
        exact h1 hk (h42.trans hz)
      · rw [if_neg hk] at h42
        have hk8 : k ≤ 8 := by
          rcases af with h | h
          · exact h
          · exact absurd h hk
        rw [e_rt1 h42 (by omega) hk8]
        exact h2 hk h42
end RQ
