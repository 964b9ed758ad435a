/-! The class's parser as a function: definitions, the whole. -/
def dfn (k : Nat) (x : Int32) (S : PS) : PS := pmk S.p S.n S.f S.g (upd S.e k (nI S.n)) (upd S.a k x) S.w S.hp S.hn
def sw (v : Int32) (S : PS) : PS := pmk S.p S.n S.f S.g S.e S.a v S.hp S.hn
section PX
variable (tk : Nat → Int32) (tv : Nat → Int64) (q : Nat)
def pDf (I : PS → PR) (S : PS) : PR := pB (pX tk q 260 S) fun S1 => pB (pX tk q 257 S1) fun S2 =>
  if S2.e (tv S1.p).toInt32.toNatClampNeg = -1 then
    pB (pX tk q 40 S2) fun S3 => pB (pX tk q 257 S3) fun S4 => pB (pX tk q 41 S4) fun S5 =>
    pB (pBr tk q I (sw 1 (dfn (tv S1.p).toInt32.toNatClampNeg (tv S3.p).toInt32 (emt 310 0 S5)))) fun S8 =>
    .inr (lnd ((emt 310 0 S5).n - 1) (emt 309 0 (emt 301 0 (sw 0 S8))))
  else .inl S2
/-- statement and list of braces with k depths left -/
def pSL : Nat → (PS → PR) × (PS → PR)
  | 0 => (fun S => .inl S, fun S => .inl S)
  | k + 1 => (pSt tk tv q (pEU tk tv q (k + 1)).1 (pEU tk tv q k).1 (pSL k).1 (pSL k).2, pLi tk q 125 (pPt tk 125 (fun S => .inl S) (pSt tk tv q (pEU tk tv q (k + 1)).1 (pEU tk tv q k).1 (pSL k).1 (pSL k).2)))
/-- the whole text -/
def pAll (S : PS) : PR := pLi tk q 0 (pPt tk 0 (pDf tk tv q (pSL tk tv q 6).2) (pSL tk tv q 7).1) S
end PX
section PY
variable {L : Nat} {xs : Nat → Int32} {d : Nat} {σ : dx_S} {Q : dx_O → dx_S → Prop} {xi : Nat → Int32} {xa : Nat → Nat → Int32} {xl : Nat → Nat → Int64} {j : dx_S} {S : PS} {s t p c q k : Nat}
/-- how expectName ends -/
def pN (r : PR) (v : Int32) (xi : Nat → Int32) (xa : Nat → Nat → Int32) (xl : Nat → Nat → Int64) (j : dx_S) (Q : dx_O → dx_S → Prop) : Prop := match r with
  | .inl S => Q (.inr (46 + j.length)) (pz xi xa xl j S)
  | .inr S => Q (.inl (some (.int v))) (ps xi xa xl j S)
theorem p_name (hc : xi 772 = nI q) (hq : q ≤ 200) : dx_M (tb_Z L xs) (d + 3) 53 [.ref 15] (ps xi xa xl j S) Q ↔ pN (pX (xa 13) q 257 S) (xl 14 S.p).toInt32 xi xa xl j Q := by
  rw [dx_M_in (Nat.le_of_ble_eq_true rfl)]
  simp only [wI_some, wJ_some, wR_ref, wR_con, wO_some, s1_eq, s2_eq, dl_nil, dl_cons, dm_nil, dm_cons, lk_cons, cat_int, cat_long, cat_ref, cat_con, args_nil, args_int, args_long, args_ref, args_con, ct_nil, ct_cons, Nat.reduceBEq, Nat.reduceAdd, Nat.reduceLeDiff, Nat.reduceEqDiff, Bool.not_true, Bool.not_false, Bool.and_true, Bool.and_false, Bool.true_and, Bool.false_and, cond_true, cond_false, Nat.zero_add, Nat.add_zero, reduceCtorEq, Nat.zero_le, ui_at, ua_at, ul_at, wK_v, wK_n, wK_t, true_and, and_true, nb0, nb1, not_false_eq_true, not_true_eq_false, ci_0, ci_1, ci_3, ci_5, ci_7, ci_12, ci_15, ci_16, ci_21, ci_22, w_53_0, w_53_1, w_53_4, w_53_7, w_53_8, w_53_11, w_53_12, w_53_13, w_53_14, w_53_15, w_53_18, w_53_22, p_ci15, p_ci7, p_ci5, p_kind, p_adv hc hq, p_g150, p_g151, p_g152, p_g153, p_g123, p_g74, p_ga14, p_emit, p_raise, p_expect hc hq]
  cases hx : pX (xa 13) q 257 S with
  | inl S1 => exact Iff.rfl
  | inr S1 =>
    show wK _ _ _ _ _ _ _ (.inl none) _ ↔ _
    simp only [wI_some, wJ_some, wR_ref, wR_con, wO_some, s1_eq, s2_eq, dl_nil, dl_cons, dm_nil, dm_cons, lk_cons, cat_int, cat_long, cat_ref, cat_con, args_nil, args_int, args_long, args_ref, args_con, ct_nil, ct_cons, Nat.reduceBEq, Nat.reduceAdd, Nat.reduceLeDiff, Nat.reduceEqDiff, Bool.not_true, Bool.not_false, Bool.and_true, Bool.and_false, Bool.true_and, Bool.false_and, cond_true, cond_false, Nat.zero_add, Nat.add_zero, reduceCtorEq, Nat.zero_le, ui_at, ua_at, ul_at, wK_v, wK_n, wK_t, true_and, and_true, nb0, nb1, not_false_eq_true, not_true_eq_false, ci_0, ci_1, ci_3, ci_5, ci_7, ci_12, ci_15, ci_16, ci_21, ci_22, w_53_0, w_53_1, w_53_4, w_53_7, w_53_8, w_53_11, w_53_12, w_53_13, w_53_14, w_53_15, w_53_18, w_53_21, w_53_22, p_ci15, p_ci7, p_ci5, p_kind, p_adv hc hq, p_g150, p_g151, p_g152, p_g153, p_g123, p_g74, p_ga14, p_emit, p_raise, p_expect hc hq]
    exact Iff.rfl
theorem p_isf {k : Int32} (hk : vp_in k 26) : dx_M (tb_Z L xs) (d + 1) 28 [.ref 7, .int k] (ps xi xa xl j S) Q ↔ Q (.inl (some (.int (if S.e k.toNatClampNeg = -1 then 0 else 1)))) (ps xi xa xl j S) := e_isf hk
theorem ua_10 {u v f g h : Nat → Int32} : ua (ua (ua (ua (ua xa 8 f) 10 u) 11 v) 10 g) 11 h = ua (ua (ua xa 8 f) 10 g) 11 h := by
  funext i
  show (if i = 11 then h else if i = 10 then g else if i = 11 then v else if i = 10 then u else if i = 8 then f else xa i) = if i = 11 then h else if i = 10 then g else if i = 8 then f else xa i
  by_cases h1 : i = 11
  · rw [if_pos h1, if_pos h1]
  · rw [if_neg h1, if_neg h1, if_neg h1]
    by_cases h2 : i = 10
    · rw [if_pos h2, if_pos h2]
    · rw [if_neg h2, if_neg h2, if_neg h2]
theorem p_def {k x : Int32} (hk : vp_in k 26) : dx_M (tb_Z L xs) (d + 1) 30 [.ref 7, .int k, .int x] (ps xi xa xl j S) Q ↔ Q (.inl none) (ps xi xa xl j (dfn k.toNatClampNeg x S)) := by
  unfold ps
  rw [e_def hk, ua_10]
  exact Iff.rfl
theorem p_w1 : dx_pf (ps xi xa xl j S) (.ref 15) 6 4 2 (.int 1) = some (ps xi xa xl j (sw 1 S)) := by
  unfold ps
  rw [sf_15_4_1, ui_ui]
  rfl
theorem p_w0 : dx_pf (ps xi xa xl j S) (.ref 15) 6 4 2 (.int 0) = some (ps xi xa xl j (sw 0 S)) := by
  unfold ps
  rw [sf_15_4_0, ui_ui]
  rfl
theorem pX_k {k : Int32} {S1 : PS} {tk : Nat → Int32} (h : pX tk q k S = .inr S1) : tk S.p = k := by
  unfold pX at h
  split at h
  · assumption
  · cases h
theorem p_defn (hc : xi 772 = nI q) (hq : q ≤ 200) (hs : s ≤ 6) {D : Nat} {I : PS → PR} (hv : ∀ i, i ≤ 200 → xa 13 i = 257 → vp_in (xl 14 i).toInt32 26) (hI : s < 6 → pOKL L xs xi xa xl j 125 (s + 1) D I) (hI6 : ¬ s < 6 → ∀ S, I S = .inl S) : pOK L xs xi xa xl j 51 s (D + 4) (pDf (xa 13) (xl 14) q I) := by
  intro d' hd S Q
  obtain ⟨d, rfl⟩ : ∃ d, d' = d + 4 := ⟨d' - 4, by omega⟩
  unfold pDf
  rw [dx_M_in (Nat.le_of_ble_eq_true rfl)]
  simp only [wI_some, wJ_some, wR_ref, wR_con, wO_some, s1_eq, s2_eq, dl_nil, dl_cons, dm_nil, dm_cons, lk_cons, cat_int, cat_long, cat_ref, cat_con, args_nil, args_int, args_long, args_ref, args_con, ct_nil, ct_cons, Nat.reduceBEq, Nat.reduceAdd, Nat.reduceLeDiff, Nat.reduceEqDiff, Bool.not_true, Bool.not_false, Bool.and_true, Bool.and_false, Bool.true_and, Bool.false_and, cond_true, cond_false, Nat.zero_add, Nat.add_zero, reduceCtorEq, Nat.zero_le, ui_at, ua_at, ul_at, wK_v, wK_n, wK_t, true_and, and_true, nb0, nb1, not_false_eq_true, not_true_eq_false, ci_0, ci_1, ci_3, ci_5, ci_7, ci_12, ci_15, ci_16, ci_21, ci_22, w_51_0, w_51_1, w_51_4, w_51_8, w_51_11, w_51_12, w_51_13, w_51_16, w_51_17, w_51_20, w_51_23, w_51_24, w_51_27, w_51_28, w_51_31, w_51_32, w_51_34, w_51_37, w_51_38, w_51_41, w_51_42, w_51_43, w_51_45, w_51_48, w_51_49, w_51_52, w_51_55, w_51_56, w_51_59, w_51_61, w_51_62, w_51_65, w_51_66, w_51_67, w_51_70, w_51_71, w_51_72, w_51_75, w_51_76, w_51_77, w_51_80, w_51_81, w_51_82, w_51_85, w_51_86, w_51_89, w_51_92, w_51_93, w_51_96_int, w_51_96_ref, w_51_96_retAddr, w_51_97, w_51_98, w_51_101, w_51_104, w_51_105, w_51_108_int, w_51_108_ref, w_51_108_retAddr, w_51_109, w_51_110, w_51_113, w_51_115, w_51_118, p_ci15, p_ci7, p_ci5, p_kind, p_adv hc hq, p_g150, p_g151, p_g152, p_g153, p_g123, p_g74, p_ga14, p_emit, p_raise, p_expect hc hq]
  rw [pR_B]
  cases hx : pX (xa 13) q 260 S with
  | inl S1 => exact Iff.rfl
  | inr S1 =>
  show wK _ _ _ _ _ _ _ (.inl none) _ ↔ pR (pB (pX (xa 13) q 257 S1) fun S2 => if S2.e (xl 14 S1.p).toInt32.toNatClampNeg = -1 then pB (pX (xa 13) q 40 S2) fun S3 => pB (pX (xa 13) q 257 S3) fun S4 => pB (pX (xa 13) q 41 S4) fun S5 => pB (pBr (xa 13) q I (sw 1 (dfn (xl 14 S1.p).toInt32.toNatClampNeg (xl 14 S3.p).toInt32 (emt 310 0 S5)))) fun S8 => .inr (lnd ((emt 310 0 S5).n - 1) (emt 309 0 (emt 301 0 (sw 0 S8)))) else .inl S2) xi xa xl j Q
  simp only [wI_some, wJ_some, wR_ref, wR_con, wO_some, s1_eq, s2_eq, dl_nil, dl_cons, dm_nil, dm_cons, lk_cons, cat_int, cat_long, cat_ref, cat_con, args_nil, args_int, args_long, args_ref, args_con, ct_nil, ct_cons, Nat.reduceBEq, Nat.reduceAdd, Nat.reduceLeDiff, Nat.reduceEqDiff, Bool.not_true, Bool.not_false, Bool.and_true, Bool.and_false, Bool.true_and, Bool.false_and, cond_true, cond_false, Nat.zero_add, Nat.add_zero, reduceCtorEq, Nat.zero_le, ui_at, ua_at, ul_at, wK_v, wK_n, wK_t, true_and, and_true, nb0, nb1, not_false_eq_true, not_true_eq_false, ci_0, ci_1, ci_3, ci_5, ci_7, ci_12, ci_15, ci_16, ci_21, ci_22, w_51_0, w_51_1, w_51_4, w_51_7, w_51_8, w_51_12, w_51_13, w_51_16, w_51_17, w_51_20, w_51_23, w_51_24, w_51_27, w_51_28, w_51_31, w_51_32, w_51_34, w_51_37, w_51_38, w_51_41, w_51_42, w_51_43, w_51_45, w_51_48, w_51_49, w_51_52, w_51_55, w_51_56, w_51_59, w_51_61, w_51_62, w_51_65, w_51_66, w_51_67, w_51_70, w_51_71, w_51_72, w_51_75, w_51_76, w_51_77, w_51_80, w_51_81, w_51_82, w_51_85, w_51_86, w_51_89, w_51_92, w_51_93, w_51_96_int, w_51_96_ref, w_51_96_retAddr, w_51_97, w_51_98, w_51_101, w_51_104, w_51_105, w_51_108_int, w_51_108_ref, w_51_108_retAddr, w_51_109, w_51_110, w_51_113, w_51_115, w_51_118, p_ci15, p_ci7, p_ci5, p_kind, p_adv hc hq, p_g150, p_g151, p_g152, p_g153, p_g123, p_g74, p_ga14, p_emit, p_raise, p_expect hc hq, p_name hc hq]
  rw [pR_B]
  cases hx1 : pX (xa 13) q 257 S1 with
  | inl S2 => exact Iff.rfl
  | inr S2 =>
  have v1 := hv S1.p S1.hp (pX_k hx1)
  show wK _ _ _ _ _ _ _ (.inl (some (.int ((xl 14 S1.p).toInt32)))) _ ↔ pR (if S2.e (xl 14 S1.p).toInt32.toNatClampNeg = -1 then pB (pX (xa 13) q 40 S2) fun S3 => pB (pX (xa 13) q 257 S3) fun S4 => pB (pX (xa 13) q 41 S4) fun S5 => pB (pBr (xa 13) q I (sw 1 (dfn (xl 14 S1.p).toInt32.toNatClampNeg (xl 14 S3.p).toInt32 (emt 310 0 S5)))) fun S8 => .inr (lnd ((emt 310 0 S5).n - 1) (emt 309 0 (emt 301 0 (sw 0 S8)))) else .inl S2) xi xa xl j Q
  simp only [wI_some, wJ_some, wR_ref, wR_con, wO_some, s1_eq, s2_eq, dl_nil, dl_cons, dm_nil, dm_cons, lk_cons, cat_int, cat_long, cat_ref, cat_con, args_nil, args_int, args_long, args_ref, args_con, ct_nil, ct_cons, Nat.reduceBEq, Nat.reduceAdd, Nat.reduceLeDiff, Nat.reduceEqDiff, Bool.not_true, Bool.not_false, Bool.and_true, Bool.and_false, Bool.true_and, Bool.false_and, cond_true, cond_false, Nat.zero_add, Nat.add_zero, reduceCtorEq, Nat.zero_le, ui_at, ua_at, ul_at, wK_v, wK_n, wK_t, true_and, and_true, nb0, nb1, not_false_eq_true, not_true_eq_false, ci_0, ci_1, ci_3, ci_5, ci_7, ci_12, ci_15, ci_16, ci_21, ci_22, w_51_0, w_51_1, w_51_4, w_51_7, w_51_8, w_51_11, w_51_12, w_51_13, w_51_16, w_51_17, w_51_20, w_51_23, w_51_24, w_51_27, w_51_28, w_51_31, w_51_32, w_51_34, w_51_38, w_51_41, w_51_42, w_51_43, w_51_45, w_51_48, w_51_49, w_51_52, w_51_55, w_51_56, w_51_59, w_51_61, w_51_62, w_51_65, w_51_66, w_51_67, w_51_70, w_51_71, w_51_72, w_51_75, w_51_76, w_51_77, w_51_80, w_51_81, w_51_82, w_51_85, w_51_86, w_51_89, w_51_92, w_51_93, w_51_96_int, w_51_96_ref, w_51_96_retAddr, w_51_97, w_51_98, w_51_101, w_51_104, w_51_105, w_51_108_int, w_51_108_ref, w_51_108_retAddr, w_51_109, w_51_110, w_51_113, w_51_115, w_51_118, p_ci15, p_ci7, p_ci5, p_kind, p_adv hc hq, p_g150, p_g151, p_g152, p_g153, p_g123, p_g74, p_ga14, p_emit, p_raise, p_expect hc hq, p_name hc hq, p_isf v1]
  by_cases h0 : ¬ S2.e (xl 14 S1.p).toInt32.toNatClampNeg = -1
  · rw [if_neg h0, if_neg (show ¬ (1 : Int32) = 0 by decide), if_neg h0]
    exact Iff.rfl
  have h0 := Decidable.not_not.mp h0
  rw [if_pos h0, if_pos rfl, if_pos h0, pR_B]
  cases hx2 : pX (xa 13) q 40 S2 with
  | inl S3 => exact Iff.rfl
  | inr S3 =>
  show wK _ _ _ _ _ _ _ (.inl none) _ ↔ pR (pB (pX (xa 13) q 257 S3) fun S4 => pB (pX (xa 13) q 41 S4) fun S5 => pB (pBr (xa 13) q I (sw 1 (dfn (xl 14 S1.p).toInt32.toNatClampNeg (xl 14 S3.p).toInt32 (emt 310 0 S5)))) fun S8 => .inr (lnd ((emt 310 0 S5).n - 1) (emt 309 0 (emt 301 0 (sw 0 S8))))) xi xa xl j Q
  simp only [wI_some, wJ_some, wR_ref, wR_con, wO_some, s1_eq, s2_eq, dl_nil, dl_cons, dm_nil, dm_cons, lk_cons, cat_int, cat_long, cat_ref, cat_con, args_nil, args_int, args_long, args_ref, args_con, ct_nil, ct_cons, Nat.reduceBEq, Nat.reduceAdd, Nat.reduceLeDiff, Nat.reduceEqDiff, Bool.not_true, Bool.not_false, Bool.and_true, Bool.and_false, Bool.true_and, Bool.false_and, cond_true, cond_false, Nat.zero_add, Nat.add_zero, reduceCtorEq, Nat.zero_le, ui_at, ua_at, ul_at, wK_v, wK_n, wK_t, true_and, and_true, nb0, nb1, not_false_eq_true, not_true_eq_false, ci_0, ci_1, ci_3, ci_5, ci_7, ci_12, ci_15, ci_16, ci_21, ci_22, w_51_0, w_51_1, w_51_4, w_51_7, w_51_8, w_51_11, w_51_12, w_51_13, w_51_16, w_51_17, w_51_20, w_51_23, w_51_24, w_51_27, w_51_28, w_51_31, w_51_32, w_51_34, w_51_37, w_51_38, w_51_42, w_51_43, w_51_45, w_51_48, w_51_49, w_51_52, w_51_55, w_51_56, w_51_59, w_51_61, w_51_62, w_51_65, w_51_66, w_51_67, w_51_70, w_51_71, w_51_72, w_51_75, w_51_76, w_51_77, w_51_80, w_51_81, w_51_82, w_51_85, w_51_86, w_51_89, w_51_92, w_51_93, w_51_96_int, w_51_96_ref, w_51_96_retAddr, w_51_97, w_51_98, w_51_101, w_51_104, w_51_105, w_51_108_int, w_51_108_ref, w_51_108_retAddr, w_51_109, w_51_110, w_51_113, w_51_115, w_51_118, p_ci15, p_ci7, p_ci5, p_kind, p_adv hc hq, p_g150, p_g151, p_g152, p_g153, p_g123, p_g74, p_ga14, p_emit, p_raise, p_expect hc hq, p_name hc hq]
  rw [pR_B]
  cases hx3 : pX (xa 13) q 257 S3 with
  | inl S4 => exact Iff.rfl
  | inr S4 =>
  show wK _ _ _ _ _ _ _ (.inl (some (.int ((xl 14 S3.p).toInt32)))) _ ↔ pR (pB (pX (xa 13) q 41 S4) fun S5 => pB (pBr (xa 13) q I (sw 1 (dfn (xl 14 S1.p).toInt32.toNatClampNeg (xl 14 S3.p).toInt32 (emt 310 0 S5)))) fun S8 => .inr (lnd ((emt 310 0 S5).n - 1) (emt 309 0 (emt 301 0 (sw 0 S8))))) xi xa xl j Q
  simp only [wI_some, wJ_some, wR_ref, wR_con, wO_some, s1_eq, s2_eq, dl_nil, dl_cons, dm_nil, dm_cons, lk_cons, cat_int, cat_long, cat_ref, cat_con, args_nil, args_int, args_long, args_ref, args_con, ct_nil, ct_cons, Nat.reduceBEq, Nat.reduceAdd, Nat.reduceLeDiff, Nat.reduceEqDiff, Bool.not_true, Bool.not_false, Bool.and_true, Bool.and_false, Bool.true_and, Bool.false_and, cond_true, cond_false, Nat.zero_add, Nat.add_zero, reduceCtorEq, Nat.zero_le, ui_at, ua_at, ul_at, wK_v, wK_n, wK_t, true_and, and_true, nb0, nb1, not_false_eq_true, not_true_eq_false, ci_0, ci_1, ci_3, ci_5, ci_7, ci_12, ci_15, ci_16, ci_21, ci_22, w_51_0, w_51_1, w_51_4, w_51_7, w_51_8, w_51_11, w_51_12, w_51_13, w_51_16, w_51_17, w_51_20, w_51_23, w_51_24, w_51_27, w_51_28, w_51_31, w_51_32, w_51_34, w_51_37, w_51_38, w_51_41, w_51_42, w_51_43, w_51_45, w_51_49, w_51_52, w_51_55, w_51_56, w_51_59, w_51_61, w_51_62, w_51_65, w_51_66, w_51_67, w_51_70, w_51_71, w_51_72, w_51_75, w_51_76, w_51_77, w_51_80, w_51_81, w_51_82, w_51_85, w_51_86, w_51_89, w_51_92, w_51_93, w_51_96_int, w_51_96_ref, w_51_96_retAddr, w_51_97, w_51_98, w_51_101, w_51_104, w_51_105, w_51_108_int, w_51_108_ref, w_51_108_retAddr, w_51_109, w_51_110, w_51_113, w_51_115, w_51_118, p_ci15, p_ci7, p_ci5, p_kind, p_adv hc hq, p_g150, p_g151, p_g152, p_g153, p_g123, p_g74, p_ga14, p_emit, p_raise, p_expect hc hq, p_name hc hq]
  rw [pR_B]
  cases hx4 : pX (xa 13) q 41 S4 with
  | inl S5 => exact Iff.rfl
  | inr S5 =>
  have hn := (emt 310 0 S5).hn
  show wK _ _ _ _ _ _ _ (.inl none) _ ↔ pR (pB (pBr (xa 13) q I (sw 1 (dfn (xl 14 S1.p).toInt32.toNatClampNeg (xl 14 S3.p).toInt32 (emt 310 0 S5)))) fun S8 => .inr (lnd ((emt 310 0 S5).n - 1) (emt 309 0 (emt 301 0 (sw 0 S8))))) xi xa xl j Q
  simp only [wI_some, wJ_some, wR_ref, wR_con, wO_some, s1_eq, s2_eq, dl_nil, dl_cons, dm_nil, dm_cons, lk_cons, cat_int, cat_long, cat_ref, cat_con, args_nil, args_int, args_long, args_ref, args_con, ct_nil, ct_cons, Nat.reduceBEq, Nat.reduceAdd, Nat.reduceLeDiff, Nat.reduceEqDiff, Bool.not_true, Bool.not_false, Bool.and_true, Bool.and_false, Bool.true_and, Bool.false_and, cond_true, cond_false, Nat.zero_add, Nat.add_zero, reduceCtorEq, Nat.zero_le, ui_at, ua_at, ul_at, wK_v, wK_n, wK_t, true_and, and_true, nb0, nb1, not_false_eq_true, not_true_eq_false, ci_0, ci_1, ci_3, ci_5, ci_7, ci_12, ci_15, ci_16, ci_21, ci_22, w_51_0, w_51_1, w_51_4, w_51_7, w_51_8, w_51_11, w_51_12, w_51_13, w_51_16, w_51_17, w_51_20, w_51_23, w_51_24, w_51_27, w_51_28, w_51_31, w_51_32, w_51_34, w_51_37, w_51_38, w_51_41, w_51_42, w_51_43, w_51_45, w_51_48, w_51_49, w_51_52, w_51_55, w_51_56, w_51_59, w_51_61, w_51_62, w_51_65, w_51_66, w_51_67, w_51_70, w_51_71, w_51_72, w_51_75, w_51_76, w_51_77, w_51_81, w_51_82, w_51_85, w_51_86, w_51_89, w_51_92, w_51_93, w_51_96_int, w_51_96_ref, w_51_96_retAddr, w_51_97, w_51_98, w_51_101, w_51_104, w_51_105, w_51_108_int, w_51_108_ref, w_51_108_retAddr, w_51_109, w_51_110, w_51_113, w_51_115, w_51_118, p_ci15, p_ci7, p_ci5, p_kind, p_adv hc hq, p_g150, p_g151, p_g152, p_g153, p_g123, p_g74, p_ga14, p_emit, p_raise, p_expect hc hq, p_name hc hq, p_def v1, p_w1, p_braces hc hq hs hI hI6 (d + 3) (by omega)]
  rw [pR_B]
  cases hx5 : pBr (xa 13) q I (sw 1 (dfn (xl 14 S1.p).toInt32.toNatClampNeg (xl 14 S3.p).toInt32 (emt 310 0 S5))) with
  | inl S8 => exact Iff.rfl
  | inr S8 =>
  show wK _ _ _ _ _ _ _ (.inl none) _ ↔ pR (.inr (lnd ((emt 310 0 S5).n - 1) (emt 309 0 (emt 301 0 (sw 0 S8))))) xi xa xl j Q
  simp only [wI_some, wJ_some, wR_ref, wR_con, wO_some, s1_eq, s2_eq, dl_nil, dl_cons, dm_nil, dm_cons, lk_cons, cat_int, cat_long, cat_ref, cat_con, args_nil, args_int, args_long, args_ref, args_con, ct_nil, ct_cons, Nat.reduceBEq, Nat.reduceAdd, Nat.reduceLeDiff, Nat.reduceEqDiff, Bool.not_true, Bool.not_false, Bool.and_true, Bool.and_false, Bool.true_and, Bool.false_and, cond_true, cond_false, Nat.zero_add, Nat.add_zero, reduceCtorEq, Nat.zero_le, ui_at, ua_at, ul_at, wK_v, wK_n, wK_t, true_and, and_true, nb0, nb1, not_false_eq_true, not_true_eq_false, ci_0, ci_1, ci_3, ci_5, ci_7, ci_12, ci_15, ci_16, ci_21, ci_22, w_51_0, w_51_1, w_51_4, w_51_7, w_51_8, w_51_11, w_51_12, w_51_13, w_51_16, w_51_17, w_51_20, w_51_23, w_51_24, w_51_27, w_51_28, w_51_31, w_51_32, w_51_34, w_51_37, w_51_38, w_51_41, w_51_42, w_51_43, w_51_45, w_51_48, w_51_49, w_51_52, w_51_55, w_51_56, w_51_59, w_51_61, w_51_62, w_51_65, w_51_66, w_51_67, w_51_70, w_51_71, w_51_72, w_51_75, w_51_76, w_51_77, w_51_80, w_51_81, w_51_82, w_51_85, w_51_86, w_51_89, w_51_92, w_51_93, w_51_96_int, w_51_96_ref, w_51_96_retAddr, w_51_97, w_51_98, w_51_101, w_51_104, w_51_105, w_51_108_int, w_51_108_ref, w_51_108_retAddr, w_51_109, w_51_110, w_51_113, w_51_115, w_51_118, p_ci15, p_ci7, p_ci5, p_kind, p_adv hc hq, p_g150, p_g151, p_g152, p_g153, p_g123, p_g74, p_ga14, p_emit, p_raise, p_expect hc hq, p_name hc hq, p_w0, p_land (show (emt 310 0 S5).n - 1 ≤ 600 by omega)]
  exact Iff.rfl
theorem pOK_m {M D D' : Nat} {F : PS → PR} (h : pOK L xs xi xa xl j M s D F) (hd : D ≤ D') : pOK L xs xi xa xl j M s D' F := fun d z => h d (Nat.le_trans hd z)
theorem pOKL_m {cl : Int32} {D D' : Nat} {F : PS → PR} (h : pOKL L xs xi xa xl j cl s D F) (hd : D ≤ D') : pOKL L xs xi xa xl j cl s D' F := fun d z => h d (Nat.le_trans hd z)
theorem p_EU (hc : xi 772 = nI q) (hq : q ≤ 200) : ∀ k s, s + k = 6 → pOK L xs xi xa xl j 59 s (8 * k + 8) (pEU (xa 13) (xl 14) q (k + 1)).1 ∧ pOK L xs xi xa xl j 61 s (8 * k + 8) (pEU (xa 13) (xl 14) q (k + 1)).2 := by
  intro k
  induction k with
  | zero =>
    intro s hs
    have hE : s < 6 → pOK L xs xi xa xl j 59 (s + 1) 0 (pEU (xa 13) (xl 14) q 0).1 := fun z => absurd z (by omega)
    have hU : s < 6 → pOK L xs xi xa xl j 61 (s + 1) 0 (pEU (xa 13) (xl 14) q 0).2 := fun z => absurd z (by omega)
    exact ⟨p_expr hc hq (by omega) hE (fun _ _ => rfl) hU (fun _ _ => rfl), pOK_m (p_unary hc hq (by omega) hE (fun _ _ => rfl) hU (fun _ _ => rfl)) (by omega)⟩
  | succ k ih =>
    intro s hs
    have i := ih (s + 1) (by omega)
    have n6 : ∀ {P : Prop}, ¬ s < 6 → P := fun z => absurd (show s < 6 by omega) z
    exact ⟨pOK_m (p_expr hc hq (by omega) (fun _ => i.1) (fun z => n6 z) (fun _ => i.2) (fun z => n6 z)) (by omega), pOK_m (p_unary hc hq (by omega) (fun _ => i.1) (fun z => n6 z) (fun _ => i.2) (fun z => n6 z)) (by omega)⟩
theorem p_SL (hc : xi 772 = nI q) (hq : q ≤ 200) : ∀ k s, s + k = 6 → pOK L xs xi xa xl j 56 s (16 * k + 20) (pSL (xa 13) (xl 14) q (k + 1)).1 ∧ pOKL L xs xi xa xl j 125 s (16 * k + 24) (pSL (xa 13) (xl 14) q (k + 1)).2 := by
  intro k
  induction k with
  | zero =>
    intro s hs
    have n6 : ∀ {P : Prop}, s < 6 → P := fun z => absurd z (by omega)
    have h1 : pOK L xs xi xa xl j 56 s (16 * 0 + 20) (pSL (xa 13) (xl 14) q (0 + 1)).1 := pOK_m (p_stat hc hq (by omega) (p_EU hc hq 0 s hs).1 (fun z => n6 z) (fun _ _ => rfl) (fun z => n6 z) (fun _ _ => rfl) (fun z => n6 z) (fun _ _ => rfl)) (by omega)
    exact ⟨h1, pOKL_m (p_list hc hq h1 (fun z => absurd z (by decide))) (by omega)⟩
  | succ k ih =>
    intro s hs
    have i := ih (s + 1) (by omega)
    have n6 : ∀ {P : Prop}, ¬ s < 6 → P := fun z => absurd (show s < 6 by omega) z
    have h1 : pOK L xs xi xa xl j 56 s (16 * (k + 1) + 20) (pSL (xa 13) (xl 14) q (k + 1 + 1)).1 := pOK_m (p_stat (D := 16 * k + 24) hc hq (by omega) (pOK_m (p_EU hc hq (k + 1) s hs).1 (by omega)) (fun _ => pOK_m (p_EU hc hq k (s + 1) (by omega)).1 (by omega)) (fun z => n6 z) (fun _ => pOK_m i.1 (by omega)) (fun z => n6 z) (fun _ => i.2) (fun z => n6 z)) (by omega)
    exact ⟨h1, pOKL_m (p_list hc hq h1 (fun z => absurd z (by decide))) (by omega)⟩
theorem p_all (hc : xi 772 = nI q) (hq : q ≤ 200) (hv : ∀ i, i ≤ 200 → xa 13 i = 257 → vp_in (xl 14 i).toInt32 26) : pOKL L xs xi xa xl j 0 0 124 (pAll (xa 13) (xl 14) q) := by
  have i := p_SL (L := L) (xs := xs) (xa := xa) (xl := xl) (j := j) hc hq 5 1 rfl
  exact pOKL_m (p_list (D := 120) hc hq (pOK_m (p_SL hc hq 6 0 rfl).1 (by omega)) (fun _ => pOK_m (p_defn hc hq (by omega) hv (fun _ => i.2) (fun z => absurd (by omega) z)) (by omega))) (by omega)
def pS0 (xa : Nat → Nat → Int32) (xl : Nat → Nat → Int64) : PS := pmk 0 0 (xa 8) (xl 9) (fl (xa 10) 26 (-1)) (xa 11) 0 (by decide) (by decide)
theorem ps_0 : mk (ui (ui (ui xi 963 0) 964 0) 452 0) (ua xa 10 (fl (xa 10) 26 (-1))) xl j = ps xi xa xl j (pS0 xa xl) := by
  unfold ps
  have e1 : ui (ui (ui xi 963 0) 964 0) 452 0 = ui (ui (ui xi 963 (nI (pS0 xa xl).p)) 452 (nI (pS0 xa xl).n)) 964 (pS0 xa xl).w := by
    funext i
    show (if i = 452 then 0 else if i = 964 then 0 else if i = 963 then 0 else xi i) = if i = 964 then (0 : Int32) else if i = 452 then nI 0 else if i = 963 then nI 0 else xi i
    rw [show nI 0 = 0 from nI_0]
    by_cases h1 : i = 452
    · subst h1
      rfl
    · rw [if_neg h1, if_neg h1]
  have e2 : ua xa 10 (fl (xa 10) 26 (-1)) = ua (ua (ua xa 8 (pS0 xa xl).f) 10 (pS0 xa xl).e) 11 (pS0 xa xl).a := by
    funext i
    show (if i = 10 then fl (xa 10) 26 (-1) else xa i) = if i = 11 then xa 11 else if i = 10 then fl (xa 10) 26 (-1) else if i = 8 then xa 8 else xa i
    by_cases h1 : i = 11
    · subst h1
      rfl
    · rw [if_neg h1]
      by_cases h2 : i = 10
      · rw [if_pos h2, if_pos h2]
      · rw [if_neg h2, if_neg h2]
        by_cases h3 : i = 8
        · subst h3
          rfl
        · rw [if_neg h3]
  rw [e1, e2, show (pS0 xa xl).g = xl 9 from rfl, ul_id]
theorem p_parse (hc : xi 772 = nI q) (hq : q ≤ 200) (hv : ∀ i, i ≤ 200 → xa 13 i = 257 → vp_in (xl 14 i).toInt32 26) : dx_M (tb_Z L xs) (d + 126) 46 [.ref 15] (mk xi xa xl j) Q ↔ pR (pAll (xa 13) (xl 14) q (pS0 xa xl)) xi xa xl j Q := by
  have h := p_all (L := L) (xs := xs) (j := j) hc hq hv (d + 125) (by omega) (pS0 xa xl)
  rw [← ps_0] at h
  have h : ∀ Q, (dx_M (tb_Z L xs) (d + 125) 47 [.ref 15, .int 0, .int 0] (mk (ui (ui (ui xi 963 0) 964 0) 452 0) (ua xa 10 (fl (xa 10) 26 (-1))) xl j) Q ↔ pR (pAll (xa 13) (xl 14) q (pS0 xa xl)) xi xa xl j Q) := fun Q => h Q
  rw [dx_M_in (Nat.le_of_ble_eq_true rfl)]
  simp only [wI_some, wJ_some, wR_ref, wR_con, wO_some, s1_eq, s2_eq, dl_nil, dl_cons, dm_nil, dm_cons, lk_cons, cat_int, cat_long, cat_ref, cat_con, args_nil, args_int, args_long, args_ref, args_con, ct_nil, ct_cons, Nat.reduceBEq, Nat.reduceAdd, Nat.reduceLeDiff, Nat.reduceEqDiff, Bool.not_true, Bool.not_false, Bool.and_true, Bool.and_false, Bool.true_and, Bool.false_and, cond_true, cond_false, Nat.zero_add, Nat.add_zero, reduceCtorEq, Nat.zero_le, ui_at, ua_at, ul_at, wK_v, wK_n, wK_t, true_and, and_true, nb0, nb1, not_false_eq_true, not_true_eq_false, ci_0, ci_1, ci_3, ci_5, ci_7, ci_12, ci_15, ci_16, ci_21, ci_22, w_46_0, w_46_1, w_46_2, w_46_5, w_46_6, w_46_7, w_46_10, w_46_11, w_46_14, w_46_17, w_46_18, w_46_19, w_46_20, sf_15_3, sf_15_4_0, gf_15_1, e_cbegin]
  rw [h]
  cases hx : pAll (xa 13) (xl 14) q (pS0 xa xl) with
  | inl S1 => exact Iff.rfl
  | inr S1 =>
    show wK _ _ _ _ _ _ _ (.inl none) _ ↔ _
    simp only [wI_some, wJ_some, wR_ref, wR_con, wO_some, s1_eq, s2_eq, dl_nil, dl_cons, dm_nil, dm_cons, lk_cons, cat_int, cat_long, cat_ref, cat_con, args_nil, args_int, args_long, args_ref, args_con, ct_nil, ct_cons, Nat.reduceBEq, Nat.reduceAdd, Nat.reduceLeDiff, Nat.reduceEqDiff, Bool.not_true, Bool.not_false, Bool.and_true, Bool.and_false, Bool.true_and, Bool.false_and, cond_true, cond_false, Nat.zero_add, Nat.add_zero, reduceCtorEq, Nat.zero_le, ui_at, ua_at, ul_at, wK_v, wK_n, wK_t, true_and, and_true, nb0, nb1, not_false_eq_true, not_true_eq_false, ci_0, ci_1, ci_3, ci_5, ci_7, ci_12, ci_15, ci_16, ci_21, ci_22, w_46_0, w_46_1, w_46_2, w_46_5, w_46_6, w_46_7, w_46_10, w_46_11, w_46_14, w_46_17, w_46_18, w_46_19, w_46_20, w_46_23]
    exact Iff.rfl
end PY
