/-! The machine of the project: execute. -/
section CP
variable {L : Nat} {xs : Nat → Int32} {d : Nat} {σ : dx_S} {Q : dx_O → dx_S → Prop} {xi : Nat → Int32} {xa : Nat → Nat → Int32} {xl : Nat → Nat → Int64} {j : dx_S} {f : Nat → Int32} {g : Nat → Int64} {e a o x y sa pa : Nat → Int32} {n N fu p i : Nat} {A : AM}
theorem AIv0 {vr : Nat → Int × Nat} {sc : Nat} {ot : Nat → Int32} (h1 : ∀ v, v < 26 → nm (vr v).1 (vr v).2) (h2 : sc ≤ 4) : AIv o n fu (amk 0 [] false [] vr sc 0 0 ot) := ⟨fun m hm => absurd hm List.not_mem_nil, h1, h2, Nat.zero_le _, Nat.zero_le _, Nat.zero_le _, trivial, Nat.zero_le _, rfl, rfl⟩
theorem pot0 {vr : Nat → Int × Nat} {sc : Nat} {ot : Nat → Int32} (hfu : fu ≤ 2000) : pot o fu (amk 0 [] false [] vr sc 0 0 ot) < 3603000 := by
  show 1799 * (fu - 0) + wt o 0 + 0 < 3603000
  have w : wt o 0 ≤ 1800 := by
    unfold wt
    split
    · exact Nat.zero_le _
    · split
      · decide
      · split
        · decide
        · omega
  omega
theorem x_exec (hC : CDX f g e a o x y sa pa n N) (hfu : fu ≤ 2000) {vr : Nat → Int × Nat} {sc : Nat} {ot : Nat → Int32} (h1 : ∀ v, v < 26 → nm (vr v).1 (vr v).2) (h2 : sc ≤ 4) (h0 : RC0 fu (amk 0 [] false [] vr sc 0 0 ot) xi xa xl) (hK : CK f g e a N xi xa xl) (hE : cE fu (aI o x y sa pa fu 3603000 (amk 0 [] false [] vr sc 0 0 ot)) xi xa xl j Q) : dx_M (tb_Z L xs) (d + 7) 72 [.ref 16] (mk xi xa xl j) Q := by
  rw [dx_M_in (Nat.le_of_ble_eq_true rfl)]
  simp only [wI_some, wJ_some, wR_ref, wR_con, wO_some, s1_eq, s2_eq, dl_nil, dl_cons, dm_nil, dm_cons, lk_cons, cat_int, cat_long, cat_ref, cat_con, args_nil, args_int, args_long, args_ref, args_con, ct_nil, ct_cons, Nat.reduceBEq, Nat.reduceAdd, Nat.reduceLeDiff, Nat.reduceEqDiff, Bool.not_true, Bool.not_false, Bool.and_true, Bool.and_false, Bool.true_and, Bool.false_and, cond_true, cond_false, Nat.zero_add, Nat.add_zero, reduceCtorEq, Nat.zero_le, ui_at, ua_at, ul_at, wK_v, wK_n, wK_t, true_and, and_true, nb0, nb1, not_false_eq_true, not_true_eq_false, ci_0, ci_1, ci_3, ci_5, ci_7, ci_12, ci_15, ci_16, ci_21, ci_22, w_72_0, w_72_1, w_72_2, w_72_5, w_72_6, w_72_7, w_72_10, w_72_11, w_72_12, w_72_15, w_72_16, w_72_18, w_72_20, w_72_23, w_72_24, w_72_27, w_72_28, w_72_31, w_72_34, w_72_37, w_72_38, w_72_41, w_72_42, w_72_43_int, w_72_43_ref, w_72_43_retAddr, w_72_44, w_72_47, w_72_48, w_72_49, w_72_52, w_72_53, w_72_54, w_72_57, w_72_60, w_72_61, w_72_62, w_72_63, w_72_66, w_72_69, w_72_70, w_72_71, w_72_74, w_72_77, w_72_80, sf_16_5, sf_16_6, sf_16_10]
  have fr : FrC xi xa xl (ui (ui (ui xi 1029 0) 1030 0) 1034 0) xa xl := Fc_i (by decide) (Fc_i (by decide) (Fc_i (by decide) Fc_r))
  exact cx_loop hC hfu 3603000 0 (amk 0 [] false [] vr sc 0 0 ot) _ _ _ _ (Or.inl rfl) (AIv0 h1 h2) h0 ⟨rfl, ⟨0, rfl, rfl⟩, ⟨0, rfl, rfl⟩⟩ (CK_F hK fr) (pot0 hfu) (by decide) (cE_F hE fr rfl)
end CP
