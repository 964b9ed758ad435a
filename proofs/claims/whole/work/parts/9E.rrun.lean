/-! The run of the reference. -/
/-- the number of what a fault throws -/
def tn (k : Nat) : Int32 := if k = 1 then 1 else if k = 2 ∨ k = 3 ∨ k = 5 then 2 else 3
/-- what no run of the reference touches -/
def FR (xi : Nat → Int32) (xa : Nat → Nat → Int32) (xi' : Nat → Int32) (xa' : Nat → Nat → Int32) : Prop := (∀ k, k < 1408 → xi' k = xi k) ∧ (∀ i, i < 22 → xa' i = xa i) ∧ xi' 1409 = xi 1409 ∧ xa' 23 = xa 23
section WG
variable {L : Nat} {xs : Nat → Int32} {d : Nat} {σ : dx_S} {Q : dx_O → dx_S → Prop} {xi : Nat → Int32} {xa : Nat → Nat → Int32} {xl : Nat → Nat → Int64} {j : dx_S} {T : Nat → Nat} {z sc fu : Nat} {w : Int32} {vr : Nat → Int × Nat} {r : Nat × AM} {xa0 : Nat → Nat → Int32} {xl0 : Nat → Nat → Int64}
theorem rR0_eq (h : ∀ i, 22 ≤ i → xa i = xa0 i) : rR0 xa = rR0 xa0 := by
  unfold rR0
  rw [h 29 (by decide), h 30 (by decide), h 31 (by decide), h 32 (by decide), h 33 (by decide), h 34 (by decide), h 35 (by decide), h 36 (by decide)]
theorem rq_lo {R : RS} {k : Nat} (h : k < 1408) : rqi xi R k = xi k := by
  unfold rqi
  rw [if_neg (by omega), if_neg (by omega), if_neg (by omega), if_neg (by omega), if_neg (by omega), if_neg (by omega)]
theorem rq_la {R : RS} {k : Nat} (h : k < 29) : rqa xa R k = xa k := by
  unfold rqa
  rw [if_neg (by omega), if_neg (by omega), if_neg (by omega), if_neg (by omega), if_neg (by omega), if_neg (by omega), if_neg (by omega), if_neg (by omega)]
/-- how the reference ends where the text is faulty -/
theorem f_bad {xi' : Nat → Int32} {xa' : Nat → Nat → Int32} {xl' : Nat → Nat → Int64} (h : xi' 1418 ≠ 0) : dx_W (tb_Z L xs) d 99 66 [(0, .ref 22), (1, .int w)] [] (mk xi' xa' xl' j) Q ↔ Q (.inl (some (.int 0))) (mk (ui (ui xi' 1442 1) 1443 1) xa' xl' j) := by
  rw [w_99_66]
  simp only [wI_some, wJ_some, wR_ref, wR_con, wO_some, s1_eq, s2_eq, dl_nil, dl_cons, dm_nil, dm_cons, lk_cons, cat_int, cat_long, cat_ref, cat_con, args_nil, args_int, args_long, args_ref, args_con, ct_nil, ct_cons, Nat.reduceBEq, Nat.reduceAdd, Nat.reduceLeDiff, Nat.reduceEqDiff, Bool.not_true, Bool.not_false, Bool.and_true, Bool.and_false, Bool.true_and, Bool.false_and, cond_true, cond_false, Nat.zero_add, Nat.add_zero, reduceCtorEq, Nat.zero_le, ui_at, ua_at, ul_at, wK_v, wK_n, wK_t, true_and, and_true, nb0, nb1, not_false_eq_true, not_true_eq_false, ci_0, ci_1, ci_3, ci_5, ci_7, ci_12, ci_15, ci_16, ci_21, ci_22, w_99_0, w_99_1, w_99_2, w_99_5, w_99_6, w_99_9, w_99_10, w_99_13, w_99_16, w_99_19, w_99_22, w_99_23, w_99_26, w_99_27, w_99_28, w_99_31, w_99_32, w_99_33, w_99_36, w_99_37, w_99_38, w_99_41, w_99_42, w_99_43, w_99_46, w_99_47, w_99_48, w_99_51, w_99_52, w_99_55, w_99_56, w_99_59, w_99_62, w_99_63, w_99_67, w_99_70, w_99_73, w_99_74, w_99_75, w_99_78, w_99_79, w_99_80, w_99_83, w_99_84, w_99_86, w_99_87, w_99_90, w_99_91, w_99_92, w_99_95, w_99_96, w_99_97, w_99_98, w_99_99, w_99_100, w_99_103, w_99_106, w_99_107, w_99_110, w_99_111, w_99_112, w_99_115, w_99_116, w_99_119, w_99_122, w_99_123, w_99_126, w_99_129, w_99_130, w_99_131, w_99_134, w_99_135, w_99_138, w_99_139, w_99_142, w_99_143, w_99_146, w_99_147, w_99_150, w_99_151, w_99_154, w_99_155, w_99_158, w_99_159, w_99_162, w_99_163, w_99_166, w_99_169, w_99_170, w_99_173, w_99_174, w_99_177, gf_22_10, gf_22_34, sf_22_32, sf_22_33, sf_22_37, sf_22_34, sf_22_35, sf_22_10_0, sf_22_30, sf_22_31]
  rw [if_neg h]
theorem f_run (ht : txR xi xa T z) (hv : ∀ v, v < 26 → xa 24 v = zI (vr v).1 ∧ xa 25 v = nI (vr v).2) (hn : ∀ v, v < 26 → nm (vr v).1 (vr v).2) (hs : xi 1412 = nI sc) (h4 : sc ≤ 4) (hH : HR (0, xa 26, xa 27, xa 28)) (hx : ∀ i, 22 ≤ i → xa i = xa0 i) (hR : RN T z vr sc (cl w) xa0 xl0 r) (hQ : ∀ xi' xa', RR0 (cl w) r.2 xi' xa' → FR xi xa xi' xa' → HR (0, xa' 26, xa' 27, xa' 28) → (r.1 = 100 → xi' 1442 = 0 → xi' 1443 = 0 → Q (.inl (some (.int (nI r.2.k)))) (mk xi' xa' xl j)) ∧ (r.1 ≠ 100 → xi' 1442 = nI r.1 → xi' 1443 = tn r.1 → Q (.inl (some (.int 0))) (mk xi' xa' xl j))) : dx_M (tb_Z L xs) (d + 8) 99 [.ref 22, .int w] (mk xi xa xl j) Q := by
  have hz := ht.2.1
  have hc : ∀ i, tA T z i < 256 := fun i => tR_lt ht
  have er0 := rR0_eq hx
  have e26 := hx 26 (by decide)
  have e27 := hx 27 (by decide)
  have e28 := hx 28 (by decide)
  have main : ∀ v, v = nI (cl w) → dx_W (tb_Z L xs) (d + 7) 99 23 [(0, .ref 22), (1, .int w)] [.int v, .ref 22] (mk xi xa xl j) Q := by
    intro v hv1
    subst hv1
    rw [w_99_23]
    simp only [wI_some, wJ_some, wR_ref, wR_con, wO_some, s1_eq, s2_eq, dl_nil, dl_cons, dm_nil, dm_cons, lk_cons, cat_int, cat_long, cat_ref, cat_con, args_nil, args_int, args_long, args_ref, args_con, ct_nil, ct_cons, Nat.reduceBEq, Nat.reduceAdd, Nat.reduceLeDiff, Nat.reduceEqDiff, Bool.not_true, Bool.not_false, Bool.and_true, Bool.and_false, Bool.true_and, Bool.false_and, cond_true, cond_false, Nat.zero_add, Nat.add_zero, reduceCtorEq, Nat.zero_le, ui_at, ua_at, ul_at, wK_v, wK_n, wK_t, true_and, and_true, nb0, nb1, not_false_eq_true, not_true_eq_false, ci_0, ci_1, ci_3, ci_5, ci_7, ci_12, ci_15, ci_16, ci_21, ci_22, w_99_0, w_99_1, w_99_2, w_99_5, w_99_6, w_99_9, w_99_10, w_99_13, w_99_16, w_99_19, w_99_22, w_99_26, w_99_27, w_99_28, w_99_31, w_99_32, w_99_33, w_99_36, w_99_37, w_99_38, w_99_41, w_99_42, w_99_43, w_99_46, w_99_47, w_99_48, w_99_51, w_99_52, w_99_55, w_99_56, w_99_59, w_99_62, w_99_63, w_99_66, w_99_67, w_99_70, w_99_73, w_99_74, w_99_75, w_99_78, w_99_79, w_99_80, w_99_83, w_99_84, w_99_85, w_99_86, w_99_87, w_99_90, w_99_91, w_99_92, w_99_95, w_99_96, w_99_97, w_99_98, w_99_99, w_99_100, w_99_103, w_99_106, w_99_107, w_99_110, w_99_111, w_99_112, w_99_115, w_99_116, w_99_119, w_99_122, w_99_123, w_99_126, w_99_129, w_99_130, w_99_131, w_99_134, w_99_135, w_99_138, w_99_139, w_99_142, w_99_143, w_99_146, w_99_147, w_99_150, w_99_151, w_99_154, w_99_155, w_99_158, w_99_159, w_99_162, w_99_163, w_99_166, w_99_169, w_99_170, w_99_173, w_99_174, w_99_177, gf_22_10, gf_22_34, sf_22_32, sf_22_33, sf_22_37, sf_22_34, sf_22_35, sf_22_10_0, sf_22_30, sf_22_31]
    have f0 : ∀ k, k < 1408 → ui (ui (ui (ui (ui (ui xi 1440 (nI (cl w))) 1441 0) 1445 0) 1442 0) 1443 0) 1418 0 k = xi k := fun k hk => by rw [uiN (by omega), uiN (by omega), uiN (by omega), uiN (by omega), uiN (by omega), uiN (by omega)]
    have r0 : RR0 (cl w) (amk 0 [] false [] vr sc 0 0 (fun _ => 0)) (ui (ui (ui (ui (ui (ui xi 1440 (nI (cl w))) 1441 0) 1445 0) 1442 0) 1443 0) 1418 0) xa := ⟨hv, hs, rfl, rfl, rfl, fun q hq => absurd hq (Nat.not_lt_zero _)⟩
    have ht' : txR (ui (ui (ui (ui (ui (ui xi 1440 (nI (cl w))) 1441 0) 1445 0) 1442 0) 1443 0) 1418 0) xa T z := ht
    generalize hX : ui (ui (ui (ui (ui (ui xi 1440 (nI (cl w))) 1441 0) 1445 0) 1442 0) 1443 0) 1418 0 = X at f0 r0 ht' ⊢
    have x09 : X 1409 = xi 1409 := by rw [← hX]; rfl
    have x42 : X 1442 = 0 := by rw [← hX]; rfl
    have x43 : X 1443 = 0 := by rw [← hX]; rfl
    have x18 : X 1418 = 0 := by rw [← hX]; rfl
    /- a faulty text -/
    have bad : ∀ (X' : Nat → Int32) (Y : Nat → Nat → Int32), r = (1, amk 0 [] false [] vr sc 0 0 (fun _ => 0)) → RR0 (cl w) (amk 0 [] false [] vr sc 0 0 (fun _ => 0)) X' Y → FR xi xa X' Y → HR (0, Y 26, Y 27, Y 28) → Q (.inl (some (.int 0))) (mk (ui (ui X' 1442 1) 1443 1) Y xl j) := by
      intro X' Y er q0 qf qh
      exact (hQ (ui (ui X' 1442 1) 1443 1) Y (by rw [er]; exact q0) ⟨fun k hk => by rw [uiN (by omega), uiN (by omega)]; exact qf.1 k hk, qf.2.1, qf.2.2.1, qf.2.2.2⟩ qh).2 (by rw [er]; show (1 : Nat) ≠ 100; decide) (by rw [er]; rfl) (by rw [er]; rfl)
    refine f_split (d := d + 4) ht' x18 hH ?_ ?_
    · intro hnone s' hs'
      rcases hR with ⟨_, er⟩ | ⟨q, S, R', hg, er⟩
      · show dx_W (tb_Z L xs) (d + 7) 99 55 [(0, .ref 22), (1, .int w)] [] (mk (ui (ui X 1416 (nI s'.1)) 1418 1) (ua (ua (ua xa 26 s'.2.1) 27 s'.2.2.1) 28 s'.2.2.2) xl j) Q
        simp only [wI_some, wJ_some, wR_ref, wR_con, wO_some, s1_eq, s2_eq, dl_nil, dl_cons, dm_nil, dm_cons, lk_cons, cat_int, cat_long, cat_ref, cat_con, args_nil, args_int, args_long, args_ref, args_con, ct_nil, ct_cons, Nat.reduceBEq, Nat.reduceAdd, Nat.reduceLeDiff, Nat.reduceEqDiff, Bool.not_true, Bool.not_false, Bool.and_true, Bool.and_false, Bool.true_and, Bool.false_and, cond_true, cond_false, Nat.zero_add, Nat.add_zero, reduceCtorEq, Nat.zero_le, ui_at, ua_at, ul_at, wK_v, wK_n, wK_t, true_and, and_true, nb0, nb1, not_false_eq_true, not_true_eq_false, ci_0, ci_1, ci_3, ci_5, ci_7, ci_12, ci_15, ci_16, ci_21, ci_22, w_99_0, w_99_1, w_99_2, w_99_5, w_99_6, w_99_9, w_99_10, w_99_13, w_99_16, w_99_19, w_99_22, w_99_23, w_99_26, w_99_27, w_99_28, w_99_31, w_99_32, w_99_33, w_99_36, w_99_37, w_99_38, w_99_41, w_99_42, w_99_43, w_99_46, w_99_47, w_99_48, w_99_51, w_99_52, w_99_55, w_99_56, w_99_59, w_99_62, w_99_63, w_99_67, w_99_70, w_99_73, w_99_74, w_99_75, w_99_78, w_99_79, w_99_80, w_99_83, w_99_84, w_99_85, w_99_86, w_99_87, w_99_90, w_99_91, w_99_92, w_99_95, w_99_96, w_99_97, w_99_98, w_99_99, w_99_100, w_99_103, w_99_106, w_99_107, w_99_110, w_99_111, w_99_112, w_99_115, w_99_116, w_99_119, w_99_122, w_99_123, w_99_126, w_99_129, w_99_130, w_99_131, w_99_134, w_99_135, w_99_138, w_99_139, w_99_142, w_99_143, w_99_146, w_99_147, w_99_150, w_99_151, w_99_154, w_99_155, w_99_158, w_99_159, w_99_162, w_99_163, w_99_166, w_99_169, w_99_170, w_99_173, w_99_174, w_99_177, gf_22_10]
        refine (f_bad (show (1 : Int32) ≠ 0 by decide)).mpr (bad _ _ er ⟨r0.1, r0.2.1, r0.2.2.1, r0.2.2.2.1, r0.2.2.2.2.1, fun q hq => absurd hq (Nat.not_lt_zero _)⟩ ⟨fun k hk => by rw [uiN (by omega), uiN (by omega)]; exact f0 k hk, fun i hi => by rw [uaN (by omega), uaN (by omega), uaN (by omega)], x09, rfl⟩ hs')
      · obtain ⟨_, ⟨r', e1, _⟩, _⟩ := hg
        rw [e26, e27, e28] at hnone
        rw [hnone] at e1
        cases e1
    · intro s' hs'
      have hh := hr_srl (z := z) hc 200 0 (0, xa 26, xa 27, xa 28) s' hH hs'
      have hh2 : HR (s'.1, upd (upd s'.2.1 s'.1 0) (s'.1 + 1) 0, s'.2.2.1, s'.2.2.2) := hr_0 hh
      rw [e26, e27, e28] at hs'
      show dx_W (tb_Z L xs) (d + 7) 99 55 [(0, .ref 22), (1, .int w)] [] (mk (ui (ui X 1416 (nI s'.1)) 1418 0) (ua (ua (ua xa 26 (upd (upd s'.2.1 s'.1 0) (s'.1 + 1) 0)) 27 s'.2.2.1) 28 s'.2.2.2) xl j) Q
      simp only [wI_some, wJ_some, wR_ref, wR_con, wO_some, s1_eq, s2_eq, dl_nil, dl_cons, dm_nil, dm_cons, lk_cons, cat_int, cat_long, cat_ref, cat_con, args_nil, args_int, args_long, args_ref, args_con, ct_nil, ct_cons, Nat.reduceBEq, Nat.reduceAdd, Nat.reduceLeDiff, Nat.reduceEqDiff, Bool.not_true, Bool.not_false, Bool.and_true, Bool.and_false, Bool.true_and, Bool.false_and, cond_true, cond_false, Nat.zero_add, Nat.add_zero, reduceCtorEq, Nat.zero_le, ui_at, ua_at, ul_at, wK_v, wK_n, wK_t, true_and, and_true, nb0, nb1, not_false_eq_true, not_true_eq_false, ci_0, ci_1, ci_3, ci_5, ci_7, ci_12, ci_15, ci_16, ci_21, ci_22, w_99_0, w_99_1, w_99_2, w_99_5, w_99_6, w_99_9, w_99_10, w_99_13, w_99_16, w_99_19, w_99_22, w_99_23, w_99_26, w_99_27, w_99_28, w_99_31, w_99_32, w_99_33, w_99_36, w_99_37, w_99_38, w_99_41, w_99_42, w_99_43, w_99_46, w_99_47, w_99_48, w_99_51, w_99_52, w_99_55, w_99_56, w_99_59, w_99_62, w_99_63, w_99_67, w_99_70, w_99_73, w_99_74, w_99_75, w_99_78, w_99_79, w_99_80, w_99_83, w_99_84, w_99_85, w_99_86, w_99_87, w_99_90, w_99_91, w_99_92, w_99_95, w_99_96, w_99_97, w_99_98, w_99_99, w_99_100, w_99_103, w_99_106, w_99_107, w_99_110, w_99_111, w_99_112, w_99_115, w_99_116, w_99_119, w_99_122, w_99_123, w_99_126, w_99_129, w_99_130, w_99_131, w_99_134, w_99_135, w_99_138, w_99_139, w_99_142, w_99_143, w_99_146, w_99_147, w_99_150, w_99_151, w_99_154, w_99_155, w_99_158, w_99_159, w_99_162, w_99_163, w_99_166, w_99_169, w_99_170, w_99_173, w_99_174, w_99_177, gf_22_10]
      have n18 : ∀ R' : RS, rqi (ui (ui X 1416 (nI s'.1)) 1418 0) (rEm 15 0 0 R') 1418 = R'.fa := fun R' => rfl
      have fr : ∀ R' : RS, FR xi xa (rqi (ui (ui X 1416 (nI s'.1)) 1418 0) (rEm 15 0 0 R')) (rqa (ua (ua (ua xa 26 (upd (upd s'.2.1 s'.1 0) (s'.1 + 1) 0)) 27 s'.2.2.1) 28 s'.2.2.2) (rEm 15 0 0 R')) := fun R' => ⟨fun k hk => by rw [rq_lo hk, uiN (by omega), uiN (by omega)]; exact f0 k hk, fun i hi => by rw [rq_la (by omega), uaN (by omega), uaN (by omega), uaN (by omega)], x09, rfl⟩
      have q0 : ∀ R' : RS, RR0 (cl w) (amk 0 [] false [] vr sc 0 0 (fun _ => 0)) (rqi (ui (ui X 1416 (nI s'.1)) 1418 0) (rEm 15 0 0 R')) (rqa (ua (ua (ua xa 26 (upd (upd s'.2.1 s'.1 0) (s'.1 + 1) 0)) 27 s'.2.2.1) 28 s'.2.2.2) (rEm 15 0 0 R')) := fun R' => ⟨r0.1, r0.2.1, r0.2.2.1, r0.2.2.2.1, r0.2.2.2.2.1, fun q hq => absurd hq (Nat.not_lt_zero _)⟩
      rcases hR with ⟨hb, er⟩ | ⟨q, S, R', hg, er⟩
      · obtain ⟨h200, G, S, ok⟩ := hb.2 s' hs'
        rw [← er0] at ok
        refine f_parse (d := d) (q := s'.1) (G := G) (r := .inl S) rfl rfl h200 (fun i _ h => hh2 i h) ok ?_ (fun S1 R1 e1 => (by cases e1))
        intro R' hf _ _
        show dx_W (tb_Z L xs) (d + 7) 99 66 [(0, .ref 22), (1, .int w)] [] (mk _ _ _ _) Q
        exact (f_bad (show rqi (ui (ui X 1416 (nI s'.1)) 1418 0) (rEm 15 0 0 R') 1418 ≠ 0 from hf)).mpr (bad _ _ er (q0 R') (fr R') hh2)
      · obtain ⟨_, ⟨r', e1, h200, ok⟩, hti⟩ := hg
        rw [hs'] at e1
        cases e1
        rw [← er0] at ok
        refine f_parse (d := d) (q := s'.1) (r := .inr S) rfl rfl h200 (fun i _ h => hh2 i h) ok (fun R1 _ _ e1 => (by obtain ⟨S1, e1⟩ := e1; cases e1)) ?_
        intro S1 R1 e1 e2 hf _
        cases e2
        show dx_W (tb_Z L xs) (d + 7) 99 66 [(0, .ref 22), (1, .int w)] [] (mk (rqi (ui (ui X 1416 (nI s'.1)) 1418 0) (rEm 15 0 0 R')) (rqa (ua (ua (ua xa 26 (upd (upd s'.2.1 s'.1 0) (s'.1 + 1) 0)) 27 s'.2.2.1) 28 s'.2.2.2) (rEm 15 0 0 R')) xl j) Q
        have q0' := q0 R'
        have fr' := fr R'
        have n18' := n18 R'
        have z42 : rqi (ui (ui X 1416 (nI s'.1)) 1418 0) (rEm 15 0 0 R') 1442 = 0 := x42
        have z43 : rqi (ui (ui X 1416 (nI s'.1)) 1418 0) (rEm 15 0 0 R') 1443 = 0 := x43
        have cr : CR (upd R'.o R'.n 15) (upd R'.x R'.n 0) (upd R'.y R'.n 0) R'.st R'.pa (rqa (ua (ua (ua xa 26 (upd (upd s'.2.1 s'.1 0) (s'.1 + 1) 0)) 27 s'.2.2.1) 28 s'.2.2.2) (rEm 15 0 0 R')) := ⟨rfl, rfl, rfl, rfl, rfl⟩
        have hh3 : HR (0, rqa (ua (ua (ua xa 26 (upd (upd s'.2.1 s'.1 0) (s'.1 + 1) 0)) 27 s'.2.2.1) 28 s'.2.2.2) (rEm 15 0 0 R') 26, rqa (ua (ua (ua xa 26 (upd (upd s'.2.1 s'.1 0) (s'.1 + 1) 0)) 27 s'.2.2.1) 28 s'.2.2.2) (rEm 15 0 0 R') 27, rqa (ua (ua (ua xa 26 (upd (upd s'.2.1 s'.1 0) (s'.1 + 1) 0)) 27 s'.2.2.1) 28 s'.2.2.2) (rEm 15 0 0 R') 28) := hh2
        generalize rqi (ui (ui X 1416 (nI s'.1)) 1418 0) (rEm 15 0 0 R') = X2 at q0' fr' n18' z42 z43 ⊢
        generalize rqa (ua (ua (ua xa 26 (upd (upd s'.2.1 s'.1 0) (s'.1 + 1) 0)) 27 s'.2.2.1) 28 s'.2.2.2) (rEm 15 0 0 R') = Y2 at q0' fr' cr hh3 ⊢
        rw [w_99_66]
        simp only [wI_some, wJ_some, wR_ref, wR_con, wO_some, s1_eq, s2_eq, dl_nil, dl_cons, dm_nil, dm_cons, lk_cons, cat_int, cat_long, cat_ref, cat_con, args_nil, args_int, args_long, args_ref, args_con, ct_nil, ct_cons, Nat.reduceBEq, Nat.reduceAdd, Nat.reduceLeDiff, Nat.reduceEqDiff, Bool.not_true, Bool.not_false, Bool.and_true, Bool.and_false, Bool.true_and, Bool.false_and, cond_true, cond_false, Nat.zero_add, Nat.add_zero, reduceCtorEq, Nat.zero_le, ui_at, ua_at, ul_at, wK_v, wK_n, wK_t, true_and, and_true, nb0, nb1, not_false_eq_true, not_true_eq_false, ci_0, ci_1, ci_3, ci_5, ci_7, ci_12, ci_15, ci_16, ci_21, ci_22, w_99_0, w_99_1, w_99_2, w_99_5, w_99_6, w_99_9, w_99_10, w_99_13, w_99_16, w_99_19, w_99_22, w_99_23, w_99_26, w_99_27, w_99_28, w_99_31, w_99_32, w_99_33, w_99_36, w_99_37, w_99_38, w_99_41, w_99_42, w_99_43, w_99_46, w_99_47, w_99_48, w_99_51, w_99_52, w_99_55, w_99_56, w_99_59, w_99_62, w_99_63, w_99_67, w_99_70, w_99_73, w_99_74, w_99_75, w_99_78, w_99_79, w_99_80, w_99_83, w_99_84, w_99_85, w_99_86, w_99_87, w_99_90, w_99_91, w_99_92, w_99_95, w_99_96, w_99_97, w_99_98, w_99_100, w_99_103, w_99_106, w_99_107, w_99_110, w_99_111, w_99_112, w_99_115, w_99_116, w_99_119, w_99_122, w_99_123, w_99_126, w_99_129, w_99_130, w_99_131, w_99_134, w_99_135, w_99_138, w_99_139, w_99_142, w_99_143, w_99_146, w_99_147, w_99_150, w_99_151, w_99_154, w_99_155, w_99_158, w_99_159, w_99_162, w_99_163, w_99_166, w_99_169, w_99_170, w_99_173, w_99_174, w_99_177, gf_22_10, gf_22_34, sf_22_32, sf_22_33, sf_22_37, sf_22_34, sf_22_35, sf_22_10_0, sf_22_30, sf_22_31]
        rw [if_pos (n18'.trans hf)]
        refine rr_loop (d := d + 2) (TI_CDX hti) (cl_r w).2 3603000 0 (amk 0 [] false [] vr sc 0 0 (fun _ => 0)) (ui (ui X2 1438 0) 1439 0) Y2 (AIv0 hn h4) ⟨q0'.1, q0'.2.1, q0'.2.2.1, q0'.2.2.2.1, q0'.2.2.2.2.1, fun q hq => absurd hq (Nat.not_lt_zero _)⟩ ⟨⟨0, rfl, rfl, fun y => absurd y (show (0 : Nat) ≠ 1000 by decide)⟩, ⟨0, rfl, rfl⟩⟩ cr z42 (pot0 (cl_r w).2) (by decide) ?_
        rw [← er]
        intro xi' xa' c0 cf
        have a := aI_ok (TI_CDX hti) 3603000 _ (AIv0 (fu := cl w) (ot := fun _ => 0) hn h4) (pot0 (cl_r w).2)
        rw [← er] at a
        have FR' : FR xi xa xi' xa' := ⟨fun k hk => by rw [cf.1 k (fun y => by simp only [RI, List.mem_cons, List.not_mem_nil, or_false] at y; omega), uiN (by omega), uiN (by omega)]; exact fr'.1 k hk, fun i hi => by rw [cf.2 i (fun y => by simp only [RA, List.mem_cons, List.not_mem_nil, or_false] at y; omega)]; exact fr'.2.1 i hi, (cf.1 1409 (by decide)).trans fr'.2.2.1, (cf.2 23 (by decide)).trans fr'.2.2.2⟩
        have HR' : HR (0, xa' 26, xa' 27, xa' 28) := by
          rw [cf.2 26 (by decide), cf.2 27 (by decide), cf.2 28 (by decide)]
          exact hh3
        refine ⟨fun h1 h2 => (hQ xi' xa' c0 FR' HR').1 h1 h2 ((cf.1 1443 (by decide)).trans z43), fun h1 h2 => ?_⟩
        refine (hQ (ui xi' 1443 (if r.1 = 2 ∨ r.1 = 3 ∨ r.1 = 5 then 2 else 3)) xa' c0 ⟨fun k hk => by rw [uiN (by omega)]; exact FR'.1 k hk, FR'.2.1, FR'.2.2.1, FR'.2.2.2⟩ HR').2 h1 h2 ?_
        unfold tn
        rw [if_neg (show ¬ r.1 = 1 by omega)]
        rfl
  rw [dx_M_in (Nat.le_of_ble_eq_true rfl)]
  simp only [wI_some, wJ_some, wR_ref, wR_con, wO_some, s1_eq, s2_eq, dl_nil, dl_cons, dm_nil, dm_cons, lk_cons, cat_int, cat_long, cat_ref, cat_con, args_nil, args_int, args_long, args_ref, args_con, ct_nil, ct_cons, Nat.reduceBEq, Nat.reduceAdd, Nat.reduceLeDiff, Nat.reduceEqDiff, Bool.not_true, Bool.not_false, Bool.and_true, Bool.and_false, Bool.true_and, Bool.false_and, cond_true, cond_false, Nat.zero_add, Nat.add_zero, reduceCtorEq, Nat.zero_le, ui_at, ua_at, ul_at, wK_v, wK_n, wK_t, true_and, and_true, nb0, nb1, not_false_eq_true, not_true_eq_false, ci_0, ci_1, ci_3, ci_5, ci_7, ci_12, ci_15, ci_16, ci_21, ci_22, w_99_0, w_99_1, w_99_2, w_99_5, w_99_6, w_99_9, w_99_10, w_99_13, w_99_16, w_99_19, w_99_22, w_99_26, w_99_27, w_99_28, w_99_31, w_99_32, w_99_33, w_99_36, w_99_37, w_99_38, w_99_41, w_99_42, w_99_43, w_99_46, w_99_47, w_99_48, w_99_51, w_99_52, w_99_55, w_99_56, w_99_59, w_99_62, w_99_63, w_99_66, w_99_67, w_99_70, w_99_73, w_99_74, w_99_75, w_99_78, w_99_79, w_99_80, w_99_83, w_99_84, w_99_85, w_99_86, w_99_87, w_99_90, w_99_91, w_99_92, w_99_95, w_99_96, w_99_97, w_99_98, w_99_99, w_99_100, w_99_103, w_99_106, w_99_107, w_99_110, w_99_111, w_99_112, w_99_115, w_99_116, w_99_119, w_99_122, w_99_123, w_99_126, w_99_129, w_99_130, w_99_131, w_99_134, w_99_135, w_99_138, w_99_139, w_99_142, w_99_143, w_99_146, w_99_147, w_99_150, w_99_151, w_99_154, w_99_155, w_99_158, w_99_159, w_99_162, w_99_163, w_99_166, w_99_169, w_99_170, w_99_173, w_99_174, w_99_177]
  have e := (cl_r w).1
  by_cases h0 : 0 ≤ w
  · rw [if_pos h0] at e ⊢
    by_cases h1 : w ≤ 2000
    · rw [if_pos h1] at e ⊢
      exact main _ e
    · rw [if_neg h1] at e ⊢
      exact main _ e
  · rw [if_neg h0] at e ⊢
    exact main _ e
end WG
