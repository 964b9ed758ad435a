/-! The reference's parser on its rows: the small methods. -/
def rqi (xi : Nat → Int32) (R : RS) : Nat → Int32 := fun i => if i = 1417 then nI R.at else if i = 1422 then nI R.n else if i = 1428 then nI R.pc else if i = 1429 then R.dp else if i = 1418 then R.fa else if i = 1430 then R.w else xi i
def rqa (xa : Nat → Nat → Int32) (R : RS) : Nat → Nat → Int32 := fun i => if i = 29 then R.o else if i = 30 then R.x else if i = 31 then R.y else if i = 32 then R.st else if i = 33 then R.pa else if i = 34 then R.pw else if i = 35 then R.px else if i = 36 then R.py else xa i
def rq (xi : Nat → Int32) (xa : Nat → Nat → Int32) (xl : Nat → Nat → Int64) (j : dx_S) (R : RS) : dx_S := mk (rqi xi R) (rqa xa R) xl j
def rS1 (i : Nat) (v : Int32) (R : RS) : RS := (R.at, R.n, R.pc, R.dp, R.fa, R.w, R.o, R.x, R.y, upd R.st i v, R.pa, R.pw, R.px, R.py)
def rP1 (i : Nat) (v : Int32) (R : RS) : RS := (R.at, R.n, R.pc, R.dp, R.fa, R.w, R.o, R.x, R.y, R.st, upd R.pa i v, R.pw, R.px, R.py)
section RT
variable {L : Nat} {xs : Nat → Int32} {d : Nat} {σ : dx_S} {Q : dx_O → dx_S → Prop} {xi : Nat → Int32} {xa : Nat → Nat → Int32} {xl : Nat → Nat → Int64} {j : dx_S} {R : RS} {s t p c k v n i q : Nat}
theorem qi_at : ui (rqi xi R) 1417 (nI v) = rqi xi (rAt v R) := by
  funext i
  by_cases h : i = 1417
  · subst h
    rfl
  · have e : ui (rqi xi R) 1417 (nI v) i = rqi xi R i := if_neg h
    rw [e]
    unfold rqi
    simp only [if_neg h]
    rfl
theorem qi_pc : ui (rqi xi R) 1428 (nI v) = rqi xi (rPc v R) := by
  funext i
  by_cases h : i = 1428
  · subst h
    rfl
  · have e : ui (rqi xi R) 1428 (nI v) i = rqi xi R i := if_neg h
    rw [e]
    unfold rqi
    simp only [if_neg h]
    rfl
theorem qi_dp {x : Int32} : ui (rqi xi R) 1429 x = rqi xi (rDp x R) := by
  funext i
  by_cases h : i = 1429
  · subst h
    rfl
  · have e : ui (rqi xi R) 1429 x i = rqi xi R i := if_neg h
    rw [e]
    unfold rqi
    simp only [if_neg h]
    rfl
theorem qi_fa : ui (rqi xi R) 1418 1 = rqi xi (rFa R) := by
  funext i
  by_cases h : i = 1418
  · subst h
    rfl
  · have e : ui (rqi xi R) 1418 1 i = rqi xi R i := if_neg h
    rw [e]
    unfold rqi
    simp only [if_neg h]
    rfl
theorem qi_w {x : Int32} : ui (rqi xi R) 1430 x = rqi xi (rWi x R) := by
  funext i
  by_cases h : i = 1430
  · subst h
    rfl
  · have e : ui (rqi xi R) 1430 x i = rqi xi R i := if_neg h
    rw [e]
    unfold rqi
    simp only [if_neg h]
    rfl
theorem qa_st {x : Int32} : ua (rqa xa R) 32 (upd R.st k x) = rqa xa (rS1 k x R) := by
  funext i
  by_cases h : i = 32
  · subst h
    rfl
  · have e : ua (rqa xa R) 32 (upd R.st k x) i = rqa xa R i := if_neg h
    rw [e]
    unfold rqa
    simp only [if_neg h]
    rfl
theorem qa_pa {x : Int32} : ua (rqa xa R) 33 (upd R.pa k x) = rqa xa (rP1 k x R) := by
  funext i
  by_cases h : i = 33
  · subst h
    rfl
  · have e : ua (rqa xa R) 33 (upd R.pa k x) i = rqa xa R i := if_neg h
    rw [e]
    unfold rqa
    simp only [if_neg h]
    rfl
theorem qa_sx : ua (rqa xa R) 30 (upd R.x k (nI R.n)) = rqa xa (rSx k R) := by
  funext i
  by_cases h : i = 30
  · subst h
    rfl
  · have e : ua (rqa xa R) 30 (upd R.x k (nI R.n)) i = rqa xa R i := if_neg h
    rw [e]
    unfold rqa
    simp only [if_neg h]
    rfl
theorem qp_i {a b c' : Int32} : ui (rqi xi R) 1428 (nI (R.pc + 1)) = rqi xi (rPu a b c' R) := by
  funext i
  by_cases h : i = 1428
  · subst h
    rfl
  · have e : ui (rqi xi R) 1428 (nI (R.pc + 1)) i = rqi xi R i := if_neg h
    rw [e]
    unfold rqi
    simp only [if_neg h]
    rfl
theorem qp_a {a b c' : Int32} : ua (ua (ua (rqa xa R) 34 (upd R.pw R.pc a)) 35 (upd R.px R.pc b)) 36 (upd R.py R.pc c') = rqa xa (rPu a b c' R) := by
  funext i
  by_cases h3 : i = 36
  · subst h3
    rfl
  by_cases h2 : i = 35
  · subst h2
    rfl
  by_cases h1 : i = 34
  · subst h1
    rfl
  have e : (ua (ua (ua (rqa xa R) 34 (upd R.pw R.pc a)) 35 (upd R.px R.pc b)) 36 (upd R.py R.pc c')) i = rqa xa R i := ((if_neg h3).trans (if_neg h2)).trans (if_neg h1)
  rw [e]
  unfold rqa
  simp only [if_neg h1, if_neg h2, if_neg h3]
  rfl
theorem qe_i {a b c' : Int32} : ui (rqi xi R) 1422 (nI (R.n + 1)) = rqi xi (rEm a b c' R) := by
  funext i
  by_cases h : i = 1422
  · subst h
    rfl
  · have e : ui (rqi xi R) 1422 (nI (R.n + 1)) i = rqi xi R i := if_neg h
    rw [e]
    unfold rqi
    simp only [if_neg h]
    rfl
theorem qe_a {a b c' : Int32} : ua (ua (ua (rqa xa R) 29 (upd R.o R.n a)) 30 (upd R.x R.n b)) 31 (upd R.y R.n c') = rqa xa (rEm a b c' R) := by
  funext i
  by_cases h3 : i = 31
  · subst h3
    rfl
  by_cases h2 : i = 30
  · subst h2
    rfl
  by_cases h1 : i = 29
  · subst h1
    rfl
  have e : (ua (ua (ua (rqa xa R) 29 (upd R.o R.n a)) 30 (upd R.x R.n b)) 31 (upd R.y R.n c')) i = rqa xa R i := ((if_neg h3).trans (if_neg h2)).trans (if_neg h1)
  rw [e]
  unfold rqa
  simp only [if_neg h1, if_neg h2, if_neg h3]
  rfl
theorem q_ci : dx_ci (tb_K L xs) (rq xi xa xl j R) (.ref 22) = some 9 := rfl
theorem q_g5 : dx_gf (tb_K L xs) (rq xi xa xl j R) (.ref 22) 9 5 = some (.ref 26) := rfl
theorem q_g6 : dx_gf (tb_K L xs) (rq xi xa xl j R) (.ref 22) 9 6 = some (.ref 27) := rfl
theorem q_g7 : dx_gf (tb_K L xs) (rq xi xa xl j R) (.ref 22) 9 7 = some (.ref 28) := rfl
theorem q_g12 : dx_gf (tb_K L xs) (rq xi xa xl j R) (.ref 22) 9 12 = some (.ref 30) := rfl
theorem q_g15 : dx_gf (tb_K L xs) (rq xi xa xl j R) (.ref 22) 9 15 = some (.ref 32) := rfl
theorem q_g16 : dx_gf (tb_K L xs) (rq xi xa xl j R) (.ref 22) 9 16 = some (.ref 33) := rfl
theorem q_g17 : dx_gf (tb_K L xs) (rq xi xa xl j R) (.ref 22) 9 17 = some (.ref 34) := rfl
theorem q_g18 : dx_gf (tb_K L xs) (rq xi xa xl j R) (.ref 22) 9 18 = some (.ref 35) := rfl
theorem q_g19 : dx_gf (tb_K L xs) (rq xi xa xl j R) (.ref 22) 9 19 = some (.ref 36) := rfl
theorem q_g9 : dx_gf (tb_K L xs) (rq xi xa xl j R) (.ref 22) 9 9 = some (.int (nI R.at)) := rfl
theorem q_g10 : dx_gf (tb_K L xs) (rq xi xa xl j R) (.ref 22) 9 10 = some (.int (R.fa)) := rfl
theorem q_g14 : dx_gf (tb_K L xs) (rq xi xa xl j R) (.ref 22) 9 14 = some (.int (nI R.n)) := rfl
theorem q_g20 : dx_gf (tb_K L xs) (rq xi xa xl j R) (.ref 22) 9 20 = some (.int (nI R.pc)) := rfl
theorem q_g21 : dx_gf (tb_K L xs) (rq xi xa xl j R) (.ref 22) 9 21 = some (.int (R.dp)) := rfl
theorem q_g22 : dx_gf (tb_K L xs) (rq xi xa xl j R) (.ref 22) 9 22 = some (.int (R.w)) := rfl
theorem q_g8 : dx_gf (tb_K L xs) (rq xi xa xl j R) (.ref 22) 9 8 = some (.int (xi 1416)) := rfl
theorem q_a26 (h : i < 210) : dx_ei (tb_K L xs) (rq xi xa xl j R) 0 (.ref 26) (nI i) = some (xa 26 i) := by
  unfold rq
  rw [ga_26 (vp_in_nI h (by decide)), nI_clamp (by omega)]
  rfl
theorem q_a27 (h : i < 210) : dx_ei (tb_K L xs) (rq xi xa xl j R) 0 (.ref 27) (nI i) = some (xa 27 i) := by
  unfold rq
  rw [ga_27 (vp_in_nI h (by decide)), nI_clamp (by omega)]
  rfl
theorem q_a28 (h : i < 210) : dx_ei (tb_K L xs) (rq xi xa xl j R) 0 (.ref 28) (nI i) = some (xa 28 i) := by
  unfold rq
  rw [ga_28 (vp_in_nI h (by decide)), nI_clamp (by omega)]
  rfl
theorem q_a34 (h : i < 600) : dx_ei (tb_K L xs) (rq xi xa xl j R) 0 (.ref 34) (nI i) = some (R.pw i) := by
  unfold rq
  rw [ga_34 (vp_in_nI h (by decide)), nI_clamp (by omega)]
  rfl
theorem q_a35 (h : i < 600) : dx_ei (tb_K L xs) (rq xi xa xl j R) 0 (.ref 35) (nI i) = some (R.px i) := by
  unfold rq
  rw [ga_35 (vp_in_nI h (by decide)), nI_clamp (by omega)]
  rfl
theorem q_a36 (h : i < 600) : dx_ei (tb_K L xs) (rq xi xa xl j R) 0 (.ref 36) (nI i) = some (R.py i) := by
  unfold rq
  rw [ga_36 (vp_in_nI h (by decide)), nI_clamp (by omega)]
  rfl
theorem q_a32 (h : i < 26) : dx_ei (tb_K L xs) (rq xi xa xl j R) 0 (.ref 32) (nI i) = some (R.st i) := by
  unfold rq
  rw [ga_32 (vp_in_nI h (by decide)), nI_clamp (by omega)]
  rfl
theorem q_s9 : dx_pf (rq xi xa xl j R) (.ref 22) 9 9 0 (.int (nI v)) = some (rq xi xa xl j (rAt v R)) := by
  unfold rq
  rw [sf_22_9, qi_at]
  rfl
theorem q_s20 : dx_pf (rq xi xa xl j R) (.ref 22) 9 20 0 (.int (nI v)) = some (rq xi xa xl j (rPc v R)) := by
  unfold rq
  rw [sf_22_20, qi_pc]
  rfl
theorem q_s21 {x : Int32} : dx_pf (rq xi xa xl j R) (.ref 22) 9 21 0 (.int x) = some (rq xi xa xl j (rDp x R)) := by
  unfold rq
  rw [sf_22_21, qi_dp]
  rfl
theorem q_s10 : dx_pf (rq xi xa xl j R) (.ref 22) 9 10 2 (.int 1) = some (rq xi xa xl j (rFa R)) := by
  unfold rq
  rw [sf_22_10_1, qi_fa]
  rfl
theorem q_s22_1 : dx_pf (rq xi xa xl j R) (.ref 22) 9 22 2 (.int 1) = some (rq xi xa xl j (rWi 1 R)) := by
  unfold rq
  rw [sf_22_22_1, qi_w]
  rfl
theorem q_s22_0 : dx_pf (rq xi xa xl j R) (.ref 22) 9 22 2 (.int 0) = some (rq xi xa xl j (rWi 0 R)) := by
  unfold rq
  rw [sf_22_22_0, qi_w]
  rfl
theorem q_p32 {x : Int32} (h : k < 26) : dx_pi (rq xi xa xl j R) 0 (.ref 32) (nI k) x = some (rq xi xa xl j (rS1 k x R)) := by
  unfold rq
  rw [sa_32 (vp_in_nI h (by decide)), nI_clamp (by omega), show rqa xa R 32 = R.st from rfl, qa_st]
  rfl
theorem q_p33 {x : Int32} (h : k < 26) : dx_pi (rq xi xa xl j R) 0 (.ref 33) (nI k) x = some (rq xi xa xl j (rP1 k x R)) := by
  unfold rq
  rw [sa_33 (vp_in_nI h (by decide)), nI_clamp (by omega), show rqa xa R 33 = R.pa from rfl, qa_pa]
  rfl
theorem q_p30 (h : k < 1200) : dx_pi (rq xi xa xl j R) 0 (.ref 30) (nI k) (nI R.n) = some (rq xi xa xl j (rSx k R)) := by
  unfold rq
  rw [sa_30 (vp_in_nI h (by decide)), nI_clamp (by omega), show rqa xa R 30 = R.x from rfl, qa_sx]
  rfl
theorem q_push {a b c' : Int32} (h : R.pc < 600) : dx_M (tb_Z L xs) (d + 1) 109 [.ref 22, .int a, .int b, .int c'] (rq xi xa xl j R) Q ↔ Q (.inl none) (rq xi xa xl j (rPu a b c' R)) := by
  unfold rq
  rw [f_push (s := R.pc) rfl h, qp_i (a := a) (b := b) (c' := c'), show rqa xa R 34 = R.pw from rfl, show rqa xa R 35 = R.px from rfl, show rqa xa R 36 = R.py from rfl, qp_a]
theorem q_emit {a b c' : Int32} (h : R.n < 1200) : dx_M (tb_Z L xs) (d + 1) 114 [.ref 22, .int a, .int b, .int c'] (rq xi xa xl j R) Q ↔ Q (.inl none) (rq xi xa xl j (rEm a b c' R)) := by
  unfold rq
  rw [f_emit (s := R.n) rfl h, qe_i (a := a) (b := b) (c' := c'), show rqa xa R 29 = R.o from rfl, show rqa xa R 30 = R.x from rfl, show rqa xa R 31 = R.y from rfl, qe_a]
theorem q_accept {k : Int32} (h : R.at < 210) : dx_M (tb_Z L xs) (d + 1) 112 [.ref 22, .int k] (rq xi xa xl j R) Q ↔ (if xa 26 R.at = k then Q (.inl (some (.int 1))) (rq xi xa xl j (rAt (R.at + 1) R)) else Q (.inl (some (.int 0))) (rq xi xa xl j R)) := by
  unfold rq
  rw [f_accept (s := R.at) rfl h, qi_at, show rqa xa R 26 = xa 26 from rfl]
  rfl
theorem q_expect {k : Int32} (h : R.at < 210) : dx_M (tb_Z L xs) (d + 2) 115 [.ref 22, .int k] (rq xi xa xl j R) Q ↔ Q (.inl none) (rq xi xa xl j (rXp (xa 26) k R)) := by
  unfold rq
  rw [f_expect (s := R.at) rfl h, qi_at, qi_fa, show rqa xa R 26 = xa 26 from rfl]
  unfold rXp
  split <;> rfl
theorem q_deep : dx_M (tb_Z L xs) (d + 1) 113 [.ref 22] (rq xi xa xl j R) Q ↔ Q (.inl none) (rq xi xa xl j (rDd R)) := by
  rw [dx_M_in (Nat.le_of_ble_eq_true rfl)]
  simp only [wI_some, wJ_some, wR_ref, wR_con, wO_some, s1_eq, s2_eq, dl_nil, dl_cons, dm_nil, dm_cons, lk_cons, cat_int, cat_long, cat_ref, cat_con, args_nil, args_int, args_long, args_ref, args_con, ct_nil, ct_cons, Nat.reduceBEq, Nat.reduceAdd, Nat.reduceLeDiff, Nat.reduceEqDiff, Bool.not_true, Bool.not_false, Bool.and_true, Bool.and_false, Bool.true_and, Bool.false_and, cond_true, cond_false, Nat.zero_add, Nat.add_zero, reduceCtorEq, Nat.zero_le, ui_at, ua_at, ul_at, wK_v, wK_n, wK_t, true_and, and_true, nb0, nb1, not_false_eq_true, not_true_eq_false, ci_0, ci_1, ci_3, ci_5, ci_7, ci_12, ci_15, ci_16, ci_21, ci_22, w_113_0, w_113_1_int, w_113_1_ref, w_113_1_retAddr, w_113_2, w_113_5, w_113_6, w_113_7, w_113_10, w_113_11, w_113_14, w_113_16, w_113_19, w_113_20, w_113_21, w_113_24, q_ci, q_g21, q_s21, q_s10, F_rDp_dp]
  unfold rDd
  by_cases h : 6 < R.dp + 1
  · rw [if_neg (Int32.not_le.mpr h), if_pos h]
  · rw [if_pos (Int32.not_lt.mp h), if_neg h]
end RT
