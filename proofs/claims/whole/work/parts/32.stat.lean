/-! The class's parser as a function: statements. -/
abbrev isRl (k : Int32) : Prop := k = 60 ∨ k = 62 ∨ (263 ≤ k ∧ k ≤ 266)
def lnd (t : Nat) (S : PS) : PS := if t < S.n then pmk S.p S.n S.f (vp_updL S.g t (zL S.n)) S.e S.a S.w S.hp S.hn else S
section PV
variable (tk : Nat → Int32) (tv : Nat → Int64) (q : Nat)
def fol (S : PS) : Int32 := if S.p < q then tk (S.p + 1) else 0
def pSk : Nat → PS → PS
  | 0, S => S
  | n + 1, S => if tk S.p = 59 then pSk n (adv q S) else S
def pCd (E : PS → PR) (S : PS) : PR := pB (E S) fun S1 => if isRl (tk S1.p) then pB (E (adv q S1)) fun S2 => .inr (emt (tk S1.p) 0 S2) else .inl S1
def pGv (E : PS → PR) (S : PS) : PR := if S.w = 0 then .inl S else pB (E (adv q S)) fun S1 => .inr (emt 309 0 S1)
def pAs (E : PS → PR) (S : PS) : PR := pB (pX tk q 61 (adv q S)) fun S1 => pB (E S1) fun S2 => .inr (emt (if tk S.p = 257 then 303 else 305) (tv S.p) S2)
def pBr (I : PS → PR) (S : PS) : PR := pB (pX tk q 123 S) fun S1 => pB (I S1) fun S2 => pX tk q 125 S2
def pIf (E T : PS → PR) (S : PS) : PR := pB (pX tk q 40 (adv q S)) fun S2 => pB (pCd tk q E S2) fun S3 => pB (pX tk q 41 S3) fun S4 => pB (T (emt 311 0 S4)) fun S6 => .inr (lnd ((emt 311 0 S4).n - 1) (if tk S.p = 259 then emt 310 (zL (adv q S).n) (emt 300 0 S6) else S6))
def pSt (E E' T I : PS → PR) (S : PS) : PR :=
  if tk S.p = 123 then pBr tk q I S
  else if tk S.p = 258 ∨ tk S.p = 259 then pIf tk q E' T (emt 300 0 S)
  else if tk S.p = 261 then pGv q E (emt 300 0 S)
  else if (tk S.p = 257 ∨ tk S.p = 262) ∧ fol tk q S = 61 then pAs tk tv q E (emt 300 0 S)
  else pB (E (emt 300 0 S)) fun S1 => .inr (emt 307 0 S1)
def pPt (cl : Int32) (df st : PS → PR) (S : PS) : PR := if cl = 0 ∧ tk S.p = 260 then df S else st S
def pLp (cl : Int32) (P : PS → PR) : Nat → PS → PR
  | 0, S => .inr S
  | n + 1, S => if tk S.p = cl then .inr S else pB (P S) fun S1 => pB (if tk S1.p = cl then .inr S1 else pX tk q 59 S1) fun S2 => pLp cl P n (pSk tk q 200 S2)
def pLi (cl : Int32) (P : PS → PR) (S : PS) : PR := pLp tk q cl P 200 (pSk tk q 200 S)
end PV
section PW
variable {L : Nat} {xs : Nat → Int32} {d : Nat} {σ : dx_S} {Q : dx_O → dx_S → Prop} {xi : Nat → Int32} {xa : Nat → Nat → Int32} {xl : Nat → Nat → Int64} {j : dx_S} {S : PS} {s t p c q k : Nat}
theorem emt_p {o : Int32} {v : Int64} : (emt o v S).p = S.p := by
  unfold emt
  split <;> rfl
theorem emt_w {o : Int32} {v : Int64} : (emt o v S).w = S.w := by
  unfold emt
  split <;> rfl
theorem p_follow (hc : xi 772 = nI q) (hq : q ≤ 200) : dx_M (tb_Z L xs) (d + 1) 69 [.ref 15] (ps xi xa xl j S) Q ↔ Q (.inl (some (.int (fol (xa 13) q S)))) (ps xi xa xl j S) := by
  have h := S.hp
  rw [dx_M_in (Nat.le_of_ble_eq_true rfl)]
  simp only [wI_some, wJ_some, wR_ref, wR_con, wO_some, s1_eq, s2_eq, dl_nil, dl_cons, dm_nil, dm_cons, lk_cons, cat_int, cat_long, cat_ref, cat_con, args_nil, args_int, args_long, args_ref, args_con, ct_nil, ct_cons, Nat.reduceBEq, Nat.reduceAdd, Nat.reduceLeDiff, Nat.reduceEqDiff, Bool.not_true, Bool.not_false, Bool.and_true, Bool.and_false, Bool.true_and, Bool.false_and, cond_true, cond_false, Nat.zero_add, Nat.add_zero, reduceCtorEq, Nat.zero_le, ui_at, ua_at, ul_at, wK_v, wK_n, wK_t, true_and, and_true, nb0, nb1, not_false_eq_true, not_true_eq_false, ci_0, ci_1, ci_3, ci_5, ci_7, ci_12, ci_15, ci_16, ci_21, ci_22, w_69_0, w_69_1, w_69_4, w_69_5, w_69_8, w_69_11, w_69_14, w_69_15, w_69_18, w_69_21, w_69_22, w_69_25, w_69_26, w_69_28, w_69_31, w_69_32, p_g150, p_g153, p_g124, p_g122, hc, nI_1]
  unfold fol
  by_cases h1 : S.p < q
  · have e : dx_ei (tb_K L xs) (ps xi xa xl j S) 0 (.ref 13) (nI (S.p + 1)) = some (xa 13 (S.p + 1)) := by
      have e := ga_13 (K := tb_K L xs) (xi := ui (ui (ui xi 963 (nI S.p)) 452 (nI S.n)) 964 S.w) (xa := ua (ua (ua xa 8 S.f) 10 S.e) 11 S.a) (xl := ul xl 9 S.g) (j := j) (vp_in_nI (n := S.p + 1) (N := 201) (by omega) (by decide))
      rw [nI_clamp (by omega)] at e
      exact e
    rw [if_neg (nI_ge h1 (by omega)), if_pos h1]
    simp only [w_69_27, e, wO_some, w_69_28, w_69_32]
  · rw [if_pos (nI_le (show q ≤ S.p by omega) (by omega)), if_neg h1]
theorem l_skip (hc : xi 772 = nI q) (hq : q ≤ 200) : ∀ n i, n + i = 200 → ∀ S, (dx_W (tb_Z L xs) (d + 1) 48 2 [(1, .int (nI i)), (0, .ref 15)] [] (ps xi xa xl j S) Q ↔ Q (.inl none) (ps xi xa xl j (pSk (xa 13) q n S))) := by
  intro n
  induction n with
  | zero =>
    intro i hi S
    rw [w_48_2]
    simp only [wI_some, wJ_some, wR_ref, wR_con, wO_some, s1_eq, s2_eq, dl_nil, dl_cons, dm_nil, dm_cons, lk_cons, cat_int, cat_long, cat_ref, cat_con, args_nil, args_int, args_long, args_ref, args_con, ct_nil, ct_cons, Nat.reduceBEq, Nat.reduceAdd, Nat.reduceLeDiff, Nat.reduceEqDiff, Bool.not_true, Bool.not_false, Bool.and_true, Bool.and_false, Bool.true_and, Bool.false_and, cond_true, cond_false, Nat.zero_add, Nat.add_zero, reduceCtorEq, Nat.zero_le, ui_at, ua_at, ul_at, wK_v, wK_n, wK_t, true_and, and_true, nb0, nb1, not_false_eq_true, not_true_eq_false, ci_0, ci_1, ci_3, ci_5, ci_7, ci_12, ci_15, ci_16, ci_21, ci_22, w_48_0, w_48_1, w_48_3, w_48_6, w_48_9, w_48_10, w_48_13, w_48_15, w_48_18, w_48_19, w_48_22, w_48_25, w_48_28, p_ci15, p_ci7, p_ci5, p_kind, p_adv hc hq, p_g150, p_g151, p_g152, p_g153, p_g123, p_g74, p_ga14, p_emit, p_raise, p_expect hc hq]
    rw [if_pos (show (200 : Int32) ≤ nI i from nI_le (a := 200) (by omega) (by omega))]
    exact Iff.rfl
  | succ n ih =>
    intro i hi S
    rw [w_48_2]
    simp only [wI_some, wJ_some, wR_ref, wR_con, wO_some, s1_eq, s2_eq, dl_nil, dl_cons, dm_nil, dm_cons, lk_cons, cat_int, cat_long, cat_ref, cat_con, args_nil, args_int, args_long, args_ref, args_con, ct_nil, ct_cons, Nat.reduceBEq, Nat.reduceAdd, Nat.reduceLeDiff, Nat.reduceEqDiff, Bool.not_true, Bool.not_false, Bool.and_true, Bool.and_false, Bool.true_and, Bool.false_and, cond_true, cond_false, Nat.zero_add, Nat.add_zero, reduceCtorEq, Nat.zero_le, ui_at, ua_at, ul_at, wK_v, wK_n, wK_t, true_and, and_true, nb0, nb1, not_false_eq_true, not_true_eq_false, ci_0, ci_1, ci_3, ci_5, ci_7, ci_12, ci_15, ci_16, ci_21, ci_22, w_48_0, w_48_1, w_48_3, w_48_6, w_48_9, w_48_10, w_48_13, w_48_15, w_48_18, w_48_19, w_48_22, w_48_25, w_48_28, p_ci15, p_ci7, p_ci5, p_kind, p_adv hc hq, p_g150, p_g151, p_g152, p_g153, p_g123, p_g74, p_ga14, p_emit, p_raise, p_expect hc hq, nI_1]
    rw [if_neg (show ¬ (200 : Int32) ≤ nI i from nI_ge (b := 200) (by omega) (by decide))]
    unfold pSk
    by_cases h : xa 13 S.p = 59
    · rw [if_neg (fun z : ¬ xa 13 S.p = 59 => z h), if_pos h]
      exact ih (i + 1) (by omega) _
    · rw [if_pos h, if_neg h]
theorem p_skip (hc : xi 772 = nI q) (hq : q ≤ 200) : dx_M (tb_Z L xs) (d + 2) 48 [.ref 15] (ps xi xa xl j S) Q ↔ Q (.inl none) (ps xi xa xl j (pSk (xa 13) q 200 S)) := by
  rw [dx_M_in (Nat.le_of_ble_eq_true rfl)]
  simp only [wI_some, wJ_some, wR_ref, wR_con, wO_some, s1_eq, s2_eq, dl_nil, dl_cons, dm_nil, dm_cons, lk_cons, cat_int, cat_long, cat_ref, cat_con, args_nil, args_int, args_long, args_ref, args_con, ct_nil, ct_cons, Nat.reduceBEq, Nat.reduceAdd, Nat.reduceLeDiff, Nat.reduceEqDiff, Bool.not_true, Bool.not_false, Bool.and_true, Bool.and_false, Bool.true_and, Bool.false_and, cond_true, cond_false, Nat.zero_add, Nat.add_zero, reduceCtorEq, Nat.zero_le, ui_at, ua_at, ul_at, wK_v, wK_n, wK_t, true_and, and_true, nb0, nb1, not_false_eq_true, not_true_eq_false, ci_0, ci_1, ci_3, ci_5, ci_7, ci_12, ci_15, ci_16, ci_21, ci_22, w_48_0, w_48_1, w_48_3, w_48_6, w_48_9, w_48_10, w_48_13, w_48_15, w_48_18, w_48_19, w_48_22, w_48_25, w_48_28, p_ci15, p_ci7, p_ci5, p_kind, p_adv hc hq, p_g150, p_g151, p_g152, p_g153, p_g123, p_g74, p_ga14, p_emit, p_raise, p_expect hc hq]
  exact l_skip hc hq 200 0 rfl S
theorem rl_n {x : Int32} : ¬ (if x = 60 then 1 else if x = 62 then 1 else if x < 263 then 0 else if 266 < x then 0 else (1 : Int32)) = 0 ↔ isRl x := by
  unfold isRl
  by_cases h1 : x = 60
  · rw [if_pos h1]
    exact ⟨fun _ => Or.inl h1, fun _ => by decide⟩
  rw [if_neg h1]
  by_cases h2 : x = 62
  · rw [if_pos h2]
    exact ⟨fun _ => Or.inr (Or.inl h2), fun _ => by decide⟩
  rw [if_neg h2]
  by_cases h3 : x < 263
  · rw [if_pos h3]
    exact ⟨fun z => absurd rfl z, fun z => by rcases z with z | z | z; exact absurd z h1; exact absurd z h2; exact absurd h3 (Int32.not_lt.mpr z.1)⟩
  rw [if_neg h3]
  by_cases h4 : 266 < x
  · rw [if_pos h4]
    exact ⟨fun z => absurd rfl z, fun z => by rcases z with z | z | z; exact absurd z h1; exact absurd z h2; exact absurd h4 (Int32.not_lt.mpr z.2)⟩
  · rw [if_neg h4]
    exact ⟨fun _ => Or.inr (Or.inr ⟨Int32.not_lt.mp h3, Int32.not_lt.mp h4⟩), fun _ => by decide⟩
theorem p_land (ht : t ≤ 600) : dx_M (tb_Z L xs) (d + 1) 31 [.ref 7, .int (nI t)] (ps xi xa xl j S) Q ↔ Q (.inl none) (ps xi xa xl j (lnd t S)) := by
  have h := S.hn
  unfold lnd
  by_cases h1 : t < S.n
  · rw [if_pos h1]
    unfold ps
    rw [e_land (c := S.n) rfl S.hn h1, ul_ul]
    exact Iff.rfl
  · rw [if_neg h1]
    unfold ps
    rw [dx_M_in (Nat.le_of_ble_eq_true rfl)]
    simp only [wI_some, wJ_some, wR_ref, wR_con, wO_some, s1_eq, s2_eq, dl_nil, dl_cons, dm_nil, dm_cons, lk_cons, cat_int, cat_long, cat_ref, cat_con, args_nil, args_int, args_long, args_ref, args_con, ct_nil, ct_cons, Nat.reduceBEq, Nat.reduceAdd, Nat.reduceLeDiff, Nat.reduceEqDiff, Bool.not_true, Bool.not_false, Bool.and_true, Bool.and_false, Bool.true_and, Bool.false_and, cond_true, cond_false, Nat.zero_add, Nat.add_zero, reduceCtorEq, Nat.zero_le, ui_at, ua_at, ul_at, wK_v, wK_n, wK_t, true_and, and_true, nb0, nb1, not_false_eq_true, not_true_eq_false, ci_0, ci_1, ci_3, ci_5, ci_7, ci_12, ci_15, ci_16, ci_21, ci_22, w_31_0, w_31_1, w_31_4, w_31_5, w_31_6, w_31_9, w_31_12, w_31_13, w_31_16, w_31_17, w_31_18, w_31_21, w_31_22, w_31_23, gf_7_4]
    rw [if_neg (nI_pos (by omega)), if_pos (nI_le (show S.n ≤ t by omega) (by omega))]
theorem p_cond (hc : xi 772 = nI q) (hq : q ≤ 200) (hs : s ≤ 6) {D : Nat} {E : PS → PR} (hE : pOK L xs xi xa xl j 59 s D E) : pOK L xs xi xa xl j 58 s (D + 3) (pCd (xa 13) q E) := by
  intro d' hd S Q
  obtain ⟨d, rfl⟩ : ∃ d, d' = d + 3 := ⟨d' - 3, by omega⟩
  rw [dx_M_in (Nat.le_of_ble_eq_true rfl)]
  simp only [wI_some, wJ_some, wR_ref, wR_con, wO_some, s1_eq, s2_eq, dl_nil, dl_cons, dm_nil, dm_cons, lk_cons, cat_int, cat_long, cat_ref, cat_con, args_nil, args_int, args_long, args_ref, args_con, ct_nil, ct_cons, Nat.reduceBEq, Nat.reduceAdd, Nat.reduceLeDiff, Nat.reduceEqDiff, Bool.not_true, Bool.not_false, Bool.and_true, Bool.and_false, Bool.true_and, Bool.false_and, cond_true, cond_false, Nat.zero_add, Nat.add_zero, reduceCtorEq, Nat.zero_le, ui_at, ua_at, ul_at, wK_v, wK_n, wK_t, true_and, and_true, nb0, nb1, not_false_eq_true, not_true_eq_false, ci_0, ci_1, ci_3, ci_5, ci_7, ci_12, ci_15, ci_16, ci_21, ci_22, w_58_0, w_58_1, w_58_2, w_58_6, w_58_9, w_58_10, w_58_11, w_58_14, w_58_17, w_58_18, w_58_21, w_58_22, w_58_25, w_58_26, w_58_29, w_58_30, w_58_31, w_58_34, w_58_35, w_58_38, w_58_39, w_58_40, w_58_43_int, w_58_43_ref, w_58_43_retAddr, w_58_44, p_ci15, p_ci7, p_ci5, p_kind, p_adv hc hq, p_g150, p_g151, p_g152, p_g153, p_g123, p_g74, p_ga14, p_emit, p_raise, p_expect hc hq, hE (d + 2) (by omega)]
  unfold pCd
  rw [pR_B]
  cases hx : E S with
  | inl S1 => exact Iff.rfl
  | inr S1 =>
    show wK _ _ _ _ _ _ _ (.inl none) _ ↔ _
    simp only [wI_some, wJ_some, wR_ref, wR_con, wO_some, s1_eq, s2_eq, dl_nil, dl_cons, dm_nil, dm_cons, lk_cons, cat_int, cat_long, cat_ref, cat_con, args_nil, args_int, args_long, args_ref, args_con, ct_nil, ct_cons, Nat.reduceBEq, Nat.reduceAdd, Nat.reduceLeDiff, Nat.reduceEqDiff, Bool.not_true, Bool.not_false, Bool.and_true, Bool.and_false, Bool.true_and, Bool.false_and, cond_true, cond_false, Nat.zero_add, Nat.add_zero, reduceCtorEq, Nat.zero_le, ui_at, ua_at, ul_at, wK_v, wK_n, wK_t, true_and, and_true, nb0, nb1, not_false_eq_true, not_true_eq_false, ci_0, ci_1, ci_3, ci_5, ci_7, ci_12, ci_15, ci_16, ci_21, ci_22, w_58_0, w_58_1, w_58_2, w_58_5, w_58_6, w_58_9, w_58_10, w_58_11, w_58_14, w_58_17, w_58_18, w_58_21, w_58_22, w_58_25, w_58_26, w_58_29, w_58_30, w_58_31, w_58_35, w_58_38, w_58_39, w_58_40, w_58_43_int, w_58_43_ref, w_58_43_retAddr, w_58_44, p_ci15, p_ci7, p_ci5, p_kind, p_adv hc hq, p_g150, p_g151, p_g152, p_g153, p_g123, p_g74, p_ga14, p_emit, p_raise, p_expect hc hq, e_isRel, hE (d + 2) (by omega)]
    show _ ↔ pR (if isRl (xa 13 S1.p) then pB (E (adv q S1)) fun S2 => .inr (emt (xa 13 S1.p) 0 S2) else .inl S1) xi xa xl j Q
    by_cases h : isRl (xa 13 S1.p)
    · rw [if_pos (rl_n.mpr h), if_pos h, pR_B]
      cases hx2 : E (adv q S1) with
      | inl S2 => exact Iff.rfl
      | inr S2 =>
        show wK _ _ _ _ _ _ _ (.inl none) _ ↔ _
        simp only [wI_some, wJ_some, wR_ref, wR_con, wO_some, s1_eq, s2_eq, dl_nil, dl_cons, dm_nil, dm_cons, lk_cons, cat_int, cat_long, cat_ref, cat_con, args_nil, args_int, args_long, args_ref, args_con, ct_nil, ct_cons, Nat.reduceBEq, Nat.reduceAdd, Nat.reduceLeDiff, Nat.reduceEqDiff, Bool.not_true, Bool.not_false, Bool.and_true, Bool.and_false, Bool.true_and, Bool.false_and, cond_true, cond_false, Nat.zero_add, Nat.add_zero, reduceCtorEq, Nat.zero_le, ui_at, ua_at, ul_at, wK_v, wK_n, wK_t, true_and, and_true, nb0, nb1, not_false_eq_true, not_true_eq_false, ci_0, ci_1, ci_3, ci_5, ci_7, ci_12, ci_15, ci_16, ci_21, ci_22, w_58_0, w_58_1, w_58_2, w_58_5, w_58_6, w_58_9, w_58_10, w_58_11, w_58_14, w_58_17, w_58_18, w_58_21, w_58_22, w_58_25, w_58_26, w_58_29, w_58_30, w_58_31, w_58_34, w_58_35, w_58_38, w_58_39, w_58_40, w_58_43_int, w_58_43_ref, w_58_43_retAddr, w_58_44, p_ci15, p_ci7, p_ci5, p_kind, p_adv hc hq, p_g150, p_g151, p_g152, p_g153, p_g123, p_g74, p_ga14, p_emit, p_raise, p_expect hc hq]
        exact Iff.rfl
    · rw [if_neg (fun z => h (rl_n.mp z)), if_neg h]
      exact Iff.rfl
theorem p_give (hc : xi 772 = nI q) (hq : q ≤ 200) (hs : s ≤ 6) {D : Nat} {E : PS → PR} (hE : pOK L xs xi xa xl j 59 s D E) : pOK L xs xi xa xl j 68 s (D + 3) (pGv q E) := by
  intro d' hd S Q
  obtain ⟨d, rfl⟩ : ∃ d, d' = d + 3 := ⟨d' - 3, by omega⟩
  rw [dx_M_in (Nat.le_of_ble_eq_true rfl)]
  simp only [wI_some, wJ_some, wR_ref, wR_con, wO_some, s1_eq, s2_eq, dl_nil, dl_cons, dm_nil, dm_cons, lk_cons, cat_int, cat_long, cat_ref, cat_con, args_nil, args_int, args_long, args_ref, args_con, ct_nil, ct_cons, Nat.reduceBEq, Nat.reduceAdd, Nat.reduceLeDiff, Nat.reduceEqDiff, Bool.not_true, Bool.not_false, Bool.and_true, Bool.and_false, Bool.true_and, Bool.false_and, cond_true, cond_false, Nat.zero_add, Nat.add_zero, reduceCtorEq, Nat.zero_le, ui_at, ua_at, ul_at, wK_v, wK_n, wK_t, true_and, and_true, nb0, nb1, not_false_eq_true, not_true_eq_false, ci_0, ci_1, ci_3, ci_5, ci_7, ci_12, ci_15, ci_16, ci_21, ci_22, w_68_0, w_68_1, w_68_4, w_68_7, w_68_8, w_68_11, w_68_12, w_68_15, w_68_16, w_68_19, w_68_20, w_68_21, w_68_25, w_68_28, w_68_31, w_68_32, w_68_35_int, w_68_35_ref, w_68_35_retAddr, w_68_36, p_ci15, p_ci7, p_ci5, p_kind, p_adv hc hq, p_g150, p_g151, p_g152, p_g153, p_g123, p_g74, p_ga14, p_emit, p_raise, p_expect hc hq, p_g154, hE (d + 2) (by omega)]
  unfold pGv
  by_cases h : S.w = 0
  · rw [if_neg (fun z : ¬ S.w = 0 => z h), if_pos h]
    exact Iff.rfl
  rw [if_pos h, if_neg h, pR_B]
  cases hx2 : E (adv q S) with
  | inl S2 => exact Iff.rfl
  | inr S2 =>
    show wK _ _ _ _ _ _ _ (.inl none) _ ↔ _
    simp only [wI_some, wJ_some, wR_ref, wR_con, wO_some, s1_eq, s2_eq, dl_nil, dl_cons, dm_nil, dm_cons, lk_cons, cat_int, cat_long, cat_ref, cat_con, args_nil, args_int, args_long, args_ref, args_con, ct_nil, ct_cons, Nat.reduceBEq, Nat.reduceAdd, Nat.reduceLeDiff, Nat.reduceEqDiff, Bool.not_true, Bool.not_false, Bool.and_true, Bool.and_false, Bool.true_and, Bool.false_and, cond_true, cond_false, Nat.zero_add, Nat.add_zero, reduceCtorEq, Nat.zero_le, ui_at, ua_at, ul_at, wK_v, wK_n, wK_t, true_and, and_true, nb0, nb1, not_false_eq_true, not_true_eq_false, ci_0, ci_1, ci_3, ci_5, ci_7, ci_12, ci_15, ci_16, ci_21, ci_22, w_68_0, w_68_1, w_68_4, w_68_7, w_68_8, w_68_11, w_68_12, w_68_15, w_68_16, w_68_19, w_68_20, w_68_21, w_68_24, w_68_25, w_68_28, w_68_31, w_68_32, w_68_35_int, w_68_35_ref, w_68_35_retAddr, w_68_36, p_ci15, p_ci7, p_ci5, p_kind, p_adv hc hq, p_g150, p_g151, p_g152, p_g153, p_g123, p_g74, p_ga14, p_emit, p_raise, p_expect hc hq]
    exact Iff.rfl
theorem p_assign (hc : xi 772 = nI q) (hq : q ≤ 200) (hs : s ≤ 6) {D : Nat} {E : PS → PR} (hE : pOK L xs xi xa xl j 59 s D E) : pOK L xs xi xa xl j 70 s (D + 3) (pAs (xa 13) (xl 14) q E) := by
  intro d' hd S Q
  obtain ⟨d, rfl⟩ : ∃ d, d' = d + 3 := ⟨d' - 3, by omega⟩
  unfold pAs
  generalize ho : (if xa 13 S.p = 257 then (303 : Int32) else 305) = op
  have e : dx_M (tb_Z L xs) (d + 3) 70 [.ref 15, .int (nI s)] (ps xi xa xl j S) Q ↔ dx_W (tb_Z L xs) (d + 2) 70 20 [(2, .int op), (0, .ref 15), (1, .int (nI s))] [] (ps xi xa xl j S) Q := by
    rw [dx_M_in (Nat.le_of_ble_eq_true rfl)]
    simp only [wI_some, wJ_some, wR_ref, wR_con, wO_some, s1_eq, s2_eq, dl_nil, dl_cons, dm_nil, dm_cons, lk_cons, cat_int, cat_long, cat_ref, cat_con, args_nil, args_int, args_long, args_ref, args_con, ct_nil, ct_cons, Nat.reduceBEq, Nat.reduceAdd, Nat.reduceLeDiff, Nat.reduceEqDiff, Bool.not_true, Bool.not_false, Bool.and_true, Bool.and_false, Bool.true_and, Bool.false_and, cond_true, cond_false, Nat.zero_add, Nat.add_zero, reduceCtorEq, Nat.zero_le, ui_at, ua_at, ul_at, wK_v, wK_n, wK_t, true_and, and_true, nb0, nb1, not_false_eq_true, not_true_eq_false, ci_0, ci_1, ci_3, ci_5, ci_7, ci_12, ci_15, ci_16, ci_21, ci_22, w_70_0, w_70_1, w_70_4, w_70_7, w_70_10, w_70_13, w_70_16, w_70_19, w_70_21, w_70_24, w_70_27, w_70_28, w_70_31, w_70_32, w_70_33, w_70_34, w_70_37, w_70_38, w_70_40, w_70_43, w_70_44, w_70_45, w_70_48, w_70_49, w_70_52, w_70_53, w_70_54, w_70_57_int, w_70_57_ref, w_70_57_retAddr, w_70_58, p_ci15, p_ci7, p_ci5, p_kind, p_adv hc hq, p_g150, p_g151, p_g152, p_g153, p_g123, p_g74, p_ga14, p_emit, p_raise, p_expect hc hq]
    by_cases h : xa 13 S.p = 257
    · rw [if_neg (fun z : ¬ xa 13 S.p = 257 => z h), ← ho, if_pos h]
    · rw [if_pos h, ← ho, if_neg h]
  rw [e]
  simp only [wI_some, wJ_some, wR_ref, wR_con, wO_some, s1_eq, s2_eq, dl_nil, dl_cons, dm_nil, dm_cons, lk_cons, cat_int, cat_long, cat_ref, cat_con, args_nil, args_int, args_long, args_ref, args_con, ct_nil, ct_cons, Nat.reduceBEq, Nat.reduceAdd, Nat.reduceLeDiff, Nat.reduceEqDiff, Bool.not_true, Bool.not_false, Bool.and_true, Bool.and_false, Bool.true_and, Bool.false_and, cond_true, cond_false, Nat.zero_add, Nat.add_zero, reduceCtorEq, Nat.zero_le, ui_at, ua_at, ul_at, wK_v, wK_n, wK_t, true_and, and_true, nb0, nb1, not_false_eq_true, not_true_eq_false, ci_0, ci_1, ci_3, ci_5, ci_7, ci_12, ci_15, ci_16, ci_21, ci_22, w_70_0, w_70_1, w_70_4, w_70_7, w_70_10, w_70_13, w_70_16, w_70_19, w_70_20, w_70_21, w_70_24, w_70_27, w_70_28, w_70_31, w_70_32, w_70_33, w_70_34, w_70_37, w_70_38, w_70_40, w_70_44, w_70_45, w_70_48, w_70_49, w_70_52, w_70_53, w_70_54, w_70_57_int, w_70_57_ref, w_70_57_retAddr, w_70_58, p_ci15, p_ci7, p_ci5, p_kind, p_adv hc hq, p_g150, p_g151, p_g152, p_g153, p_g123, p_g74, p_ga14, p_emit, p_raise, p_expect hc hq]
  rw [pR_B]
  cases hx : pX (xa 13) q 61 (adv q S) with
  | inl S1 => exact Iff.rfl
  | inr S1 =>
    show wK _ _ _ _ _ _ _ (.inl none) _ ↔ _
    simp only [wI_some, wJ_some, wR_ref, wR_con, wO_some, s1_eq, s2_eq, dl_nil, dl_cons, dm_nil, dm_cons, lk_cons, cat_int, cat_long, cat_ref, cat_con, args_nil, args_int, args_long, args_ref, args_con, ct_nil, ct_cons, Nat.reduceBEq, Nat.reduceAdd, Nat.reduceLeDiff, Nat.reduceEqDiff, Bool.not_true, Bool.not_false, Bool.and_true, Bool.and_false, Bool.true_and, Bool.false_and, cond_true, cond_false, Nat.zero_add, Nat.add_zero, reduceCtorEq, Nat.zero_le, ui_at, ua_at, ul_at, wK_v, wK_n, wK_t, true_and, and_true, nb0, nb1, not_false_eq_true, not_true_eq_false, ci_0, ci_1, ci_3, ci_5, ci_7, ci_12, ci_15, ci_16, ci_21, ci_22, w_70_0, w_70_1, w_70_4, w_70_7, w_70_10, w_70_13, w_70_16, w_70_19, w_70_20, w_70_21, w_70_24, w_70_27, w_70_28, w_70_31, w_70_32, w_70_33, w_70_34, w_70_37, w_70_38, w_70_40, w_70_43, w_70_44, w_70_45, w_70_49, w_70_52, w_70_53, w_70_54, w_70_57_int, w_70_57_ref, w_70_57_retAddr, w_70_58, p_ci15, p_ci7, p_ci5, p_kind, p_adv hc hq, p_g150, p_g151, p_g152, p_g153, p_g123, p_g74, p_ga14, p_emit, p_raise, p_expect hc hq, hE (d + 2) (by omega)]
    show _ ↔ pR (pB (E S1) fun S2 => .inr (emt op (xl 14 S.p) S2)) xi xa xl j Q
    rw [pR_B]
    cases hx2 : E S1 with
    | inl S2 => exact Iff.rfl
    | inr S2 =>
      show wK _ _ _ _ _ _ _ (.inl none) _ ↔ _
      simp only [wI_some, wJ_some, wR_ref, wR_con, wO_some, s1_eq, s2_eq, dl_nil, dl_cons, dm_nil, dm_cons, lk_cons, cat_int, cat_long, cat_ref, cat_con, args_nil, args_int, args_long, args_ref, args_con, ct_nil, ct_cons, Nat.reduceBEq, Nat.reduceAdd, Nat.reduceLeDiff, Nat.reduceEqDiff, Bool.not_true, Bool.not_false, Bool.and_true, Bool.and_false, Bool.true_and, Bool.false_and, cond_true, cond_false, Nat.zero_add, Nat.add_zero, reduceCtorEq, Nat.zero_le, ui_at, ua_at, ul_at, wK_v, wK_n, wK_t, true_and, and_true, nb0, nb1, not_false_eq_true, not_true_eq_false, ci_0, ci_1, ci_3, ci_5, ci_7, ci_12, ci_15, ci_16, ci_21, ci_22, w_70_0, w_70_1, w_70_4, w_70_7, w_70_10, w_70_13, w_70_16, w_70_19, w_70_20, w_70_21, w_70_24, w_70_27, w_70_28, w_70_31, w_70_32, w_70_33, w_70_34, w_70_37, w_70_38, w_70_40, w_70_43, w_70_44, w_70_45, w_70_48, w_70_49, w_70_52, w_70_53, w_70_54, w_70_57_int, w_70_57_ref, w_70_57_retAddr, w_70_58, p_ci15, p_ci7, p_ci5, p_kind, p_adv hc hq, p_g150, p_g151, p_g152, p_g153, p_g123, p_g74, p_ga14, p_emit, p_raise, p_expect hc hq]
      exact Iff.rfl
/-- the same for list, which has its closing token before the depth -/
def pOKL (L : Nat) (xs : Nat → Int32) (xi : Nat → Int32) (xa : Nat → Nat → Int32) (xl : Nat → Nat → Int64) (j : dx_S) (cl : Int32) (s D : Nat) (F : PS → PR) : Prop := ∀ d, D ≤ d → ∀ S Q, (dx_M (tb_Z L xs) d 47 [.ref 15, .int cl, .int (nI s)] (ps xi xa xl j S) Q ↔ pR (F S) xi xa xl j Q)
theorem p_braces (hc : xi 772 = nI q) (hq : q ≤ 200) (hs : s ≤ 6) {D : Nat} {I : PS → PR} (hI : s < 6 → pOKL L xs xi xa xl j 125 (s + 1) D I) (hI6 : ¬ s < 6 → ∀ S, I S = .inl S) : pOK L xs xi xa xl j 54 s (D + 3) (pBr (xa 13) q I) := by
  intro d' hd S Q
  obtain ⟨d, rfl⟩ : ∃ d, d' = d + 3 := ⟨d' - 3, by omega⟩
  rw [dx_M_in (Nat.le_of_ble_eq_true rfl)]
  simp only [wI_some, wJ_some, wR_ref, wR_con, wO_some, s1_eq, s2_eq, dl_nil, dl_cons, dm_nil, dm_cons, lk_cons, cat_int, cat_long, cat_ref, cat_con, args_nil, args_int, args_long, args_ref, args_con, ct_nil, ct_cons, Nat.reduceBEq, Nat.reduceAdd, Nat.reduceLeDiff, Nat.reduceEqDiff, Bool.not_true, Bool.not_false, Bool.and_true, Bool.and_false, Bool.true_and, Bool.false_and, cond_true, cond_false, Nat.zero_add, Nat.add_zero, reduceCtorEq, Nat.zero_le, ui_at, ua_at, ul_at, wK_v, wK_n, wK_t, true_and, and_true, nb0, nb1, not_false_eq_true, not_true_eq_false, ci_0, ci_1, ci_3, ci_5, ci_7, ci_12, ci_15, ci_16, ci_21, ci_22, w_54_0, w_54_1, w_54_3, w_54_7, w_54_9, w_54_10, w_54_11, w_54_14, w_54_17, w_54_18, w_54_20, w_54_23, p_ci15, p_ci7, p_ci5, p_kind, p_adv hc hq, p_g150, p_g151, p_g152, p_g153, p_g123, p_g74, p_ga14, p_emit, p_raise, p_expect hc hq]
  unfold pBr
  rw [pR_B]
  cases hx : pX (xa 13) q 123 S with
  | inl S1 => exact Iff.rfl
  | inr S1 =>
    show wK _ _ _ _ _ _ _ (.inl none) _ ↔ pR (pB (I S1) fun S2 => pX (xa 13) q 125 S2) xi xa xl j Q
    simp only [wI_some, wJ_some, wR_ref, wR_con, wO_some, s1_eq, s2_eq, dl_nil, dl_cons, dm_nil, dm_cons, lk_cons, cat_int, cat_long, cat_ref, cat_con, args_nil, args_int, args_long, args_ref, args_con, ct_nil, ct_cons, Nat.reduceBEq, Nat.reduceAdd, Nat.reduceLeDiff, Nat.reduceEqDiff, Bool.not_true, Bool.not_false, Bool.and_true, Bool.and_false, Bool.true_and, Bool.false_and, cond_true, cond_false, Nat.zero_add, Nat.add_zero, reduceCtorEq, Nat.zero_le, ui_at, ua_at, ul_at, wK_v, wK_n, wK_t, true_and, and_true, nb0, nb1, not_false_eq_true, not_true_eq_false, ci_0, ci_1, ci_3, ci_5, ci_7, ci_12, ci_15, ci_16, ci_21, ci_22, w_54_0, w_54_1, w_54_3, w_54_6, w_54_7, w_54_9, w_54_10, w_54_11, w_54_14, w_54_17, w_54_18, w_54_20, w_54_23, p_ci15, p_ci7, p_ci5, p_kind, p_adv hc hq, p_g150, p_g151, p_g152, p_g153, p_g123, p_g74, p_ga14, p_emit, p_raise, p_expect hc hq, p_deep hs]
    rw [pR_B]
    by_cases h6 : s < 6
    · rw [if_pos h6]
      simp only [ct_nil, Nat.zero_le, true_and, hI h6 (d + 2) (by omega)]
      cases hx2 : I S1 with
      | inl S2 => exact Iff.rfl
      | inr S2 =>
        show wK _ _ _ _ _ _ _ (.inl none) _ ↔ pR (pX (xa 13) q 125 S2) xi xa xl j Q
        simp only [wI_some, wJ_some, wR_ref, wR_con, wO_some, s1_eq, s2_eq, dl_nil, dl_cons, dm_nil, dm_cons, lk_cons, cat_int, cat_long, cat_ref, cat_con, args_nil, args_int, args_long, args_ref, args_con, ct_nil, ct_cons, Nat.reduceBEq, Nat.reduceAdd, Nat.reduceLeDiff, Nat.reduceEqDiff, Bool.not_true, Bool.not_false, Bool.and_true, Bool.and_false, Bool.true_and, Bool.false_and, cond_true, cond_false, Nat.zero_add, Nat.add_zero, reduceCtorEq, Nat.zero_le, ui_at, ua_at, ul_at, wK_v, wK_n, wK_t, true_and, and_true, nb0, nb1, not_false_eq_true, not_true_eq_false, ci_0, ci_1, ci_3, ci_5, ci_7, ci_12, ci_15, ci_16, ci_21, ci_22, w_54_0, w_54_1, w_54_3, w_54_6, w_54_7, w_54_9, w_54_10, w_54_11, w_54_14, w_54_17, w_54_18, w_54_20, p_ci15, p_ci7, p_ci5, p_kind, p_adv hc hq, p_g150, p_g151, p_g152, p_g153, p_g123, p_g74, p_ga14, p_emit, p_raise, p_expect hc hq]
        cases hx3 : pX (xa 13) q 125 S2 with
        | inl S3 => exact Iff.rfl
        | inr S3 =>
          show wK _ _ _ _ _ _ _ (.inl none) _ ↔ Q (.inl none) (ps xi xa xl j S3)
          simp only [wI_some, wJ_some, wR_ref, wR_con, wO_some, s1_eq, s2_eq, dl_nil, dl_cons, dm_nil, dm_cons, lk_cons, cat_int, cat_long, cat_ref, cat_con, args_nil, args_int, args_long, args_ref, args_con, ct_nil, ct_cons, Nat.reduceBEq, Nat.reduceAdd, Nat.reduceLeDiff, Nat.reduceEqDiff, Bool.not_true, Bool.not_false, Bool.and_true, Bool.and_false, Bool.true_and, Bool.false_and, cond_true, cond_false, Nat.zero_add, Nat.add_zero, reduceCtorEq, Nat.zero_le, ui_at, ua_at, ul_at, wK_v, wK_n, wK_t, true_and, and_true, nb0, nb1, not_false_eq_true, not_true_eq_false, ci_0, ci_1, ci_3, ci_5, ci_7, ci_12, ci_15, ci_16, ci_21, ci_22, w_54_0, w_54_1, w_54_3, w_54_6, w_54_7, w_54_9, w_54_10, w_54_11, w_54_14, w_54_17, w_54_18, w_54_20, w_54_23, p_ci15, p_ci7, p_ci5, p_kind, p_adv hc hq, p_g150, p_g151, p_g152, p_g153, p_g123, p_g74, p_ga14, p_emit, p_raise, p_expect hc hq]
    · rw [if_neg h6, hI6 h6 S1]
theorem l_list {cl : Int32} {df st : PS → PR} (hc : xi 772 = nI q) (hq : q ≤ 200) (hT : ∀ S Q, (dx_M (tb_Z L xs) (d + 2) 56 [.ref 15, .int (nI s)] (ps xi xa xl j S) Q ↔ pR (st S) xi xa xl j Q)) (hD : cl = 0 → ∀ S Q, (dx_M (tb_Z L xs) (d + 2) 51 [.ref 15, .int (nI s)] (ps xi xa xl j S) Q ↔ pR (df S) xi xa xl j Q)) : ∀ n i, n + i = 200 → ∀ S, (dx_W (tb_Z L xs) (d + 2) 47 6 [(3, .int (nI i)), (0, .ref 15), (1, .int cl), (2, .int (nI s))] [] (ps xi xa xl j S) Q ↔ pR (pLp (xa 13) q cl (pPt (xa 13) cl df st) n S) xi xa xl j Q) := by
  intro n
  induction n with
  | zero =>
    intro i hi S
    rw [w_47_6]
    simp only [wI_some, wJ_some, wR_ref, wR_con, wO_some, s1_eq, s2_eq, dl_nil, dl_cons, dm_nil, dm_cons, lk_cons, cat_int, cat_long, cat_ref, cat_con, args_nil, args_int, args_long, args_ref, args_con, ct_nil, ct_cons, Nat.reduceBEq, Nat.reduceAdd, Nat.reduceLeDiff, Nat.reduceEqDiff, Bool.not_true, Bool.not_false, Bool.and_true, Bool.and_false, Bool.true_and, Bool.false_and, cond_true, cond_false, Nat.zero_add, Nat.add_zero, reduceCtorEq, Nat.zero_le, ui_at, ua_at, ul_at, wK_v, wK_n, wK_t, true_and, and_true, nb0, nb1, not_false_eq_true, not_true_eq_false, ci_0, ci_1, ci_3, ci_5, ci_7, ci_12, ci_15, ci_16, ci_21, ci_22, w_47_0, w_47_1, w_47_4, w_47_5, w_47_7, w_47_10, w_47_13, w_47_14, w_47_17, w_47_18, w_47_21, w_47_22, w_47_25, w_47_26, w_47_29, w_47_32, w_47_35, w_47_36, w_47_37, w_47_40, w_47_43, w_47_44, w_47_45, w_47_48, w_47_49, w_47_52, w_47_53, w_47_56, w_47_57, w_47_59, w_47_62, w_47_63, w_47_66, w_47_69, w_47_72, p_ci15, p_ci7, p_ci5, p_kind, p_adv hc hq, p_g150, p_g151, p_g152, p_g153, p_g123, p_g74, p_ga14, p_emit, p_raise, p_expect hc hq]
    rw [if_pos (show (200 : Int32) ≤ nI i from nI_le (a := 200) (by omega) (by omega))]
    exact Iff.rfl
  | succ n ih =>
    intro i hi S
    have step : ∀ S1, (dx_W (tb_Z L xs) (d + 2) 47 48 [(3, .int (nI i)), (0, .ref 15), (1, .int cl), (2, .int (nI s))] [] (ps xi xa xl j S1) Q ↔ pR (pB (if xa 13 S1.p = cl then .inr S1 else pX (xa 13) q 59 S1) fun S2 => pLp (xa 13) q cl (pPt (xa 13) cl df st) n (pSk (xa 13) q 200 S2)) xi xa xl j Q) := by
      intro S1
      simp only [wI_some, wJ_some, wR_ref, wR_con, wO_some, s1_eq, s2_eq, dl_nil, dl_cons, dm_nil, dm_cons, lk_cons, cat_int, cat_long, cat_ref, cat_con, args_nil, args_int, args_long, args_ref, args_con, ct_nil, ct_cons, Nat.reduceBEq, Nat.reduceAdd, Nat.reduceLeDiff, Nat.reduceEqDiff, Bool.not_true, Bool.not_false, Bool.and_true, Bool.and_false, Bool.true_and, Bool.false_and, cond_true, cond_false, Nat.zero_add, Nat.add_zero, reduceCtorEq, Nat.zero_le, ui_at, ua_at, ul_at, wK_v, wK_n, wK_t, true_and, and_true, nb0, nb1, not_false_eq_true, not_true_eq_false, ci_0, ci_1, ci_3, ci_5, ci_7, ci_12, ci_15, ci_16, ci_21, ci_22, w_47_0, w_47_1, w_47_4, w_47_5, w_47_7, w_47_10, w_47_13, w_47_14, w_47_17, w_47_18, w_47_21, w_47_22, w_47_25, w_47_26, w_47_29, w_47_32, w_47_35, w_47_36, w_47_37, w_47_40, w_47_43, w_47_44, w_47_45, w_47_48, w_47_49, w_47_52, w_47_53, w_47_56, w_47_57, w_47_59, w_47_62, w_47_63, w_47_66, w_47_69, w_47_72, p_ci15, p_ci7, p_ci5, p_kind, p_adv hc hq, p_g150, p_g151, p_g152, p_g153, p_g123, p_g74, p_ga14, p_emit, p_raise, p_expect hc hq, p_skip hc hq, nI_1]
      rw [pR_B]
      by_cases h : xa 13 S1.p = cl
      · rw [if_pos h, if_pos h]
        exact ih (i + 1) (by omega) _
      · rw [if_neg h, if_neg h]
        cases hx : pX (xa 13) q 59 S1 with
        | inl S2 => exact Iff.rfl
        | inr S2 =>
          show wK _ _ _ _ _ _ _ (.inl none) _ ↔ pR (pLp (xa 13) q cl (pPt (xa 13) cl df st) n (pSk (xa 13) q 200 S2)) xi xa xl j Q
          simp only [wI_some, wJ_some, wR_ref, wR_con, wO_some, s1_eq, s2_eq, dl_nil, dl_cons, dm_nil, dm_cons, lk_cons, cat_int, cat_long, cat_ref, cat_con, args_nil, args_int, args_long, args_ref, args_con, ct_nil, ct_cons, Nat.reduceBEq, Nat.reduceAdd, Nat.reduceLeDiff, Nat.reduceEqDiff, Bool.not_true, Bool.not_false, Bool.and_true, Bool.and_false, Bool.true_and, Bool.false_and, cond_true, cond_false, Nat.zero_add, Nat.add_zero, reduceCtorEq, Nat.zero_le, ui_at, ua_at, ul_at, wK_v, wK_n, wK_t, true_and, and_true, nb0, nb1, not_false_eq_true, not_true_eq_false, ci_0, ci_1, ci_3, ci_5, ci_7, ci_12, ci_15, ci_16, ci_21, ci_22, w_47_0, w_47_1, w_47_4, w_47_5, w_47_7, w_47_10, w_47_13, w_47_14, w_47_17, w_47_18, w_47_21, w_47_22, w_47_25, w_47_26, w_47_29, w_47_32, w_47_35, w_47_36, w_47_37, w_47_40, w_47_43, w_47_44, w_47_45, w_47_48, w_47_49, w_47_52, w_47_53, w_47_56, w_47_57, w_47_59, w_47_62, w_47_63, w_47_66, w_47_69, w_47_72, p_ci15, p_ci7, p_ci5, p_kind, p_adv hc hq, p_g150, p_g151, p_g152, p_g153, p_g123, p_g74, p_ga14, p_emit, p_raise, p_expect hc hq, p_skip hc hq, nI_1]
          exact ih (i + 1) (by omega) _
    rw [w_47_6]
    simp only [wI_some, wJ_some, wR_ref, wR_con, wO_some, s1_eq, s2_eq, dl_nil, dl_cons, dm_nil, dm_cons, lk_cons, cat_int, cat_long, cat_ref, cat_con, args_nil, args_int, args_long, args_ref, args_con, ct_nil, ct_cons, Nat.reduceBEq, Nat.reduceAdd, Nat.reduceLeDiff, Nat.reduceEqDiff, Bool.not_true, Bool.not_false, Bool.and_true, Bool.and_false, Bool.true_and, Bool.false_and, cond_true, cond_false, Nat.zero_add, Nat.add_zero, reduceCtorEq, Nat.zero_le, ui_at, ua_at, ul_at, wK_v, wK_n, wK_t, true_and, and_true, nb0, nb1, not_false_eq_true, not_true_eq_false, ci_0, ci_1, ci_3, ci_5, ci_7, ci_12, ci_15, ci_16, ci_21, ci_22, w_47_0, w_47_1, w_47_4, w_47_5, w_47_7, w_47_10, w_47_13, w_47_14, w_47_17, w_47_18, w_47_21, w_47_22, w_47_25, w_47_26, w_47_29, w_47_32, w_47_35, w_47_36, w_47_37, w_47_43, w_47_44, w_47_45, w_47_49, w_47_52, w_47_53, w_47_56, w_47_57, w_47_59, w_47_62, w_47_63, w_47_66, w_47_69, w_47_72, p_ci15, p_ci7, p_ci5, p_kind, p_adv hc hq, p_g150, p_g151, p_g152, p_g153, p_g123, p_g74, p_ga14, p_emit, p_raise, p_expect hc hq]
    rw [if_neg (show ¬ (200 : Int32) ≤ nI i from nI_ge (b := 200) (by omega) (by decide))]
    unfold pLp
    by_cases h : xa 13 S.p = cl
    · rw [if_pos h, if_pos h]
      exact Iff.rfl
    rw [if_neg h, if_neg h, pR_B]
    by_cases h0 : cl = 0
    · rw [if_neg (fun z : ¬ cl = 0 => z h0)]
      by_cases h2 : xa 13 S.p = 260
      · rw [if_neg (fun z : ¬ xa 13 S.p = 260 => z h2), show pPt (xa 13) cl df st S = df S from if_pos ⟨h0, h2⟩, hD h0]
        cases hx : df S with
        | inl S1 => exact Iff.rfl
        | inr S1 =>
          show wK _ _ _ _ _ _ _ (.inl none) _ ↔ _
          rw [wK_n, w_47_40]
          exact step S1
      · rw [if_pos h2, show pPt (xa 13) cl df st S = st S from if_neg (fun z => h2 z.2), hT]
        cases hx : st S with
        | inl S1 => exact Iff.rfl
        | inr S1 => exact step S1
    · rw [if_pos h0, show pPt (xa 13) cl df st S = st S from if_neg (fun z => h0 z.1), hT]
      cases hx : st S with
      | inl S1 => exact Iff.rfl
      | inr S1 => exact step S1
theorem p_list {cl : Int32} {df st : PS → PR} {D : Nat} (hc : xi 772 = nI q) (hq : q ≤ 200) (hT : pOK L xs xi xa xl j 56 s D st) (hD : cl = 0 → pOK L xs xi xa xl j 51 s D df) : pOKL L xs xi xa xl j cl s (D + 3) (pLi (xa 13) q cl (pPt (xa 13) cl df st)) := by
  intro d' hd S Q
  obtain ⟨d, rfl⟩ : ∃ d, d' = d + 3 := ⟨d' - 3, by omega⟩
  rw [dx_M_in (Nat.le_of_ble_eq_true rfl)]
  simp only [wI_some, wJ_some, wR_ref, wR_con, wO_some, s1_eq, s2_eq, dl_nil, dl_cons, dm_nil, dm_cons, lk_cons, cat_int, cat_long, cat_ref, cat_con, args_nil, args_int, args_long, args_ref, args_con, ct_nil, ct_cons, Nat.reduceBEq, Nat.reduceAdd, Nat.reduceLeDiff, Nat.reduceEqDiff, Bool.not_true, Bool.not_false, Bool.and_true, Bool.and_false, Bool.true_and, Bool.false_and, cond_true, cond_false, Nat.zero_add, Nat.add_zero, reduceCtorEq, Nat.zero_le, ui_at, ua_at, ul_at, wK_v, wK_n, wK_t, true_and, and_true, nb0, nb1, not_false_eq_true, not_true_eq_false, ci_0, ci_1, ci_3, ci_5, ci_7, ci_12, ci_15, ci_16, ci_21, ci_22, w_47_0, w_47_1, w_47_4, w_47_5, w_47_7, w_47_10, w_47_13, w_47_14, w_47_17, w_47_18, w_47_21, w_47_22, w_47_25, w_47_26, w_47_29, w_47_32, w_47_35, w_47_36, w_47_37, w_47_40, w_47_43, w_47_44, w_47_45, w_47_48, w_47_49, w_47_52, w_47_53, w_47_56, w_47_57, w_47_59, w_47_62, w_47_63, w_47_66, w_47_69, w_47_72, p_ci15, p_ci7, p_ci5, p_kind, p_adv hc hq, p_g150, p_g151, p_g152, p_g153, p_g123, p_g74, p_ga14, p_emit, p_raise, p_expect hc hq, p_skip hc hq]
  exact l_list hc hq (fun S Q => hT (d + 2) (by omega) S Q) (fun z S Q => hD z (d + 2) (by omega) S Q) 200 0 rfl _
theorem p_if (hc : xi 772 = nI q) (hq : q ≤ 200) (hs : s ≤ 6) {D : Nat} {E T : PS → PR} (hE : s < 6 → pOK L xs xi xa xl j 59 (s + 1) D E) (hE6 : ¬ s < 6 → ∀ S, E S = .inl S) (hT : s < 6 → pOK L xs xi xa xl j 56 (s + 1) D T) (hT6 : ¬ s < 6 → ∀ S, T S = .inl S) : pOK L xs xi xa xl j 57 s (D + 4) (pIf (xa 13) q E T) := by
  intro d' hd S Q
  obtain ⟨d, rfl⟩ : ∃ d, d' = d + 4 := ⟨d' - 4, by omega⟩
  unfold pIf
  generalize ho : (if xa 13 S.p = 259 then (1 : Int32) else 0) = op
  have e : dx_M (tb_Z L xs) (d + 4) 57 [.ref 15, .int (nI s)] (ps xi xa xl j S) Q ↔ dx_W (tb_Z L xs) (d + 3) 57 16 [(2, .int op), (0, .ref 15), (1, .int (nI s))] [] (ps xi xa xl j S) Q := by
    rw [dx_M_in (Nat.le_of_ble_eq_true rfl)]
    simp only [wI_some, wJ_some, wR_ref, wR_con, wO_some, s1_eq, s2_eq, dl_nil, dl_cons, dm_nil, dm_cons, lk_cons, cat_int, cat_long, cat_ref, cat_con, args_nil, args_int, args_long, args_ref, args_con, ct_nil, ct_cons, Nat.reduceBEq, Nat.reduceAdd, Nat.reduceLeDiff, Nat.reduceEqDiff, Bool.not_true, Bool.not_false, Bool.and_true, Bool.and_false, Bool.true_and, Bool.false_and, cond_true, cond_false, Nat.zero_add, Nat.add_zero, reduceCtorEq, Nat.zero_le, ui_at, ua_at, ul_at, wK_v, wK_n, wK_t, true_and, and_true, nb0, nb1, not_false_eq_true, not_true_eq_false, ci_0, ci_1, ci_3, ci_5, ci_7, ci_12, ci_15, ci_16, ci_21, ci_22, w_57_0, w_57_1, w_57_4, w_57_7, w_57_10, w_57_11, w_57_14, w_57_15, w_57_17, w_57_20, w_57_21, w_57_24, w_57_27, w_57_28, w_57_29, w_57_31, w_57_34, w_57_35, w_57_36, w_57_37, w_57_40, w_57_43, w_57_44, w_57_46, w_57_49, w_57_50, w_57_53, w_57_56, w_57_57, w_57_60, w_57_62, w_57_63, w_57_64, w_57_65, w_57_68, w_57_71, w_57_72, w_57_75, w_57_76, w_57_79, w_57_82, w_57_83, w_57_86_int, w_57_86_ref, w_57_86_retAddr, w_57_87, w_57_88, w_57_91, w_57_94, w_57_95, w_57_96, w_57_99_int, w_57_99_ref, w_57_99_retAddr, w_57_100, w_57_101, w_57_104, w_57_106, w_57_109, p_ci15, p_ci7, p_ci5, p_kind, p_adv hc hq, p_g150, p_g151, p_g152, p_g153, p_g123, p_g74, p_ga14, p_emit, p_raise, p_expect hc hq]
    by_cases h : xa 13 S.p = 259
    · rw [if_neg (fun z : ¬ xa 13 S.p = 259 => z h), ← ho, if_pos h]
    · rw [if_pos h, ← ho, if_neg h]
  rw [e]
  simp only [wI_some, wJ_some, wR_ref, wR_con, wO_some, s1_eq, s2_eq, dl_nil, dl_cons, dm_nil, dm_cons, lk_cons, cat_int, cat_long, cat_ref, cat_con, args_nil, args_int, args_long, args_ref, args_con, ct_nil, ct_cons, Nat.reduceBEq, Nat.reduceAdd, Nat.reduceLeDiff, Nat.reduceEqDiff, Bool.not_true, Bool.not_false, Bool.and_true, Bool.and_false, Bool.true_and, Bool.false_and, cond_true, cond_false, Nat.zero_add, Nat.add_zero, reduceCtorEq, Nat.zero_le, ui_at, ua_at, ul_at, wK_v, wK_n, wK_t, true_and, and_true, nb0, nb1, not_false_eq_true, not_true_eq_false, ci_0, ci_1, ci_3, ci_5, ci_7, ci_12, ci_15, ci_16, ci_21, ci_22, w_57_0, w_57_1, w_57_4, w_57_7, w_57_10, w_57_11, w_57_14, w_57_15, w_57_16, w_57_17, w_57_20, w_57_21, w_57_24, w_57_27, w_57_28, w_57_29, w_57_31, w_57_35, w_57_36, w_57_37, w_57_40, w_57_43, w_57_44, w_57_46, w_57_49, w_57_50, w_57_53, w_57_56, w_57_57, w_57_60, w_57_62, w_57_63, w_57_64, w_57_65, w_57_68, w_57_71, w_57_72, w_57_75, w_57_76, w_57_79, w_57_82, w_57_83, w_57_86_int, w_57_86_ref, w_57_86_retAddr, w_57_87, w_57_88, w_57_91, w_57_94, w_57_95, w_57_96, w_57_99_int, w_57_99_ref, w_57_99_retAddr, w_57_100, w_57_101, w_57_104, w_57_106, w_57_109, p_ci15, p_ci7, p_ci5, p_kind, p_adv hc hq, p_g150, p_g151, p_g152, p_g153, p_g123, p_g74, p_ga14, p_emit, p_raise, p_expect hc hq]
  rw [pR_B]
  cases hx : pX (xa 13) q 40 (adv q S) with
  | inl S1 => exact Iff.rfl
  | inr S2 =>
    show wK _ _ _ _ _ _ _ (.inl none) _ ↔ pR (pB (pCd (xa 13) q E S2) fun S3 => pB (pX (xa 13) q 41 S3) fun S4 => pB (T (emt 311 0 S4)) fun S6 => .inr (lnd ((emt 311 0 S4).n - 1) (if xa 13 S.p = 259 then emt 310 (zL (adv q S).n) (emt 300 0 S6) else S6))) xi xa xl j Q
    simp only [wI_some, wJ_some, wR_ref, wR_con, wO_some, s1_eq, s2_eq, dl_nil, dl_cons, dm_nil, dm_cons, lk_cons, cat_int, cat_long, cat_ref, cat_con, args_nil, args_int, args_long, args_ref, args_con, ct_nil, ct_cons, Nat.reduceBEq, Nat.reduceAdd, Nat.reduceLeDiff, Nat.reduceEqDiff, Bool.not_true, Bool.not_false, Bool.and_true, Bool.and_false, Bool.true_and, Bool.false_and, cond_true, cond_false, Nat.zero_add, Nat.add_zero, reduceCtorEq, Nat.zero_le, ui_at, ua_at, ul_at, wK_v, wK_n, wK_t, true_and, and_true, nb0, nb1, not_false_eq_true, not_true_eq_false, ci_0, ci_1, ci_3, ci_5, ci_7, ci_12, ci_15, ci_16, ci_21, ci_22, w_57_0, w_57_1, w_57_4, w_57_7, w_57_10, w_57_11, w_57_14, w_57_15, w_57_16, w_57_17, w_57_20, w_57_21, w_57_24, w_57_27, w_57_28, w_57_29, w_57_31, w_57_34, w_57_35, w_57_36, w_57_37, w_57_40, w_57_44, w_57_46, w_57_49, w_57_50, w_57_53, w_57_56, w_57_57, w_57_60, w_57_62, w_57_63, w_57_64, w_57_65, w_57_68, w_57_71, w_57_72, w_57_75, w_57_76, w_57_79, w_57_82, w_57_83, w_57_86_int, w_57_86_ref, w_57_86_retAddr, w_57_87, w_57_88, w_57_91, w_57_94, w_57_95, w_57_96, w_57_99_int, w_57_99_ref, w_57_99_retAddr, w_57_100, w_57_101, w_57_104, w_57_106, w_57_109, p_ci15, p_ci7, p_ci5, p_kind, p_adv hc hq, p_g150, p_g151, p_g152, p_g153, p_g123, p_g74, p_ga14, p_emit, p_raise, p_expect hc hq, p_deep hs]
    rw [pR_B]
    by_cases h6 : s < 6
    · rw [if_pos h6]
      simp only [ct_nil, Nat.zero_le, true_and, p_cond hc hq (show s + 1 ≤ 6 by omega) (hE h6) (d + 3) (by omega)]
      cases hx2 : pCd (xa 13) q E S2 with
      | inl S3 => exact Iff.rfl
      | inr S3 =>
        show wK _ _ _ _ _ _ _ (.inl none) _ ↔ pR (pB (pX (xa 13) q 41 S3) fun S4 => pB (T (emt 311 0 S4)) fun S6 => .inr (lnd ((emt 311 0 S4).n - 1) (if xa 13 S.p = 259 then emt 310 (zL (adv q S).n) (emt 300 0 S6) else S6))) xi xa xl j Q
        simp only [wI_some, wJ_some, wR_ref, wR_con, wO_some, s1_eq, s2_eq, dl_nil, dl_cons, dm_nil, dm_cons, lk_cons, cat_int, cat_long, cat_ref, cat_con, args_nil, args_int, args_long, args_ref, args_con, ct_nil, ct_cons, Nat.reduceBEq, Nat.reduceAdd, Nat.reduceLeDiff, Nat.reduceEqDiff, Bool.not_true, Bool.not_false, Bool.and_true, Bool.and_false, Bool.true_and, Bool.false_and, cond_true, cond_false, Nat.zero_add, Nat.add_zero, reduceCtorEq, Nat.zero_le, ui_at, ua_at, ul_at, wK_v, wK_n, wK_t, true_and, and_true, nb0, nb1, not_false_eq_true, not_true_eq_false, ci_0, ci_1, ci_3, ci_5, ci_7, ci_12, ci_15, ci_16, ci_21, ci_22, w_57_0, w_57_1, w_57_4, w_57_7, w_57_10, w_57_11, w_57_14, w_57_15, w_57_16, w_57_17, w_57_20, w_57_21, w_57_24, w_57_27, w_57_28, w_57_29, w_57_31, w_57_34, w_57_35, w_57_36, w_57_37, w_57_40, w_57_43, w_57_44, w_57_46, w_57_50, w_57_53, w_57_56, w_57_57, w_57_60, w_57_62, w_57_63, w_57_64, w_57_65, w_57_68, w_57_71, w_57_72, w_57_75, w_57_76, w_57_79, w_57_82, w_57_83, w_57_86_int, w_57_86_ref, w_57_86_retAddr, w_57_87, w_57_88, w_57_91, w_57_94, w_57_95, w_57_96, w_57_99_int, w_57_99_ref, w_57_99_retAddr, w_57_100, w_57_101, w_57_104, w_57_106, w_57_109, p_ci15, p_ci7, p_ci5, p_kind, p_adv hc hq, p_g150, p_g151, p_g152, p_g153, p_g123, p_g74, p_ga14, p_emit, p_raise, p_expect hc hq]
        rw [pR_B]
        cases hx3 : pX (xa 13) q 41 S3 with
        | inl S4 => exact Iff.rfl
        | inr S4 =>
          show wK _ _ _ _ _ _ _ (.inl none) _ ↔ pR (pB (T (emt 311 0 S4)) fun S6 => .inr (lnd ((emt 311 0 S4).n - 1) (if xa 13 S.p = 259 then emt 310 (zL (adv q S).n) (emt 300 0 S6) else S6))) xi xa xl j Q
          simp only [wI_some, wJ_some, wR_ref, wR_con, wO_some, s1_eq, s2_eq, dl_nil, dl_cons, dm_nil, dm_cons, lk_cons, cat_int, cat_long, cat_ref, cat_con, args_nil, args_int, args_long, args_ref, args_con, ct_nil, ct_cons, Nat.reduceBEq, Nat.reduceAdd, Nat.reduceLeDiff, Nat.reduceEqDiff, Bool.not_true, Bool.not_false, Bool.and_true, Bool.and_false, Bool.true_and, Bool.false_and, cond_true, cond_false, Nat.zero_add, Nat.add_zero, reduceCtorEq, Nat.zero_le, ui_at, ua_at, ul_at, wK_v, wK_n, wK_t, true_and, and_true, nb0, nb1, not_false_eq_true, not_true_eq_false, ci_0, ci_1, ci_3, ci_5, ci_7, ci_12, ci_15, ci_16, ci_21, ci_22, w_57_0, w_57_1, w_57_4, w_57_7, w_57_10, w_57_11, w_57_14, w_57_15, w_57_16, w_57_17, w_57_20, w_57_21, w_57_24, w_57_27, w_57_28, w_57_29, w_57_31, w_57_34, w_57_35, w_57_36, w_57_37, w_57_40, w_57_43, w_57_44, w_57_46, w_57_49, w_57_50, w_57_53, w_57_56, w_57_57, w_57_60, w_57_62, w_57_63, w_57_64, w_57_65, w_57_68, w_57_72, w_57_75, w_57_76, w_57_79, w_57_82, w_57_83, w_57_86_int, w_57_86_ref, w_57_86_retAddr, w_57_87, w_57_88, w_57_91, w_57_94, w_57_95, w_57_96, w_57_99_int, w_57_99_ref, w_57_99_retAddr, w_57_100, w_57_101, w_57_104, w_57_106, w_57_109, p_ci15, p_ci7, p_ci5, p_kind, p_adv hc hq, p_g150, p_g151, p_g152, p_g153, p_g123, p_g74, p_ga14, p_emit, p_raise, p_expect hc hq, p_deep hs]
          rw [if_pos h6, pR_B]
          simp only [ct_nil, Nat.zero_le, true_and, hT h6 (d + 3) (by omega)]
          cases hx4 : T (emt 311 0 S4) with
          | inl S6 => exact Iff.rfl
          | inr S6 =>
            have hn := (emt 311 0 S4).hn
            have hn2 := (adv q S).hn
            show wK _ _ _ _ _ _ _ (.inl none) _ ↔ pR (.inr (lnd ((emt 311 0 S4).n - 1) (if xa 13 S.p = 259 then emt 310 (zL (adv q S).n) (emt 300 0 S6) else S6))) xi xa xl j Q
            by_cases h : xa 13 S.p = 259
            · rw [if_pos h] at ho
              rw [if_pos h, ← ho]
              simp only [wI_some, wJ_some, wR_ref, wR_con, wO_some, s1_eq, s2_eq, dl_nil, dl_cons, dm_nil, dm_cons, lk_cons, cat_int, cat_long, cat_ref, cat_con, args_nil, args_int, args_long, args_ref, args_con, ct_nil, ct_cons, Nat.reduceBEq, Nat.reduceAdd, Nat.reduceLeDiff, Nat.reduceEqDiff, Bool.not_true, Bool.not_false, Bool.and_true, Bool.and_false, Bool.true_and, Bool.false_and, cond_true, cond_false, Nat.zero_add, Nat.add_zero, reduceCtorEq, Nat.zero_le, ui_at, ua_at, ul_at, wK_v, wK_n, wK_t, true_and, and_true, nb0, nb1, not_false_eq_true, not_true_eq_false, ci_0, ci_1, ci_3, ci_5, ci_7, ci_12, ci_15, ci_16, ci_21, ci_22, w_57_0, w_57_1, w_57_4, w_57_7, w_57_10, w_57_11, w_57_14, w_57_15, w_57_16, w_57_17, w_57_20, w_57_21, w_57_24, w_57_27, w_57_28, w_57_29, w_57_31, w_57_34, w_57_35, w_57_36, w_57_37, w_57_40, w_57_43, w_57_44, w_57_46, w_57_49, w_57_50, w_57_53, w_57_56, w_57_57, w_57_60, w_57_62, w_57_63, w_57_64, w_57_65, w_57_68, w_57_71, w_57_72, w_57_75, w_57_76, w_57_79, w_57_82, w_57_83, w_57_86_int, w_57_86_ref, w_57_86_retAddr, w_57_87, w_57_88, w_57_91, w_57_94, w_57_95, w_57_96, w_57_99_int, w_57_99_ref, w_57_99_retAddr, w_57_100, w_57_101, w_57_104, w_57_106, w_57_109, p_ci15, p_ci7, p_ci5, p_kind, p_adv hc hq, p_g150, p_g151, p_g152, p_g153, p_g123, p_g74, p_ga14, p_emit, p_raise, p_expect hc hq, nI_L (show (adv q S).n < 2 ^ 31 by omega), one0, if_false, p_land (show (emt 311 0 S4).n - 1 ≤ 600 by omega)]
              exact Iff.rfl
            · rw [if_neg h] at ho
              rw [if_neg h, ← ho]
              simp only [wI_some, wJ_some, wR_ref, wR_con, wO_some, s1_eq, s2_eq, dl_nil, dl_cons, dm_nil, dm_cons, lk_cons, cat_int, cat_long, cat_ref, cat_con, args_nil, args_int, args_long, args_ref, args_con, ct_nil, ct_cons, Nat.reduceBEq, Nat.reduceAdd, Nat.reduceLeDiff, Nat.reduceEqDiff, Bool.not_true, Bool.not_false, Bool.and_true, Bool.and_false, Bool.true_and, Bool.false_and, cond_true, cond_false, Nat.zero_add, Nat.add_zero, reduceCtorEq, Nat.zero_le, ui_at, ua_at, ul_at, wK_v, wK_n, wK_t, true_and, and_true, nb0, nb1, not_false_eq_true, not_true_eq_false, ci_0, ci_1, ci_3, ci_5, ci_7, ci_12, ci_15, ci_16, ci_21, ci_22, w_57_0, w_57_1, w_57_4, w_57_7, w_57_10, w_57_11, w_57_14, w_57_15, w_57_16, w_57_17, w_57_20, w_57_21, w_57_24, w_57_27, w_57_28, w_57_29, w_57_31, w_57_34, w_57_35, w_57_36, w_57_37, w_57_40, w_57_43, w_57_44, w_57_46, w_57_49, w_57_50, w_57_53, w_57_56, w_57_57, w_57_60, w_57_62, w_57_63, w_57_64, w_57_65, w_57_68, w_57_71, w_57_72, w_57_75, w_57_76, w_57_79, w_57_82, w_57_83, w_57_86_int, w_57_86_ref, w_57_86_retAddr, w_57_87, w_57_88, w_57_91, w_57_94, w_57_95, w_57_96, w_57_99_int, w_57_99_ref, w_57_99_retAddr, w_57_100, w_57_101, w_57_104, w_57_106, w_57_109, p_ci15, p_ci7, p_ci5, p_kind, p_adv hc hq, p_g150, p_g151, p_g152, p_g153, p_g123, p_g74, p_ga14, p_emit, p_raise, p_expect hc hq, if_true, p_land (show (emt 311 0 S4).n - 1 ≤ 600 by omega)]
              exact Iff.rfl
    · rw [if_neg h6]
      have e2 : pCd (xa 13) q E S2 = .inl S2 := by
        unfold pCd
        rw [hE6 h6]
        rfl
      rw [e2]
theorem p_stat (hc : xi 772 = nI q) (hq : q ≤ 200) (hs : s ≤ 6) {D : Nat} {E E' T I : PS → PR} (hE : pOK L xs xi xa xl j 59 s D E) (hE' : s < 6 → pOK L xs xi xa xl j 59 (s + 1) D E') (hE6 : ¬ s < 6 → ∀ S, E' S = .inl S) (hT : s < 6 → pOK L xs xi xa xl j 56 (s + 1) D T) (hT6 : ¬ s < 6 → ∀ S, T S = .inl S) (hI : s < 6 → pOKL L xs xi xa xl j 125 (s + 1) D I) (hI6 : ¬ s < 6 → ∀ S, I S = .inl S) : pOK L xs xi xa xl j 56 s (D + 5) (pSt (xa 13) (xl 14) q E E' T I) := by
  intro d' hd S Q
  obtain ⟨d, rfl⟩ : ∃ d, d' = d + 5 := ⟨d' - 5, by omega⟩
  have h1 := p_braces hc hq hs hI hI6 (d + 4) (by omega)
  have h2 := p_if hc hq hs hE' hE6 hT hT6 (d + 4) (by omega)
  have h3 := p_give hc hq hs hE (d + 4) (by omega)
  have h4 := p_assign hc hq hs hE (d + 4) (by omega)
  have h5 := hE (d + 4) (by omega)
  rw [dx_M_in (Nat.le_of_ble_eq_true rfl)]
  simp only [wI_some, wJ_some, wR_ref, wR_con, wO_some, s1_eq, s2_eq, dl_nil, dl_cons, dm_nil, dm_cons, lk_cons, cat_int, cat_long, cat_ref, cat_con, args_nil, args_int, args_long, args_ref, args_con, ct_nil, ct_cons, Nat.reduceBEq, Nat.reduceAdd, Nat.reduceLeDiff, Nat.reduceEqDiff, Bool.not_true, Bool.not_false, Bool.and_true, Bool.and_false, Bool.true_and, Bool.false_and, cond_true, cond_false, Nat.zero_add, Nat.add_zero, reduceCtorEq, Nat.zero_le, ui_at, ua_at, ul_at, wK_v, wK_n, wK_t, true_and, and_true, nb0, nb1, not_false_eq_true, not_true_eq_false, ci_0, ci_1, ci_3, ci_5, ci_7, ci_12, ci_15, ci_16, ci_21, ci_22, w_56_0, w_56_1, w_56_4, w_56_5, w_56_6, w_56_8, w_56_11, w_56_12, w_56_13, w_56_17, w_56_18, w_56_21, w_56_24, w_56_25, w_56_28_int, w_56_28_ref, w_56_28_retAddr, w_56_29, w_56_30, w_56_33, w_56_36, w_56_37, w_56_40, w_56_43, w_56_44, w_56_45, w_56_51, w_56_52, w_56_55, w_56_58, w_56_59, w_56_60, w_56_66, w_56_67, w_56_70, w_56_73, w_56_74, w_56_77, w_56_80, w_56_81, w_56_84, w_56_86, w_56_89, w_56_90, w_56_91, w_56_97, w_56_98, w_56_99, w_56_103, w_56_106, w_56_109, w_56_110, w_56_113_int, w_56_113_ref, w_56_113_retAddr, w_56_114, p_ci15, p_ci7, p_ci5, p_kind, p_adv hc hq, p_g150, p_g151, p_g152, p_g153, p_g123, p_g74, p_ga14, p_emit, p_raise, p_expect hc hq, p_follow hc hq, h1, h2, h3, h4, h5]
  unfold pSt
  have ef : fol (xa 13) q (emt 300 0 S) = fol (xa 13) q S := by
    unfold fol
    rw [emt_p]
  rw [ef]
  by_cases k1 : xa 13 S.p = 123
  · rw [if_neg (fun z : ¬ xa 13 S.p = 123 => z k1), if_pos k1]
    cases hx : pBr (xa 13) q I S with
    | inl S1 => exact Iff.rfl
    | inr S1 =>
      show wK _ _ _ _ _ _ _ (.inl none) _ ↔ _
      simp only [wI_some, wJ_some, wR_ref, wR_con, wO_some, s1_eq, s2_eq, dl_nil, dl_cons, dm_nil, dm_cons, lk_cons, cat_int, cat_long, cat_ref, cat_con, args_nil, args_int, args_long, args_ref, args_con, ct_nil, ct_cons, Nat.reduceBEq, Nat.reduceAdd, Nat.reduceLeDiff, Nat.reduceEqDiff, Bool.not_true, Bool.not_false, Bool.and_true, Bool.and_false, Bool.true_and, Bool.false_and, cond_true, cond_false, Nat.zero_add, Nat.add_zero, reduceCtorEq, Nat.zero_le, ui_at, ua_at, ul_at, wK_v, wK_n, wK_t, true_and, and_true, nb0, nb1, not_false_eq_true, not_true_eq_false, ci_0, ci_1, ci_3, ci_5, ci_7, ci_12, ci_15, ci_16, ci_21, ci_22, w_56_0, w_56_1, w_56_4, w_56_5, w_56_6, w_56_8, w_56_11, w_56_12, w_56_13, w_56_16, w_56_17, w_56_18, w_56_21, w_56_24, w_56_25, w_56_28_int, w_56_28_ref, w_56_28_retAddr, w_56_29, w_56_30, w_56_33, w_56_36, w_56_37, w_56_40, w_56_43, w_56_44, w_56_45, w_56_48, w_56_51, w_56_52, w_56_55, w_56_58, w_56_59, w_56_60, w_56_63, w_56_66, w_56_67, w_56_70, w_56_73, w_56_74, w_56_77, w_56_80, w_56_81, w_56_84, w_56_86, w_56_89, w_56_90, w_56_91, w_56_94, w_56_97, w_56_98, w_56_99, w_56_102, w_56_103, w_56_106, w_56_109, w_56_110, w_56_113_int, w_56_113_ref, w_56_113_retAddr, w_56_114, p_ci15, p_ci7, p_ci5, p_kind, p_adv hc hq, p_g150, p_g151, p_g152, p_g153, p_g123, p_g74, p_ga14, p_emit, p_raise, p_expect hc hq]
      exact Iff.rfl
  rw [if_pos k1, if_neg k1]
  by_cases k2 : xa 13 S.p = 258
  · rw [if_pos k2, if_pos (Or.inl k2)]
    cases hx : pIf (xa 13) q E' T (emt 300 0 S) with
    | inl S1 => exact Iff.rfl
    | inr S1 =>
      show wK _ _ _ _ _ _ _ (.inl none) _ ↔ _
      simp only [wI_some, wJ_some, wR_ref, wR_con, wO_some, s1_eq, s2_eq, dl_nil, dl_cons, dm_nil, dm_cons, lk_cons, cat_int, cat_long, cat_ref, cat_con, args_nil, args_int, args_long, args_ref, args_con, ct_nil, ct_cons, Nat.reduceBEq, Nat.reduceAdd, Nat.reduceLeDiff, Nat.reduceEqDiff, Bool.not_true, Bool.not_false, Bool.and_true, Bool.and_false, Bool.true_and, Bool.false_and, cond_true, cond_false, Nat.zero_add, Nat.add_zero, reduceCtorEq, Nat.zero_le, ui_at, ua_at, ul_at, wK_v, wK_n, wK_t, true_and, and_true, nb0, nb1, not_false_eq_true, not_true_eq_false, ci_0, ci_1, ci_3, ci_5, ci_7, ci_12, ci_15, ci_16, ci_21, ci_22, w_56_0, w_56_1, w_56_4, w_56_5, w_56_6, w_56_8, w_56_11, w_56_12, w_56_13, w_56_16, w_56_17, w_56_18, w_56_21, w_56_24, w_56_25, w_56_28_int, w_56_28_ref, w_56_28_retAddr, w_56_29, w_56_30, w_56_33, w_56_36, w_56_37, w_56_40, w_56_43, w_56_44, w_56_45, w_56_48, w_56_51, w_56_52, w_56_55, w_56_58, w_56_59, w_56_60, w_56_63, w_56_66, w_56_67, w_56_70, w_56_73, w_56_74, w_56_77, w_56_80, w_56_81, w_56_84, w_56_86, w_56_89, w_56_90, w_56_91, w_56_94, w_56_97, w_56_98, w_56_99, w_56_102, w_56_103, w_56_106, w_56_109, w_56_110, w_56_113_int, w_56_113_ref, w_56_113_retAddr, w_56_114, p_ci15, p_ci7, p_ci5, p_kind, p_adv hc hq, p_g150, p_g151, p_g152, p_g153, p_g123, p_g74, p_ga14, p_emit, p_raise, p_expect hc hq]
      exact Iff.rfl
  rw [if_neg k2]
  by_cases k3 : xa 13 S.p = 259
  · rw [if_neg (fun z : ¬ xa 13 S.p = 259 => z k3), if_pos (Or.inr k3)]
    cases hx : pIf (xa 13) q E' T (emt 300 0 S) with
    | inl S1 => exact Iff.rfl
    | inr S1 =>
      show wK _ _ _ _ _ _ _ (.inl none) _ ↔ _
      simp only [wI_some, wJ_some, wR_ref, wR_con, wO_some, s1_eq, s2_eq, dl_nil, dl_cons, dm_nil, dm_cons, lk_cons, cat_int, cat_long, cat_ref, cat_con, args_nil, args_int, args_long, args_ref, args_con, ct_nil, ct_cons, Nat.reduceBEq, Nat.reduceAdd, Nat.reduceLeDiff, Nat.reduceEqDiff, Bool.not_true, Bool.not_false, Bool.and_true, Bool.and_false, Bool.true_and, Bool.false_and, cond_true, cond_false, Nat.zero_add, Nat.add_zero, reduceCtorEq, Nat.zero_le, ui_at, ua_at, ul_at, wK_v, wK_n, wK_t, true_and, and_true, nb0, nb1, not_false_eq_true, not_true_eq_false, ci_0, ci_1, ci_3, ci_5, ci_7, ci_12, ci_15, ci_16, ci_21, ci_22, w_56_0, w_56_1, w_56_4, w_56_5, w_56_6, w_56_8, w_56_11, w_56_12, w_56_13, w_56_16, w_56_17, w_56_18, w_56_21, w_56_24, w_56_25, w_56_28_int, w_56_28_ref, w_56_28_retAddr, w_56_29, w_56_30, w_56_33, w_56_36, w_56_37, w_56_40, w_56_43, w_56_44, w_56_45, w_56_48, w_56_51, w_56_52, w_56_55, w_56_58, w_56_59, w_56_60, w_56_63, w_56_66, w_56_67, w_56_70, w_56_73, w_56_74, w_56_77, w_56_80, w_56_81, w_56_84, w_56_86, w_56_89, w_56_90, w_56_91, w_56_94, w_56_97, w_56_98, w_56_99, w_56_102, w_56_103, w_56_106, w_56_109, w_56_110, w_56_113_int, w_56_113_ref, w_56_113_retAddr, w_56_114, p_ci15, p_ci7, p_ci5, p_kind, p_adv hc hq, p_g150, p_g151, p_g152, p_g153, p_g123, p_g74, p_ga14, p_emit, p_raise, p_expect hc hq]
      exact Iff.rfl
  rw [if_pos k3, if_neg (show ¬ (xa 13 S.p = 258 ∨ xa 13 S.p = 259) from fun z => z.elim k2 k3)]
  by_cases k4 : xa 13 S.p = 261
  · rw [if_neg (fun z : ¬ xa 13 S.p = 261 => z k4), if_pos k4]
    cases hx : pGv q E (emt 300 0 S) with
    | inl S1 => exact Iff.rfl
    | inr S1 =>
      show wK _ _ _ _ _ _ _ (.inl none) _ ↔ _
      simp only [wI_some, wJ_some, wR_ref, wR_con, wO_some, s1_eq, s2_eq, dl_nil, dl_cons, dm_nil, dm_cons, lk_cons, cat_int, cat_long, cat_ref, cat_con, args_nil, args_int, args_long, args_ref, args_con, ct_nil, ct_cons, Nat.reduceBEq, Nat.reduceAdd, Nat.reduceLeDiff, Nat.reduceEqDiff, Bool.not_true, Bool.not_false, Bool.and_true, Bool.and_false, Bool.true_and, Bool.false_and, cond_true, cond_false, Nat.zero_add, Nat.add_zero, reduceCtorEq, Nat.zero_le, ui_at, ua_at, ul_at, wK_v, wK_n, wK_t, true_and, and_true, nb0, nb1, not_false_eq_true, not_true_eq_false, ci_0, ci_1, ci_3, ci_5, ci_7, ci_12, ci_15, ci_16, ci_21, ci_22, w_56_0, w_56_1, w_56_4, w_56_5, w_56_6, w_56_8, w_56_11, w_56_12, w_56_13, w_56_16, w_56_17, w_56_18, w_56_21, w_56_24, w_56_25, w_56_28_int, w_56_28_ref, w_56_28_retAddr, w_56_29, w_56_30, w_56_33, w_56_36, w_56_37, w_56_40, w_56_43, w_56_44, w_56_45, w_56_48, w_56_51, w_56_52, w_56_55, w_56_58, w_56_59, w_56_60, w_56_63, w_56_66, w_56_67, w_56_70, w_56_73, w_56_74, w_56_77, w_56_80, w_56_81, w_56_84, w_56_86, w_56_89, w_56_90, w_56_91, w_56_94, w_56_97, w_56_98, w_56_99, w_56_102, w_56_103, w_56_106, w_56_109, w_56_110, w_56_113_int, w_56_113_ref, w_56_113_retAddr, w_56_114, p_ci15, p_ci7, p_ci5, p_kind, p_adv hc hq, p_g150, p_g151, p_g152, p_g153, p_g123, p_g74, p_ga14, p_emit, p_raise, p_expect hc hq]
      exact Iff.rfl
  rw [if_pos k4, if_neg k4]
  have fin : ∀ Q : dx_O → dx_S → Prop, (pR (E (emt 300 0 S)) xi xa xl j (wK (tb_Z L xs) (d + 4) 56 102 [(2, .int (xa 13 S.p)), (0, .ref 15), (1, .int (nI s))] [] Q) ↔ pR (pB (E (emt 300 0 S)) fun S1 => .inr (emt 307 0 S1)) xi xa xl j Q) := by
    intro Q
    rw [pR_B]
    cases hx : E (emt 300 0 S) with
    | inl S1 => exact Iff.rfl
    | inr S1 =>
      show wK _ _ _ _ _ _ _ (.inl none) _ ↔ _
      simp only [wI_some, wJ_some, wR_ref, wR_con, wO_some, s1_eq, s2_eq, dl_nil, dl_cons, dm_nil, dm_cons, lk_cons, cat_int, cat_long, cat_ref, cat_con, args_nil, args_int, args_long, args_ref, args_con, ct_nil, ct_cons, Nat.reduceBEq, Nat.reduceAdd, Nat.reduceLeDiff, Nat.reduceEqDiff, Bool.not_true, Bool.not_false, Bool.and_true, Bool.and_false, Bool.true_and, Bool.false_and, cond_true, cond_false, Nat.zero_add, Nat.add_zero, reduceCtorEq, Nat.zero_le, ui_at, ua_at, ul_at, wK_v, wK_n, wK_t, true_and, and_true, nb0, nb1, not_false_eq_true, not_true_eq_false, ci_0, ci_1, ci_3, ci_5, ci_7, ci_12, ci_15, ci_16, ci_21, ci_22, w_56_0, w_56_1, w_56_4, w_56_5, w_56_6, w_56_8, w_56_11, w_56_12, w_56_13, w_56_16, w_56_17, w_56_18, w_56_21, w_56_24, w_56_25, w_56_28_int, w_56_28_ref, w_56_28_retAddr, w_56_29, w_56_30, w_56_33, w_56_36, w_56_37, w_56_40, w_56_43, w_56_44, w_56_45, w_56_48, w_56_51, w_56_52, w_56_55, w_56_58, w_56_59, w_56_60, w_56_63, w_56_66, w_56_67, w_56_70, w_56_73, w_56_74, w_56_77, w_56_80, w_56_81, w_56_84, w_56_86, w_56_89, w_56_90, w_56_91, w_56_94, w_56_97, w_56_98, w_56_99, w_56_102, w_56_103, w_56_106, w_56_109, w_56_110, w_56_113_int, w_56_113_ref, w_56_113_retAddr, w_56_114, p_ci15, p_ci7, p_ci5, p_kind, p_adv hc hq, p_g150, p_g151, p_g152, p_g153, p_g123, p_g74, p_ga14, p_emit, p_raise, p_expect hc hq]
      exact Iff.rfl
  by_cases k6 : fol (xa 13) q S = 61
  · by_cases k5 : xa 13 S.p = 257
    · rw [if_pos k5, if_neg (fun z : ¬ fol (xa 13) q S = 61 => z k6), if_pos ⟨Or.inl k5, k6⟩]
      cases hx : pAs (xa 13) (xl 14) q E (emt 300 0 S) with
      | inl S1 => exact Iff.rfl
      | inr S1 =>
        show wK _ _ _ _ _ _ _ (.inl none) _ ↔ _
        simp only [wI_some, wJ_some, wR_ref, wR_con, wO_some, s1_eq, s2_eq, dl_nil, dl_cons, dm_nil, dm_cons, lk_cons, cat_int, cat_long, cat_ref, cat_con, args_nil, args_int, args_long, args_ref, args_con, ct_nil, ct_cons, Nat.reduceBEq, Nat.reduceAdd, Nat.reduceLeDiff, Nat.reduceEqDiff, Bool.not_true, Bool.not_false, Bool.and_true, Bool.and_false, Bool.true_and, Bool.false_and, cond_true, cond_false, Nat.zero_add, Nat.add_zero, reduceCtorEq, Nat.zero_le, ui_at, ua_at, ul_at, wK_v, wK_n, wK_t, true_and, and_true, nb0, nb1, not_false_eq_true, not_true_eq_false, ci_0, ci_1, ci_3, ci_5, ci_7, ci_12, ci_15, ci_16, ci_21, ci_22, w_56_0, w_56_1, w_56_4, w_56_5, w_56_6, w_56_8, w_56_11, w_56_12, w_56_13, w_56_16, w_56_17, w_56_18, w_56_21, w_56_24, w_56_25, w_56_28_int, w_56_28_ref, w_56_28_retAddr, w_56_29, w_56_30, w_56_33, w_56_36, w_56_37, w_56_40, w_56_43, w_56_44, w_56_45, w_56_48, w_56_51, w_56_52, w_56_55, w_56_58, w_56_59, w_56_60, w_56_63, w_56_66, w_56_67, w_56_70, w_56_73, w_56_74, w_56_77, w_56_80, w_56_81, w_56_84, w_56_86, w_56_89, w_56_90, w_56_91, w_56_94, w_56_97, w_56_98, w_56_99, w_56_102, w_56_103, w_56_106, w_56_109, w_56_110, w_56_113_int, w_56_113_ref, w_56_113_retAddr, w_56_114, p_ci15, p_ci7, p_ci5, p_kind, p_adv hc hq, p_g150, p_g151, p_g152, p_g153, p_g123, p_g74, p_ga14, p_emit, p_raise, p_expect hc hq]
        exact Iff.rfl
    rw [if_neg k5]
    by_cases k7 : xa 13 S.p = 262
    · rw [if_neg (fun z : ¬ xa 13 S.p = 262 => z k7), if_neg (fun z : ¬ fol (xa 13) q S = 61 => z k6), if_pos ⟨Or.inr k7, k6⟩]
      cases hx : pAs (xa 13) (xl 14) q E (emt 300 0 S) with
      | inl S1 => exact Iff.rfl
      | inr S1 =>
        show wK _ _ _ _ _ _ _ (.inl none) _ ↔ _
        simp only [wI_some, wJ_some, wR_ref, wR_con, wO_some, s1_eq, s2_eq, dl_nil, dl_cons, dm_nil, dm_cons, lk_cons, cat_int, cat_long, cat_ref, cat_con, args_nil, args_int, args_long, args_ref, args_con, ct_nil, ct_cons, Nat.reduceBEq, Nat.reduceAdd, Nat.reduceLeDiff, Nat.reduceEqDiff, Bool.not_true, Bool.not_false, Bool.and_true, Bool.and_false, Bool.true_and, Bool.false_and, cond_true, cond_false, Nat.zero_add, Nat.add_zero, reduceCtorEq, Nat.zero_le, ui_at, ua_at, ul_at, wK_v, wK_n, wK_t, true_and, and_true, nb0, nb1, not_false_eq_true, not_true_eq_false, ci_0, ci_1, ci_3, ci_5, ci_7, ci_12, ci_15, ci_16, ci_21, ci_22, w_56_0, w_56_1, w_56_4, w_56_5, w_56_6, w_56_8, w_56_11, w_56_12, w_56_13, w_56_16, w_56_17, w_56_18, w_56_21, w_56_24, w_56_25, w_56_28_int, w_56_28_ref, w_56_28_retAddr, w_56_29, w_56_30, w_56_33, w_56_36, w_56_37, w_56_40, w_56_43, w_56_44, w_56_45, w_56_48, w_56_51, w_56_52, w_56_55, w_56_58, w_56_59, w_56_60, w_56_63, w_56_66, w_56_67, w_56_70, w_56_73, w_56_74, w_56_77, w_56_80, w_56_81, w_56_84, w_56_86, w_56_89, w_56_90, w_56_91, w_56_94, w_56_97, w_56_98, w_56_99, w_56_102, w_56_103, w_56_106, w_56_109, w_56_110, w_56_113_int, w_56_113_ref, w_56_113_retAddr, w_56_114, p_ci15, p_ci7, p_ci5, p_kind, p_adv hc hq, p_g150, p_g151, p_g152, p_g153, p_g123, p_g74, p_ga14, p_emit, p_raise, p_expect hc hq]
        exact Iff.rfl
    rw [if_pos k7, if_neg (show ¬ ((xa 13 S.p = 257 ∨ xa 13 S.p = 262) ∧ fol (xa 13) q S = 61) from fun z => z.1.elim k5 k7)]
    exact fin Q
  · rw [if_neg (show ¬ ((xa 13 S.p = 257 ∨ xa 13 S.p = 262) ∧ fol (xa 13) q S = 61) from fun z => k6 z.2)]
    by_cases k5 : xa 13 S.p = 257
    · rw [if_pos k5, if_pos k6]
      exact fin Q
    rw [if_neg k5]
    by_cases k7 : xa 13 S.p = 262
    · rw [if_neg (fun z : ¬ xa 13 S.p = 262 => z k7), if_pos k6]
      exact fin Q
    rw [if_pos k7]
    exact fin Q
end PW
