/-! The class's parser as a function: state, small methods. -/
abbrev PS : Type := { x : Nat × Nat × (Nat → Int32) × (Nat → Int64) × (Nat → Int32) × (Nat → Int32) × Int32 // x.1 ≤ 200 ∧ x.2.1 ≤ 600 }
def PS.p (S : PS) : Nat := S.1.1
def PS.n (S : PS) : Nat := S.1.2.1
def PS.f (S : PS) : Nat → Int32 := S.1.2.2.1
def PS.g (S : PS) : Nat → Int64 := S.1.2.2.2.1
def PS.e (S : PS) : Nat → Int32 := S.1.2.2.2.2.1
def PS.a (S : PS) : Nat → Int32 := S.1.2.2.2.2.2.1
def PS.w (S : PS) : Int32 := S.1.2.2.2.2.2.2
theorem PS.hp (S : PS) : S.p ≤ 200 := S.2.1
theorem PS.hn (S : PS) : S.n ≤ 600 := S.2.2
def pmk (p n : Nat) (f : Nat → Int32) (g : Nat → Int64) (e a : Nat → Int32) (w : Int32) (hp : p ≤ 200) (hn : n ≤ 600) : PS := ⟨(p, n, f, g, e, a, w), hp, hn⟩
def ps (xi : Nat → Int32) (xa : Nat → Nat → Int32) (xl : Nat → Nat → Int64) (j : dx_S) (S : PS) : dx_S := mk (ui (ui (ui xi 963 (nI S.p)) 452 (nI S.n)) 964 S.w) (ua (ua (ua xa 8 S.f) 10 S.e) 11 S.a) (ul xl 9 S.g) j
def pz (xi : Nat → Int32) (xa : Nat → Nat → Int32) (xl : Nat → Nat → Int64) (j : dx_S) (S : PS) : dx_S := mk (ui (ui (ui (ui xi 963 (nI S.p)) 452 (nI S.n)) 964 S.w) 322 1) (ua (ua (ua xa 8 S.f) 10 S.e) 11 S.a) (ul xl 9 S.g) (j ++ [.inr (10, [])])
abbrev PR := PS ⊕ PS
/-- how a parser's method ends -/
def pR (r : PR) (xi : Nat → Int32) (xa : Nat → Nat → Int32) (xl : Nat → Nat → Int64) (j : dx_S) (Q : dx_O → dx_S → Prop) : Prop := match r with
  | .inl S => Q (.inr (46 + j.length)) (pz xi xa xl j S)
  | .inr S => Q (.inl none) (ps xi xa xl j S)
def pB (r : PR) (k : PS → PR) : PR := match r with
  | .inl S => .inl S
  | .inr S => k S
def adv (q : Nat) (S : PS) : PS := if h : S.p < q ∧ S.p < 200 then pmk (S.p + 1) S.n S.f S.g S.e S.a S.w (by omega) S.hn else S
def emt (o : Int32) (v : Int64) (S : PS) : PS := if h : S.n < 600 then pmk S.p (S.n + 1) (upd S.f S.n o) (vp_updL S.g S.n v) S.e S.a S.w S.hp (by omega) else S
def pX (tk : Nat → Int32) (q : Nat) (k : Int32) (S : PS) : PR := if tk S.p = k then .inr (adv q S) else .inl S
abbrev isSg (k : Int32) : Prop := k = 43 ∨ k = 45
abbrev isFa (k : Int32) : Prop := k = 42 ∨ k = 47 ∨ k = 37
section PU
variable (tk : Nat → Int32) (tv : Nat → Int64) (q : Nat)
def pL (is : Int32 → Prop) [DecidablePred is] (T : PS → PR) : Nat → PS → PR
  | 0, S => .inr S
  | n + 1, S => if is (tk S.p) then pB (T (adv q S)) (fun S' => pL is T n (emt (tk S.p) 0 S')) else .inr S
def pPar (E : PS → PR) (S : PS) : PR := pB (pX tk q 40 S) (fun S => pB (E S) (fun S => pX tk q 41 S))
def pAtom (E : PS → PR) (S : PS) : PR :=
  if tk S.p = 40 then pPar tk q E S
  else if tk S.p = 256 then .inr (emt 301 (tv S.p) (adv q S))
  else if tk S.p = 262 then .inr (emt 304 0 (adv q S))
  else if tk S.p = 257 then (if tk (adv q S).p = 40 then pB (pPar tk q E (adv q S)) (fun S' => .inr (emt 308 (tv S.p) S')) else .inr (emt 302 (tv S.p) (adv q S)))
  else .inl (adv q S)
def pPow (E U : PS → PR) (S : PS) : PR := pB (pAtom tk tv q E S) (fun S => if tk S.p = 94 then pB (U (adv q S)) (fun S => .inr (emt 94 0 S)) else .inr S)
def pUn (E U : PS → PR) (S : PS) : PR := if tk S.p = 45 then pB (U (adv q S)) (fun S => .inr (emt 306 0 S)) else pPow tk tv q E U S
def pTerm (E U : PS → PR) (S : PS) : PR := pB (pUn tk tv q E U S) (pL tk q isFa (pUn tk tv q E U) 200)
def pExp (E U : PS → PR) (S : PS) : PR := pB (pTerm tk tv q E U S) (pL tk q isSg (pTerm tk tv q E U) 200)
/-- expression and unary with k depths left -/
def pEU : Nat → (PS → PR) × (PS → PR)
  | 0 => (fun S => .inl S, fun S => .inl S)
  | k + 1 => (pExp tk tv q (pEU k).1 (pEU k).2, pUn tk tv q (pEU k).1 (pEU k).2)
end PU
section PP
variable {L : Nat} {xs : Nat → Int32} {d : Nat} {σ : dx_S} {Q : dx_O → dx_S → Prop} {xi : Nat → Int32} {xa : Nat → Nat → Int32} {xl : Nat → Nat → Int64} {j : dx_S} {S : PS} {s t p c q : Nat}
theorem p_ci15 : dx_ci (tb_K L xs) (ps xi xa xl j S) (.ref 15) = some 6 := rfl
theorem p_ci7 : dx_ci (tb_K L xs) (ps xi xa xl j S) (.ref 7) = some 4 := rfl
theorem p_ci5 : dx_ci (tb_K L xs) (ps xi xa xl j S) (.ref 5) = some 3 := rfl
theorem p_g150 : dx_gf (tb_K L xs) (ps xi xa xl j S) (.ref 15) 6 0 = some (.ref 12) := rfl
theorem p_g151 : dx_gf (tb_K L xs) (ps xi xa xl j S) (.ref 15) 6 1 = some (.ref 7) := rfl
theorem p_g152 : dx_gf (tb_K L xs) (ps xi xa xl j S) (.ref 15) 6 2 = some (.ref 5) := rfl
theorem p_g153 : dx_gf (tb_K L xs) (ps xi xa xl j S) (.ref 15) 6 3 = some (.int (nI S.p)) := rfl
theorem p_g154 : dx_gf (tb_K L xs) (ps xi xa xl j S) (.ref 15) 6 4 = some (.int S.w) := rfl
theorem p_g122 : dx_gf (tb_K L xs) (ps xi xa xl j S) (.ref 12) 5 2 = some (.ref 13) := rfl
theorem p_g123 : dx_gf (tb_K L xs) (ps xi xa xl j S) (.ref 12) 5 3 = some (.ref 14) := rfl
theorem p_g124 : dx_gf (tb_K L xs) (ps xi xa xl j S) (.ref 12) 5 4 = some (.int (xi 772)) := rfl
theorem p_g74 : dx_gf (tb_K L xs) (ps xi xa xl j S) (.ref 7) 4 4 = some (.int (nI S.n)) := rfl
theorem p_ga14 : dx_el (tb_K L xs) (ps xi xa xl j S) (.ref 14) (nI S.p) = some (xl 14 S.p) := by
  have h := S.hp
  have e := ga_14 (K := tb_K L xs) (xi := ui (ui (ui xi 963 (nI S.p)) 452 (nI S.n)) 964 S.w) (xa := ua (ua (ua xa 8 S.f) 10 S.e) 11 S.a) (xl := ul xl 9 S.g) (j := j) (vp_in_nI (n := S.p) (N := 201) (by omega) (by decide))
  rw [nI_clamp (by omega)] at e
  exact e
theorem p_kind : dx_M (tb_Z L xs) (d + 1) 49 [.ref 15] (ps xi xa xl j S) Q ↔ Q (.inl (some (.int (xa 13 S.p)))) (ps xi xa xl j S) := by
  have h := S.hp
  have e := e_kind (L := L) (xs := xs) (d := d) (Q := Q) (xi := ui (ui (ui xi 963 (nI S.p)) 452 (nI S.n)) 964 S.w) (xa := ua (ua (ua xa 8 S.f) 10 S.e) 11 S.a) (xl := ul xl 9 S.g) (j := j) (vp_in_nI (n := S.p) (N := 201) (by omega) (by decide))
  rw [show (ui (ui (ui xi 963 (nI S.p)) 452 (nI S.n)) 964 S.w) 963 = nI S.p from rfl, nI_clamp (by omega)] at e
  exact e
theorem ui_963 {x : Int32} : ui (ui (ui (ui xi 963 (nI p)) 452 (nI c)) 964 x) 963 (nI s) = ui (ui (ui xi 963 (nI s)) 452 (nI c)) 964 x := by
  funext i
  show (if i = 963 then nI s else if i = 964 then x else if i = 452 then nI c else if i = 963 then nI p else xi i) = if i = 964 then x else if i = 452 then nI c else if i = 963 then nI s else xi i
  by_cases h : i = 963
  · subst h
    rfl
  · rw [if_neg h, if_neg h, if_neg h]
theorem ui_452 {x : Int32} : ui (ui (ui (ui xi 963 (nI p)) 452 (nI c)) 964 x) 452 (nI s) = ui (ui (ui xi 963 (nI p)) 452 (nI s)) 964 x := by
  funext i
  show (if i = 452 then nI s else if i = 964 then x else if i = 452 then nI c else if i = 963 then nI p else xi i) = if i = 964 then x else if i = 452 then nI s else if i = 963 then nI p else xi i
  by_cases h : i = 452
  · subst h
    rfl
  · rw [if_neg h, if_neg h, if_neg h]
theorem ua_8 {u v f g : Nat → Int32} : ua (ua (ua (ua xa 8 f) 10 u) 11 v) 8 g = ua (ua (ua xa 8 g) 10 u) 11 v := by
  funext i
  show (if i = 8 then g else if i = 11 then v else if i = 10 then u else if i = 8 then f else xa i) = if i = 11 then v else if i = 10 then u else if i = 8 then g else xa i
  by_cases h : i = 8
  · subst h
    rfl
  · rw [if_neg h, if_neg h, if_neg h]
theorem p_adv (hc : xi 772 = nI q) (hq : q ≤ 200) : dx_M (tb_Z L xs) (d + 1) 50 [.ref 15] (ps xi xa xl j S) Q ↔ Q (.inl none) (ps xi xa xl j (adv q S)) := by
  have h := S.hp
  unfold ps
  rw [e_advance, show (ui (ui (ui xi 963 (nI S.p)) 452 (nI S.n)) 964 S.w) 963 = nI S.p from rfl, show (ui (ui (ui xi 963 (nI S.p)) 452 (nI S.n)) 964 S.w) 772 = nI q from hc]
  unfold adv
  by_cases hh : S.p < q ∧ S.p < 200
  · rw [if_neg (nI_ge hh.1 (by omega)), dif_pos hh, nI_1, ui_963]
    exact Iff.rfl
  · rw [if_pos (nI_le (show q ≤ S.p by omega) (by omega)), dif_neg hh]
theorem e_emit6 {o : Int32} {v : Int64} (h : xi 452 = nI 600) : dx_M (tb_Z L xs) (d + 1) 29 [.ref 7, .int o, .long v] (mk xi xa xl j) Q ↔ Q (.inl (some (.int (nI 599)))) (mk xi xa xl j) := by
  rw [dx_M_in (Nat.le_of_ble_eq_true rfl)]
  simp only [wI_some, wJ_some, wR_ref, wR_con, wO_some, s1_eq, s2_eq, dl_nil, dl_cons, dm_nil, dm_cons, lk_cons, cat_int, cat_long, cat_ref, cat_con, args_nil, args_int, args_long, args_ref, args_con, ct_nil, ct_cons, Nat.reduceBEq, Nat.reduceAdd, Nat.reduceLeDiff, Nat.reduceEqDiff, Bool.not_true, Bool.not_false, Bool.and_true, Bool.and_false, Bool.true_and, Bool.false_and, cond_true, cond_false, Nat.zero_add, Nat.add_zero, reduceCtorEq, Nat.zero_le, ui_at, ua_at, ul_at, wK_v, wK_n, wK_t, true_and, and_true, nb0, nb1, not_false_eq_true, not_true_eq_false, ci_0, ci_1, ci_3, ci_5, ci_7, ci_12, ci_15, ci_16, ci_21, ci_22, w_29_0, w_29_1, w_29_4, w_29_7, w_29_10, w_29_11, w_29_14, w_29_15, w_29_18, w_29_19, w_29_20, w_29_21, w_29_24, w_29_25, w_29_28, w_29_29, w_29_30, w_29_31_int, w_29_31_ref, w_29_31_retAddr, w_29_32, w_29_35, w_29_36, w_29_37, w_29_40, w_29_41, w_29_44, w_29_45, w_29_46, gf_7_4, h]
  rw [if_pos (by decide)]
  exact Iff.rfl
theorem p_emit {o : Int32} {v : Int64} : dx_M (tb_Z L xs) (d + 1) 29 [.ref 7, .int o, .long v] (ps xi xa xl j S) Q ↔ Q (.inl (some (.int (nI ((emt o v S).n - 1))))) (ps xi xa xl j (emt o v S)) := by
  have h := S.hn
  unfold ps emt
  by_cases h6 : S.n < 600
  · rw [e_emit (xi := ui (ui (ui xi 963 (nI S.p)) 452 (nI S.n)) 964 S.w) (show vp_in (nI S.n) 600 from vp_in_nI h6 (by decide)), dif_pos h6, show (ui (ui (ui xi 963 (nI S.p)) 452 (nI S.n)) 964 S.w) 452 = nI S.n from rfl, nI_1, nI_clamp (by omega), ui_452, ua_8, ul_ul]
    exact Iff.rfl
  · have e : S.n = 600 := by omega
    rw [dif_neg h6, e, e_emit6 rfl]
theorem p_raise : dx_M (tb_Z L xs) (d + 1) 22 [.ref 5, .int 1] (ps xi xa xl j S) Q ↔ Q (.inr (46 + j.length)) (pz xi xa xl j S) := e_raise
theorem p_deep (hs : s ≤ 6) : dx_M (tb_Z L xs) (d + 2) 55 [.ref 15, .int (nI s)] (ps xi xa xl j S) Q ↔ (if s < 6 then Q (.inl (some (.int (nI (s + 1))))) (ps xi xa xl j S) else Q (.inr (46 + j.length)) (pz xi xa xl j S)) := by
  rw [dx_M_in (Nat.le_of_ble_eq_true rfl)]
  simp only [wI_some, wJ_some, wR_ref, wR_con, wO_some, s1_eq, s2_eq, dl_nil, dl_cons, dm_nil, dm_cons, lk_cons, cat_int, cat_long, cat_ref, cat_con, args_nil, args_int, args_long, args_ref, args_con, ct_nil, ct_cons, Nat.reduceBEq, Nat.reduceAdd, Nat.reduceLeDiff, Nat.reduceEqDiff, Bool.not_true, Bool.not_false, Bool.and_true, Bool.and_false, Bool.true_and, Bool.false_and, cond_true, cond_false, Nat.zero_add, Nat.add_zero, reduceCtorEq, Nat.zero_le, ui_at, ua_at, ul_at, wK_v, wK_n, wK_t, true_and, and_true, nb0, nb1, not_false_eq_true, not_true_eq_false, ci_0, ci_1, ci_3, ci_5, ci_7, ci_12, ci_15, ci_16, ci_21, ci_22, w_55_0, w_55_1, w_55_3, w_55_6, w_55_7, w_55_10, w_55_11, w_55_14, w_55_15, w_55_16, w_55_17, p_ci5, p_g152, p_raise, nI_1]
  by_cases h : s < 6
  · rw [if_pos (show nI s < (6 : Int32) from nI_lt (b := 6) h (by decide)), if_pos h]
  · rw [if_neg (show ¬ nI s < (6 : Int32) from nI_nlt (b := 6) (by omega) (by omega)), if_neg h]
theorem p_expect {k : Int32} (hc : xi 772 = nI q) (hq : q ≤ 200) : dx_M (tb_Z L xs) (d + 2) 52 [.ref 15, .int k] (ps xi xa xl j S) Q ↔ pR (pX (xa 13) q k S) xi xa xl j Q := by
  rw [dx_M_in (Nat.le_of_ble_eq_true rfl)]
  simp only [wI_some, wJ_some, wR_ref, wR_con, wO_some, s1_eq, s2_eq, dl_nil, dl_cons, dm_nil, dm_cons, lk_cons, cat_int, cat_long, cat_ref, cat_con, args_nil, args_int, args_long, args_ref, args_con, ct_nil, ct_cons, Nat.reduceBEq, Nat.reduceAdd, Nat.reduceLeDiff, Nat.reduceEqDiff, Bool.not_true, Bool.not_false, Bool.and_true, Bool.and_false, Bool.true_and, Bool.false_and, cond_true, cond_false, Nat.zero_add, Nat.add_zero, reduceCtorEq, Nat.zero_le, ui_at, ua_at, ul_at, wK_v, wK_n, wK_t, true_and, and_true, nb0, nb1, not_false_eq_true, not_true_eq_false, ci_0, ci_1, ci_3, ci_5, ci_7, ci_12, ci_15, ci_16, ci_21, ci_22, w_52_0, w_52_1, w_52_4, w_52_5, w_52_8, w_52_9, w_52_12, w_52_13, w_52_16, w_52_17, w_52_20, p_ci15, p_ci5, p_kind, p_adv hc hq, p_g152, p_raise]
  unfold pX
  by_cases h : xa 13 S.p = k
  · rw [if_pos h, if_pos h]
    exact Iff.rfl
  · rw [if_neg h, if_neg h]
    exact Iff.rfl
end PP
section PQ
variable {L : Nat} {xs : Nat → Int32} {d : Nat} {σ : dx_S} {Q : dx_O → dx_S → Prop} {xi : Nat → Int32} {xa : Nat → Nat → Int32} {xl : Nat → Nat → Int64} {j : dx_S} {S : PS} {s t p c q k : Nat}
theorem pR_B {r : PR} {f : PS → PR} : pR (pB r f) xi xa xl j Q ↔ (match r with
  | .inl S => Q (.inr (46 + j.length)) (pz xi xa xl j S)
  | .inr S => pR (f S) xi xa xl j Q) := by
  cases r <;> exact Iff.rfl
/-- how a method of the parser keeps to its function, at every depth of calls from D on -/
def pOK (L : Nat) (xs : Nat → Int32) (xi : Nat → Int32) (xa : Nat → Nat → Int32) (xl : Nat → Nat → Int64) (j : dx_S) (M : Nat) (s D : Nat) (F : PS → PR) : Prop := ∀ d, D ≤ d → ∀ S Q, (dx_M (tb_Z L xs) d M [.ref 15, .int (nI s)] (ps xi xa xl j S) Q ↔ pR (F S) xi xa xl j Q)

theorem p_par (hc : xi 772 = nI q) (hq : q ≤ 200) (hs : s ≤ 6) {D : Nat} {E : PS → PR} (hE : s < 6 → pOK L xs xi xa xl j 59 (s + 1) D E) (hE6 : ¬ s < 6 → ∀ S, E S = .inl S) : pOK L xs xi xa xl j 64 s (D + 3) (pPar (xa 13) q E) := by
  intro d' hd S Q
  obtain ⟨d, rfl⟩ : ∃ d, d' = d + 3 := ⟨d' - 3, by omega⟩
  rw [dx_M_in (Nat.le_of_ble_eq_true rfl)]
  simp only [wI_some, wJ_some, wR_ref, wR_con, wO_some, s1_eq, s2_eq, dl_nil, dl_cons, dm_nil, dm_cons, lk_cons, cat_int, cat_long, cat_ref, cat_con, args_nil, args_int, args_long, args_ref, args_con, ct_nil, ct_cons, Nat.reduceBEq, Nat.reduceAdd, Nat.reduceLeDiff, Nat.reduceEqDiff, Bool.not_true, Bool.not_false, Bool.and_true, Bool.and_false, Bool.true_and, Bool.false_and, cond_true, cond_false, Nat.zero_add, Nat.add_zero, reduceCtorEq, Nat.zero_le, ui_at, ua_at, ul_at, wK_v, wK_n, wK_t, true_and, and_true, nb0, nb1, not_false_eq_true, not_true_eq_false, ci_0, ci_1, ci_3, ci_5, ci_7, ci_12, ci_15, ci_16, ci_21, ci_22, w_64_0, w_64_1, w_64_3, w_64_7, w_64_8, w_64_9, w_64_12, w_64_15, w_64_16, w_64_18, w_64_21, p_ci15, p_ci7, p_ci5, p_kind, p_adv hc hq, p_g150, p_g151, p_g152, p_g153, p_g123, p_g74, p_ga14, p_emit, p_raise, p_expect hc hq]
  unfold pPar
  rw [pR_B]
  cases hx : pX (xa 13) q 40 S with
  | inl S1 => exact Iff.rfl
  | inr S1 =>
    show wK _ _ _ _ _ _ _ (.inl none) _ ↔ pR (pB (E S1) (fun S => pX (xa 13) q 41 S)) xi xa xl j Q
    simp only [wI_some, wJ_some, wR_ref, wR_con, wO_some, s1_eq, s2_eq, dl_nil, dl_cons, dm_nil, dm_cons, lk_cons, cat_int, cat_long, cat_ref, cat_con, args_nil, args_int, args_long, args_ref, args_con, ct_nil, ct_cons, Nat.reduceBEq, Nat.reduceAdd, Nat.reduceLeDiff, Nat.reduceEqDiff, Bool.not_true, Bool.not_false, Bool.and_true, Bool.and_false, Bool.true_and, Bool.false_and, cond_true, cond_false, Nat.zero_add, Nat.add_zero, reduceCtorEq, Nat.zero_le, ui_at, ua_at, ul_at, wK_v, wK_n, wK_t, true_and, and_true, nb0, nb1, not_false_eq_true, not_true_eq_false, ci_0, ci_1, ci_3, ci_5, ci_7, ci_12, ci_15, ci_16, ci_21, ci_22, w_64_0, w_64_1, w_64_3, w_64_6, w_64_7, w_64_8, w_64_9, w_64_12, w_64_15, w_64_16, w_64_18, w_64_21, p_ci15, p_ci7, p_ci5, p_kind, p_adv hc hq, p_g150, p_g151, p_g152, p_g153, p_g123, p_g74, p_ga14, p_emit, p_raise, p_expect hc hq, p_deep hs]
    rw [pR_B]
    by_cases h6 : s < 6
    · rw [if_pos h6]
      simp only [ct_nil, Nat.zero_le, true_and, hE h6 (d + 2) (by omega)]
      cases hx2 : E S1 with
      | inl S2 => exact Iff.rfl
      | inr S2 =>
        show wK _ _ _ _ _ _ _ (.inl none) _ ↔ pR (pX (xa 13) q 41 S2) xi xa xl j Q
        simp only [wI_some, wJ_some, wR_ref, wR_con, wO_some, s1_eq, s2_eq, dl_nil, dl_cons, dm_nil, dm_cons, lk_cons, cat_int, cat_long, cat_ref, cat_con, args_nil, args_int, args_long, args_ref, args_con, ct_nil, ct_cons, Nat.reduceBEq, Nat.reduceAdd, Nat.reduceLeDiff, Nat.reduceEqDiff, Bool.not_true, Bool.not_false, Bool.and_true, Bool.and_false, Bool.true_and, Bool.false_and, cond_true, cond_false, Nat.zero_add, Nat.add_zero, reduceCtorEq, Nat.zero_le, ui_at, ua_at, ul_at, wK_v, wK_n, wK_t, true_and, and_true, nb0, nb1, not_false_eq_true, not_true_eq_false, ci_0, ci_1, ci_3, ci_5, ci_7, ci_12, ci_15, ci_16, ci_21, ci_22, w_64_0, w_64_1, w_64_3, w_64_6, w_64_7, w_64_8, w_64_9, w_64_12, w_64_15, w_64_16, w_64_18, p_ci15, p_ci7, p_ci5, p_kind, p_adv hc hq, p_g150, p_g151, p_g152, p_g153, p_g123, p_g74, p_ga14, p_emit, p_raise, p_expect hc hq]
        cases hx3 : pX (xa 13) q 41 S2 with
        | inl S3 => exact Iff.rfl
        | inr S3 =>
          show wK _ _ _ _ _ _ _ (.inl none) _ ↔ Q (.inl none) (ps xi xa xl j S3)
          simp only [wI_some, wJ_some, wR_ref, wR_con, wO_some, s1_eq, s2_eq, dl_nil, dl_cons, dm_nil, dm_cons, lk_cons, cat_int, cat_long, cat_ref, cat_con, args_nil, args_int, args_long, args_ref, args_con, ct_nil, ct_cons, Nat.reduceBEq, Nat.reduceAdd, Nat.reduceLeDiff, Nat.reduceEqDiff, Bool.not_true, Bool.not_false, Bool.and_true, Bool.and_false, Bool.true_and, Bool.false_and, cond_true, cond_false, Nat.zero_add, Nat.add_zero, reduceCtorEq, Nat.zero_le, ui_at, ua_at, ul_at, wK_v, wK_n, wK_t, true_and, and_true, nb0, nb1, not_false_eq_true, not_true_eq_false, ci_0, ci_1, ci_3, ci_5, ci_7, ci_12, ci_15, ci_16, ci_21, ci_22, w_64_0, w_64_1, w_64_3, w_64_6, w_64_7, w_64_8, w_64_9, w_64_12, w_64_15, w_64_16, w_64_18, w_64_21, p_ci15, p_ci7, p_ci5, p_kind, p_adv hc hq, p_g150, p_g151, p_g152, p_g153, p_g123, p_g74, p_ga14, p_emit, p_raise, p_expect hc hq]
    · rw [if_neg h6, hE6 h6 S1]
theorem p_atom (hc : xi 772 = nI q) (hq : q ≤ 200) (hs : s ≤ 6) {D : Nat} {E : PS → PR} (hE : s < 6 → pOK L xs xi xa xl j 59 (s + 1) D E) (hE6 : ¬ s < 6 → ∀ S, E S = .inl S) : pOK L xs xi xa xl j 63 s (D + 4) (pAtom (xa 13) (xl 14) q E) := by
  intro d' hd S Q
  obtain ⟨d, rfl⟩ : ∃ d, d' = d + 4 := ⟨d' - 4, by omega⟩
  have hP := p_par hc hq hs hE hE6
  rw [dx_M_in (Nat.le_of_ble_eq_true rfl)]
  simp only [wI_some, wJ_some, wR_ref, wR_con, wO_some, s1_eq, s2_eq, dl_nil, dl_cons, dm_nil, dm_cons, lk_cons, cat_int, cat_long, cat_ref, cat_con, args_nil, args_int, args_long, args_ref, args_con, ct_nil, ct_cons, Nat.reduceBEq, Nat.reduceAdd, Nat.reduceLeDiff, Nat.reduceEqDiff, Bool.not_true, Bool.not_false, Bool.and_true, Bool.and_false, Bool.true_and, Bool.false_and, cond_true, cond_false, Nat.zero_add, Nat.add_zero, reduceCtorEq, Nat.zero_le, ui_at, ua_at, ul_at, wK_v, wK_n, wK_t, true_and, and_true, nb0, nb1, not_false_eq_true, not_true_eq_false, ci_0, ci_1, ci_3, ci_5, ci_7, ci_12, ci_15, ci_16, ci_21, ci_22, w_63_0, w_63_1, w_63_4, w_63_5, w_63_6, w_63_9, w_63_12, w_63_13, w_63_16, w_63_17, w_63_18, w_63_19, w_63_21, w_63_24, w_63_25, w_63_26, w_63_30, w_63_31, w_63_34, w_63_35, w_63_38, w_63_41, w_63_42, w_63_45, w_63_48, w_63_49, w_63_52_int, w_63_52_ref, w_63_52_retAddr, w_63_53, w_63_56, w_63_57, w_63_60, w_63_63, w_63_64, w_63_67, w_63_70, w_63_71, w_63_74_int, w_63_74_ref, w_63_74_retAddr, w_63_75, w_63_78, w_63_79, w_63_82, w_63_85, w_63_86, w_63_89, w_63_90, w_63_93, w_63_96, w_63_97, w_63_100, w_63_102, w_63_105, w_63_106, w_63_107, w_63_111, w_63_114, w_63_117, w_63_118, w_63_121_int, w_63_121_ref, w_63_121_retAddr, w_63_122, w_63_125, w_63_126, w_63_129, w_63_132, w_63_133, w_63_136_int, w_63_136_ref, w_63_136_retAddr, w_63_137, p_ci15, p_ci7, p_ci5, p_kind, p_adv hc hq, p_g150, p_g151, p_g152, p_g153, p_g123, p_g74, p_ga14, p_emit, p_raise, p_expect hc hq, hP (d + 3) (by omega)]
  unfold pAtom
  by_cases k1 : xa 13 S.p = 40
  · simp only [if_pos k1, if_neg (fun z : ¬ xa 13 S.p = 40 => z k1)]
    cases hx : pPar (xa 13) q E S with
    | inl S1 => exact Iff.rfl
    | inr S1 =>
      show wK _ _ _ _ _ _ _ (.inl none) _ ↔ _
      simp only [wI_some, wJ_some, wR_ref, wR_con, wO_some, s1_eq, s2_eq, dl_nil, dl_cons, dm_nil, dm_cons, lk_cons, cat_int, cat_long, cat_ref, cat_con, args_nil, args_int, args_long, args_ref, args_con, ct_nil, ct_cons, Nat.reduceBEq, Nat.reduceAdd, Nat.reduceLeDiff, Nat.reduceEqDiff, Bool.not_true, Bool.not_false, Bool.and_true, Bool.and_false, Bool.true_and, Bool.false_and, cond_true, cond_false, Nat.zero_add, Nat.add_zero, reduceCtorEq, Nat.zero_le, ui_at, ua_at, ul_at, wK_v, wK_n, wK_t, true_and, and_true, nb0, nb1, not_false_eq_true, not_true_eq_false, ci_0, ci_1, ci_3, ci_5, ci_7, ci_12, ci_15, ci_16, ci_21, ci_22, w_63_0, w_63_1, w_63_4, w_63_5, w_63_6, w_63_9, w_63_12, w_63_13, w_63_16, w_63_17, w_63_18, w_63_19, w_63_21, w_63_24, w_63_25, w_63_26, w_63_29, w_63_30, w_63_31, w_63_34, w_63_35, w_63_38, w_63_41, w_63_42, w_63_45, w_63_48, w_63_49, w_63_52_int, w_63_52_ref, w_63_52_retAddr, w_63_53, w_63_56, w_63_57, w_63_60, w_63_63, w_63_64, w_63_67, w_63_70, w_63_71, w_63_74_int, w_63_74_ref, w_63_74_retAddr, w_63_75, w_63_78, w_63_79, w_63_82, w_63_85, w_63_86, w_63_89, w_63_90, w_63_93, w_63_96, w_63_97, w_63_100, w_63_102, w_63_105, w_63_106, w_63_107, w_63_110, w_63_111, w_63_114, w_63_117, w_63_118, w_63_121_int, w_63_121_ref, w_63_121_retAddr, w_63_122, w_63_125, w_63_126, w_63_129, w_63_132, w_63_133, w_63_136_int, w_63_136_ref, w_63_136_retAddr, w_63_137, p_ci15, p_ci7, p_ci5, p_kind, p_adv hc hq, p_g150, p_g151, p_g152, p_g153, p_g123, p_g74, p_ga14, p_emit, p_raise, p_expect hc hq]
      exact Iff.rfl
  rw [if_pos k1, if_neg k1]
  by_cases k2 : xa 13 S.p = 256
  · rw [if_neg (fun z : ¬ xa 13 S.p = 256 => z k2), if_pos k2]
    exact Iff.rfl
  rw [if_pos k2, if_neg k2]
  by_cases k3 : xa 13 S.p = 262
  · rw [if_neg (fun z : ¬ xa 13 S.p = 262 => z k3), if_pos k3]
    exact Iff.rfl
  rw [if_pos k3, if_neg k3]
  by_cases k4 : xa 13 S.p = 257
  · rw [if_pos k4, if_pos k4]
    by_cases k5 : xa 13 (adv q S).p = 40
    · rw [if_neg (fun z : ¬ xa 13 (adv q S).p = 40 => z k5), if_pos k5, pR_B]
      cases hx : pPar (xa 13) q E (adv q S) with
      | inl S1 => exact Iff.rfl
      | inr S1 =>
        show wK _ _ _ _ _ _ _ (.inl none) _ ↔ _
        simp only [wI_some, wJ_some, wR_ref, wR_con, wO_some, s1_eq, s2_eq, dl_nil, dl_cons, dm_nil, dm_cons, lk_cons, cat_int, cat_long, cat_ref, cat_con, args_nil, args_int, args_long, args_ref, args_con, ct_nil, ct_cons, Nat.reduceBEq, Nat.reduceAdd, Nat.reduceLeDiff, Nat.reduceEqDiff, Bool.not_true, Bool.not_false, Bool.and_true, Bool.and_false, Bool.true_and, Bool.false_and, cond_true, cond_false, Nat.zero_add, Nat.add_zero, reduceCtorEq, Nat.zero_le, ui_at, ua_at, ul_at, wK_v, wK_n, wK_t, true_and, and_true, nb0, nb1, not_false_eq_true, not_true_eq_false, ci_0, ci_1, ci_3, ci_5, ci_7, ci_12, ci_15, ci_16, ci_21, ci_22, w_63_0, w_63_1, w_63_4, w_63_5, w_63_6, w_63_9, w_63_12, w_63_13, w_63_16, w_63_17, w_63_18, w_63_19, w_63_21, w_63_24, w_63_25, w_63_26, w_63_29, w_63_30, w_63_31, w_63_34, w_63_35, w_63_38, w_63_41, w_63_42, w_63_45, w_63_48, w_63_49, w_63_52_int, w_63_52_ref, w_63_52_retAddr, w_63_53, w_63_56, w_63_57, w_63_60, w_63_63, w_63_64, w_63_67, w_63_70, w_63_71, w_63_74_int, w_63_74_ref, w_63_74_retAddr, w_63_75, w_63_78, w_63_79, w_63_82, w_63_85, w_63_86, w_63_89, w_63_90, w_63_93, w_63_96, w_63_97, w_63_100, w_63_102, w_63_105, w_63_106, w_63_107, w_63_110, w_63_111, w_63_114, w_63_117, w_63_118, w_63_121_int, w_63_121_ref, w_63_121_retAddr, w_63_122, w_63_125, w_63_126, w_63_129, w_63_132, w_63_133, w_63_136_int, w_63_136_ref, w_63_136_retAddr, w_63_137, p_ci15, p_ci7, p_ci5, p_kind, p_adv hc hq, p_g150, p_g151, p_g152, p_g153, p_g123, p_g74, p_ga14, p_emit, p_raise, p_expect hc hq]
        exact Iff.rfl
    · rw [if_pos k5, if_neg k5]
      exact Iff.rfl
  · rw [if_neg k4, if_neg k4]
    exact Iff.rfl
theorem p_power (hc : xi 772 = nI q) (hq : q ≤ 200) (hs : s ≤ 6) {D : Nat} {E U : PS → PR} (hE : s < 6 → pOK L xs xi xa xl j 59 (s + 1) D E) (hE6 : ¬ s < 6 → ∀ S, E S = .inl S) (hU : s < 6 → pOK L xs xi xa xl j 61 (s + 1) D U) (hU6 : ¬ s < 6 → ∀ S, U S = .inl S) : pOK L xs xi xa xl j 62 s (D + 5) (pPow (xa 13) (xl 14) q E U) := by
  intro d' hd S Q
  obtain ⟨d, rfl⟩ : ∃ d, d' = d + 5 := ⟨d' - 5, by omega⟩
  have hA := p_atom hc hq hs hE hE6
  rw [dx_M_in (Nat.le_of_ble_eq_true rfl)]
  simp only [wI_some, wJ_some, wR_ref, wR_con, wO_some, s1_eq, s2_eq, dl_nil, dl_cons, dm_nil, dm_cons, lk_cons, cat_int, cat_long, cat_ref, cat_con, args_nil, args_int, args_long, args_ref, args_con, ct_nil, ct_cons, Nat.reduceBEq, Nat.reduceAdd, Nat.reduceLeDiff, Nat.reduceEqDiff, Bool.not_true, Bool.not_false, Bool.and_true, Bool.and_false, Bool.true_and, Bool.false_and, cond_true, cond_false, Nat.zero_add, Nat.add_zero, reduceCtorEq, Nat.zero_le, ui_at, ua_at, ul_at, wK_v, wK_n, wK_t, true_and, and_true, nb0, nb1, not_false_eq_true, not_true_eq_false, ci_0, ci_1, ci_3, ci_5, ci_7, ci_12, ci_15, ci_16, ci_21, ci_22, w_62_0, w_62_1, w_62_2, w_62_6, w_62_9, w_62_11, w_62_14, w_62_15, w_62_18, w_62_19, w_62_20, w_62_21, w_62_24, w_62_27, w_62_28, w_62_31, w_62_33, w_62_34, w_62_37_int, w_62_37_ref, w_62_37_retAddr, w_62_38, p_ci15, p_ci7, p_ci5, p_kind, p_adv hc hq, p_g150, p_g151, p_g152, p_g153, p_g123, p_g74, p_ga14, p_emit, p_raise, p_expect hc hq, hA (d + 4) (by omega)]
  unfold pPow
  rw [pR_B]
  cases hx : pAtom (xa 13) (xl 14) q E S with
  | inl S1 => exact Iff.rfl
  | inr S1 =>
    show wK _ _ _ _ _ _ _ (.inl none) _ ↔ pR (if xa 13 S1.p = 94 then pB (U (adv q S1)) (fun S => .inr (emt 94 0 S)) else .inr S1) xi xa xl j Q
    simp only [wI_some, wJ_some, wR_ref, wR_con, wO_some, s1_eq, s2_eq, dl_nil, dl_cons, dm_nil, dm_cons, lk_cons, cat_int, cat_long, cat_ref, cat_con, args_nil, args_int, args_long, args_ref, args_con, ct_nil, ct_cons, Nat.reduceBEq, Nat.reduceAdd, Nat.reduceLeDiff, Nat.reduceEqDiff, Bool.not_true, Bool.not_false, Bool.and_true, Bool.and_false, Bool.true_and, Bool.false_and, cond_true, cond_false, Nat.zero_add, Nat.add_zero, reduceCtorEq, Nat.zero_le, ui_at, ua_at, ul_at, wK_v, wK_n, wK_t, true_and, and_true, nb0, nb1, not_false_eq_true, not_true_eq_false, ci_0, ci_1, ci_3, ci_5, ci_7, ci_12, ci_15, ci_16, ci_21, ci_22, w_62_0, w_62_1, w_62_2, w_62_5, w_62_6, w_62_9, w_62_11, w_62_14, w_62_15, w_62_18, w_62_19, w_62_20, w_62_21, w_62_24, w_62_27, w_62_28, w_62_31, w_62_33, w_62_34, w_62_37_int, w_62_37_ref, w_62_37_retAddr, w_62_38, p_ci15, p_ci7, p_ci5, p_kind, p_adv hc hq, p_g150, p_g151, p_g152, p_g153, p_g123, p_g74, p_ga14, p_emit, p_raise, p_expect hc hq, p_deep hs]
    by_cases k1 : xa 13 S1.p = 94
    · rw [if_neg (fun z : ¬ xa 13 S1.p = 94 => z k1), if_pos k1, pR_B]
      by_cases h6 : s < 6
      · rw [if_pos h6]
        simp only [ct_nil, Nat.zero_le, true_and, hU h6 (d + 4) (by omega)]
        cases hx2 : U (adv q S1) with
        | inl S2 => exact Iff.rfl
        | inr S2 =>
          show wK _ _ _ _ _ _ _ (.inl none) _ ↔ _
          simp only [wI_some, wJ_some, wR_ref, wR_con, wO_some, s1_eq, s2_eq, dl_nil, dl_cons, dm_nil, dm_cons, lk_cons, cat_int, cat_long, cat_ref, cat_con, args_nil, args_int, args_long, args_ref, args_con, ct_nil, ct_cons, Nat.reduceBEq, Nat.reduceAdd, Nat.reduceLeDiff, Nat.reduceEqDiff, Bool.not_true, Bool.not_false, Bool.and_true, Bool.and_false, Bool.true_and, Bool.false_and, cond_true, cond_false, Nat.zero_add, Nat.add_zero, reduceCtorEq, Nat.zero_le, ui_at, ua_at, ul_at, wK_v, wK_n, wK_t, true_and, and_true, nb0, nb1, not_false_eq_true, not_true_eq_false, ci_0, ci_1, ci_3, ci_5, ci_7, ci_12, ci_15, ci_16, ci_21, ci_22, w_62_0, w_62_1, w_62_2, w_62_5, w_62_6, w_62_9, w_62_11, w_62_14, w_62_15, w_62_18, w_62_19, w_62_20, w_62_21, w_62_24, w_62_27, w_62_28, w_62_31, w_62_33, w_62_34, w_62_37_int, w_62_37_ref, w_62_37_retAddr, w_62_38, p_ci15, p_ci7, p_ci5, p_kind, p_adv hc hq, p_g150, p_g151, p_g152, p_g153, p_g123, p_g74, p_ga14, p_emit, p_raise, p_expect hc hq]
          exact Iff.rfl
      · rw [if_neg h6, hU6 h6]
    · rw [if_pos k1, if_neg k1]
      exact Iff.rfl
theorem p_unary (hc : xi 772 = nI q) (hq : q ≤ 200) (hs : s ≤ 6) {D : Nat} {E U : PS → PR} (hE : s < 6 → pOK L xs xi xa xl j 59 (s + 1) D E) (hE6 : ¬ s < 6 → ∀ S, E S = .inl S) (hU : s < 6 → pOK L xs xi xa xl j 61 (s + 1) D U) (hU6 : ¬ s < 6 → ∀ S, U S = .inl S) : pOK L xs xi xa xl j 61 s (D + 6) (pUn (xa 13) (xl 14) q E U) := by
  intro d' hd S Q
  obtain ⟨d, rfl⟩ : ∃ d, d' = d + 6 := ⟨d' - 6, by omega⟩
  have hA := p_power hc hq hs hE hE6 hU hU6
  rw [dx_M_in (Nat.le_of_ble_eq_true rfl)]
  simp only [wI_some, wJ_some, wR_ref, wR_con, wO_some, s1_eq, s2_eq, dl_nil, dl_cons, dm_nil, dm_cons, lk_cons, cat_int, cat_long, cat_ref, cat_con, args_nil, args_int, args_long, args_ref, args_con, ct_nil, ct_cons, Nat.reduceBEq, Nat.reduceAdd, Nat.reduceLeDiff, Nat.reduceEqDiff, Bool.not_true, Bool.not_false, Bool.and_true, Bool.and_false, Bool.true_and, Bool.false_and, cond_true, cond_false, Nat.zero_add, Nat.add_zero, reduceCtorEq, Nat.zero_le, ui_at, ua_at, ul_at, wK_v, wK_n, wK_t, true_and, and_true, nb0, nb1, not_false_eq_true, not_true_eq_false, ci_0, ci_1, ci_3, ci_5, ci_7, ci_12, ci_15, ci_16, ci_21, ci_22, w_61_0, w_61_1, w_61_4, w_61_6, w_61_9, w_61_10, w_61_13, w_61_14, w_61_15, w_61_16, w_61_19, w_61_22, w_61_23, w_61_26, w_61_29, w_61_30, w_61_33_int, w_61_33_ref, w_61_33_retAddr, w_61_34, w_61_37, w_61_38, w_61_39, p_ci15, p_ci7, p_ci5, p_kind, p_adv hc hq, p_g150, p_g151, p_g152, p_g153, p_g123, p_g74, p_ga14, p_emit, p_raise, p_expect hc hq, p_deep hs, hA (d + 5) (by omega)]
  unfold pUn
  by_cases k1 : xa 13 S.p = 45
  · rw [if_neg (fun z : ¬ xa 13 S.p = 45 => z k1), if_pos k1, pR_B]
    by_cases h6 : s < 6
    · rw [if_pos h6]
      simp only [ct_nil, Nat.zero_le, true_and, hU h6 (d + 5) (by omega)]
      cases hx2 : U (adv q S) with
      | inl S2 => exact Iff.rfl
      | inr S2 =>
        show wK _ _ _ _ _ _ _ (.inl none) _ ↔ _
        simp only [wI_some, wJ_some, wR_ref, wR_con, wO_some, s1_eq, s2_eq, dl_nil, dl_cons, dm_nil, dm_cons, lk_cons, cat_int, cat_long, cat_ref, cat_con, args_nil, args_int, args_long, args_ref, args_con, ct_nil, ct_cons, Nat.reduceBEq, Nat.reduceAdd, Nat.reduceLeDiff, Nat.reduceEqDiff, Bool.not_true, Bool.not_false, Bool.and_true, Bool.and_false, Bool.true_and, Bool.false_and, cond_true, cond_false, Nat.zero_add, Nat.add_zero, reduceCtorEq, Nat.zero_le, ui_at, ua_at, ul_at, wK_v, wK_n, wK_t, true_and, and_true, nb0, nb1, not_false_eq_true, not_true_eq_false, ci_0, ci_1, ci_3, ci_5, ci_7, ci_12, ci_15, ci_16, ci_21, ci_22, w_61_0, w_61_1, w_61_4, w_61_6, w_61_9, w_61_10, w_61_13, w_61_14, w_61_15, w_61_16, w_61_19, w_61_22, w_61_23, w_61_26, w_61_29, w_61_30, w_61_33_int, w_61_33_ref, w_61_33_retAddr, w_61_34, w_61_37, w_61_38, w_61_39, w_61_42, p_ci15, p_ci7, p_ci5, p_kind, p_adv hc hq, p_g150, p_g151, p_g152, p_g153, p_g123, p_g74, p_ga14, p_emit, p_raise, p_expect hc hq]
        exact Iff.rfl
    · rw [if_neg h6, hU6 h6]
  · rw [if_pos k1, if_neg k1]
    cases hx : pPow (xa 13) (xl 14) q E U S with
    | inl S1 => exact Iff.rfl
    | inr S1 =>
      show wK _ _ _ _ _ _ _ (.inl none) _ ↔ _
      simp only [wI_some, wJ_some, wR_ref, wR_con, wO_some, s1_eq, s2_eq, dl_nil, dl_cons, dm_nil, dm_cons, lk_cons, cat_int, cat_long, cat_ref, cat_con, args_nil, args_int, args_long, args_ref, args_con, ct_nil, ct_cons, Nat.reduceBEq, Nat.reduceAdd, Nat.reduceLeDiff, Nat.reduceEqDiff, Bool.not_true, Bool.not_false, Bool.and_true, Bool.and_false, Bool.true_and, Bool.false_and, cond_true, cond_false, Nat.zero_add, Nat.add_zero, reduceCtorEq, Nat.zero_le, ui_at, ua_at, ul_at, wK_v, wK_n, wK_t, true_and, and_true, nb0, nb1, not_false_eq_true, not_true_eq_false, ci_0, ci_1, ci_3, ci_5, ci_7, ci_12, ci_15, ci_16, ci_21, ci_22, w_61_0, w_61_1, w_61_4, w_61_6, w_61_9, w_61_10, w_61_13, w_61_14, w_61_15, w_61_16, w_61_19, w_61_22, w_61_23, w_61_26, w_61_29, w_61_30, w_61_33_int, w_61_33_ref, w_61_33_retAddr, w_61_34, w_61_37, w_61_38, w_61_39, w_61_42, p_ci15, p_ci7, p_ci5, p_kind, p_adv hc hq, p_g150, p_g151, p_g152, p_g153, p_g123, p_g74, p_ga14, p_emit, p_raise, p_expect hc hq]
      exact Iff.rfl
theorem sg_1 {k : Int32} (h : isSg k) : (if k = 43 then 1 else if ¬ k = 45 then 0 else (1 : Int32)) = 1 := by
  rcases h with rfl | rfl <;> rfl
theorem sg_0 {k : Int32} (h : ¬ isSg k) : (if k = 43 then 1 else if ¬ k = 45 then 0 else (1 : Int32)) = 0 := by
  rw [if_neg (fun z => h (Or.inl z)), if_pos (fun z => h (Or.inr z))]
theorem fa_1 {k : Int32} (h : isFa k) : (if k = 42 then 1 else if k = 47 then 1 else if ¬ k = 37 then 0 else (1 : Int32)) = 1 := by
  rcases h with rfl | rfl | rfl <;> rfl
theorem fa_0 {k : Int32} (h : ¬ isFa k) : (if k = 42 then 1 else if k = 47 then 1 else if ¬ k = 37 then 0 else (1 : Int32)) = 0 := by
  rw [if_neg (fun z => h (Or.inl z)), if_neg (fun z => h (Or.inr (Or.inl z))), if_pos (fun z => h (Or.inr (Or.inr z)))]
theorem l_p_term (hc : xi 772 = nI q) (hq : q ≤ 200) {T : PS → PR} (hT : ∀ S Q, (dx_M (tb_Z L xs) (d + 1) 61 [.ref 15, .int (nI s)] (ps xi xa xl j S) Q ↔ pR (T S) xi xa xl j Q)) : ∀ n i, n + i = 200 → ∀ S y, (dx_W (tb_Z L xs) (d + 1) 60 7 [(2, .int (nI i)), (3, .int y), (0, .ref 15), (1, .int (nI s))] [] (ps xi xa xl j S) Q ↔ pR (pL (xa 13) q isFa T n S) xi xa xl j Q) := by
  intro n
  induction n with
  | zero =>
    intro i hi S y
    rw [w_60_7]
    simp only [wI_some, wJ_some, wR_ref, wR_con, wO_some, s1_eq, s2_eq, dl_nil, dl_cons, dm_nil, dm_cons, lk_cons, cat_int, cat_long, cat_ref, cat_con, args_nil, args_int, args_long, args_ref, args_con, ct_nil, ct_cons, Nat.reduceBEq, Nat.reduceAdd, Nat.reduceLeDiff, Nat.reduceEqDiff, Bool.not_true, Bool.not_false, Bool.and_true, Bool.and_false, Bool.true_and, Bool.false_and, cond_true, cond_false, Nat.zero_add, Nat.add_zero, reduceCtorEq, Nat.zero_le, ui_at, ua_at, ul_at, wK_v, wK_n, wK_t, true_and, and_true, nb0, nb1, not_false_eq_true, not_true_eq_false, ci_0, ci_1, ci_3, ci_5, ci_7, ci_12, ci_15, ci_16, ci_21, ci_22, w_60_0, w_60_1, w_60_2, w_60_5, w_60_6, w_60_8, w_60_11, w_60_14, w_60_15, w_60_18, w_60_21, w_60_24, w_60_25, w_60_28, w_60_29, w_60_30, w_60_33, w_60_34, w_60_35, w_60_38, w_60_39, w_60_42, w_60_43, w_60_44, w_60_47_int, w_60_47_ref, w_60_47_retAddr, w_60_48, w_60_51, w_60_54, p_ci15, p_ci7, p_ci5, p_kind, p_adv hc hq, p_g150, p_g151, p_g152, p_g153, p_g123, p_g74, p_ga14, p_emit, p_raise, p_expect hc hq]
    rw [if_pos (show (200 : Int32) ≤ nI i from nI_le (a := 200) (by omega) (by omega))]
    exact Iff.rfl
  | succ n ih =>
    intro i hi S y
    rw [w_60_7]
    simp only [wI_some, wJ_some, wR_ref, wR_con, wO_some, s1_eq, s2_eq, dl_nil, dl_cons, dm_nil, dm_cons, lk_cons, cat_int, cat_long, cat_ref, cat_con, args_nil, args_int, args_long, args_ref, args_con, ct_nil, ct_cons, Nat.reduceBEq, Nat.reduceAdd, Nat.reduceLeDiff, Nat.reduceEqDiff, Bool.not_true, Bool.not_false, Bool.and_true, Bool.and_false, Bool.true_and, Bool.false_and, cond_true, cond_false, Nat.zero_add, Nat.add_zero, reduceCtorEq, Nat.zero_le, ui_at, ua_at, ul_at, wK_v, wK_n, wK_t, true_and, and_true, nb0, nb1, not_false_eq_true, not_true_eq_false, ci_0, ci_1, ci_3, ci_5, ci_7, ci_12, ci_15, ci_16, ci_21, ci_22, w_60_0, w_60_1, w_60_2, w_60_5, w_60_6, w_60_8, w_60_11, w_60_14, w_60_15, w_60_18, w_60_21, w_60_24, w_60_25, w_60_28, w_60_29, w_60_30, w_60_33, w_60_34, w_60_35, w_60_39, w_60_42, w_60_43, w_60_44, w_60_47_int, w_60_47_ref, w_60_47_retAddr, w_60_48, w_60_51, w_60_54, p_ci15, p_ci7, p_ci5, p_kind, p_adv hc hq, p_g150, p_g151, p_g152, p_g153, p_g123, p_g74, p_ga14, p_emit, p_raise, p_expect hc hq, hT, e_isFactor]
    rw [if_neg (show ¬ (200 : Int32) ≤ nI i from nI_ge (b := 200) (by omega) (by decide))]
    unfold pL
    by_cases h : isFa (xa 13 S.p)
    · rw [if_pos h, fa_1 h, if_neg (show ¬ (1 : Int32) = 0 by decide), pR_B]
      cases hx : T (adv q S) with
      | inl S1 => exact Iff.rfl
      | inr S1 =>
        show wK _ _ _ _ _ _ _ (.inl none) _ ↔ _
        simp only [wI_some, wJ_some, wR_ref, wR_con, wO_some, s1_eq, s2_eq, dl_nil, dl_cons, dm_nil, dm_cons, lk_cons, cat_int, cat_long, cat_ref, cat_con, args_nil, args_int, args_long, args_ref, args_con, ct_nil, ct_cons, Nat.reduceBEq, Nat.reduceAdd, Nat.reduceLeDiff, Nat.reduceEqDiff, Bool.not_true, Bool.not_false, Bool.and_true, Bool.and_false, Bool.true_and, Bool.false_and, cond_true, cond_false, Nat.zero_add, Nat.add_zero, reduceCtorEq, Nat.zero_le, ui_at, ua_at, ul_at, wK_v, wK_n, wK_t, true_and, and_true, nb0, nb1, not_false_eq_true, not_true_eq_false, ci_0, ci_1, ci_3, ci_5, ci_7, ci_12, ci_15, ci_16, ci_21, ci_22, w_60_0, w_60_1, w_60_2, w_60_5, w_60_6, w_60_8, w_60_11, w_60_14, w_60_15, w_60_18, w_60_21, w_60_24, w_60_25, w_60_28, w_60_29, w_60_30, w_60_33, w_60_34, w_60_35, w_60_38, w_60_39, w_60_42, w_60_43, w_60_44, w_60_47_int, w_60_47_ref, w_60_47_retAddr, w_60_48, w_60_51, w_60_54, p_ci15, p_ci7, p_ci5, p_kind, p_adv hc hq, p_g150, p_g151, p_g152, p_g153, p_g123, p_g74, p_ga14, p_emit, p_raise, p_expect hc hq, nI_1]
        exact ih (i + 1) (by omega) _ _
    · rw [if_neg h, fa_0 h, if_pos rfl]
      exact Iff.rfl
theorem p_term (hc : xi 772 = nI q) (hq : q ≤ 200) (hs : s ≤ 6) {D : Nat} {E U : PS → PR} (hE : s < 6 → pOK L xs xi xa xl j 59 (s + 1) D E) (hE6 : ¬ s < 6 → ∀ S, E S = .inl S) (hU : s < 6 → pOK L xs xi xa xl j 61 (s + 1) D U) (hU6 : ¬ s < 6 → ∀ S, U S = .inl S) : pOK L xs xi xa xl j 60 s (D + 7) (pTerm (xa 13) (xl 14) q E U) := by
  intro d' hd S Q
  obtain ⟨d, rfl⟩ : ∃ d, d' = d + 7 := ⟨d' - 7, by omega⟩
  have hA := p_unary hc hq hs hE hE6 hU hU6
  rw [dx_M_in (Nat.le_of_ble_eq_true rfl)]
  simp only [wI_some, wJ_some, wR_ref, wR_con, wO_some, s1_eq, s2_eq, dl_nil, dl_cons, dm_nil, dm_cons, lk_cons, cat_int, cat_long, cat_ref, cat_con, args_nil, args_int, args_long, args_ref, args_con, ct_nil, ct_cons, Nat.reduceBEq, Nat.reduceAdd, Nat.reduceLeDiff, Nat.reduceEqDiff, Bool.not_true, Bool.not_false, Bool.and_true, Bool.and_false, Bool.true_and, Bool.false_and, cond_true, cond_false, Nat.zero_add, Nat.add_zero, reduceCtorEq, Nat.zero_le, ui_at, ua_at, ul_at, wK_v, wK_n, wK_t, true_and, and_true, nb0, nb1, not_false_eq_true, not_true_eq_false, ci_0, ci_1, ci_3, ci_5, ci_7, ci_12, ci_15, ci_16, ci_21, ci_22, w_60_0, w_60_1, w_60_2, w_60_6, w_60_7, w_60_8, w_60_11, w_60_14, w_60_15, w_60_18, w_60_21, w_60_24, w_60_25, w_60_28, w_60_29, w_60_30, w_60_33, w_60_34, w_60_35, w_60_38, w_60_39, w_60_42, w_60_43, w_60_44, w_60_47_int, w_60_47_ref, w_60_47_retAddr, w_60_48, w_60_51, w_60_54, p_ci15, p_ci7, p_ci5, p_kind, p_adv hc hq, p_g150, p_g151, p_g152, p_g153, p_g123, p_g74, p_ga14, p_emit, p_raise, p_expect hc hq, hA (d + 6) (by omega)]
  unfold pTerm
  rw [pR_B]
  cases hx : pUn (xa 13) (xl 14) q E U S with
  | inl S1 => exact Iff.rfl
  | inr S1 =>
    show wK _ _ _ _ _ _ _ (.inl none) _ ↔ pR (pL (xa 13) q isFa (pUn (xa 13) (xl 14) q E U) 200 S1) xi xa xl j Q
    simp only [wI_some, wJ_some, wR_ref, wR_con, wO_some, s1_eq, s2_eq, dl_nil, dl_cons, dm_nil, dm_cons, lk_cons, cat_int, cat_long, cat_ref, cat_con, args_nil, args_int, args_long, args_ref, args_con, ct_nil, ct_cons, Nat.reduceBEq, Nat.reduceAdd, Nat.reduceLeDiff, Nat.reduceEqDiff, Bool.not_true, Bool.not_false, Bool.and_true, Bool.and_false, Bool.true_and, Bool.false_and, cond_true, cond_false, Nat.zero_add, Nat.add_zero, reduceCtorEq, Nat.zero_le, ui_at, ua_at, ul_at, wK_v, wK_n, wK_t, true_and, and_true, nb0, nb1, not_false_eq_true, not_true_eq_false, ci_0, ci_1, ci_3, ci_5, ci_7, ci_12, ci_15, ci_16, ci_21, ci_22, w_60_0, w_60_1, w_60_2, w_60_5, w_60_6, w_60_8, w_60_11, w_60_14, w_60_15, w_60_18, w_60_21, w_60_24, w_60_25, w_60_28, w_60_29, w_60_30, w_60_33, w_60_34, w_60_35, w_60_38, w_60_39, w_60_42, w_60_43, w_60_44, w_60_47_int, w_60_47_ref, w_60_47_retAddr, w_60_48, w_60_51, w_60_54, p_ci15, p_ci7, p_ci5, p_kind, p_adv hc hq, p_g150, p_g151, p_g152, p_g153, p_g123, p_g74, p_ga14, p_emit, p_raise, p_expect hc hq]
    rw [w_60_7]
    simp only [wI_some, wJ_some, wR_ref, wR_con, wO_some, s1_eq, s2_eq, dl_nil, dl_cons, dm_nil, dm_cons, lk_cons, cat_int, cat_long, cat_ref, cat_con, args_nil, args_int, args_long, args_ref, args_con, ct_nil, ct_cons, Nat.reduceBEq, Nat.reduceAdd, Nat.reduceLeDiff, Nat.reduceEqDiff, Bool.not_true, Bool.not_false, Bool.and_true, Bool.and_false, Bool.true_and, Bool.false_and, cond_true, cond_false, Nat.zero_add, Nat.add_zero, reduceCtorEq, Nat.zero_le, ui_at, ua_at, ul_at, wK_v, wK_n, wK_t, true_and, and_true, nb0, nb1, not_false_eq_true, not_true_eq_false, ci_0, ci_1, ci_3, ci_5, ci_7, ci_12, ci_15, ci_16, ci_21, ci_22, w_60_0, w_60_1, w_60_2, w_60_5, w_60_6, w_60_8, w_60_11, w_60_14, w_60_15, w_60_18, w_60_21, w_60_24, w_60_25, w_60_28, w_60_29, w_60_30, w_60_33, w_60_34, w_60_35, w_60_39, w_60_42, w_60_43, w_60_44, w_60_47_int, w_60_47_ref, w_60_47_retAddr, w_60_48, w_60_51, w_60_54, p_ci15, p_ci7, p_ci5, p_kind, p_adv hc hq, p_g150, p_g151, p_g152, p_g153, p_g123, p_g74, p_ga14, p_emit, p_raise, p_expect hc hq, hA (d + 6) (by omega), e_isFactor]
    rw [if_neg (show ¬ (200 : Int32) ≤ 0 by decide)]
    unfold pL
    by_cases h : isFa (xa 13 S1.p)
    · rw [if_pos h, fa_1 h, if_neg (show ¬ (1 : Int32) = 0 by decide), pR_B]
      cases hx : pUn (xa 13) (xl 14) q E U (adv q S1) with
      | inl S2 => exact Iff.rfl
      | inr S2 =>
        show wK _ _ _ _ _ _ _ (.inl none) _ ↔ _
        simp only [wI_some, wJ_some, wR_ref, wR_con, wO_some, s1_eq, s2_eq, dl_nil, dl_cons, dm_nil, dm_cons, lk_cons, cat_int, cat_long, cat_ref, cat_con, args_nil, args_int, args_long, args_ref, args_con, ct_nil, ct_cons, Nat.reduceBEq, Nat.reduceAdd, Nat.reduceLeDiff, Nat.reduceEqDiff, Bool.not_true, Bool.not_false, Bool.and_true, Bool.and_false, Bool.true_and, Bool.false_and, cond_true, cond_false, Nat.zero_add, Nat.add_zero, reduceCtorEq, Nat.zero_le, ui_at, ua_at, ul_at, wK_v, wK_n, wK_t, true_and, and_true, nb0, nb1, not_false_eq_true, not_true_eq_false, ci_0, ci_1, ci_3, ci_5, ci_7, ci_12, ci_15, ci_16, ci_21, ci_22, w_60_0, w_60_1, w_60_2, w_60_5, w_60_6, w_60_8, w_60_11, w_60_14, w_60_15, w_60_18, w_60_21, w_60_24, w_60_25, w_60_28, w_60_29, w_60_30, w_60_33, w_60_34, w_60_35, w_60_38, w_60_39, w_60_42, w_60_43, w_60_44, w_60_47_int, w_60_47_ref, w_60_47_retAddr, w_60_48, w_60_51, w_60_54, p_ci15, p_ci7, p_ci5, p_kind, p_adv hc hq, p_g150, p_g151, p_g152, p_g153, p_g123, p_g74, p_ga14, p_emit, p_raise, p_expect hc hq]
        exact l_p_term hc hq (fun S Q => hA (d + 6) (by omega) S Q) 199 1 rfl _ _
    · rw [if_neg h, fa_0 h, if_pos rfl]
      exact Iff.rfl
theorem l_p_expr (hc : xi 772 = nI q) (hq : q ≤ 200) {T : PS → PR} (hT : ∀ S Q, (dx_M (tb_Z L xs) (d + 1) 60 [.ref 15, .int (nI s)] (ps xi xa xl j S) Q ↔ pR (T S) xi xa xl j Q)) : ∀ n i, n + i = 200 → ∀ S y, (dx_W (tb_Z L xs) (d + 1) 59 7 [(2, .int (nI i)), (3, .int y), (0, .ref 15), (1, .int (nI s))] [] (ps xi xa xl j S) Q ↔ pR (pL (xa 13) q isSg T n S) xi xa xl j Q) := by
  intro n
  induction n with
  | zero =>
    intro i hi S y
    rw [w_59_7]
    simp only [wI_some, wJ_some, wR_ref, wR_con, wO_some, s1_eq, s2_eq, dl_nil, dl_cons, dm_nil, dm_cons, lk_cons, cat_int, cat_long, cat_ref, cat_con, args_nil, args_int, args_long, args_ref, args_con, ct_nil, ct_cons, Nat.reduceBEq, Nat.reduceAdd, Nat.reduceLeDiff, Nat.reduceEqDiff, Bool.not_true, Bool.not_false, Bool.and_true, Bool.and_false, Bool.true_and, Bool.false_and, cond_true, cond_false, Nat.zero_add, Nat.add_zero, reduceCtorEq, Nat.zero_le, ui_at, ua_at, ul_at, wK_v, wK_n, wK_t, true_and, and_true, nb0, nb1, not_false_eq_true, not_true_eq_false, ci_0, ci_1, ci_3, ci_5, ci_7, ci_12, ci_15, ci_16, ci_21, ci_22, w_59_0, w_59_1, w_59_2, w_59_5, w_59_6, w_59_8, w_59_11, w_59_14, w_59_15, w_59_18, w_59_21, w_59_24, w_59_25, w_59_28, w_59_29, w_59_30, w_59_33, w_59_34, w_59_35, w_59_38, w_59_39, w_59_42, w_59_43, w_59_44, w_59_47_int, w_59_47_ref, w_59_47_retAddr, w_59_48, w_59_51, w_59_54, p_ci15, p_ci7, p_ci5, p_kind, p_adv hc hq, p_g150, p_g151, p_g152, p_g153, p_g123, p_g74, p_ga14, p_emit, p_raise, p_expect hc hq]
    rw [if_pos (show (200 : Int32) ≤ nI i from nI_le (a := 200) (by omega) (by omega))]
    exact Iff.rfl
  | succ n ih =>
    intro i hi S y
    rw [w_59_7]
    simp only [wI_some, wJ_some, wR_ref, wR_con, wO_some, s1_eq, s2_eq, dl_nil, dl_cons, dm_nil, dm_cons, lk_cons, cat_int, cat_long, cat_ref, cat_con, args_nil, args_int, args_long, args_ref, args_con, ct_nil, ct_cons, Nat.reduceBEq, Nat.reduceAdd, Nat.reduceLeDiff, Nat.reduceEqDiff, Bool.not_true, Bool.not_false, Bool.and_true, Bool.and_false, Bool.true_and, Bool.false_and, cond_true, cond_false, Nat.zero_add, Nat.add_zero, reduceCtorEq, Nat.zero_le, ui_at, ua_at, ul_at, wK_v, wK_n, wK_t, true_and, and_true, nb0, nb1, not_false_eq_true, not_true_eq_false, ci_0, ci_1, ci_3, ci_5, ci_7, ci_12, ci_15, ci_16, ci_21, ci_22, w_59_0, w_59_1, w_59_2, w_59_5, w_59_6, w_59_8, w_59_11, w_59_14, w_59_15, w_59_18, w_59_21, w_59_24, w_59_25, w_59_28, w_59_29, w_59_30, w_59_33, w_59_34, w_59_35, w_59_39, w_59_42, w_59_43, w_59_44, w_59_47_int, w_59_47_ref, w_59_47_retAddr, w_59_48, w_59_51, w_59_54, p_ci15, p_ci7, p_ci5, p_kind, p_adv hc hq, p_g150, p_g151, p_g152, p_g153, p_g123, p_g74, p_ga14, p_emit, p_raise, p_expect hc hq, hT, e_isSign]
    rw [if_neg (show ¬ (200 : Int32) ≤ nI i from nI_ge (b := 200) (by omega) (by decide))]
    unfold pL
    by_cases h : isSg (xa 13 S.p)
    · rw [if_pos h, sg_1 h, if_neg (show ¬ (1 : Int32) = 0 by decide), pR_B]
      cases hx : T (adv q S) with
      | inl S1 => exact Iff.rfl
      | inr S1 =>
        show wK _ _ _ _ _ _ _ (.inl none) _ ↔ _
        simp only [wI_some, wJ_some, wR_ref, wR_con, wO_some, s1_eq, s2_eq, dl_nil, dl_cons, dm_nil, dm_cons, lk_cons, cat_int, cat_long, cat_ref, cat_con, args_nil, args_int, args_long, args_ref, args_con, ct_nil, ct_cons, Nat.reduceBEq, Nat.reduceAdd, Nat.reduceLeDiff, Nat.reduceEqDiff, Bool.not_true, Bool.not_false, Bool.and_true, Bool.and_false, Bool.true_and, Bool.false_and, cond_true, cond_false, Nat.zero_add, Nat.add_zero, reduceCtorEq, Nat.zero_le, ui_at, ua_at, ul_at, wK_v, wK_n, wK_t, true_and, and_true, nb0, nb1, not_false_eq_true, not_true_eq_false, ci_0, ci_1, ci_3, ci_5, ci_7, ci_12, ci_15, ci_16, ci_21, ci_22, w_59_0, w_59_1, w_59_2, w_59_5, w_59_6, w_59_8, w_59_11, w_59_14, w_59_15, w_59_18, w_59_21, w_59_24, w_59_25, w_59_28, w_59_29, w_59_30, w_59_33, w_59_34, w_59_35, w_59_38, w_59_39, w_59_42, w_59_43, w_59_44, w_59_47_int, w_59_47_ref, w_59_47_retAddr, w_59_48, w_59_51, w_59_54, p_ci15, p_ci7, p_ci5, p_kind, p_adv hc hq, p_g150, p_g151, p_g152, p_g153, p_g123, p_g74, p_ga14, p_emit, p_raise, p_expect hc hq, nI_1]
        exact ih (i + 1) (by omega) _ _
    · rw [if_neg h, sg_0 h, if_pos rfl]
      exact Iff.rfl
theorem p_expr (hc : xi 772 = nI q) (hq : q ≤ 200) (hs : s ≤ 6) {D : Nat} {E U : PS → PR} (hE : s < 6 → pOK L xs xi xa xl j 59 (s + 1) D E) (hE6 : ¬ s < 6 → ∀ S, E S = .inl S) (hU : s < 6 → pOK L xs xi xa xl j 61 (s + 1) D U) (hU6 : ¬ s < 6 → ∀ S, U S = .inl S) : pOK L xs xi xa xl j 59 s (D + 8) (pExp (xa 13) (xl 14) q E U) := by
  intro d' hd S Q
  obtain ⟨d, rfl⟩ : ∃ d, d' = d + 8 := ⟨d' - 8, by omega⟩
  have hA := p_term hc hq hs hE hE6 hU hU6
  rw [dx_M_in (Nat.le_of_ble_eq_true rfl)]
  simp only [wI_some, wJ_some, wR_ref, wR_con, wO_some, s1_eq, s2_eq, dl_nil, dl_cons, dm_nil, dm_cons, lk_cons, cat_int, cat_long, cat_ref, cat_con, args_nil, args_int, args_long, args_ref, args_con, ct_nil, ct_cons, Nat.reduceBEq, Nat.reduceAdd, Nat.reduceLeDiff, Nat.reduceEqDiff, Bool.not_true, Bool.not_false, Bool.and_true, Bool.and_false, Bool.true_and, Bool.false_and, cond_true, cond_false, Nat.zero_add, Nat.add_zero, reduceCtorEq, Nat.zero_le, ui_at, ua_at, ul_at, wK_v, wK_n, wK_t, true_and, and_true, nb0, nb1, not_false_eq_true, not_true_eq_false, ci_0, ci_1, ci_3, ci_5, ci_7, ci_12, ci_15, ci_16, ci_21, ci_22, w_59_0, w_59_1, w_59_2, w_59_6, w_59_7, w_59_8, w_59_11, w_59_14, w_59_15, w_59_18, w_59_21, w_59_24, w_59_25, w_59_28, w_59_29, w_59_30, w_59_33, w_59_34, w_59_35, w_59_38, w_59_39, w_59_42, w_59_43, w_59_44, w_59_47_int, w_59_47_ref, w_59_47_retAddr, w_59_48, w_59_51, w_59_54, p_ci15, p_ci7, p_ci5, p_kind, p_adv hc hq, p_g150, p_g151, p_g152, p_g153, p_g123, p_g74, p_ga14, p_emit, p_raise, p_expect hc hq, hA (d + 7) (by omega)]
  unfold pExp
  rw [pR_B]
  cases hx : pTerm (xa 13) (xl 14) q E U S with
  | inl S1 => exact Iff.rfl
  | inr S1 =>
    show wK _ _ _ _ _ _ _ (.inl none) _ ↔ pR (pL (xa 13) q isSg (pTerm (xa 13) (xl 14) q E U) 200 S1) xi xa xl j Q
    simp only [wI_some, wJ_some, wR_ref, wR_con, wO_some, s1_eq, s2_eq, dl_nil, dl_cons, dm_nil, dm_cons, lk_cons, cat_int, cat_long, cat_ref, cat_con, args_nil, args_int, args_long, args_ref, args_con, ct_nil, ct_cons, Nat.reduceBEq, Nat.reduceAdd, Nat.reduceLeDiff, Nat.reduceEqDiff, Bool.not_true, Bool.not_false, Bool.and_true, Bool.and_false, Bool.true_and, Bool.false_and, cond_true, cond_false, Nat.zero_add, Nat.add_zero, reduceCtorEq, Nat.zero_le, ui_at, ua_at, ul_at, wK_v, wK_n, wK_t, true_and, and_true, nb0, nb1, not_false_eq_true, not_true_eq_false, ci_0, ci_1, ci_3, ci_5, ci_7, ci_12, ci_15, ci_16, ci_21, ci_22, w_59_0, w_59_1, w_59_2, w_59_5, w_59_6, w_59_8, w_59_11, w_59_14, w_59_15, w_59_18, w_59_21, w_59_24, w_59_25, w_59_28, w_59_29, w_59_30, w_59_33, w_59_34, w_59_35, w_59_38, w_59_39, w_59_42, w_59_43, w_59_44, w_59_47_int, w_59_47_ref, w_59_47_retAddr, w_59_48, w_59_51, w_59_54, p_ci15, p_ci7, p_ci5, p_kind, p_adv hc hq, p_g150, p_g151, p_g152, p_g153, p_g123, p_g74, p_ga14, p_emit, p_raise, p_expect hc hq]
    rw [w_59_7]
    simp only [wI_some, wJ_some, wR_ref, wR_con, wO_some, s1_eq, s2_eq, dl_nil, dl_cons, dm_nil, dm_cons, lk_cons, cat_int, cat_long, cat_ref, cat_con, args_nil, args_int, args_long, args_ref, args_con, ct_nil, ct_cons, Nat.reduceBEq, Nat.reduceAdd, Nat.reduceLeDiff, Nat.reduceEqDiff, Bool.not_true, Bool.not_false, Bool.and_true, Bool.and_false, Bool.true_and, Bool.false_and, cond_true, cond_false, Nat.zero_add, Nat.add_zero, reduceCtorEq, Nat.zero_le, ui_at, ua_at, ul_at, wK_v, wK_n, wK_t, true_and, and_true, nb0, nb1, not_false_eq_true, not_true_eq_false, ci_0, ci_1, ci_3, ci_5, ci_7, ci_12, ci_15, ci_16, ci_21, ci_22, w_59_0, w_59_1, w_59_2, w_59_5, w_59_6, w_59_8, w_59_11, w_59_14, w_59_15, w_59_18, w_59_21, w_59_24, w_59_25, w_59_28, w_59_29, w_59_30, w_59_33, w_59_34, w_59_35, w_59_39, w_59_42, w_59_43, w_59_44, w_59_47_int, w_59_47_ref, w_59_47_retAddr, w_59_48, w_59_51, w_59_54, p_ci15, p_ci7, p_ci5, p_kind, p_adv hc hq, p_g150, p_g151, p_g152, p_g153, p_g123, p_g74, p_ga14, p_emit, p_raise, p_expect hc hq, hA (d + 7) (by omega), e_isSign]
    rw [if_neg (show ¬ (200 : Int32) ≤ 0 by decide)]
    unfold pL
    by_cases h : isSg (xa 13 S1.p)
    · rw [if_pos h, sg_1 h, if_neg (show ¬ (1 : Int32) = 0 by decide), pR_B]
      cases hx : pTerm (xa 13) (xl 14) q E U (adv q S1) with
      | inl S2 => exact Iff.rfl
      | inr S2 =>
        show wK _ _ _ _ _ _ _ (.inl none) _ ↔ _
        simp only [wI_some, wJ_some, wR_ref, wR_con, wO_some, s1_eq, s2_eq, dl_nil, dl_cons, dm_nil, dm_cons, lk_cons, cat_int, cat_long, cat_ref, cat_con, args_nil, args_int, args_long, args_ref, args_con, ct_nil, ct_cons, Nat.reduceBEq, Nat.reduceAdd, Nat.reduceLeDiff, Nat.reduceEqDiff, Bool.not_true, Bool.not_false, Bool.and_true, Bool.and_false, Bool.true_and, Bool.false_and, cond_true, cond_false, Nat.zero_add, Nat.add_zero, reduceCtorEq, Nat.zero_le, ui_at, ua_at, ul_at, wK_v, wK_n, wK_t, true_and, and_true, nb0, nb1, not_false_eq_true, not_true_eq_false, ci_0, ci_1, ci_3, ci_5, ci_7, ci_12, ci_15, ci_16, ci_21, ci_22, w_59_0, w_59_1, w_59_2, w_59_5, w_59_6, w_59_8, w_59_11, w_59_14, w_59_15, w_59_18, w_59_21, w_59_24, w_59_25, w_59_28, w_59_29, w_59_30, w_59_33, w_59_34, w_59_35, w_59_38, w_59_39, w_59_42, w_59_43, w_59_44, w_59_47_int, w_59_47_ref, w_59_47_retAddr, w_59_48, w_59_51, w_59_54, p_ci15, p_ci7, p_ci5, p_kind, p_adv hc hq, p_g150, p_g151, p_g152, p_g153, p_g123, p_g74, p_ga14, p_emit, p_raise, p_expect hc hq]
        exact l_p_expr hc hq (fun S Q => hA (d + 7) (by omega) S Q) 199 1 rfl _ _
    · rw [if_neg h, sg_0 h, if_pos rfl]
      exact Iff.rfl
end PQ
