/-! The scanner of the project: the whole. -/
/-- what stands at p: a token or a blank, and how long it is -/
def tkC (C : Nat → Nat) (p : Nat) : Option (Option (Int32 × Int64) × Nat) := if C p = 32 then some (none, 1) else if isD (C p) then some (some (256, pn (nuV C p : Nat) (nuP C p)), nuW C p) else if isW (C p) then (match woK C p with
  | some k => some (some (k, woV C p), lts C p 199 1)
  | none => none) else (match syK C p with
  | some k => some (some (k.1, 0), k.2)
  | none => none)
/-- the tokens so far -/
abbrev SQ : Type := Nat × (Nat → Int32) × (Nat → Int64)
def sqA (t : Option (Int32 × Int64)) (s : SQ) : SQ := match t with
  | none => s
  | some k => (s.1 + 1, upd s.2.1 s.1 k.1, vp_updL s.2.2 s.1 k.2)
/-- the tokens from p on; left: the fault of the text -/
def scl (C : Nat → Nat) (n : Nat) : Nat → Nat → SQ → SQ ⊕ SQ
  | 0, _, s => .inr s
  | N + 1, p, s => if p < n then (match tkC C p with
    | none => .inl s
    | some t => scl C n N (p + max 1 t.2) (sqA t.1 s)) else .inr s
theorem tkC_le {C : Nat → Nat} {p : Nat} (t : Option (Int32 × Int64) × Nat) (h : tkC C p = some t) : t.2 ≤ 220 := by
  have h1 := nuW_le (C := C) (p := p)
  have h2 := lts_le (C := C) (p := p) 199 1
  unfold tkC at h
  split at h
  · cases h
    show 1 ≤ 220
    decide
  split at h
  · cases h
    show nuW C p ≤ 220
    omega
  split at h
  · split at h
    · cases h
      show lts C p 199 1 ≤ 220
      omega
    · cases h
  · split at h
    · rename_i k hk
      cases h
      show k.2 ≤ 220
      unfold syK at hk
      split at hk
      · cases hk
        show 2 ≤ 220
        decide
      split at hk
      · cases hk
        show 1 ≤ 220
        decide
      split at hk
      · cases hk
        show 1 ≤ 220
        decide
      · cases hk
    · cases h
theorem ui_uiK {f : Nat → Int32} {k : Nat} {a b : Int32} : ui (ui f k a) k b = ui f k b := by
  funext i
  show (if i = k then b else if i = k then a else f i) = if i = k then b else f i
  by_cases h : i = k
  · rw [if_pos h, if_pos h]
  · rw [if_neg h, if_neg h, if_neg h]
theorem ul_idK {f : Nat → Nat → Int64} {k : Nat} : ul f k (f k) = f := by
  funext i
  show (if i = k then f k else f i) = f i
  by_cases h : i = k
  · rw [if_pos h, h]
  · rw [if_neg h]
theorem ul_ulK {f : Nat → Nat → Int64} {k : Nat} {a b : Nat → Int64} : ul (ul f k a) k b = ul f k b := by
  funext i
  show (if i = k then b else if i = k then a else f i) = if i = k then b else f i
  by_cases h : i = k
  · rw [if_pos h, if_pos h]
  · rw [if_neg h, if_neg h, if_neg h]
section SZ
variable {L : Nat} {xs : Nat → Int32} {d : Nat} {σ : dx_S} {Q : dx_O → dx_S → Prop} {xi : Nat → Int32} {xa : Nat → Nat → Int32} {xl : Nat → Nat → Int64} {j : dx_S} {T : Nat → Nat} {s t p c k v n i w m z N : Nat}
theorem e_take (ht : tx xi xa T z) (hp : p ≤ 200) (hc : xi 772 = nI c) (hc2 : c < 200) : dx_M (tb_Z L xs) (d + 8) 34 [.ref 12, .int (nI p)] (mk xi xa xl j) Q ↔ (match tkC (tA T z) p with
  | some (some k, w) => Q (.inl (some (.int (nI w)))) (mk (ui xi 772 (nI (c + 1))) (ua xa 13 (upd (xa 13) c k.1)) (ul xl 14 (vp_updL (xl 14) c k.2)) j)
  | some (none, w) => Q (.inl (some (.int (nI w)))) (mk xi xa xl j)
  | none => Q (.inr (46 + j.length)) (mk (ui xi 322 1) xa xl (j ++ [.inr (exc 1, [])]))) := by
  have c0 : tA T z p < 256 := tA_lt ht
  have dg := dg_is (c := tA T z p) (by omega)
  have lt := lt_is (c := tA T z p) (by omega)
  rw [dx_M_in (Nat.le_of_ble_eq_true rfl)]
  simp only [wI_some, wJ_some, wR_ref, wR_con, wO_some, s1_eq, s2_eq, dl_nil, dl_cons, dm_nil, dm_cons, lk_cons, cat_int, cat_long, cat_ref, cat_con, args_nil, args_int, args_long, args_ref, args_con, ct_nil, ct_cons, Nat.reduceBEq, Nat.reduceAdd, Nat.reduceLeDiff, Nat.reduceEqDiff, Bool.not_true, Bool.not_false, Bool.and_true, Bool.and_false, Bool.true_and, Bool.false_and, cond_true, cond_false, Nat.zero_add, Nat.add_zero, reduceCtorEq, Nat.zero_le, ui_at, ua_at, ul_at, wK_v, wK_n, wK_t, true_and, and_true, nb0, nb1, not_false_eq_true, not_true_eq_false, ci_0, ci_1, ci_3, ci_5, ci_7, ci_12, ci_15, ci_16, ci_21, ci_22, w_34_0, w_34_1, w_34_4, w_34_5, w_34_8, w_34_9, w_34_10, w_34_12, w_34_15, w_34_16, w_34_17, w_34_18, w_34_21, w_34_24, w_34_25, w_34_26, w_34_29, w_34_30, w_34_31, w_34_34, w_34_37, w_34_38, w_34_39, w_34_45, w_34_46, w_34_47, gf_12_0, e_at ht (show p < 2 ^ 31 by omega), e_isDigit, e_isLetter, e_num ht hp hc hc2, e_sym ht (show p ≤ 1000 by omega) hc hc2]
  unfold tkC
  by_cases h1 : tA T z p = 32
  · rw [if_neg (fun y => y (by rw [h1]; rfl)), if_pos h1]
    rfl
  rw [if_pos (show ¬ nI (tA T z p) = 32 from fun y => h1 ((nI_eq (b := 32) (by omega) (by decide)).mp y)), if_neg h1, dg]
  by_cases h2 : isD (tA T z p)
  · rw [if_pos h2, if_pos h2, if_neg (show ¬ (1 : Int32) = 0 by decide)]
  rw [if_neg h2, if_neg h2, if_pos (show (0 : Int32) = 0 from rfl), lt]
  by_cases h3 : isW (tA T z p)
  · rw [if_pos h3, if_pos h3, if_neg (show ¬ (1 : Int32) = 0 by decide), e_word ht (by omega) hc hc2 h3]
    cases hk : woK (tA T z) p with
    | some k =>
      show wK _ _ _ _ _ _ _ (.inl (some (.int (nI (lts (tA T z) p 199 1))))) _ ↔ _
      simp only [wI_some, wJ_some, wR_ref, wR_con, wO_some, s1_eq, s2_eq, dl_nil, dl_cons, dm_nil, dm_cons, lk_cons, cat_int, cat_long, cat_ref, cat_con, args_nil, args_int, args_long, args_ref, args_con, ct_nil, ct_cons, Nat.reduceBEq, Nat.reduceAdd, Nat.reduceLeDiff, Nat.reduceEqDiff, Bool.not_true, Bool.not_false, Bool.and_true, Bool.and_false, Bool.true_and, Bool.false_and, cond_true, cond_false, Nat.zero_add, Nat.add_zero, reduceCtorEq, Nat.zero_le, ui_at, ua_at, ul_at, wK_v, wK_n, wK_t, true_and, and_true, nb0, nb1, not_false_eq_true, not_true_eq_false, ci_0, ci_1, ci_3, ci_5, ci_7, ci_12, ci_15, ci_16, ci_21, ci_22, w_34_0, w_34_1, w_34_4, w_34_5, w_34_8, w_34_9, w_34_10, w_34_12, w_34_15, w_34_16, w_34_17, w_34_18, w_34_21, w_34_24, w_34_25, w_34_26, w_34_29, w_34_30, w_34_31, w_34_34, w_34_37, w_34_38, w_34_39, w_34_42, w_34_45, w_34_46, w_34_47, w_34_50]
    | none => exact Iff.rfl
  · rw [if_neg h3, if_neg h3, if_pos (show (0 : Int32) = 0 from rfl)]
    cases hk : syK (tA T z) p with
    | some k =>
      show wK _ _ _ _ _ _ _ (.inl (some (.int (nI k.2)))) _ ↔ _
      simp only [wI_some, wJ_some, wR_ref, wR_con, wO_some, s1_eq, s2_eq, dl_nil, dl_cons, dm_nil, dm_cons, lk_cons, cat_int, cat_long, cat_ref, cat_con, args_nil, args_int, args_long, args_ref, args_con, ct_nil, ct_cons, Nat.reduceBEq, Nat.reduceAdd, Nat.reduceLeDiff, Nat.reduceEqDiff, Bool.not_true, Bool.not_false, Bool.and_true, Bool.and_false, Bool.true_and, Bool.false_and, cond_true, cond_false, Nat.zero_add, Nat.add_zero, reduceCtorEq, Nat.zero_le, ui_at, ua_at, ul_at, wK_v, wK_n, wK_t, true_and, and_true, nb0, nb1, not_false_eq_true, not_true_eq_false, ci_0, ci_1, ci_3, ci_5, ci_7, ci_12, ci_15, ci_16, ci_21, ci_22, w_34_0, w_34_1, w_34_4, w_34_5, w_34_8, w_34_9, w_34_10, w_34_12, w_34_15, w_34_16, w_34_17, w_34_18, w_34_21, w_34_24, w_34_25, w_34_26, w_34_29, w_34_30, w_34_31, w_34_34, w_34_37, w_34_38, w_34_39, w_34_42, w_34_45, w_34_46, w_34_47, w_34_50]
    | none => exact Iff.rfl
theorem l_scan (ht : tx xi xa T z) : ∀ N p (s : SQ), z ≤ N + p → p ≤ 420 → s.1 ≤ p → s.1 ≤ 200 → (dx_W (tb_Z L xs) (d + 8) 33 7 [(1, .int (nI p)), (0, .ref 12)] [] (mk (ui xi 772 (nI s.1)) (ua xa 13 s.2.1) (ul xl 14 s.2.2) j) Q ↔ (match scl (tA T z) z N p s with
  | .inl s => Q (.inr (46 + j.length)) (mk (ui (ui xi 772 (nI s.1)) 322 1) (ua xa 13 s.2.1) (ul xl 14 s.2.2) (j ++ [.inr (exc 1, [])]))
  | .inr s => Q (.inl none) (mk (ui xi 772 (nI s.1)) (ua xa 13 (upd s.2.1 s.1 0)) (ul xl 14 s.2.2) j))) := by
  have hz := ht.2.1
  have hx := ht.1
  have fin : ∀ p (s : SQ), z ≤ p → p ≤ 420 → s.1 ≤ 200 → (dx_W (tb_Z L xs) (d + 8) 33 7 [(1, .int (nI p)), (0, .ref 12)] [] (mk (ui xi 772 (nI s.1)) (ua xa 13 s.2.1) (ul xl 14 s.2.2) j) Q ↔ Q (.inl none) (mk (ui xi 772 (nI s.1)) (ua xa 13 (upd s.2.1 s.1 0)) (ul xl 14 s.2.2) j)) := by
    intro p s h1 h2 h3
    have is : vp_in (nI s.1) 201 := vp_in_nI (by omega) (by decide)
    rw [w_33_7]
    simp only [wI_some, wJ_some, wR_ref, wR_con, wO_some, s1_eq, s2_eq, dl_nil, dl_cons, dm_nil, dm_cons, lk_cons, cat_int, cat_long, cat_ref, cat_con, args_nil, args_int, args_long, args_ref, args_con, ct_nil, ct_cons, Nat.reduceBEq, Nat.reduceAdd, Nat.reduceLeDiff, Nat.reduceEqDiff, Bool.not_true, Bool.not_false, Bool.and_true, Bool.and_false, Bool.true_and, Bool.false_and, cond_true, cond_false, Nat.zero_add, Nat.add_zero, reduceCtorEq, Nat.zero_le, ui_at, ua_at, ul_at, wK_v, wK_n, wK_t, true_and, and_true, nb0, nb1, not_false_eq_true, not_true_eq_false, ci_0, ci_1, ci_3, ci_5, ci_7, ci_12, ci_15, ci_16, ci_21, ci_22, w_33_0, w_33_1, w_33_2, w_33_5, w_33_6, w_33_8, w_33_9, w_33_12, w_33_15, w_33_19, w_33_20, w_33_21, w_33_22, w_33_25, w_33_28, w_33_29, w_33_30, w_33_33, w_33_34, w_33_37, w_33_38, w_33_41, w_33_42, w_33_43, gf_12_0, gf_12_2, gf_12_4, gf_1_1, hx, sa_13 is]
    rw [if_pos (nI_le h1 (by omega)), nI_clamp (by omega), ua_ua]
  intro N
  induction N with
  | zero =>
    intro p s h1 h2 h3 h4
    exact fin p s (by omega) h2 h4
  | succ N ih =>
    intro p s h1 h2 h3 h4
    show _ ↔ (match (if p < z then (match tkC (tA T z) p with
      | none => .inl s
      | some t => scl (tA T z) z N (p + max 1 t.2) (sqA t.1 s)) else .inr s : SQ ⊕ SQ) with
      | .inl s => Q (.inr (46 + j.length)) (mk (ui (ui xi 772 (nI s.1)) 322 1) (ua xa 13 s.2.1) (ul xl 14 s.2.2) (j ++ [.inr (exc 1, [])]))
      | .inr s => Q (.inl none) (mk (ui xi 772 (nI s.1)) (ua xa 13 (upd s.2.1 s.1 0)) (ul xl 14 s.2.2) j))
    by_cases hlt : p < z
    · rw [if_pos hlt, w_33_7]
      simp only [wI_some, wJ_some, wR_ref, wR_con, wO_some, s1_eq, s2_eq, dl_nil, dl_cons, dm_nil, dm_cons, lk_cons, cat_int, cat_long, cat_ref, cat_con, args_nil, args_int, args_long, args_ref, args_con, ct_nil, ct_cons, Nat.reduceBEq, Nat.reduceAdd, Nat.reduceLeDiff, Nat.reduceEqDiff, Bool.not_true, Bool.not_false, Bool.and_true, Bool.and_false, Bool.true_and, Bool.false_and, cond_true, cond_false, Nat.zero_add, Nat.add_zero, reduceCtorEq, Nat.zero_le, ui_at, ua_at, ul_at, wK_v, wK_n, wK_t, true_and, and_true, nb0, nb1, not_false_eq_true, not_true_eq_false, ci_0, ci_1, ci_3, ci_5, ci_7, ci_12, ci_15, ci_16, ci_21, ci_22, w_33_0, w_33_1, w_33_2, w_33_5, w_33_6, w_33_8, w_33_9, w_33_12, w_33_15, w_33_18, w_33_19, w_33_20, w_33_21, w_33_22, w_33_28, w_33_29, w_33_30, w_33_34, w_33_37, w_33_38, w_33_41, w_33_42, w_33_43, gf_12_0, gf_1_1, hx]
      rw [if_neg (nI_ge hlt (by omega)), e_take (xi := ui xi 772 (nI s.1)) (xa := ua xa 13 s.2.1) (T := T) (z := z) (c := s.1) ht (by omega) rfl (by omega)]
      have wd : ∀ t, tkC (tA T z) p = some t → t.2 ≤ 220 := tkC_le
      cases hk : tkC (tA T z) p with
      | none => exact Iff.rfl
      | some t =>
        obtain ⟨t1, w⟩ := t
        have w2 : w ≤ 220 := wd _ hk
        cases t1 with
        | none =>
          show wK _ _ _ _ _ _ _ (.inl (some (.int (nI w)))) _ ↔ _
          simp only [wI_some, wJ_some, wR_ref, wR_con, wO_some, s1_eq, s2_eq, dl_nil, dl_cons, dm_nil, dm_cons, lk_cons, cat_int, cat_long, cat_ref, cat_con, args_nil, args_int, args_long, args_ref, args_con, ct_nil, ct_cons, Nat.reduceBEq, Nat.reduceAdd, Nat.reduceLeDiff, Nat.reduceEqDiff, Bool.not_true, Bool.not_false, Bool.and_true, Bool.and_false, Bool.true_and, Bool.false_and, cond_true, cond_false, Nat.zero_add, Nat.add_zero, reduceCtorEq, Nat.zero_le, ui_at, ua_at, ul_at, wK_v, wK_n, wK_t, true_and, and_true, nb0, nb1, not_false_eq_true, not_true_eq_false, ci_0, ci_1, ci_3, ci_5, ci_7, ci_12, ci_15, ci_16, ci_21, ci_22, w_33_0, w_33_1, w_33_2, w_33_5, w_33_6, w_33_8, w_33_9, w_33_12, w_33_15, w_33_18, w_33_19, w_33_20, w_33_21, w_33_22, w_33_25, w_33_28, w_33_29, w_33_30, w_33_33, w_33_34, w_33_37, w_33_38, w_33_41, w_33_42, w_33_43, (show (1 : Int32) = nI 1 from rfl), e_maxN (show 1 < 2 ^ 31 by decide) (show w < 2 ^ 31 by omega), nI_add]
          exact ih (p + max 1 w) s (by omega) (by omega) (by omega) h4
        | some k =>
          show wK _ _ _ _ _ _ _ (.inl (some (.int (nI w)))) _ ↔ _
          simp only [wI_some, wJ_some, wR_ref, wR_con, wO_some, s1_eq, s2_eq, dl_nil, dl_cons, dm_nil, dm_cons, lk_cons, cat_int, cat_long, cat_ref, cat_con, args_nil, args_int, args_long, args_ref, args_con, ct_nil, ct_cons, Nat.reduceBEq, Nat.reduceAdd, Nat.reduceLeDiff, Nat.reduceEqDiff, Bool.not_true, Bool.not_false, Bool.and_true, Bool.and_false, Bool.true_and, Bool.false_and, cond_true, cond_false, Nat.zero_add, Nat.add_zero, reduceCtorEq, Nat.zero_le, ui_at, ua_at, ul_at, wK_v, wK_n, wK_t, true_and, and_true, nb0, nb1, not_false_eq_true, not_true_eq_false, ci_0, ci_1, ci_3, ci_5, ci_7, ci_12, ci_15, ci_16, ci_21, ci_22, w_33_0, w_33_1, w_33_2, w_33_5, w_33_6, w_33_8, w_33_9, w_33_12, w_33_15, w_33_18, w_33_19, w_33_20, w_33_21, w_33_22, w_33_25, w_33_28, w_33_29, w_33_30, w_33_33, w_33_34, w_33_37, w_33_38, w_33_41, w_33_42, w_33_43, (show (1 : Int32) = nI 1 from rfl), e_maxN (show 1 < 2 ^ 31 by decide) (show w < 2 ^ 31 by omega), nI_add]
          rw [ui_uiK, ua_ua, ul_ulK]
          exact ih (p + max 1 w) (s.1 + 1, upd s.2.1 s.1 k.1, vp_updL s.2.2 s.1 k.2) (by omega) (by omega) (show s.1 + 1 ≤ p + max 1 w by omega) (show s.1 + 1 ≤ 200 by omega)
    · rw [if_neg hlt]
      exact fin p s (by omega) h2 h4
theorem e_scan (ht : tx xi xa T z) : dx_M (tb_Z L xs) (d + 9) 33 [.ref 12] (mk xi xa xl j) Q ↔ (match scl (tA T z) z 200 0 (0, xa 13, xl 14) with
  | .inl s => Q (.inr (46 + j.length)) (mk (ui (ui xi 772 (nI s.1)) 322 1) (ua xa 13 s.2.1) (ul xl 14 s.2.2) (j ++ [.inr (exc 1, [])]))
  | .inr s => Q (.inl none) (mk (ui xi 772 (nI s.1)) (ua xa 13 (upd s.2.1 s.1 0)) (ul xl 14 s.2.2) j)) := by
  have hz := ht.2.1
  rw [dx_M_in (Nat.le_of_ble_eq_true rfl)]
  simp only [wI_some, wJ_some, wR_ref, wR_con, wO_some, s1_eq, s2_eq, dl_nil, dl_cons, dm_nil, dm_cons, lk_cons, cat_int, cat_long, cat_ref, cat_con, args_nil, args_int, args_long, args_ref, args_con, ct_nil, ct_cons, Nat.reduceBEq, Nat.reduceAdd, Nat.reduceLeDiff, Nat.reduceEqDiff, Bool.not_true, Bool.not_false, Bool.and_true, Bool.and_false, Bool.true_and, Bool.false_and, cond_true, cond_false, Nat.zero_add, Nat.add_zero, reduceCtorEq, Nat.zero_le, ui_at, ua_at, ul_at, wK_v, wK_n, wK_t, true_and, and_true, nb0, nb1, not_false_eq_true, not_true_eq_false, ci_0, ci_1, ci_3, ci_5, ci_7, ci_12, ci_15, ci_16, ci_21, ci_22, w_33_0, w_33_1, w_33_2, w_33_5, w_33_6, w_33_8, w_33_9, w_33_12, w_33_15, w_33_18, w_33_19, w_33_20, w_33_21, w_33_22, w_33_25, w_33_28, w_33_29, w_33_30, w_33_33, w_33_34, w_33_37, w_33_38, w_33_41, w_33_42, w_33_43, sf_12_4]
  have l := l_scan (L := L) (xs := xs) (d := d) (Q := Q) (xl := xl) (j := j) ht 200 0 (0, xa 13, xl 14) (by omega) (by decide) (Nat.zero_le _) (Nat.zero_le _)
  rw [ua_id, ul_idK] at l
  exact l
end SZ
