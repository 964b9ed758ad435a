/-! Writing a number, in the project. -/
def dig (v i : Nat) : Nat := 48 + v / 10 ^ i % 10
/-- the characters of a number's line, counted from its end -/
def cr (v s D r : Nat) : Nat := if r = 0 then 10 else if 0 < s ∧ s < r then (if r = s + 1 then 46 else if r ≤ D + 1 then dig v (r - 2) else 45) else (if r ≤ D then dig v (r - 1) else 45)
theorem cr_lt {v s D r : Nat} : cr v s D r < 256 := by
  unfold cr dig
  have h1 := Nat.mod_lt (v / 10 ^ (r - 2)) (show 0 < 10 by decide)
  have h2 := Nat.mod_lt (v / 10 ^ (r - 1)) (show 0 < 10 by decide)
  repeat' split
  all_goals omega
/-- the row with w characters written before e -/
def wa (f : Nat → Int32) (v s D e w : Nat) : Nat → Int32 := fun q => if e ≤ q + w ∧ q < e then nI (cr v s D (e - 1 - q)) else f q
theorem wa_0 {f : Nat → Int32} {v s D e : Nat} : wa f v s D e 0 = f := by
  funext q
  exact if_neg (by omega)
theorem wa_s {f : Nat → Int32} {v s D e w : Nat} (h : w < e) : upd (wa f v s D e w) (e - 1 - w) (nI (cr v s D w)) = wa f v s D e (w + 1) := by
  funext q
  show (if q = e - 1 - w then nI (cr v s D w) else if e ≤ q + w ∧ q < e then nI (cr v s D (e - 1 - q)) else f q) = if e ≤ q + (w + 1) ∧ q < e then nI (cr v s D (e - 1 - q)) else f q
  by_cases h1 : q = e - 1 - w
  · rw [if_pos h1, if_pos (by omega), show e - 1 - q = w by omega]
  · rw [if_neg h1]
    by_cases h2 : e ≤ q + w ∧ q < e
    · rw [if_pos h2, if_pos (by omega)]
    · rw [if_neg h2, if_neg (by omega)]
section QC
variable {L : Nat} {xs : Nat → Int32} {d : Nat} {σ : dx_S} {Q : dx_O → dx_S → Prop} {xi : Nat → Int32} {xa : Nat → Nat → Int32} {xl : Nat → Nat → Int64} {j : dx_S} {s t p c k v n e D z w : Nat} {m : Int}
theorem nar_c (h : k < 65536) : vp_nar .char (nI k) = nI k := by
  have e := (pk_charN (q := k) h).1
  unfold vp_nar
  rw [e]
theorem i2c_c (h : k < 65536) : ((zI (k : Int)).toUInt32 % 65536).toInt32 = nI k := by
  rw [← nI_z', pk_char, pk_tn (by omega), Nat.mod_eq_of_lt h]
theorem cr_0 : cr v s D 0 = 10 := rfl
theorem cr_dot (h : 0 < s) : cr v s D (s + 1) = 46 := by
  unfold cr
  rw [if_neg (by omega), if_pos (by omega), if_pos rfl]
theorem cr_lo (h : k < D) (h2 : ¬ (0 < s ∧ s < k + 1)) : cr v s D (k + 1) = dig v k := by
  unfold cr
  rw [if_neg (by omega), if_neg h2, if_pos (by omega)]
  rfl
theorem cr_hi (h : k < D) (h2 : 0 < s ∧ s ≤ k) : cr v s D (k + 2) = dig v k := by
  unfold cr
  rw [if_neg (by omega), if_pos (by omega), if_neg (by omega), if_pos (by omega)]
  rfl
def ww (s i : Nat) : Nat := if 0 < s ∧ s < i then i + 2 else i + 1
theorem dg_u {u : Nat} (h : u < 2 ^ 31) : ((zL 48 + (zL (u : Int) - zL (u : Int) / zL 10 * zL 10)).toInt32.toUInt32 % 65536).toInt32 = nI (48 + u % 10) := by
  have h2 := Nat.mod_lt u (show 0 < 10 by decide)
  rw [zL_rem (by omega) (by omega) (by omega) (by omega), zL_add, zL_I, show (48 + (u : Int).tmod 10) = ((48 + u % 10 : Nat) : Int) from by rw [Int.tmod_eq_emod_of_nonneg (by omega)]; omega, i2c_c (by omega)]
theorem dg_st (h : v < 2 ^ 31) : ((zL 48 + (zL ((v / 10 ^ k : Nat) : Int) - zL ((v / 10 ^ k : Nat) : Int) / zL 10 * zL 10)).toInt32.toUInt32 % 65536).toInt32 = nI (dig v k) := dg_u (Nat.lt_of_le_of_lt (Nat.div_le_self _ _) h)
theorem dv_u {u : Nat} (h : u < 2 ^ 31) : zL (u : Int) / zL 10 = zL ((u / 10 : Nat) : Int) := by
  rw [zL_div (by omega) (by omega) (by omega) (by omega), Int.tdiv_eq_ediv_of_nonneg (by omega)]
  rfl
theorem dv_st (h : v < 2 ^ 31) : zL ((v / 10 ^ k : Nat) : Int) / zL 10 = zL ((v / 10 ^ (k + 1) : Nat) : Int) := by
  rw [dv_u (Nat.lt_of_le_of_lt (Nat.div_le_self _ _) h), Nat.pow_succ, Nat.div_div_eq_div_mul]
theorem L48 : (48 : Int64) = zL 48 := rfl
theorem zI_m1 {x : Int} : zI x + -1 = zI (x - 1) := by
  rw [show (-1 : Int32) = zI (-1) from rfl, zI_add]
  rfl

theorem l_write {x y : Int64} (hv : v < 2 ^ 31) (he : e ≤ 300) (hD : D < 100) (hs : s ≤ 4) (hw : ww s D ≤ e) : ∀ n i, n + i = D → (dx_W (tb_Z L xs) (d + 1) 24 102 [(11, .int (nI i)), (9, .long (zL ((v / 10 ^ i : Nat) : Int))), (8, .int (zI ((e : Int) - 1 - (ww s i : Nat)))), (7, .int (nI e)), (6, .int (nI D)), (5, .int (nI s)), (3, .long y), (0, .ref 5), (1, .long x)] [] (mk xi (ua xa 6 (wa (xa 6) v s D e (ww s i))) xl j) Q ↔ dx_W (tb_Z L xs) (d + 1) 24 169 [(11, .int (nI D)), (9, .long (zL ((v / 10 ^ D : Nat) : Int))), (8, .int (zI ((e : Int) - 1 - (ww s D : Nat)))), (7, .int (nI e)), (6, .int (nI D)), (5, .int (nI s)), (3, .long y), (0, .ref 5), (1, .long x)] [] (mk xi (ua xa 6 (wa (xa 6) v s D e (ww s D))) xl j) Q) := by
  intro n
  induction n with
  | zero =>
    intro i hi
    have e1 : i = D := by omega
    subst e1
    rw [w_24_102]
    simp only [wI_some, wJ_some, wR_ref, wR_con, wO_some, s1_eq, s2_eq, dl_nil, dl_cons, dm_nil, dm_cons, lk_cons, cat_int, cat_long, cat_ref, cat_con, args_nil, args_int, args_long, args_ref, args_con, ct_nil, ct_cons, Nat.reduceBEq, Nat.reduceAdd, Nat.reduceLeDiff, Nat.reduceEqDiff, Bool.not_true, Bool.not_false, Bool.and_true, Bool.and_false, Bool.true_and, Bool.false_and, cond_true, cond_false, Nat.zero_add, Nat.add_zero, reduceCtorEq, Nat.zero_le, ui_at, ua_at, ul_at, wK_v, wK_n, wK_t, true_and, and_true, nb0, nb1, not_false_eq_true, not_true_eq_false, ci_0, ci_1, ci_3, ci_5, ci_7, ci_12, ci_15, ci_16, ci_21, ci_22, w_24_0, w_24_1, w_24_4, w_24_5, w_24_6, w_24_9, w_24_11, w_24_13, w_24_14, w_24_15, w_24_16, w_24_19, w_24_22, w_24_25, w_24_27, w_24_28, w_24_31, w_24_33, w_24_34, w_24_35, w_24_36, w_24_37, w_24_40, w_24_41, w_24_44, w_24_45, w_24_46, w_24_48, w_24_51, w_24_52, w_24_55, w_24_56, w_24_57, w_24_58, w_24_59, w_24_61, w_24_63, w_24_66, w_24_69, w_24_70, w_24_72, w_24_75, w_24_77, w_24_78, w_24_79, w_24_81, w_24_82, w_24_85, w_24_87, w_24_90, w_24_92, w_24_93, w_24_94, w_24_97, w_24_99, w_24_100, w_24_104, w_24_106, w_24_109, w_24_111, w_24_114, w_24_116, w_24_118, w_24_121, w_24_122, w_24_125, w_24_127, w_24_130, w_24_132, w_24_133, w_24_134, w_24_137, w_24_139, w_24_142, w_24_145, w_24_147, w_24_150, w_24_151, w_24_152, w_24_153, w_24_154, w_24_155, w_24_157, w_24_160, w_24_161, w_24_163, w_24_166, w_24_170, w_24_171, w_24_172, w_24_175, w_24_176, w_24_179, w_24_181, w_24_183, w_24_184, w_24_185, w_24_187, w_24_190]
    rw [if_pos (nI_le (Nat.le_refl _) (by omega))]
  | succ n ih =>
    intro i hi
    rw [w_24_102]
    simp only [wI_some, wJ_some, wR_ref, wR_con, wO_some, s1_eq, s2_eq, dl_nil, dl_cons, dm_nil, dm_cons, lk_cons, cat_int, cat_long, cat_ref, cat_con, args_nil, args_int, args_long, args_ref, args_con, ct_nil, ct_cons, Nat.reduceBEq, Nat.reduceAdd, Nat.reduceLeDiff, Nat.reduceEqDiff, Bool.not_true, Bool.not_false, Bool.and_true, Bool.and_false, Bool.true_and, Bool.false_and, cond_true, cond_false, Nat.zero_add, Nat.add_zero, reduceCtorEq, Nat.zero_le, ui_at, ua_at, ul_at, wK_v, wK_n, wK_t, true_and, and_true, nb0, nb1, not_false_eq_true, not_true_eq_false, ci_0, ci_1, ci_3, ci_5, ci_7, ci_12, ci_15, ci_16, ci_21, ci_22, w_24_0, w_24_1, w_24_4, w_24_5, w_24_6, w_24_9, w_24_11, w_24_13, w_24_14, w_24_15, w_24_16, w_24_19, w_24_22, w_24_25, w_24_27, w_24_28, w_24_31, w_24_33, w_24_34, w_24_35, w_24_36, w_24_37, w_24_40, w_24_41, w_24_44, w_24_45, w_24_46, w_24_48, w_24_51, w_24_52, w_24_55, w_24_56, w_24_57, w_24_58, w_24_59, w_24_61, w_24_63, w_24_66, w_24_69, w_24_70, w_24_72, w_24_75, w_24_77, w_24_78, w_24_79, w_24_81, w_24_82, w_24_85, w_24_87, w_24_90, w_24_92, w_24_93, w_24_94, w_24_97, w_24_99, w_24_100, w_24_104, w_24_106, w_24_109, w_24_111, w_24_114, w_24_116, w_24_118, w_24_121, w_24_122, w_24_125, w_24_127, w_24_130, w_24_132, w_24_133, w_24_134, w_24_137, w_24_139, w_24_142, w_24_145, w_24_147, w_24_150, w_24_151, w_24_152, w_24_153, w_24_154, w_24_155, w_24_157, w_24_160, w_24_161, w_24_163, w_24_166, w_24_170, w_24_171, w_24_172, w_24_175, w_24_176, w_24_179, w_24_181, w_24_183, w_24_184, w_24_185, w_24_187, w_24_190, gf_5_0, L48, L10, dv_st hv, dg_st hv, nI_1, zI_m1]
    rw [if_neg (nI_ge (by omega) (by omega))]
    have z10 : (¬ zL 10 = 0) = True := by decide
    have e3 := dg_st (k := i) hv
    rw [dv_st hv] at e3
    have dl : dig v i < 65536 := by
      unfold dig
      have := Nat.mod_lt (v / 10 ^ i) (show 0 < 10 by decide)
      omega
    simp only [z10, true_and, e3, nar_c dl]
    have wm : ww s (i + 1) ≤ e := by
      unfold ww at hw ⊢
      split at hw <;> split <;> omega
    have put : ∀ w, w < e → dx_pi (mk xi (ua xa 6 (wa (xa 6) v s D e w)) xl j) 2 (.ref 6) (zI ((e : Int) - 1 - (w : Nat))) (nI (cr v s D w)) = some (mk xi (ua xa 6 (wa (xa 6) v s D e (w + 1))) xl j) := by
      intro w hw
      have ei : zI ((e : Int) - 1 - (w : Nat)) = nI (e - 1 - w) := by
        rw [nI_z']
        congr 1
        omega
      rw [ei, sa_6 (vp_in_nI (show e - 1 - w < 300 by omega) (by decide)), nI_clamp (by omega), ua_ua, show (ua xa 6 (wa (xa 6) v s D e w)) 6 = wa (xa 6) v s D e w from rfl, wa_s hw]
    have one : (i = 0 ∨ ¬ i = s) → (wO (dx_pi (mk xi (ua xa 6 (wa (xa 6) v s D e (ww s i))) xl j) 2 (.ref 6) (zI ((e : Int) - 1 - (ww s i : Nat))) (nI (dig v i))) (fun σ1 => dx_W (tb_Z L xs) (d + 1) 24 102 [(11, .int (nI (i + 1))), (9, .long (zL ((v / 10 ^ (i + 1) : Nat) : Int))), (8, .int (zI ((e : Int) - 1 - (ww s i : Nat) - 1))), (7, .int (nI e)), (6, .int (nI D)), (5, .int (nI s)), (3, .long y), (0, .ref 5), (1, .long x)] [] σ1 Q) ↔ dx_W (tb_Z L xs) (d + 1) 24 169 [(11, .int (nI D)), (9, .long (zL ((v / 10 ^ D : Nat) : Int))), (8, .int (zI ((e : Int) - 1 - (ww s D : Nat)))), (7, .int (nI e)), (6, .int (nI D)), (5, .int (nI s)), (3, .long y), (0, .ref 5), (1, .long x)] [] (mk xi (ua xa 6 (wa (xa 6) v s D e (ww s D))) xl j) Q) := by
      intro hc
      have ew : ww s (i + 1) = ww s i + 1 := by
        unfold ww
        split <;> split <;> omega
      have ec : cr v s D (ww s i) = dig v i := by
        unfold ww
        split
        · rename_i h
          exact cr_hi (by omega) (by omega)
        · rename_i h
          exact cr_lo (by omega) (by omega)
      rw [← ec, put (ww s i) (by omega), wO_some, ← ew, show (e : Int) - 1 - (ww s i : Nat) - 1 = (e : Int) - 1 - (ww s (i + 1) : Nat) by omega]
      exact ih (i + 1) (by omega)
    by_cases h0 : i = 0
    · rw [if_pos (show nI i ≤ 0 by rw [h0]; decide)]
      exact one (Or.inl h0)
    rw [if_neg (nI_nle (by omega) (by omega))]
    by_cases h1 : i = s
    · rw [if_neg (show ¬ ¬ nI i = nI s from fun z => z (by rw [h1]))]
      have ew : ww s i = i + 1 := by
        unfold ww
        rw [if_neg (by omega)]
      have ew2 : ww s (i + 1) = ww s i + 1 + 1 := by
        unfold ww
        rw [if_pos (by omega), if_neg (by omega)]
      have ec : cr v s D (ww s i) = 46 := by
        rw [ew, h1]
        exact cr_dot (by omega)
      have ec2 : cr v s D (ww s i + 1) = dig v i := by
        rw [ew]
        exact cr_hi (by omega) (by omega)
      rw [show vp_nar .char 46 = nI 46 from nar_c (k := 46) (by decide), ← ec, put (ww s i) (by omega), wO_some, gf_5_0, wO_some, ← ec2, show (e : Int) - 1 - (ww s i : Nat) - 1 = (e : Int) - 1 - ((ww s i + 1 : Nat) : Int) by omega, put (ww s i + 1) (by omega), wO_some, ← ew2, show (e : Int) - 1 - ((ww s i + 1 : Nat) : Int) - 1 = (e : Int) - 1 - (ww s (i + 1) : Nat) by omega]
      exact ih (i + 1) (by omega)
    · rw [if_pos (show ¬ nI i = nI s from fun z => h1 ((nI_eq (by omega) (by omega)).mp z))]
      exact one (Or.inr h1)
end QC
