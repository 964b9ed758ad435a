/-! Numbers as whole numbers, and the class's reckoning. -/
def zI (a : Int) : Int32 := Int32.ofInt a
def zL (a : Int) : Int64 := Int64.ofInt a
theorem zL_T {a : Int} (h1 : -2 ^ 63 ≤ a) (h2 : a < 2 ^ 63) : (zL a).toInt = a := Int64.toInt_ofInt_of_le h1 h2
theorem zI_T {a : Int} (h1 : -2 ^ 31 ≤ a) (h2 : a < 2 ^ 31) : (zI a).toInt = a := Int32.toInt_ofInt_of_le h1 h2
theorem zL_add (a b : Int) : zL a + zL b = zL (a + b) := (Int64.ofInt_add a b).symm
theorem zL_sub (a b : Int) : zL a - zL b = zL (a - b) := (Int64.ofInt_sub a b).symm
theorem zL_mul (a b : Int) : zL a * zL b = zL (a * b) := (Int64.ofInt_mul a b).symm
theorem zL_neg (a : Int) : -zL a = zL (-a) := (Int64.ofInt_neg a).symm
theorem zI_add (a b : Int) : zI a + zI b = zI (a + b) := (Int32.ofInt_add a b).symm
theorem zI_sub (a b : Int) : zI a - zI b = zI (a - b) := (Int32.ofInt_sub a b).symm
theorem zI_mul (a b : Int) : zI a * zI b = zI (a * b) := (Int32.ofInt_mul a b).symm
theorem zI_neg (a : Int) : -zI a = zI (-a) := (Int32.ofInt_neg a).symm
theorem zL_div {a b : Int} (h1 : -2 ^ 63 ≤ a) (h2 : a < 2 ^ 63) (h3 : -2 ^ 63 ≤ b) (h4 : b < 2 ^ 63) : zL a / zL b = zL (a.tdiv b) := (Int64.ofInt_tdiv h1 (Int.le_sub_one_of_lt h2) h3 (Int.le_sub_one_of_lt h4)).symm
theorem zI_div {a b : Int} (h1 : -2 ^ 31 ≤ a) (h2 : a < 2 ^ 31) (h3 : -2 ^ 31 ≤ b) (h4 : b < 2 ^ 31) : zI a / zI b = zI (a.tdiv b) := (Int32.ofInt_tdiv h1 (Int.le_sub_one_of_lt h2) h3 (Int.le_sub_one_of_lt h4)).symm
theorem zL_rem {a b : Int} (h1 : -2 ^ 63 ≤ a) (h2 : a < 2 ^ 63) (h3 : -2 ^ 63 ≤ b) (h4 : b < 2 ^ 63) : zL a - zL a / zL b * zL b = zL (a.tmod b) := by
  rw [zL_div h1 h2 h3 h4, zL_mul, zL_sub, Int.tmod_def, Int.mul_comm b]
theorem zL_lt {a b : Int} (h1 : -2 ^ 63 ≤ a) (h2 : a < 2 ^ 63) (h3 : -2 ^ 63 ≤ b) (h4 : b < 2 ^ 63) : zL a < zL b ↔ a < b := by
  rw [Int64.lt_iff_toInt_lt, zL_T h1 h2, zL_T h3 h4]
theorem zL_le {a b : Int} (h1 : -2 ^ 63 ≤ a) (h2 : a < 2 ^ 63) (h3 : -2 ^ 63 ≤ b) (h4 : b < 2 ^ 63) : zL a ≤ zL b ↔ a ≤ b := by
  rw [Int64.le_iff_toInt_le, zL_T h1 h2, zL_T h3 h4]
theorem zL_eq {a b : Int} (h1 : -2 ^ 63 ≤ a) (h2 : a < 2 ^ 63) (h3 : -2 ^ 63 ≤ b) (h4 : b < 2 ^ 63) : zL a = zL b ↔ a = b := by
  rw [← Int64.toInt_inj, zL_T h1 h2, zL_T h3 h4]
theorem zI_lt {a b : Int} (h1 : -2 ^ 31 ≤ a) (h2 : a < 2 ^ 31) (h3 : -2 ^ 31 ≤ b) (h4 : b < 2 ^ 31) : zI a < zI b ↔ a < b := by
  rw [Int32.lt_iff_toInt_lt, zI_T h1 h2, zI_T h3 h4]
theorem zI_le {a b : Int} (h1 : -2 ^ 31 ≤ a) (h2 : a < 2 ^ 31) (h3 : -2 ^ 31 ≤ b) (h4 : b < 2 ^ 31) : zI a ≤ zI b ↔ a ≤ b := by
  rw [Int32.le_iff_toInt_le, zI_T h1 h2, zI_T h3 h4]
theorem zI_eq {a b : Int} (h1 : -2 ^ 31 ≤ a) (h2 : a < 2 ^ 31) (h3 : -2 ^ 31 ≤ b) (h4 : b < 2 ^ 31) : zI a = zI b ↔ a = b := by
  rw [← Int32.toInt_inj, zI_T h1 h2, zI_T h3 h4]
theorem nI_z' (n : Nat) : nI n = zI n := rfl
theorem zI_L {a : Int} (h1 : -2 ^ 31 ≤ a) (h2 : a < 2 ^ 31) : (zI a).toInt64 = zL a := Int64.toInt_inj.mp (by rw [Int32.toInt_toInt64, zI_T h1 h2, zL_T (by omega) (by omega)])
theorem zL_I {a : Int} : (zL a).toInt32 = zI a := Int64.toInt32_ofInt
theorem nI_L {n : Nat} (h : n < 2 ^ 31) : (nI n).toInt64 = zL n := by
  rw [nI_z', zI_L (by omega) (by omega)]
theorem zL_bv (a : Int) : (zL a).toBitVec.toNat = (a % 2 ^ 64).toNat := by
  show (BitVec.ofInt 64 a).toNat = _
  rw [BitVec.toNat_ofInt]
  rfl
/-- the packed number -/
def pn (m : Int) (d : Nat) : Int64 := zL (8 * m + d)
theorem pn_pack {m : Int} {d : Nat} (hd : d < 8) : zL m <<< ((3 : Int32).toInt64 &&& 63) ||| (nI d).toInt64 = pn m d := by
  rw [nI_L (by omega)]
  have e : ((3 : Int32).toInt64 &&& 63) = 3 := by decide
  rw [e]
  apply Int64.toBitVec_inj.mp
  rw [Int64.toBitVec_or, Int64.toBitVec_shiftLeft]
  apply BitVec.eq_of_toNat_eq
  rw [BitVec.toNat_or, show ((3 : Int64).toBitVec.smod 64) = 3#64 by decide, BitVec.shiftLeft_eq', BitVec.toNat_shiftLeft, pn, zL_bv, zL_bv, zL_bv]
  have e1 : (m % 2 ^ 64).toNat <<< (3#64).toNat % 2 ^ 64 = (((m % 2 ^ 64).toNat) % 2 ^ 61) <<< 3 := by
    rw [show (3#64).toNat = 3 from rfl, Nat.shiftLeft_eq, Nat.shiftLeft_eq]
    omega
  have e2 : ((d : Int) % 2 ^ 64).toNat = d := by omega
  rw [e1, e2, ← Nat.shiftLeft_add_eq_or_of_lt (show d < 2 ^ 3 by omega), Nat.shiftLeft_eq]
  omega
theorem pn_mant {m : Int} {d : Nat} (h1 : -2 ^ 59 ≤ m) (h2 : m < 2 ^ 59) (hd : d < 8) : pn m d >>> ((3 : Int32).toInt64 &&& 63) = zL m := by
  have e : ((3 : Int32).toInt64 &&& 63) = 3 := by decide
  rw [e]
  apply Int64.toInt_inj.mp
  rw [zL_T (by omega) (by omega)]
  show (pn m d >>> (3 : Int64)).toBitVec.toInt = m
  rw [Int64.toBitVec_shiftRight, show ((3 : Int64).toBitVec.smod 64) = 3#64 by decide, BitVec.sshiftRight_eq', BitVec.toInt_sshiftRight, show (3#64).toNat = 3 from rfl]
  show (zL (8 * m + d)).toInt >>> 3 = m
  rw [zL_T (by omega) (by omega), Int.shiftRight_eq_div_pow]
  omega
theorem pn_pl {m : Int} {d : Nat} (hd : d < 8) : (pn m d &&& 7).toInt32 = nI d := by
  have e : pn m d &&& 7 = zL d := by
    apply Int64.toBitVec_inj.mp
    rw [Int64.toBitVec_and]
    apply BitVec.eq_of_toNat_eq
    rw [BitVec.toNat_and, pn, zL_bv, zL_bv, show (7 : Int64).toBitVec.toNat = 2 ^ 3 - 1 from rfl, Nat.and_two_pow_sub_one_eq_mod]
    omega
  rw [e, zL_I]
  rfl
theorem mul_b {m t A B : Int} (h : -A ≤ m) (h2 : m ≤ A) (h0 : 0 ≤ t) (ht : t ≤ B) : -(A * B) ≤ m * t ∧ m * t ≤ A * B := by
  have hA : 0 ≤ A := by omega
  have a1 := Int.mul_le_mul_of_nonneg_right h2 h0
  have a2 := Int.mul_le_mul_of_nonneg_left ht hA
  have a3 := Int.mul_le_mul_of_nonneg_right h h0
  rw [Int.neg_mul] at a3
  omega
theorem ten_b {k : Nat} (h : k ≤ 8) : 1 ≤ (10 : Int) ^ k ∧ (10 : Int) ^ k ≤ 100000000 := by
  match k, h with
  | 0, _ => decide
  | 1, _ => decide
  | 2, _ => decide
  | 3, _ => decide
  | 4, _ => decide
  | 5, _ => decide
  | 6, _ => decide
  | 7, _ => decide
  | 8, _ => decide
theorem ten_4 {k : Nat} (h : k ≤ 4) : 1 ≤ (10 : Int) ^ k ∧ (10 : Int) ^ k ≤ 10000 := by
  match k, h with
  | 0, _ => decide
  | 1, _ => decide
  | 2, _ => decide
  | 3, _ => decide
  | 4, _ => decide
/-- a number: its m and its decimals -/
def nm (m : Int) (s : Nat) : Prop := -999999999 ≤ m ∧ m ≤ 999999999 ∧ s ≤ 4
def chk (m : Int) (s : Nat) : Nat ⊕ (Int × Nat) := if 999999999 < m then .inl 3 else if -999999999 ≤ m then .inr (m, s) else .inl 3
def r_sum (a : Int) (s : Nat) (b : Int) (t : Nat) : Nat ⊕ (Int × Nat) := chk (a * 10 ^ (max s t - s) + b * 10 ^ (max s t - t)) (max s t)
def r_pro (c : Nat) (a : Int) (s : Nat) (b : Int) (t : Nat) : Nat ⊕ (Int × Nat) := chk ((a * b).tdiv (10 ^ (s + t - min (s + t) (max c (max s t))))) (min (s + t) (max c (max s t)))
def r_quo (c : Nat) (a : Int) (s : Nat) (b : Int) (t : Nat) : Nat ⊕ (Int × Nat) := if b = 0 then .inl 2 else chk ((a * 10 ^ (t + c)).tdiv (b * 10 ^ s)) c
def r_rem (a : Int) (s : Nat) (b : Int) (t : Nat) : Nat ⊕ (Int × Nat) := if b = 0 then .inl 2 else chk ((a * 10 ^ (max s t - s)).tmod (b * 10 ^ (max s t - t))) (max s t)
def r_who (b : Int) (t : Nat) (lo hi : Int) : Nat ⊕ Int := if ¬ b.tmod (10 ^ t) = 0 then .inl 5 else if b.tdiv (10 ^ t) < lo then .inl 5 else if b.tdiv (10 ^ t) ≤ hi then .inr (b.tdiv (10 ^ t)) else .inl 5
section AR
variable {L : Nat} {xs : Nat → Int32} {d : Nat} {σ : dx_S} {Q : dx_O → dx_S → Prop} {xi : Nat → Int32} {xa : Nat → Nat → Int32} {xl : Nat → Nat → Int64} {j : dx_S} {a b m : Int} {s t p c : Nat}
theorem ga_ten {k : Nat} (hk : k ≤ 8) : dx_el (tb_K L xs) σ (.retAddr 0) (nI k) = some (zL (10 ^ k)) := by
  refine (if_pos ⟨rfl, vp_in_nI (N := 9) (by omega) (by decide)⟩).trans ?_
  rw [nI_clamp (by omega)]
  match k, hk with
  | 0, _ => rfl
  | 1, _ => rfl
  | 2, _ => rfl
  | 3, _ => rfl
  | 4, _ => rfl
  | 5, _ => rfl
  | 6, _ => rfl
  | 7, _ => rfl
  | 8, _ => rfl
theorem L9 : (999999999 : Int64) = zL 999999999 := rfl
theorem L0 : (0 : Int64) = zL 0 := rfl
theorem L1 : (1 : Int64) = zL 1 := rfl
theorem zl_ne {x : Int} (h : ¬ x = 0) (h1 : -2 ^ 62 ≤ x) (h2 : x < 2 ^ 62) : (zL x = 0) = False := by
  rw [L0, zL_eq (by omega) (by omega) (by omega) (by omega)]
  exact eq_false h
/-- how a reckoning ends: with the fault raised, or with the number -/
def aR (r : Nat ⊕ (Int × Nat)) (xi : Nat → Int32) (xa : Nat → Nat → Int32) (xl : Nat → Nat → Int64) (j : dx_S) (Q : dx_O → dx_S → Prop) : Prop := match r with
  | .inl k => Q (.inr (46 + j.length)) (mk (ui xi 322 (nI k)) xa xl (j ++ [.inr (exc (nI k), [])]))
  | .inr (m, s) => Q (.inl (some (.long (pn m s)))) (mk xi xa xl j)
theorem aR_ret {r : Nat ⊕ (Int × Nat)} {Q' : dx_O → dx_S → Prop} (h1 : ∀ v σ, Q' (.inl (some (.long v))) σ ↔ Q (.inl (some (.long v))) σ) (h2 : ∀ w σ, Q' (.inr w) σ ↔ Q (.inr w) σ) : aR r xi xa xl j Q' ↔ aR r xi xa xl j Q := by
  cases r with
  | inl k => exact h2 _ _
  | inr q => exact h1 _ _
theorem e_mantN (h : nm m s) : dx_M (tb_Z L xs) (d + 1) 79 [.long (pn m s)] σ Q ↔ Q (.inl (some (.long (zL m)))) σ := by
  unfold nm at h
  rw [e_mant, pn_mant (by omega) (by omega) (by omega)]
theorem e_placesN (h : nm m s) : dx_M (tb_Z L xs) (d + 1) 80 [.long (pn m s)] σ Q ↔ Q (.inl (some (.int (nI s)))) σ := by
  unfold nm at h
  rw [e_places, pn_pl (by omega)]
theorem e_packN (h : s < 8) : dx_M (tb_Z L xs) (d + 1) 81 [.long (zL m), .int (nI s)] σ Q ↔ Q (.inl (some (.long (pn m s)))) σ := by
  rw [e_pack, pn_pack h]
theorem e_negN (h : nm m s) : dx_M (tb_Z L xs) (d + 2) 83 [.long (pn m s)] σ Q ↔ Q (.inl (some (.long (pn (-m) s)))) σ := by
  unfold nm at h
  rw [e_negated, pn_mant (by omega) (by omega) (by omega), pn_pl (by omega), zL_neg, pn_pack (by omega)]
theorem nI_lti (hs : s < 2 ^ 31) (ht : t < 2 ^ 31) : nI s < nI t ↔ s < t := by
  rw [nI_z', nI_z', zI_lt (by omega) (by omega) (by omega) (by omega)]
  omega
theorem e_maxN (hs : s < 2 ^ 31) (ht : t < 2 ^ 31) : dx_M (tb_Z L xs) (d + 1) 145 [.int (nI s), .int (nI t)] σ Q ↔ Q (.inl (some (.int (nI (max s t))))) σ := by
  rw [e_max]
  by_cases h : s < t
  · rw [if_pos ((nI_lti hs ht).mpr h), show max s t = t by omega]
  · rw [if_neg (fun z => h ((nI_lti hs ht).mp z)), show max s t = s by omega]
theorem e_minN (hs : s < 2 ^ 31) (ht : t < 2 ^ 31) : dx_M (tb_Z L xs) (d + 1) 144 [.int (nI s), .int (nI t)] σ Q ↔ Q (.inl (some (.int (nI (min s t))))) σ := by
  rw [e_min]
  by_cases h : t < s
  · rw [if_pos ((nI_lti ht hs).mpr h), show min s t = t by omega]
  · rw [if_neg (fun z => h ((nI_lti ht hs).mp z)), show min s t = s by omega]
theorem e_checked (h1 : -2 ^ 62 ≤ m) (h2 : m < 2 ^ 62) (hs : s < 8) : dx_M (tb_Z L xs) (d + 2) 87 [.ref 21, .long (zL m), .int (nI s)] (mk xi xa xl j) Q ↔ aR (chk m s) xi xa xl j Q := by
  rw [dx_M_in (Nat.le_of_ble_eq_true rfl)]
  simp only [wI_some, wJ_some, wR_ref, wR_con, wO_some, s1_eq, s2_eq, dl_nil, dl_cons, dm_nil, dm_cons, lk_cons, cat_int, cat_long, cat_ref, cat_con, args_nil, args_int, args_long, args_ref, args_con, ct_nil, ct_cons, Nat.reduceBEq, Nat.reduceAdd, Nat.reduceLeDiff, Nat.reduceEqDiff, Bool.not_true, Bool.not_false, Bool.and_true, Bool.and_false, Bool.true_and, Bool.false_and, cond_true, cond_false, Nat.zero_add, Nat.add_zero, reduceCtorEq, Nat.zero_le, ui_at, ua_at, ul_at, wK_v, wK_n, wK_t, true_and, and_true, nb0, nb1, not_false_eq_true, not_true_eq_false, ci_0, ci_1, ci_3, ci_5, ci_7, ci_12, ci_15, ci_16, ci_21, ci_22, w_87_0, w_87_1, w_87_4, w_87_5, w_87_8, w_87_9, w_87_12, w_87_13, w_87_16, w_87_17, w_87_20, w_87_21, w_87_24, w_87_25, w_87_26, w_87_29, gf_21_1, lg_cmp_gt, lg_cmp_ge, L9, e_raise, e_packN hs]
  simp only [zL_neg, zL_lt (a := 999999999) (b := m) (by omega) (by omega) (by omega) (by omega), zL_le (a := -999999999) (b := m) (by omega) (by omega) (by omega) (by omega)]
  unfold chk
  by_cases ha : 999999999 < m
  · rw [if_pos ha, if_pos ha]
    exact Iff.rfl
  · rw [if_neg ha, if_neg ha]
    by_cases hb : -999999999 ≤ m
    · rw [if_pos hb, if_pos hb]
      exact Iff.rfl
    · rw [if_neg hb, if_neg hb]
      exact Iff.rfl
theorem e_aligned (h : nm m s) (hs : s ≤ p) (hp : p ≤ 4) : dx_M (tb_Z L xs) (d + 2) 86 [.long (pn m s), .int (nI p)] σ Q ↔ Q (.inl (some (.long (zL (m * 10 ^ (p - s)))))) σ := by
  rw [dx_M_in (Nat.le_of_ble_eq_true rfl)]
  simp only [wI_some, wJ_some, wR_ref, wR_con, wO_some, s1_eq, s2_eq, dl_nil, dl_cons, dm_nil, dm_cons, lk_cons, cat_int, cat_long, cat_ref, cat_con, args_nil, args_int, args_long, args_ref, args_con, ct_nil, ct_cons, Nat.reduceBEq, Nat.reduceAdd, Nat.reduceLeDiff, Nat.reduceEqDiff, Bool.not_true, Bool.not_false, Bool.and_true, Bool.and_false, Bool.true_and, Bool.false_and, cond_true, cond_false, Nat.zero_add, Nat.add_zero, reduceCtorEq, Nat.zero_le, ui_at, ua_at, ul_at, wK_v, wK_n, wK_t, true_and, and_true, nb0, nb1, not_false_eq_true, not_true_eq_false, ci_0, ci_1, ci_3, ci_5, ci_7, ci_12, ci_15, ci_16, ci_21, ci_22, w_86_0, w_86_1, w_86_4, w_86_7, w_86_8, w_86_9, w_86_12, w_86_13, w_86_14, w_86_15, e_mantN h, e_placesN h, pk_sub hs, ga_ten (show p - s ≤ 8 by omega), zL_mul]
theorem al_b (h : nm m s) (hp : p ≤ 4) : -(9999999990000 : Int) ≤ m * 10 ^ (p - s) ∧ m * 10 ^ (p - s) ≤ 9999999990000 := by
  have h2 := ten_4 (k := p - s) (by omega)
  exact mul_b (A := 999999999) (B := 10000) h.1 h.2.1 (by omega) h2.2
theorem e_sum (ha : nm a s) (hb : nm b t) : dx_M (tb_Z L xs) (d + 3) 85 [.ref 21, .long (pn a s), .long (pn b t)] (mk xi xa xl j) Q ↔ aR (r_sum a s b t) xi xa xl j Q := by
  have h4 : max s t ≤ 4 := by have := ha.2.2; have := hb.2.2; omega
  have b1 := al_b ha h4
  have b2 := al_b hb h4
  rw [dx_M_in (Nat.le_of_ble_eq_true rfl)]
  simp only [wI_some, wJ_some, wR_ref, wR_con, wO_some, s1_eq, s2_eq, dl_nil, dl_cons, dm_nil, dm_cons, lk_cons, cat_int, cat_long, cat_ref, cat_con, args_nil, args_int, args_long, args_ref, args_con, ct_nil, ct_cons, Nat.reduceBEq, Nat.reduceAdd, Nat.reduceLeDiff, Nat.reduceEqDiff, Bool.not_true, Bool.not_false, Bool.and_true, Bool.and_false, Bool.true_and, Bool.false_and, cond_true, cond_false, Nat.zero_add, Nat.add_zero, reduceCtorEq, Nat.zero_le, ui_at, ua_at, ul_at, wK_v, wK_n, wK_t, true_and, and_true, nb0, nb1, not_false_eq_true, not_true_eq_false, ci_0, ci_1, ci_3, ci_5, ci_7, ci_12, ci_15, ci_16, ci_21, ci_22, w_85_0, w_85_1, w_85_4, w_85_5, w_85_8, w_85_11, w_85_13, w_85_14, w_85_15, w_85_17, w_85_20, w_85_21, w_85_23, w_85_26, w_85_27, w_85_29, e_placesN ha, e_placesN hb, e_maxN (show s < 2 ^ 31 by omega) (show t < 2 ^ 31 by omega), e_aligned ha (show s ≤ max s t by omega) h4, e_aligned hb (show t ≤ max s t by omega) h4, zL_add, e_checked (show -2 ^ 62 ≤ a * 10 ^ (max s t - s) + b * 10 ^ (max s t - t) by omega) (show a * 10 ^ (max s t - s) + b * 10 ^ (max s t - t) < 2 ^ 62 by omega) (show max s t < 8 by omega)]
  refine aR_ret (fun v σ => ?_) (fun w σ => ?_)
  · simp only [wK_v, w_85_32]
  · exact Iff.rfl
theorem e_zero (hb : nm b t) : dx_M (tb_Z L xs) (d + 2) 90 [.ref 21, .long (pn b t)] (mk xi xa xl j) Q ↔ (if b = 0 then Q (.inr (46 + j.length)) (mk (ui xi 322 2) xa xl (j ++ [.inr (exc 2, [])])) else Q (.inl none) (mk xi xa xl j)) := by
  have h := hb
  unfold nm at h
  rw [dx_M_in (Nat.le_of_ble_eq_true rfl)]
  simp only [wI_some, wJ_some, wR_ref, wR_con, wO_some, s1_eq, s2_eq, dl_nil, dl_cons, dm_nil, dm_cons, lk_cons, cat_int, cat_long, cat_ref, cat_con, args_nil, args_int, args_long, args_ref, args_con, ct_nil, ct_cons, Nat.reduceBEq, Nat.reduceAdd, Nat.reduceLeDiff, Nat.reduceEqDiff, Bool.not_true, Bool.not_false, Bool.and_true, Bool.and_false, Bool.true_and, Bool.false_and, cond_true, cond_false, Nat.zero_add, Nat.add_zero, reduceCtorEq, Nat.zero_le, ui_at, ua_at, ul_at, wK_v, wK_n, wK_t, true_and, and_true, nb0, nb1, not_false_eq_true, not_true_eq_false, ci_0, ci_1, ci_3, ci_5, ci_7, ci_12, ci_15, ci_16, ci_21, ci_22, w_90_0, w_90_1, w_90_4, w_90_5, w_90_6, w_90_9, w_90_10, w_90_13, w_90_14, w_90_17, gf_21_1, lg_cmp_eq, L0, e_raise, e_mantN hb]
  simp only [zL_eq (a := b) (b := 0) (by omega) (by omega) (by omega) (by omega)]
  by_cases h0 : b = 0
  · rw [if_neg (fun z => z h0), if_pos h0]
  · rw [if_pos h0, if_neg h0]
theorem tq_b {x y B : Int} (h1 : -B ≤ x) (h2 : x ≤ B) : -B ≤ x.tdiv y ∧ x.tdiv y ≤ B := by
  have h := Int.natAbs_tdiv_le_natAbs x y
  omega
theorem tm_b {x y B : Int} (h1 : -B ≤ x) (h2 : x ≤ B) : -B ≤ x.tmod y ∧ x.tmod y ≤ B := by
  have h := Int.natAbs_tmod x y
  have h2 := Nat.mod_le x.natAbs y.natAbs
  omega
theorem ten_ne {k : Nat} (h : k ≤ 8) : ((zL (10 ^ k)) = 0) = False := by
  have := ten_b h
  exact zl_ne (by omega) (by omega) (by omega)
theorem e_pro (hc : xi 193 = nI c) (hc4 : c ≤ 4) (ha : nm a s) (hb : nm b t) : dx_M (tb_Z L xs) (d + 3) 88 [.ref 21, .long (pn a s), .long (pn b t)] (mk xi xa xl j) Q ↔ aR (r_pro c a s b t) xi xa xl j Q := by
  have hs := ha.2.2
  have ht := hb.2.2
  have hk : s + t - min (s + t) (max c (max s t)) ≤ 8 := by omega
  have b1 := ten_b hk
  have b2 : -(999999999 * 999999999) ≤ a * b ∧ a * b ≤ 999999999 * 999999999 := by
    rcases Int.le_total 0 b with h0 | h0
    · exact mul_b ha.1 ha.2.1 h0 hb.2.1
    · have := mul_b (m := a) (t := -b) ha.1 ha.2.1 (by omega) (show -b ≤ 999999999 by have := hb.1; omega)
      rw [Int.mul_neg] at this
      omega
  have b3 := tq_b (y := 10 ^ (s + t - min (s + t) (max c (max s t)))) b2.1 b2.2
  rw [dx_M_in (Nat.le_of_ble_eq_true rfl)]
  simp only [wI_some, wJ_some, wR_ref, wR_con, wO_some, s1_eq, s2_eq, dl_nil, dl_cons, dm_nil, dm_cons, lk_cons, cat_int, cat_long, cat_ref, cat_con, args_nil, args_int, args_long, args_ref, args_con, ct_nil, ct_cons, Nat.reduceBEq, Nat.reduceAdd, Nat.reduceLeDiff, Nat.reduceEqDiff, Bool.not_true, Bool.not_false, Bool.and_true, Bool.and_false, Bool.true_and, Bool.false_and, cond_true, cond_false, Nat.zero_add, Nat.add_zero, reduceCtorEq, Nat.zero_le, ui_at, ua_at, ul_at, wK_v, wK_n, wK_t, true_and, and_true, nb0, nb1, not_false_eq_true, not_true_eq_false, ci_0, ci_1, ci_3, ci_5, ci_7, ci_12, ci_15, ci_16, ci_21, ci_22, w_88_0, w_88_1, w_88_4, w_88_5, w_88_8, w_88_9, w_88_11, w_88_13, w_88_14, w_88_17, w_88_20, w_88_21, w_88_24, w_88_25, w_88_28, w_88_31, w_88_34, w_88_37, w_88_39, w_88_40, w_88_41, w_88_44, w_88_45, w_88_48, w_88_49, w_88_52, w_88_54, w_88_56, w_88_57, w_88_58, w_88_59, w_88_61, e_placesN ha, e_placesN hb, e_mantN ha, e_mantN hb, gf_21_0, gf_3_1, hc, nI_add, zL_mul, e_maxN (show s < 2 ^ 31 by omega) (show t < 2 ^ 31 by omega), e_maxN (show c < 2 ^ 31 by omega) (show max s t < 2 ^ 31 by omega), e_minN (show s + t < 2 ^ 31 by omega) (show max c (max s t) < 2 ^ 31 by omega), pk_sub (show min (s + t) (max c (max s t)) ≤ s + t by omega), ga_ten hk, ten_ne hk, zL_div (show -2 ^ 63 ≤ a * b by omega) (show a * b < 2 ^ 63 by omega) (show -2 ^ 63 ≤ (10 : Int) ^ (s + t - min (s + t) (max c (max s t))) by omega) (show (10 : Int) ^ (s + t - min (s + t) (max c (max s t))) < 2 ^ 63 by omega), e_checked (show -2 ^ 62 ≤ (a * b).tdiv (10 ^ (s + t - min (s + t) (max c (max s t)))) by omega) (show (a * b).tdiv (10 ^ (s + t - min (s + t) (max c (max s t)))) < 2 ^ 62 by omega) (show min (s + t) (max c (max s t)) < 8 by omega)]
  refine aR_ret (fun v σ => ?_) (fun w σ => ?_)
  · simp only [wK_v, w_88_64]
  · exact Iff.rfl
theorem e_quo (hc : xi 193 = nI c) (hc4 : c ≤ 4) (ha : nm a s) (hb : nm b t) : dx_M (tb_Z L xs) (d + 3) 89 [.ref 21, .long (pn a s), .long (pn b t)] (mk xi xa xl j) Q ↔ aR (r_quo c a s b t) xi xa xl j Q := by
  have hs := ha.2.2
  have ht := hb.2.2
  have b1 := ten_b (show t + c ≤ 8 by omega)
  have b2 := ten_4 (show s ≤ 4 by omega)
  have b3 := mul_b (B := 100000000) ha.1 ha.2.1 (show 0 ≤ (10 : Int) ^ (t + c) by omega) b1.2
  have b4 := mul_b (B := 10000) hb.1 hb.2.1 (show 0 ≤ (10 : Int) ^ s by omega) b2.2
  have b5 := tq_b (y := b * 10 ^ s) b3.1 b3.2
  rw [dx_M_in (Nat.le_of_ble_eq_true rfl)]
  simp only [wI_some, wJ_some, wR_ref, wR_con, wO_some, s1_eq, s2_eq, dl_nil, dl_cons, dm_nil, dm_cons, lk_cons, cat_int, cat_long, cat_ref, cat_con, args_nil, args_int, args_long, args_ref, args_con, ct_nil, ct_cons, Nat.reduceBEq, Nat.reduceAdd, Nat.reduceLeDiff, Nat.reduceEqDiff, Bool.not_true, Bool.not_false, Bool.and_true, Bool.and_false, Bool.true_and, Bool.false_and, cond_true, cond_false, Nat.zero_add, Nat.add_zero, reduceCtorEq, Nat.zero_le, ui_at, ua_at, ul_at, wK_v, wK_n, wK_t, true_and, and_true, nb0, nb1, not_false_eq_true, not_true_eq_false, ci_0, ci_1, ci_3, ci_5, ci_7, ci_12, ci_15, ci_16, ci_21, ci_22, w_89_0, w_89_1, w_89_2, w_89_5, w_89_6, w_89_9, w_89_12, w_89_13, w_89_16, w_89_17, w_89_20, w_89_23, w_89_24, w_89_25, w_89_26, w_89_28, w_89_29, w_89_31, w_89_32, w_89_35, w_89_38, w_89_39, w_89_42, w_89_43, w_89_44, w_89_45, w_89_46, w_89_49, w_89_52, w_89_55, e_zero hb]
  unfold r_quo
  by_cases h0 : b = 0
  · rw [if_pos h0, if_pos h0]
    exact Iff.rfl
  rw [if_neg h0, if_neg h0]
  have b6 : ¬ b * 10 ^ s = 0 := Int.mul_ne_zero h0 (by omega)
  simp only [wI_some, wJ_some, wR_ref, wR_con, wO_some, s1_eq, s2_eq, dl_nil, dl_cons, dm_nil, dm_cons, lk_cons, cat_int, cat_long, cat_ref, cat_con, args_nil, args_int, args_long, args_ref, args_con, ct_nil, ct_cons, Nat.reduceBEq, Nat.reduceAdd, Nat.reduceLeDiff, Nat.reduceEqDiff, Bool.not_true, Bool.not_false, Bool.and_true, Bool.and_false, Bool.true_and, Bool.false_and, cond_true, cond_false, Nat.zero_add, Nat.add_zero, reduceCtorEq, Nat.zero_le, ui_at, ua_at, ul_at, wK_v, wK_n, wK_t, true_and, and_true, nb0, nb1, not_false_eq_true, not_true_eq_false, ci_0, ci_1, ci_3, ci_5, ci_7, ci_12, ci_15, ci_16, ci_21, ci_22, w_89_0, w_89_1, w_89_2, w_89_5, w_89_6, w_89_9, w_89_12, w_89_13, w_89_16, w_89_17, w_89_20, w_89_23, w_89_24, w_89_25, w_89_26, w_89_28, w_89_29, w_89_31, w_89_32, w_89_35, w_89_38, w_89_39, w_89_42, w_89_43, w_89_44, w_89_45, w_89_46, w_89_49, w_89_52, e_placesN ha, e_placesN hb, e_mantN ha, e_mantN hb, gf_21_0, gf_3_1, hc, nI_add, zL_mul, ga_ten (show t + c ≤ 8 by omega), ga_ten (show s ≤ 8 by omega), zl_ne b6 (by omega) (by omega), zL_div (show -2 ^ 63 ≤ a * 10 ^ (t + c) by omega) (show a * 10 ^ (t + c) < 2 ^ 63 by omega) (show -2 ^ 63 ≤ b * 10 ^ s by omega) (show b * 10 ^ s < 2 ^ 63 by omega), e_checked (show -2 ^ 62 ≤ (a * 10 ^ (t + c)).tdiv (b * 10 ^ s) by omega) (show (a * 10 ^ (t + c)).tdiv (b * 10 ^ s) < 2 ^ 62 by omega) (show c < 8 by omega)]
  refine aR_ret (fun v σ => ?_) (fun w σ => ?_)
  · simp only [wK_v, w_89_55]
  · exact Iff.rfl
theorem e_rem (ha : nm a s) (hb : nm b t) : dx_M (tb_Z L xs) (d + 3) 91 [.ref 21, .long (pn a s), .long (pn b t)] (mk xi xa xl j) Q ↔ aR (r_rem a s b t) xi xa xl j Q := by
  have h4 : max s t ≤ 4 := by have := ha.2.2; have := hb.2.2; omega
  have b1 := al_b ha h4
  have b2 := al_b hb h4
  have b3 := ten_4 (show max s t - t ≤ 4 by omega)
  have b5 := tm_b (y := b * 10 ^ (max s t - t)) b1.1 b1.2
  rw [dx_M_in (Nat.le_of_ble_eq_true rfl)]
  simp only [wI_some, wJ_some, wR_ref, wR_con, wO_some, s1_eq, s2_eq, dl_nil, dl_cons, dm_nil, dm_cons, lk_cons, cat_int, cat_long, cat_ref, cat_con, args_nil, args_int, args_long, args_ref, args_con, ct_nil, ct_cons, Nat.reduceBEq, Nat.reduceAdd, Nat.reduceLeDiff, Nat.reduceEqDiff, Bool.not_true, Bool.not_false, Bool.and_true, Bool.and_false, Bool.true_and, Bool.false_and, cond_true, cond_false, Nat.zero_add, Nat.add_zero, reduceCtorEq, Nat.zero_le, ui_at, ua_at, ul_at, wK_v, wK_n, wK_t, true_and, and_true, nb0, nb1, not_false_eq_true, not_true_eq_false, ci_0, ci_1, ci_3, ci_5, ci_7, ci_12, ci_15, ci_16, ci_21, ci_22, w_91_0, w_91_1, w_91_2, w_91_5, w_91_6, w_91_9, w_91_10, w_91_13, w_91_16, w_91_18, w_91_19, w_91_20, w_91_22, w_91_25, w_91_26, w_91_28, w_91_31, w_91_32, w_91_34, w_91_37, e_zero hb]
  unfold r_rem
  by_cases h0 : b = 0
  · rw [if_pos h0, if_pos h0]
    exact Iff.rfl
  rw [if_neg h0, if_neg h0]
  have b6 : ¬ b * 10 ^ (max s t - t) = 0 := Int.mul_ne_zero h0 (by omega)
  simp only [wI_some, wJ_some, wR_ref, wR_con, wO_some, s1_eq, s2_eq, dl_nil, dl_cons, dm_nil, dm_cons, lk_cons, cat_int, cat_long, cat_ref, cat_con, args_nil, args_int, args_long, args_ref, args_con, ct_nil, ct_cons, Nat.reduceBEq, Nat.reduceAdd, Nat.reduceLeDiff, Nat.reduceEqDiff, Bool.not_true, Bool.not_false, Bool.and_true, Bool.and_false, Bool.true_and, Bool.false_and, cond_true, cond_false, Nat.zero_add, Nat.add_zero, reduceCtorEq, Nat.zero_le, ui_at, ua_at, ul_at, wK_v, wK_n, wK_t, true_and, and_true, nb0, nb1, not_false_eq_true, not_true_eq_false, ci_0, ci_1, ci_3, ci_5, ci_7, ci_12, ci_15, ci_16, ci_21, ci_22, w_91_0, w_91_1, w_91_2, w_91_5, w_91_6, w_91_9, w_91_10, w_91_13, w_91_16, w_91_18, w_91_19, w_91_20, w_91_22, w_91_25, w_91_26, w_91_28, w_91_31, w_91_32, w_91_34, e_placesN ha, e_placesN hb, e_maxN (show s < 2 ^ 31 by omega) (show t < 2 ^ 31 by omega), e_aligned ha (show s ≤ max s t by omega) h4, e_aligned hb (show t ≤ max s t by omega) h4, zl_ne b6 (by omega) (by omega), zL_rem (show -2 ^ 63 ≤ a * 10 ^ (max s t - s) by omega) (show a * 10 ^ (max s t - s) < 2 ^ 63 by omega) (show -2 ^ 63 ≤ b * 10 ^ (max s t - t) by omega) (show b * 10 ^ (max s t - t) < 2 ^ 63 by omega), e_checked (show -2 ^ 62 ≤ (a * 10 ^ (max s t - s)).tmod (b * 10 ^ (max s t - t)) by omega) (show (a * 10 ^ (max s t - s)).tmod (b * 10 ^ (max s t - t)) < 2 ^ 62 by omega) (show max s t < 8 by omega)]
  refine aR_ret (fun v σ => ?_) (fun w σ => ?_)
  · simp only [wK_v, w_91_37]
  · exact Iff.rfl
end AR
