/-! The reference's parser: what its plan may hold. -/
def PI (w x : Int32) : Prop := w ∈ ([1, 2, 3, 4, 5, 6, 7, 8, 9, 10, 11, 12, 13, 14, 15, 16, 17, 18] : List Int32) ∨ (w ∈ ([19, 20, 21] : List Int32) ∧ ∃ k, k < 1200 ∧ x = nI k)
def PN (b : Nat) (R : RS) : Prop := (∀ k, k < R.pc → PI (R.pw k) (R.px k)) ∧ R.n ≤ b
section RX
variable {R : RS} {b : Nat} {tk vl pl : Nat → Int32} {q : Nat}
theorem N_pu {w x y : Int32} (hi : PI w x) (h : PN b R) : PN b (rPu w x y R) := by
  refine ⟨fun k hk => ?_, h.2⟩
  have hk' : k < R.pc + 1 := hk
  show PI (upd R.pw R.pc w k) (upd R.px R.pc x k)
  by_cases e : k = R.pc
  · rw [e, upd_eq, upd_eq]
    exact hi
  · rw [upd_ne e, upd_ne e]
    exact h.1 k (by omega)
theorem N_at {v : Nat} (h : PN b R) : PN b (rAt v R) := h
theorem N_pc {v : Nat} (hv : v ≤ R.pc) (h : PN b R) : PN b (rPc v R) := ⟨fun k hk => h.1 k (Nat.lt_of_lt_of_le hk hv), h.2⟩
theorem N_dp {v : Int32} (h : PN b R) : PN b (rDp v R) := h
theorem N_fa (h : PN b R) : PN b (rFa R) := h
theorem N_wi {v : Int32} (h : PN b R) : PN b (rWi v R) := h
theorem N_em {a b' c : Int32} (h : PN b R) : PN (b + 1) (rEm a b' c R) := ⟨h.1, Nat.succ_le_succ h.2⟩
theorem N_up (h : PN b R) : PN (b + 1) R := ⟨h.1, Nat.le_succ_of_le h.2⟩
theorem N_sx {i : Nat} (h : PN b R) : PN b (rSx i R) := h
theorem N_df {i : Nat} {p : Int32} (h : PN b R) : PN b (rDf i p R) := h
theorem N_dd (h : PN b R) : PN b (rDd R) := by
  unfold rDd
  split
  · exact h
  · exact h
theorem N_xp {z : Int32} (h : PN b R) : PN b (rXp tk z R) := by
  unfold rXp
  split
  · exact h
  · exact h
theorem N_ex {w : Int32} (h : PN b R) : PN (b + 1) (rEx tk vl pl w R) := by
  have p : ∀ {w : Int32} {x : Int32}, w ∈ ([1, 2, 3, 4, 5, 6, 7, 8, 9, 10, 11, 12, 13, 14, 15, 16, 17, 18] : List Int32) → PI w x := fun h => Or.inl h
  have mo : ∀ {a c k : Int32}, a ∈ ([1, 2, 3, 4, 5, 6, 7, 8, 9, 10, 11, 12, 13, 14, 15, 16, 17, 18] : List Int32) → c ∈ ([1, 2, 3, 4, 5, 6, 7, 8, 9, 10, 11, 12, 13, 14, 15, 16, 17, 18] : List Int32) → PN (b + 1) (rMo a c k R) := fun ha hc => N_up (N_pu (p hc) (N_pu (p (by decide)) (N_pu (p ha) (N_at h))))
  unfold rEx
  split
  · exact N_up (N_pu (p (by decide)) (N_pu (p (by decide)) h))
  split
  · split
    · exact mo (by decide) (by decide)
    · exact N_up h
  split
  · exact N_up (N_pu (p (by decide)) (N_pu (p (by decide)) h))
  split
  · split
    · exact mo (by decide) (by decide)
    · exact N_up h
  split
  · split
    · exact N_up (N_pu (p (by decide)) (N_pu (p (by decide)) (N_pu (p (by decide)) (N_dd (N_at h)))))
    · exact N_up (N_pu (p (by decide)) (N_pu (p (by decide)) h))
  split
  · split
    · exact N_up (N_pu (p (by decide)) (N_pu (p (by decide)) (N_pu (p (by decide)) (N_dd (N_at h)))))
    · exact N_up h
  split
  · unfold rPr
    split
    · exact N_at (N_em h)
    split
    · exact N_at (N_em h)
    split
    · split
      · exact N_up (N_at (N_pu (p (by decide)) (N_pu (p (by decide)) (N_dd (N_at (N_pu (p (by decide)) h))))))
      · exact N_at (N_em h)
    split
    · exact N_up (N_at (N_pu (p (by decide)) (N_pu (p (by decide)) (N_dd h))))
    · exact N_up (N_at (N_fa h))
  split
  · exact N_up (N_dp (N_xp h))
  split
  · exact N_up (N_pu (p (by decide)) (N_pu (p (by decide)) h))
  split
  · exact N_up (N_pu (p (by decide)) (N_pu (p (by decide)) (N_at h)))
  · exact N_up (N_fa h)
theorem N_st (h : PN b R) : PN (b + 1) (rSt tk vl R) := by
  have p : ∀ {w : Int32} {x : Int32}, w ∈ ([1, 2, 3, 4, 5, 6, 7, 8, 9, 10, 11, 12, 13, 14, 15, 16, 17, 18] : List Int32) → PI w x := fun h => Or.inl h
  have e : PN (b + 1) (rEm 14 0 0 R) := N_em h
  unfold rSt
  split
  · exact N_up (N_pu (p (by decide)) (N_pu (p (by decide)) (N_dd (N_at h))))
  split
  · exact N_pu (p (by decide)) (N_pu (p (by decide)) (N_pu (p (by decide)) (N_dd (N_xp (N_at e)))))
  split
  · refine N_pu (p (by decide)) (N_pu (p (by decide)) ?_)
    split
    · exact N_fa (N_at e)
    · exact N_at e
  split
  · exact N_pu (p (by decide)) (N_at (N_pu (p (by decide)) e))
  · exact N_pu (p (by decide)) (N_pu (p (by decide)) e)
theorem N_de (hb : b < 1200) (h : PN b R) : PN (b + 1) (rDe tk vl R) := by
  have p : ∀ {w : Int32} {x : Int32}, w ∈ ([1, 2, 3, 4, 5, 6, 7, 8, 9, 10, 11, 12, 13, 14, 15, 16, 17, 18] : List Int32) → PI w x := fun h => Or.inl h
  have h6 : PN b (rQ tk R) := N_xp (N_xp (N_xp (N_xp (N_xp (N_at h)))))
  by_cases hf : (rQ tk R).fa = 0
  · by_cases hs : 0 ≤ (rQ tk R).st (vl (R.at + 1)).toNatClampNeg
    · rw [de_dup hf hs]
      exact N_up (N_fa h6)
    · rw [de_ok hf hs]
      exact N_pu (p (by decide)) (N_pu (p (by decide)) (N_df (N_em (N_pu (Or.inr ⟨by decide, (rQ tk R).n, Nat.lt_of_le_of_lt h6.2 hb, rfl⟩) (N_wi (N_dd h6))))))
  · rw [de_bad hf]
    exact N_up (N_fa h6)
theorem N_ls {w : Int32} (hb : b < 1200) (h : PN b R) : PN (b + 1) (rLs tk vl q w R) := by
  have p : ∀ {w : Int32} {x : Int32}, w ∈ ([1, 2, 3, 4, 5, 6, 7, 8, 9, 10, 11, 12, 13, 14, 15, 16, 17, 18] : List Int32) → PI w x := fun h => Or.inl h
  unfold rLs
  split
  · exact N_st h
  split
  · exact N_up (N_dp h)
  split
  · split
    · exact N_up (N_at h)
    split
    · exact N_up (N_pu (p (by decide)) (N_xp h))
    split
    · exact N_up (N_pu (p (by decide)) (N_at h))
    · exact N_up (N_pu (p (by decide)) (N_pu (p (by decide)) h))
  split
  · exact N_up h
  split
  · exact N_up (N_pu (p (by decide)) (N_xp h))
  split
  · exact N_up (N_pu (p (by decide)) (N_at h))
  split
  · exact N_de hb (N_pu (p (by decide)) h)
  · exact N_up (N_pu (p (by decide)) (N_pu (p (by decide)) h))
theorem N_rs {w x y : Int32} (hb : b < 1200) (h : PN b R) : PN (b + 2) (rRs w x y R) := by
  have p : ∀ {w : Int32} {x : Int32}, w ∈ ([1, 2, 3, 4, 5, 6, 7, 8, 9, 10, 11, 12, 13, 14, 15, 16, 17, 18] : List Int32) → PI w x := fun h => Or.inl h
  unfold rRs
  split
  · refine N_up (N_pu (p (by decide)) (N_pu (p (by decide)) (N_em (N_pu (Or.inr ⟨?_, R.n, Nat.lt_of_le_of_lt h.2 hb, rfl⟩) (N_dd h)))))
    split <;> decide
  split
  · exact N_sx (N_em (N_em h))
  split
  · exact N_up (N_sx (N_wi (N_em h)))
  · exact N_up (N_up (N_sx h))
theorem N_rst (hb : b < 1200) (hp : R.pc ≠ 0) (h : PN b R) : PN (b + 2) (rst tk vl pl q R) := by
  have h1 : PN b (rPc (R.pc - 1) R) := N_pc (Nat.sub_le _ _) h
  unfold rst rst1
  split
  · exact N_up (N_ls hb h1)
  split
  · exact N_up (N_ex h1)
  split
  · exact N_up (N_em h1)
  · exact N_rs hb h1
theorem pc_pu {w x y : Int32} : (rPu w x y R).pc = R.pc + 1 := rfl
theorem pc_at {v : Nat} : (rAt v R).pc = R.pc := rfl
theorem pc_dp {v : Int32} : (rDp v R).pc = R.pc := rfl
theorem pc_fa : (rFa R).pc = R.pc := rfl
theorem pc_wi {v : Int32} : (rWi v R).pc = R.pc := rfl
theorem pc_em {x y z : Int32} : (rEm x y z R).pc = R.pc := rfl
theorem pc_sx {i : Nat} : (rSx i R).pc = R.pc := rfl
theorem pc_df {i : Nat} {p : Int32} : (rDf i p R).pc = R.pc := rfl
theorem mo_pc {a c k : Int32} : (rMo a c k R).pc = R.pc + 3 := by
  unfold rMo
  rw [pc_pu, pc_pu, pc_pu, pc_at]
theorem rq_pc : (rQ tk R).pc = R.pc := by
  unfold rQ
  rw [xp_pc, xp_pc, xp_pc, xp_pc, xp_pc, pc_at]
theorem pr_pc {z : Int32} : (rPr tk vl pl z R).pc ≤ R.pc + 3 := by
  unfold rPr
  repeat' split
  all_goals (first | omega | (simp only [pc_pu, pc_at, pc_dp, pc_fa, pc_wi, pc_em, pc_sx, pc_df, dd_pc, xp_pc, rq_pc, mo_pc]; omega))
theorem ex_pc {w : Int32} : (rEx tk vl pl w R).pc ≤ R.pc + 3 := by
  have := pr_pc (R := R) (tk := tk) (vl := vl) (pl := pl) (z := tk R.at)
  unfold rEx
  repeat' split
  all_goals (first | omega | (simp only [pc_pu, pc_at, pc_dp, pc_fa, pc_wi, pc_em, pc_sx, pc_df, dd_pc, xp_pc, rq_pc, mo_pc]; omega))
theorem st_pc : (rSt tk vl R).pc ≤ R.pc + 3 := by
  unfold rSt
  split
  · (first | omega | (simp only [pc_pu, pc_at, pc_dp, pc_fa, pc_wi, pc_em, pc_sx, pc_df, dd_pc, xp_pc, rq_pc, mo_pc]; omega))
  split
  · (first | omega | (simp only [pc_pu, pc_at, pc_dp, pc_fa, pc_wi, pc_em, pc_sx, pc_df, dd_pc, xp_pc, rq_pc, mo_pc]; omega))
  split
  · rw [pc_pu, pc_pu]
    split
    · (first | omega | (simp only [pc_pu, pc_at, pc_dp, pc_fa, pc_wi, pc_em, pc_sx, pc_df, dd_pc, xp_pc, rq_pc, mo_pc]; omega))
    · (first | omega | (simp only [pc_pu, pc_at, pc_dp, pc_fa, pc_wi, pc_em, pc_sx, pc_df, dd_pc, xp_pc, rq_pc, mo_pc]; omega))
  split
  · (first | omega | (simp only [pc_pu, pc_at, pc_dp, pc_fa, pc_wi, pc_em, pc_sx, pc_df, dd_pc, xp_pc, rq_pc, mo_pc]; omega))
  · (first | omega | (simp only [pc_pu, pc_at, pc_dp, pc_fa, pc_wi, pc_em, pc_sx, pc_df, dd_pc, xp_pc, rq_pc, mo_pc]; omega))
theorem de_pc : (rDe tk vl R).pc ≤ R.pc + 3 := by
  by_cases hf : (rQ tk R).fa = 0
  · by_cases hs : 0 ≤ (rQ tk R).st (vl (R.at + 1)).toNatClampNeg
    · rw [de_dup hf hs]
      (first | omega | (simp only [pc_pu, pc_at, pc_dp, pc_fa, pc_wi, pc_em, pc_sx, pc_df, dd_pc, xp_pc, rq_pc, mo_pc]; omega))
    · rw [de_ok hf hs]
      (first | omega | (simp only [pc_pu, pc_at, pc_dp, pc_fa, pc_wi, pc_em, pc_sx, pc_df, dd_pc, xp_pc, rq_pc, mo_pc]; omega))
  · rw [de_bad hf]
    (first | omega | (simp only [pc_pu, pc_at, pc_dp, pc_fa, pc_wi, pc_em, pc_sx, pc_df, dd_pc, xp_pc, rq_pc, mo_pc]; omega))
theorem ls_pc {w : Int32} : (rLs tk vl q w R).pc ≤ R.pc + 4 := by
  have h1 := st_pc (R := R) (tk := tk) (vl := vl)
  have h2 := de_pc (R := rPu 2 0 0 R) (tk := tk) (vl := vl)
  rw [pc_pu] at h2
  unfold rLs
  repeat' split
  all_goals (first | omega | (simp only [pc_pu, pc_at, pc_dp, pc_fa, pc_wi, pc_em, pc_sx, pc_df, dd_pc, xp_pc, rq_pc, mo_pc]; omega))
theorem rs_pc {w x y : Int32} : (rRs w x y R).pc ≤ R.pc + 3 := by
  unfold rRs
  split
  · (first | omega | (simp only [pc_pu, pc_at, pc_dp, pc_fa, pc_wi, pc_em, pc_sx, pc_df, dd_pc, xp_pc, rq_pc, mo_pc]; omega))
  split
  · (first | omega | (simp only [pc_pu, pc_at, pc_dp, pc_fa, pc_wi, pc_em, pc_sx, pc_df, dd_pc, xp_pc, rq_pc, mo_pc]; omega))
  split
  · (first | omega | (simp only [pc_pu, pc_at, pc_dp, pc_fa, pc_wi, pc_em, pc_sx, pc_df, dd_pc, xp_pc, rq_pc, mo_pc]; omega))
  · (first | omega | (simp only [pc_pu, pc_at, pc_dp, pc_fa, pc_wi, pc_em, pc_sx, pc_df, dd_pc, xp_pc, rq_pc, mo_pc]; omega))
theorem rst_pc (hp : R.pc ≠ 0) : (rst tk vl pl q R).pc ≤ R.pc + 3 := by
  have e : (rPc (R.pc - 1) R).pc = R.pc - 1 := rfl
  unfold rst rst1
  split
  · have := ls_pc (R := rPc (R.pc - 1) R) (tk := tk) (vl := vl) (q := q) (w := R.pw (R.pc - 1))
    omega
  split
  · have := ex_pc (R := rPc (R.pc - 1) R) (tk := tk) (vl := vl) (pl := pl) (w := R.pw (R.pc - 1))
    omega
  split
  · rw [pc_em, e]
    omega
  · have := rs_pc (R := rPc (R.pc - 1) R) (w := R.pw (R.pc - 1)) (x := R.px (R.pc - 1)) (y := R.py (R.pc - 1))
    omega
end RX
