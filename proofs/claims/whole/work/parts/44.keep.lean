section SJ
variable {tk : Nat → Int32} {tv : Nat → Int64} {tr vl pl : Nat → Int32} {q : Nat} {G : PS → RS → Prop} {S S' S1 S2 : PS} {R R' R1 R2 : RS} {x y : Int32} {d : Nat}
theorem i_7 : rst1 tr vl pl q 7 x y R = rPu 9 0 0 (rPu 8 0 0 R) := rfl
theorem i_8 : rst1 tr vl pl q 8 x y R = if isSg (tr R.at) then rMo 8 9 (tr R.at) R else R := rfl
theorem i_9 : rst1 tr vl pl q 9 x y R = rPu 11 0 0 (rPu 10 0 0 R) := rfl
theorem i_10 : rst1 tr vl pl q 10 x y R = if isFa (tr R.at) then rMo 10 11 (tr R.at) R else R := rfl
theorem i_11 : rst1 tr vl pl q 11 x y R = if tr R.at = 45 then rPu 11 0 0 (rPu 17 4 0 (rPu 5 0 0 (rDd (rAt (R.at + 1) R)))) else rPu 13 0 0 (rPu 12 0 0 R) := rfl
theorem i_12 : rst1 tr vl pl q 12 x y R = if tr R.at = 94 then rPu 11 0 0 (rPu 5 0 0 (rPu 17 5 94 (rDd (rAt (R.at + 1) R)))) else R := rfl
theorem i_13 : rst1 tr vl pl q 13 x y R = rPr tr vl pl (tr R.at) R := rfl
theorem i_14 : rst1 tr vl pl q 14 x y R = rDp (R.dp - 1) (rXp tr 41 R) := rfl
theorem i_17 : rst1 tr vl pl q 17 x y R = rEm x y 0 R := rfl
theorem i_5 : rst1 tr vl pl q 5 x y R = rDp (R.dp - 1) R := rfl
theorem pB_B {r : PR} {f g : PS → PR} : pB (pB r f) g = pB r (fun S => pB (f S) g) := by cases r <;> rfl
theorem pX_pos {k : Int32} {c : PS → PR} (h : tk S.p = k) : pB (pX tk q k S) c = c (adv q S) := by
  unfold pX
  rw [if_pos h]
  rfl
theorem pX_neg {k : Int32} {c : PS → PR} (h : ¬ tk S.p = k) : pB (pX tk q k S) c = .inl S := by
  unfold pX
  rw [if_neg h]
  rfl
theorem p_lt (hT : TC tk tv tr vl pl q) (hj : J q S R) (h : tk S.p ≠ 0) : S.p < q := by
  have := hj.2.1
  by_cases e : S.p = q
  · rw [e] at h
    exact absurd hT.2.1 h
  · omega
theorem hh_le {t : Nat} (h : hh t ≤ 21) : hh (hh t + 1) = hh t + 1 := if_neg (by omega)
section TA
variable {o : Nat → Int32} {n : Nat}
theorem ta_cg {k : Int32} : tau (upd o n k) n = tau o n := tau_cg fun b hb => upd_ne (by omega)
theorem ta_s {k : Int32} : tau (upd o n k) (n + 1) = (if k = 14 then 900
    else if k = 1 ∨ k = 2 ∨ k = 3 then hh (tau o n) + 1
    else if k = 4 ∨ k = 6 then hh (tau o n)
    else if k = 5 ∨ k = 8 ∨ k = 9 ∨ k = 10 then hh (tau o n) - 1
    else if k = 7 then 1000 else 0) := by
  show (if upd o n k n = 14 then _ else _) = _
  rw [upd_eq, ta_cg]
theorem rh_s {k : Int32} : rho (upd o n k) (n + 1) = if k = 15 then false else if k = 13 ∧ tau o n = 0 then true else rho o n := by
  show (if upd o n k n = 15 then false else if upd o n k n = 13 ∧ tau (upd o n k) n = 0 then true else rho (upd o n k) n) = _
  rw [upd_eq, ta_cg, show rho (upd o n k) n = rho o n from rho_cg fun b hb => upd_ne (by omega)]
theorem rh_n {k : Int32} (h1 : k ≠ 15) (h2 : k ≠ 13) : rho (upd o n k) (n + 1) = rho o n := by rw [rh_s, if_neg h1, if_neg (fun z => h2 z.1)]
end TA
theorem s_at {l : List (Int32 × Int32 × Int32)} {v : Nat} (h : Stk R l) : Stk (rAt v R) l := h
theorem s_dp {l : List (Int32 × Int32 × Int32)} {v : Int32} (h : Stk R l) : Stk (rDp v R) l := h
theorem s_em {l : List (Int32 × Int32 × Int32)} {o x y : Int32} (h : Stk R l) : Stk (rEm o x y R) l := h
theorem s_sx {l : List (Int32 × Int32 × Int32)} {i : Nat} (h : Stk R l) : Stk (rSx i R) l := h
theorem d_sx {i : Nat} {k : Int32} (h : R.dp = k) : (rSx i R).dp = k := h
theorem a_at {v : Nat} : (rAt v R).at = v := rfl
theorem a_pu {w x y : Int32} : (rPu w x y R).at = R.at := rfl
theorem a_dp {v : Int32} : (rDp v R).at = R.at := rfl
theorem a_em {o x y : Int32} : (rEm o x y R).at = R.at := rfl
theorem d_at {v : Nat} {k : Int32} (h : R.dp = k) : (rAt v R).dp = k := h
theorem d_pc {v : Nat} {k : Int32} (h : R.dp = k) : (rPc v R).dp = k := h
theorem d_em {o x y k : Int32} (h : R.dp = k) : (rEm o x y R).dp = k := h
theorem d_pu {w x y k : Int32} (h : R.dp = k) : (rPu w x y R).dp = k := h
theorem d_dp {k : Int32} : (rDp k R).dp = k := rfl
theorem t_q (h : Eqc R R') : tau R'.o R'.n = tau R.o R.n := by rw [h.1, h.2.2.2.1]
/-- the code has not changed -/
def Sm (S : PS) (R : RS) (S' : PS) (R' : RS) : Prop := Fr S R S' R' ∧ R'.n = R.n ∧ R'.o = R.o ∧ S'.n = S.n
theorem CS_Sm {lo : Nat} (hj : J q S R) (h : Sm S R S' R') (k : CS S R lo) : CS S' R' lo := CS_Fr hj h.1 k (fun b h1 h2 => by have := h.2.1; omega)
theorem EC_pre (hm : Sm S R S1 R1) (h : EC q S1 R1 S' R') : EC q S R S' R' := by
  obtain ⟨m1, m2, m3, m4⟩ := hm
  obtain ⟨h1, h2, h3, h4, h5, h6, h7, h8, h9⟩ := h
  have := m1.2.2.2.2.2.2.2.1
  rw [m2] at h3 h7 h8
  rw [m2, m3] at h4 h9
  exact ⟨h1, Fr_trans m1 h2, h3, h4, by omega, by omega, h7, h8, h9⟩
theorem EC_post (h : EC q S R S1 R1) (hj : J q S' R') (hm : Sm S1 R1 S' R') : EC q S R S' R' := by
  obtain ⟨h1, h2, h3, h4, h5, h6, h7, h8, h9⟩ := h
  have := hm.1.2.2.2.2.2.2.2.1
  have c := CS_Sm h1 hm h3
  have f := Fr_trans h2 hm.1
  obtain ⟨m1, m2, m3, m4⟩ := hm
  refine ⟨hj, f, c, by rw [m2, m3]; exact h4, by omega, by omega, by omega, by rw [m3]; exact h8, by rw [m2, m3]; exact h9⟩
theorem Sm_adv (hq : q ≤ 200) (hl : S.p < q) (h : Eqc R R') : Sm S R (adv q S) R' := ⟨Fr_adv hq hl h, h.1, h.2.2.2.1, (adv_lt hq hl).2.1⟩
theorem Sm_R (h : Eqc R R') : Sm S R S R' := by
  obtain ⟨e1, e2, e3, e4, e5, e6, e7, e8⟩ := h
  exact ⟨⟨by omega, fun b _ => by rw [e4, e5, e6]; exact ⟨rfl, rfl, rfl⟩, fun b _ => ⟨rfl, rfl⟩, rfl, rfl, e7, e8, by omega, by omega, e3⟩, e1, e4, rfl⟩
theorem J_R (hj : J q S R) (h1 : R'.at = R.at) (h : Eqc R R') : J q S R' := by
  obtain ⟨k1, k2, k3, k4, k5⟩ := hj
  obtain ⟨e1, e2, e3, e4, e5, e6, e7, e8⟩ := h
  exact ⟨by omega, k2, by rw [e2, k3], by rw [e3, k4], by rw [e4, e1, k5]⟩
theorem Sm_trans (h : Sm S R S1 R1) (k : Sm S1 R1 S' R') : Sm S R S' R' := by
  obtain ⟨h1, h2, h3, h4⟩ := h
  obtain ⟨k1, k2, k3, k4⟩ := k
  exact ⟨Fr_trans h1 k1, k2.trans h2, k3.trans h3, k4.trans h4⟩
theorem dd_lt (hd : R.dp = nI d) (h : d < 6) : rDd R = rDp (nI (d + 1)) R := by
  unfold rDd
  rw [hd, nI_1, if_neg]
  match d, h with
  | 0, _ => decide
  | 1, _ => decide
  | 2, _ => decide
  | 3, _ => decide
  | 4, _ => decide
  | 5, _ => decide
theorem dd_6 (hd : R.dp = nI d) (h : ¬ d < 6) (h6 : d ≤ 6) : rDd R = rFa (rDp 7 R) := by
  have e : d = 6 := by omega
  subst e
  unfold rDd
  rw [hd]
  rfl
theorem tk_59 (hT : TC tk tv tr vl pl q) (hj : J q S R) : tr R.at = 59 ↔ tk S.p = 59 := tk_iff hT hj 59 (by decide)
theorem tk_43 (hT : TC tk tv tr vl pl q) (hj : J q S R) : tr R.at = 43 ↔ tk S.p = 43 := tk_iff hT hj 43 (by decide)
theorem tk_45 (hT : TC tk tv tr vl pl q) (hj : J q S R) : tr R.at = 45 ↔ tk S.p = 45 := tk_iff hT hj 45 (by decide)
theorem tk_42 (hT : TC tk tv tr vl pl q) (hj : J q S R) : tr R.at = 42 ↔ tk S.p = 42 := tk_iff hT hj 42 (by decide)
theorem tk_47 (hT : TC tk tv tr vl pl q) (hj : J q S R) : tr R.at = 47 ↔ tk S.p = 47 := tk_iff hT hj 47 (by decide)
theorem tk_37 (hT : TC tk tv tr vl pl q) (hj : J q S R) : tr R.at = 37 ↔ tk S.p = 37 := tk_iff hT hj 37 (by decide)
theorem tk_94 (hT : TC tk tv tr vl pl q) (hj : J q S R) : tr R.at = 94 ↔ tk S.p = 94 := tk_iff hT hj 94 (by decide)
theorem tk_40 (hT : TC tk tv tr vl pl q) (hj : J q S R) : tr R.at = 40 ↔ tk S.p = 40 := tk_iff hT hj 40 (by decide)
theorem tk_41 (hT : TC tk tv tr vl pl q) (hj : J q S R) : tr R.at = 41 ↔ tk S.p = 41 := tk_iff hT hj 41 (by decide)
theorem tk_123 (hT : TC tk tv tr vl pl q) (hj : J q S R) : tr R.at = 123 ↔ tk S.p = 123 := tk_iff hT hj 123 (by decide)
theorem tk_125 (hT : TC tk tv tr vl pl q) (hj : J q S R) : tr R.at = 125 ↔ tk S.p = 125 := tk_iff hT hj 125 (by decide)
theorem tk_61 (hT : TC tk tv tr vl pl q) (hj : J q S R) : tr R.at = 61 ↔ tk S.p = 61 := tk_iff hT hj 61 (by decide)
theorem tk_256 (hT : TC tk tv tr vl pl q) (hj : J q S R) : tr R.at = 110 ↔ tk S.p = 256 := tk_iff hT hj 256 (by decide)
theorem tk_257 (hT : TC tk tv tr vl pl q) (hj : J q S R) : tr R.at = 97 ↔ tk S.p = 257 := tk_iff hT hj 257 (by decide)
theorem tk_258 (hT : TC tk tv tr vl pl q) (hj : J q S R) : tr R.at = 105 ↔ tk S.p = 258 := tk_iff hT hj 258 (by decide)
theorem tk_259 (hT : TC tk tv tr vl pl q) (hj : J q S R) : tr R.at = 119 ↔ tk S.p = 259 := tk_iff hT hj 259 (by decide)
theorem tk_260 (hT : TC tk tv tr vl pl q) (hj : J q S R) : tr R.at = 100 ↔ tk S.p = 260 := tk_iff hT hj 260 (by decide)
theorem tk_261 (hT : TC tk tv tr vl pl q) (hj : J q S R) : tr R.at = 114 ↔ tk S.p = 261 := tk_iff hT hj 261 (by decide)
theorem tk_262 (hT : TC tk tv tr vl pl q) (hj : J q S R) : tr R.at = 115 ↔ tk S.p = 262 := tk_iff hT hj 262 (by decide)
theorem mkE {X H L : Nat} {w : Int32} {E : PS → PR} (hL : L ≤ 399) (hX : X ≤ 9) (h : ∀ S P M rest (c : PS → PR), J q S P → P.dp = nI d → Stk P rest → rest.length ≤ L → S.n + 3 * q ≤ 601 + 3 * S.p → hh (tau P.o P.n) ≤ H → 10 * (q - S.p) + 28 ≤ M + X → (∀ S' R' N', EC q S P S' R' → Stk R' rest → R'.dp = nI d → M + 1 + X ≤ N' + 10 * (S'.p - S.p) → OK tr vl pl q G (c S') N' R') → OK tr vl pl q G (pB (E S) c) M (rst1 tr vl pl q w 0 0 P)) : SimE tr vl pl q G X H L w d E := by
  intro S R N rest c hj hd hs hl hB hH hN K
  obtain ⟨M, rfl⟩ : ∃ M, N = M + 1 := ⟨N - 1, by omega⟩
  refine go hs hj.2.2.1 (J_RB hj hs (by omega)) fun P e a dp st => ?_
  refine h S P M rest c (Eqc_J hj a e) (dp.trans hd) st hl hB (by rw [t_q e]; exact hH) (by omega) ?_
  intro S' R' N' ec
  exact K S' R' N' (EC_pre (Sm_R e) ec)
end SJ
