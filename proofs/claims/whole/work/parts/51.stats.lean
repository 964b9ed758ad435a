section SP
variable {tk : Nat → Int32} {tv : Nat → Int64} {tr vl pl : Nat → Int32} {q : Nat} {G : PS → RS → Prop} {d : Nat} {S S' S0 S1 S2 : PS} {R R' R0 R1 R2 P : RS} {x y : Int32}
theorem eu_end {k : Nat} (h : tk S.p = 0) : (pEU tk tv q (k + 1)).1 S = .inl (adv q S) := by
  show pExp tk tv q (pEU tk tv q k).1 (pEU tk tv q k).2 S = _
  unfold pExp pTerm pUn
  rw [h, if_neg (show ¬ (0 : Int32) = 45 by decide)]
  unfold pPow pAtom
  rw [h, if_neg (show ¬ (0 : Int32) = 40 by decide), if_neg (show ¬ (0 : Int32) = 256 by decide), if_neg (show ¬ (0 : Int32) = 262 by decide), if_neg (show ¬ (0 : Int32) = 257 by decide)]
  rfl
theorem n_q {e : Nat} (h : R.n ≤ e) (k : Eqc R P) : P.n ≤ e := by rw [k.1]; exact h
/-- no statement begins at the text's end -/
theorem s_end {N : Nat} {rest : List (Int32 × Int32 × Int32)} {X : PS} (h0 : tr R.at = 0) (hq : R.at ≤ q) (hf : R.fa = 0) (hn : R.n ≤ 600) (hs : Stk R ((6, 0, 0) :: rest)) (hl : rest.length ≤ 390) : OK tr vl pl q G (.inl X) (N + 6) R := by
  have len : ∀ {R : RS} {w : Int32 × Int32 × Int32} {l : List (Int32 × Int32 × Int32)}, Stk R (w :: l) → l.length ≤ 394 → R.at ≤ q → R.n ≤ 610 → RB q R := by
    intro R w l h1 h2 h3 h4
    have sl := stk_len h1
    have ll : (w :: l).length = l.length + 1 := rfl
    exact ⟨h3, h4, by omega⟩
  refine go hs hf (len hs (by omega) hq (by omega)) fun P e a dp st => ?_
  have z : tr P.at = 0 := by rw [a]; exact h0
  rw [i_6]
  unfold rSt
  rw [z, if_neg (show ¬ (0 : Int32) = 123 by decide), if_neg (show ¬ ((0 : Int32) = 105 ∨ (0 : Int32) = 119) by decide), if_neg (show ¬ (0 : Int32) = 114 by decide), if_neg (fun z => absurd z.1 (by decide))]
  have s2 : Stk (rPu 7 0 0 (rPu 17 10 0 (rEm 14 0 0 P))) ((7, 0, 0) :: (17, 10, 0) :: rest) := Stk_pu (Stk_pu (s_em st))
  have e1 := e.1
  have e2 := e.2.1
  have f2 : (rPu 7 0 0 (rPu 17 10 0 (rEm 14 0 0 P))).fa = 0 := e2.trans hf
  have a2 : (rPu 7 0 0 (rPu 17 10 0 (rEm 14 0 0 P))).at = P.at := a_pu.trans (a_pu.trans a_em)
  have n2 : (rPu 7 0 0 (rPu 17 10 0 (rEm 14 0 0 P))).n ≤ 601 := show P.n + 1 ≤ 601 by omega
  refine go s2 f2 (len s2 (by rw [List.length_cons]; omega) (by omega) (by omega)) fun P3 e3 a3 dp3 st3 => ?_
  rw [i_7]
  have s4 : Stk (rPu 9 0 0 (rPu 8 0 0 P3)) ((9, 0, 0) :: (8, 0, 0) :: (17, 10, 0) :: rest) := Stk_pu (Stk_pu st3)
  have q4 : Eqc P3 (rPu 9 0 0 (rPu 8 0 0 P3)) := q_pu (q_pu q_r)
  have a4 : (rPu 9 0 0 (rPu 8 0 0 P3)).at = P3.at := a_pu.trans a_pu
  have n3 : P3.n ≤ 601 := n_q n2 e3
  refine go s4 (q4.2.1.trans (e3.2.1.trans f2)) (len s4 (by rw [List.length_cons, List.length_cons]; omega) (by omega) (by have := n_q n3 q4; omega)) fun P5 e5 a5 dp5 st5 => ?_
  rw [i_9]
  have s6 : Stk (rPu 11 0 0 (rPu 10 0 0 P5)) ((11, 0, 0) :: (10, 0, 0) :: (8, 0, 0) :: (17, 10, 0) :: rest) := Stk_pu (Stk_pu st5)
  have q6 : Eqc P5 (rPu 11 0 0 (rPu 10 0 0 P5)) := q_pu (q_pu q_r)
  have a6 : (rPu 11 0 0 (rPu 10 0 0 P5)).at = P5.at := a_pu.trans a_pu
  have n5 : P5.n ≤ 601 := n_q (n_q n3 q4) e5
  have f5 : P5.fa = 0 := e5.2.1.trans (q4.2.1.trans (e3.2.1.trans f2))
  refine go s6 (q6.2.1.trans f5) (len s6 (by rw [List.length_cons, List.length_cons, List.length_cons]; omega) (by omega) (by have := n_q n5 q6; omega)) fun P7 e7 a7 dp7 st7 => ?_
  have z7 : tr P7.at = 0 := by rw [a7, a6, a5, a4, a3, a2]; exact z
  rw [i_11, z7, if_neg (show ¬ (0 : Int32) = 45 by decide)]
  have s8 : Stk (rPu 13 0 0 (rPu 12 0 0 P7)) ((13, 0, 0) :: (12, 0, 0) :: (10, 0, 0) :: (8, 0, 0) :: (17, 10, 0) :: rest) := Stk_pu (Stk_pu st7)
  have q8 : Eqc P7 (rPu 13 0 0 (rPu 12 0 0 P7)) := q_pu (q_pu q_r)
  have a8 : (rPu 13 0 0 (rPu 12 0 0 P7)).at = P7.at := a_pu.trans a_pu
  have n7 : P7.n ≤ 601 := n_q (n_q n5 q6) e7
  have f7 : P7.fa = 0 := e7.2.1.trans (q6.2.1.trans f5)
  refine go s8 (q8.2.1.trans f7) (len s8 (by rw [List.length_cons, List.length_cons, List.length_cons, List.length_cons]; omega) (by omega) (by have := n_q n7 q8; omega)) fun P9 e9 a9 dp9 st9 => ?_
  have z9 : tr P9.at = 0 := by rw [a9, a8]; exact z7
  rw [i_13, z9]
  unfold rPr
  rw [if_neg (show ¬ (0 : Int32) = 110 by decide), if_neg (show ¬ (0 : Int32) = 115 by decide), if_neg (show ¬ (0 : Int32) = 97 by decide), if_neg (show ¬ (0 : Int32) = 40 by decide)]
  exact bad (fa_at fa_fa)
theorem s_stat (hT : TC tk tv tr vl pl q) (hd6 : d ≤ 6) {E E' T I : PS → PR} (hE : SimE tr vl pl q G 3 (1 + 3 * d) (100 + 20 * d) 7 d E) (hE0 : ∀ S, tk S.p = 0 → ∃ X, E S = .inl X) (hE' : d < 6 → SimE tr vl pl q G 3 (4 + 3 * d) (120 + 20 * d) 7 (d + 1) E') (hE6 : ¬ d < 6 → ∀ S, E' S = .inl S) (hS : d < 6 → SimS tr vl pl q G 40 (80 + 20 * d) 6 (d + 1) T) (hI : d < 6 → SimS tr vl pl q G 45 (70 + 20 * d) 3 (d + 1) (fun S => pB (I S) fun S2 => pX tk q 125 S2)) (hI6 : ¬ d < 6 → ∀ S, I S = .inl S) : SimS tr vl pl q G 40 (60 + 20 * d) 6 d (pSt tk tv q E E' T I) := by
  have hq := hT.1
  intro S R N rest c hj hdp hs hl hB ht hW hN K
  have tt := tk_at hT hj
  by_cases h0 : tk S.p = 0
  · have e1 : ∃ X, pSt tk tv q E E' T I S = .inl X := by
      unfold pSt
      rw [h0, if_neg (show ¬ (0 : Int32) = 123 by decide), if_neg (show ¬ ((0 : Int32) = 258 ∨ (0 : Int32) = 259) by decide), if_neg (show ¬ (0 : Int32) = 261 by decide), if_neg (fun z => absurd z.1 (by decide))]
      obtain ⟨X, hX⟩ := hE0 (emt 300 0 S) (by rw [emt_p]; exact h0)
      exact ⟨X, by rw [hX]; rfl⟩
    obtain ⟨X, hX⟩ := e1
    rw [hX]
    obtain ⟨M, rfl⟩ : ∃ L, N = L + 6 := ⟨N - 6, by omega⟩
    have pg := psi_ge (o := R.o) R.n
    have sn := S.hn
    have k5 := hj.2.2.2.2
    exact s_end (by rw [tt.2, h0]; rfl) (by rw [← hj.1]; exact hj.2.1) hj.2.2.1 (by omega) hs (by omega)
  have hlt := p_lt hT hj h0
  have av := adv_lt hq hlt
  obtain ⟨M, rfl⟩ : ∃ L, N = L + 1 := ⟨N - 1, by omega⟩
  refine go hs hj.2.2.1 (J_RB hj hs (by omega)) fun P e a dp st => ?_
  have jP : J q S P := Eqc_J hj a e
  have tP : tau P.o P.n = 0 := by rw [t_q e]; exact ht
  have rP : rho P.o P.n = rho R.o R.n := by rw [e.1, e.2.2.2.1]
  have dP : P.dp = nI d := dp.trans hdp
  have hWP : P.w = 0 ∨ rho P.o P.n = true := by rw [rP, e.2.2.1]; exact hW
  have KP : ∀ S' R' N', SC q S P S' R' → Stk R' rest → R'.dp = nI d → M + 1 ≤ N' + 10 * (S'.p - S.p) → S.p < S'.p → OK tr vl pl q G (c S') N' R' := fun S' R' N' sc => K S' R' N' (SC_pre (Sm_R e) sc)
  clear K hs hj ht hW hdp
  rw [i_6]
  have k123 := tk_123 hT jP
  have k258 := tk_258 hT jP
  have k259 := tk_259 hT jP
  have k261 := tk_261 hT jP
  have k257 := tk_257 hT jP
  have k262 := tk_262 hT jP
  unfold pSt rSt
  by_cases h123 : tk S.p = 123
  · rw [if_pos h123, if_pos (k123.mpr h123)]
    unfold pBr
    rw [pB_B, pX_pos h123]
    by_cases h6 : d < 6
    · rw [dd_lt (R := rAt (P.at + 1) P) (d_at dP) h6]
      have q1 : Eqc P (rPu 3 0 0 (rPu 5 0 0 (rDp (nI (d + 1)) (rAt (P.at + 1) P)))) := q_pu (q_pu (q_dp (q_at q_r)))
      have sm := Sm_adv (S := S) hq hlt q1
      refine hI h6 (adv q S) (rPu 3 0 0 (rPu 5 0 0 (rDp (nI (d + 1)) (rAt (P.at + 1) P)))) M ((5, 0, 0) :: rest) c (J_adv hq jP hlt (a_pu.trans (a_pu.trans (a_dp.trans a_at))) q1) (d_pu (d_pu d_dp)) (Stk_pu (Stk_pu (s_dp (s_at st)))) (by rw [List.length_cons]; omega) (by omega) (by rw [t_q q1]; exact tP) (by rw [q1.2.2.1, q1.1, q1.2.2.2.1]; exact hWP) (by omega) ?_
      intro S' R' N' sc st' dp' hN' hp'
      have hq' := sc.1.2.1
      obtain ⟨M', rfl⟩ : ∃ L, N' = L + 1 := ⟨N' - 1, by omega⟩
      refine go st' sc.1.2.2.1 (J_RB sc.1 st' (by omega)) fun P2 e2 a2 dp2 st2 => ?_
      rw [i_5]
      refine KP S' _ M' (SC_post (SC_pre sm sc) (Eqc_J sc.1 (a_dp.trans a2) (q_dp e2)) (Sm_R (q_dp e2))) (s_dp st2) ?_ (by omega) (by omega)
      rw [dp2, dp', nI_pred]
      exact d_dp
    · rw [dd_6 (R := rAt (P.at + 1) P) (d_at dP) h6 hd6, hI6 h6]
      obtain ⟨M', rfl⟩ : ∃ L, M = L + 1 := ⟨M - 1, by omega⟩
      exact bad (fa_pu (fa_pu fa_fa))
  rw [if_neg h123, if_neg (fun z => h123 (k123.mp z))]
  by_cases hif : tk S.p = 258 ∨ tk S.p = 259
  · have hif' : tr P.at = 105 ∨ tr P.at = 119 := by
      rcases hif with h | h
      · exact Or.inl (k258.mpr h)
      · exact Or.inr (k259.mpr h)
    rw [if_pos hif, if_pos hif']
    by_cases h6 : d < 6
    · exact s_if hT h6 (hE' h6) (hS h6) jP dP st hl hB tP hWP (by omega) hif KP
    · obtain ⟨M', rfl⟩ : ∃ L, M = L + 1 := ⟨M - 1, by omega⟩
      have cl : ∃ X, pIf tk q E' T (emt 300 0 S) = .inl X := by
        unfold pIf
        by_cases h40 : tk (adv q (emt 300 0 S)).p = 40
        · rw [pX_pos h40]
          unfold pCd
          rw [hE6 h6]
          exact ⟨_, rfl⟩
        · rw [pX_neg h40]
          exact ⟨_, rfl⟩
      obtain ⟨X, hX⟩ := cl
      rw [hX]
      have d6 : ∀ Y : RS, Y.dp = nI d → ¬ (rDd Y).fa = 0 := by
        intro Y hY
        rw [dd_6 hY h6 hd6]
        exact fa_fa
      have dx : (rXp tr 40 (rAt (P.at + 1) (rEm 14 0 0 P))).dp = nI d := by
        unfold rXp
        split
        · exact d_at (d_at (d_em dP))
        · exact (d_at (d_em dP) : (rAt (P.at + 1) (rEm 14 0 0 P)).dp = nI d)
      exact bad (fa_pu (fa_pu (fa_pu (d6 _ dx))))
  have hif' : ¬ (tr P.at = 105 ∨ tr P.at = 119) := by
    rintro (h | h)
    · exact hif (Or.inl (k258.mp h))
    · exact hif (Or.inr (k259.mp h))
  rw [if_neg hif, if_neg hif']
  -- the step
  obtain ⟨f1, f2, f3, f4, f5, f6, f7, f8⟩ := em_step (P := P) jP (by omega) rfl q_r tP
  have p1 : (emt 300 0 S).p = S.p := emt_p
  have w1 : (emt 300 0 S).w = S.w := emt_w
  have s1 : Stk (rEm 14 0 0 P) rest := s_em st
  have d1 : (rEm 14 0 0 P).dp = nI d := d_em dP
  have a1 : (rEm 14 0 0 P).at = P.at := a_em
  have kw := jP.2.2.2.1
  have jat := jP.1
  generalize hS1 : emt 300 0 S = S1 at *
  generalize hR1 : rEm 14 0 0 P = R1 at *
  have av1 := adv_lt hq (S := S1) (by omega)
  have h900 : hh (tau R1.o R1.n) = 0 := by rw [f4]; rfl
  by_cases h261 : tk S.p = 261
  · rw [if_pos h261, if_pos (k261.mpr h261)]
    unfold pGv
    by_cases hw0 : S.w = 0
    · rw [if_pos (w1.trans hw0), if_pos (kw.symm.trans hw0)]
      obtain ⟨M', rfl⟩ : ∃ L, M = L + 1 := ⟨M - 1, by omega⟩
      exact bad (fa_pu (fa_pu fa_fa))
    · rw [if_neg (fun z => hw0 (w1.symm.trans z)), if_neg (fun z => hw0 (kw.trans z)), pB_B]
      have q2 : Eqc R1 (rPu 7 0 0 (rPu 17 11 0 (rAt (P.at + 1) R1))) := q_pu (q_pu (q_at q_r))
      have sm2 : Sm S1 R1 (adv q S1) (rPu 7 0 0 (rPu 17 11 0 (rAt (P.at + 1) R1))) := Sm_adv hq (by omega) q2
      refine hE (adv q S1) (rPu 7 0 0 (rPu 17 11 0 (rAt (P.at + 1) R1))) M ((17, 11, 0) :: rest) _ (J_adv hq f1 (by omega) (by rw [a1]; exact a_pu.trans (a_pu.trans a_at)) q2) (d_pu (d_pu (d_at d1))) (Stk_pu (Stk_pu (s_at s1))) (by rw [List.length_cons]; omega) (by omega) (by rw [t_q q2, h900]; exact Nat.zero_le _) (by omega) ?_
      intro S' R' N' ec st' dp' hN'
      have hq' := ec.1.2.1
      have g5 := ec.2.2.2.2.1
      obtain ⟨M', rfl⟩ : ∃ L, N' = L + 1 := ⟨N' - 1, by omega⟩
      refine go st' ec.1.2.2.1 (J_RB ec.1 st' (by omega)) fun P2 e2 a2 dp2 st2 => ?_
      rw [i_17]
      have hr : rho P.o P.n = true := by
        rcases hWP with h | h
        · exact absurd (kw.trans h) hw0
        · exact h
      refine KP _ _ M' (SC_one (c := 11) hB f1 f2 f3 h900 f5 f6 f7 f8 (EC_pre sm2 ec) e2 a2 rfl (Or.inr (Or.inr (Or.inr rfl))) (fun r h => ⟨rfl, rfl, h.trans hr⟩)) (s_em st2) (d_em (dp2.trans dp')) ?_ ?_
      · rw [emt_p]
        omega
      · rw [emt_p]
        omega
  rw [if_neg h261, if_neg (fun z => h261 (k261.mp z))]
  have jA : J q (adv q S1) (rAt (R1.at + 1) R1) := J_adv hq f1 (by omega) a_at (q_at q_r)
  have k61 : tr (P.at + 1) = 61 ↔ tk (adv q S1).p = 61 := by
    rw [← a1]
    exact tk_61 hT jA
  have fo : fol tk q S = tk (adv q S1).p := by
    unfold fol
    rw [if_pos hlt, av1.1, p1]
  have cc : ((tk S.p = 257 ∨ tk S.p = 262) ∧ fol tk q S = 61) ↔ ((tr P.at = 97 ∨ tr P.at = 115) ∧ tr (P.at + 1) = 61) := by
    rw [fo, k61, k257, k262]
  by_cases has : (tk S.p = 257 ∨ tk S.p = 262) ∧ fol tk q S = 61
  · rw [if_pos has, if_pos (cc.mp has)]
    have t61 : tk (adv q S1).p = 61 := by rw [← fo]; exact has.2
    unfold pAs
    rw [pX_pos t61, pB_B]
    have hl2 := p_lt hT jA (by rw [t61]; decide)
    have av2 := adv_lt hq hl2
    have q2 : Eqc R1 (rPu 7 0 0 (rAt (P.at + 2) (rPu 17 (if tr P.at = 97 then 8 else 9) (vl P.at) R1))) := q_pu (q_at (q_pu q_r))
    have q3 : Eqc (rAt (R1.at + 1) R1) (rPu 7 0 0 (rAt (P.at + 2) (rPu 17 (if tr P.at = 97 then 8 else 9) (vl P.at) R1))) := q2
    have sm2 : Sm S1 R1 (adv q (adv q S1)) (rPu 7 0 0 (rAt (P.at + 2) (rPu 17 (if tr P.at = 97 then 8 else 9) (vl P.at) R1))) := Sm_trans (Sm_adv hq (by omega) (q_at q_r)) (Sm_adv hq hl2 q3)
    refine hE (adv q (adv q S1)) (rPu 7 0 0 (rAt (P.at + 2) (rPu 17 (if tr P.at = 97 then 8 else 9) (vl P.at) R1))) M ((17, (if tr P.at = 97 then 8 else 9), vl P.at) :: rest) _ (J_adv hq jA hl2 (by rw [show (rAt (R1.at + 1) R1).at = P.at + 1 by rw [a1]; exact a_at]; exact a_pu.trans a_at) q3) (d_pu (d_at (d_pu d1))) (Stk_pu (s_at (Stk_pu s1))) (by rw [List.length_cons]; omega) (by omega) (by rw [t_q q2, h900]; exact Nat.zero_le _) (by omega) ?_
    intro S' R' N' ec st' dp' hN'
    have hq' := ec.1.2.1
    have g5 := ec.2.2.2.2.1
    obtain ⟨M', rfl⟩ : ∃ L, N' = L + 1 := ⟨N' - 1, by omega⟩
    refine go st' ec.1.2.2.1 (J_RB ec.1 st' (by omega)) fun P2 e2 a2 dp2 st2 => ?_
    rw [i_17]
    have ec2 := EC_pre sm2 ec
    have pp : tk S1.p = tk S.p := by rw [p1]
    have vv : tv S1.p = tv S.p := by rw [p1]
    rw [pp, vv]
    rcases has.1 with h | h
    · rw [if_pos h, if_pos (k257.mpr h)]
      obtain ⟨v, v1, v2, v3⟩ := (hT.2.2.2 S.p hlt).2.2 h
      refine KP _ _ M' (SC_one (c := 8) hB f1 f2 f3 h900 f5 f6 f7 f8 ec2 e2 a2 rfl (Or.inl rfl) (fun r _ => ⟨rfl, rfl, v, v1, v2, by rw [← jat]; exact v3⟩)) (s_em st2) (d_em (dp2.trans dp')) ?_ ?_
      · rw [emt_p]
        omega
      · rw [emt_p]
        omega
    · have h7 : ¬ tk S.p = 257 := by rw [h]; decide
      rw [if_neg h7, if_neg (fun z => h7 (k257.mp z))]
      refine KP _ _ M' (SC_one (c := 9) hB f1 f2 f3 h900 f5 f6 f7 f8 ec2 e2 a2 rfl (Or.inr (Or.inl rfl)) (fun r _ => ⟨rfl, rfl⟩)) (s_em st2) (d_em (dp2.trans dp')) ?_ ?_
      · rw [emt_p]
        omega
      · rw [emt_p]
        omega
  · rw [if_neg has, if_neg (fun z => has (cc.mpr z)), pB_B]
    have q2 : Eqc R1 (rPu 7 0 0 (rPu 17 10 0 R1)) := q_pu (q_pu q_r)
    refine hE S1 (rPu 7 0 0 (rPu 17 10 0 R1)) M ((17, 10, 0) :: rest) _ (Eqc_J f1 (a_pu.trans a_pu) q2) (d_pu (d_pu d1)) (Stk_pu (Stk_pu s1)) (by rw [List.length_cons]; omega) (by omega) (by rw [t_q q2, h900]; exact Nat.zero_le _) (by omega) ?_
    intro S' R' N' ec st' dp' hN'
    have hq' := ec.1.2.1
    have g5 := ec.2.2.2.2.1
    obtain ⟨M', rfl⟩ : ∃ L, N' = L + 1 := ⟨N' - 1, by omega⟩
    refine go st' ec.1.2.2.1 (J_RB ec.1 st' (by omega)) fun P2 e2 a2 dp2 st2 => ?_
    rw [i_17]
    refine KP _ _ M' (SC_one (c := 10) hB f1 f2 f3 h900 f5 f6 f7 f8 (EC_pre (Sm_R q2) ec) e2 a2 rfl (Or.inr (Or.inr (Or.inl rfl))) (fun r _ => ⟨rfl, rfl⟩)) (s_em st2) (d_em (dp2.trans dp')) ?_ ?_
    · rw [emt_p]
      omega
    · rw [emt_p]
      omega
end SP
