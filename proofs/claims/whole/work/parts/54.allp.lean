section SU
variable {tk : Nat → Int32} {tv : Nat → Int64} {tr vl pl : Nat → Int32} {q : Nat} {S S' S0 S1 S2 : PS} {R R' R0 R1 R2 P : RS} {x y : Int32}
theorem OK_done {N : Nat} (hI : TI q S R) (hs : Stk R []) : OK tr vl pl q (TI q) (.inr S) (N + 1) R := by
  unfold OK
  rw [if_pos hI.1.2.2.1, if_pos (show R.pc = 0 from hs)]
  exact ⟨S, rfl, hI⟩
theorem at_q (hT : TC tk tv tr vl pl q) (hj : J q S R) : R.at = q ↔ tk S.p = 0 := by
  have h1 := hj.1
  have h2 := hj.2.1
  constructor
  · intro h
    rw [h1, h, hT.2.1]
  · intro h
    by_cases e : S.p < q
    · exact absurd h (hT.2.2.2 S.p e).1
    · omega
theorem s_parts (hT : TC tk tv tr vl pl q) : ∀ n S R N, TI q S R → ¬ tk S.p = 59 → Stk R [(1, 0, 0)] → R.dp = nI 0 → q ≤ n + S.p → 10 * (q - S.p) + 60 ≤ N → OK tr vl pl q (TI q) (pLp tk q 0 (pPt tk 0 (pDf tk tv q (pSL tk tv q 6).2) (pSL tk tv q 7).1) n S) N R := by
  have hq := hT.1
  intro n
  induction n with
  | zero =>
    intro S R N hI h59 hs hd hn hN
    have hj := hI.1
    have hp := hj.2.1
    have e : S.p = q := by omega
    have t0 : tk S.p = 0 := by rw [e, hT.2.1]
    obtain ⟨M, rfl⟩ : ∃ L, N = L + 1 + 1 := ⟨N - 2, by omega⟩
    refine go hs hj.2.2.1 (J_RB hj hs (by decide)) fun P e a dp st => ?_
    have jP := Eqc_J hj a e
    rw [i_1, if_pos ((at_q hT jP).mpr t0)]
    exact OK_done (TI_Sm hI jP (Sm_R e)) st
  | succ n ih =>
    intro S R N hI h59 hs hd hn hN
    have hj := hI.1
    have hp := hj.2.1
    obtain ⟨M, rfl⟩ : ∃ L, N = L + 1 + 1 := ⟨N - 2, by omega⟩
    refine go hs hj.2.2.1 (J_RB hj hs (by decide)) fun P e a dp st => ?_
    have jP := Eqc_J hj a e
    have iP := TI_Sm hI jP (Sm_R e)
    rw [i_1]
    by_cases h0 : tk S.p = 0
    · rw [if_pos ((at_q hT jP).mpr h0), pLp_cl h0]
      exact OK_done iP st
    rw [if_neg (fun z => h0 ((at_q hT jP).mp z)), if_neg (fun z => h59 ((tk_59 hT jP).mp z))]
    have k260 := tk_260 hT jP
    unfold pLp
    rw [if_neg h0]
    -- what follows a part
    have fol : ∀ S1 R1 N1, TI q S1 R1 → Stk R1 [(2, 0, 0)] → R1.dp = nI 0 → M + 1 ≤ N1 + 10 * (S1.p - S.p) → S.p < S1.p → OK tr vl pl q (TI q) (pB (if tk S1.p = 0 then .inr S1 else pX tk q 59 S1) fun S2 => pLp tk q 0 (pPt tk 0 (pDf tk tv q (pSL tk tv q 6).2) (pSL tk tv q 7).1) n (pSk tk q 200 S2)) N1 R1 := by
      intro S1 R1 N1 i1 st1 dp1 hN1 hp1
      have j1 := i1.1
      have hq1 := j1.2.1
      obtain ⟨M1, rfl⟩ : ∃ L, N1 = L + 1 + 1 := ⟨N1 - 2, by omega⟩
      refine go st1 j1.2.2.1 (J_RB j1 st1 (by decide)) fun P2 e2 a2 dp2 st2 => ?_
      have j2 := Eqc_J j1 a2 e2
      have i2 := TI_Sm i1 j2 (Sm_R e2)
      rw [i_2]
      by_cases h1 : tk S1.p = 0
      · rw [if_pos ((at_q hT j2).mpr h1), if_pos h1]
        show OK tr vl pl q (TI q) (pLp tk q 0 _ n (pSk tk q 200 S1)) (M1 + 1) P2
        rw [pSk_n (show ¬ tk S1.p = 59 by rw [h1]; decide), pLp_cl h1]
        exact OK_done i2 st2
      · rw [if_neg (fun z => h1 ((at_q hT j2).mp z)), if_neg h1]
        have k3 := tk_59 hT j2
        unfold rXp
        by_cases h3 : tk S1.p = 59
        · rw [pX_pos h3, if_pos (k3.mpr h3)]
          have hlt := p_lt hT j1 (by rw [h3]; decide)
          have av := adv_lt hq hlt
          have q3 : Eqc R1 (rPu 1 0 0 (rAt (P2.at + 1) P2)) := q_pu (q_at e2)
          have sm3 := Sm_adv (S := S1) hq hlt q3
          have j3 : J q (adv q S1) (rPu 1 0 0 (rAt (P2.at + 1) P2)) := J_adv hq j1 hlt (by rw [← a2]; exact a_pu.trans a_at) q3
          refine s_skip (d := 0) (rest := []) (c := fun X => pLp tk q 0 (pPt tk 0 (pDf tk tv q (pSL tk tv q 6).2) (pSL tk tv q 7).1) n X) hT (fun P h1 h2 => by rw [i_1, if_neg h2, if_pos h1]) (by decide) 200 (adv q S1) _ (M1 + 1) j3 (Stk_pu (s_at st2)) (d_pu (d_at (dp2.trans dp1))) (by omega) (by omega) ?_
          intro S4 R4 N4 j4 sm4 t4 st4 dp4 hN4
          have m4 := sm4.1.2.2.2.2.2.2.2.1
          have q4 := j4.2.1
          exact ih S4 R4 N4 (TI_Sm i1 j4 (Sm_trans sm3 sm4)) t4 st4 dp4 (by omega) (by omega)
        · rw [pX_neg h3, if_neg (fun z => h3 (k3.mp z))]
          exact bad (fa_pu fa_fa)
    by_cases h260 : tk S.p = 260
    · rw [if_pos (k260.mpr h260), show pPt tk 0 (pDf tk tv q (pSL tk tv q 6).2) (pSL tk tv q 7).1 S = pDf tk tv q (pSL tk tv q 6).2 S from if_pos ⟨rfl, h260⟩]
      have q2 : Eqc P (rPu 2 0 0 P) := q_pu q_r
      refine s_def (rest := [(2, 0, 0)]) hT (TI_Sm iP (Eqc_J jP a_pu q2) (Sm_R q2)) h260 (d_pu (dp.trans hd)) (Stk_pu st) (by decide) (by omega) ?_
      intro S1 R1 N1 i1 st1 dp1 hN1 hp1
      exact fol S1 R1 N1 i1 st1 dp1 (by omega) hp1
    · rw [if_neg (fun z => h260 (k260.mp z)), show pPt tk 0 (pDf tk tv q (pSL tk tv q 6).2) (pSL tk tv q 7).1 S = (pSL tk tv q 7).1 S from if_neg (fun z => h260 z.2)]
      have q2 : Eqc P (rPu 6 0 0 (rPu 2 0 0 P)) := q_pu (q_pu q_r)
      have tP := iP.2.2.1
      have wP := iP.2.2.2.2.1
      have bP := iP.2.2.2.2.2.1
      refine (s_SL hT 6 0 rfl).1 S (rPu 6 0 0 (rPu 2 0 0 P)) (M + 1) [(2, 0, 0)] _ (Eqc_J jP (a_pu.trans a_pu) q2) (d_pu (d_pu (dp.trans hd))) (Stk_pu (Stk_pu st)) (by decide) (by omega) (by rw [t_q q2]; exact tP) (Or.inl (by rw [q2.2.2.1]; exact wP)) (by omega) ?_
      intro S1 R1 N1 sc st1 dp1 hN1 hp1
      exact fol S1 R1 N1 (TI_SC iP (SC_pre (Sm_R q2) sc)) st1 dp1 (by omega) hp1
theorem s_all (hT : TC tk tv tr vl pl q) (hI : TI q S R) (hp : S.p = 0) (hs : Stk R [(1, 0, 0)]) (hd : R.dp = nI 0) {N : Nat} (hN : 3000 ≤ N) : OK tr vl pl q (TI q) (pAll tk tv q S) N R := by
  have hq := hT.1
  unfold pAll pLi
  refine s_skip (d := 0) (rest := []) (c := fun X => pLp tk q 0 (pPt tk 0 (pDf tk tv q (pSL tk tv q 6).2) (pSL tk tv q 7).1) 200 X) hT (fun P h1 h2 => by rw [i_1, if_neg h2, if_pos h1]) (by decide) 200 S R N hI.1 hs hd (by omega) (by omega) ?_
  intro S4 R4 N4 j4 sm4 t4 st4 dp4 hN4
  have m4 := sm4.1.2.2.2.2.2.2.2.1
  have q4 := j4.2.1
  exact s_parts hT 200 S4 R4 N4 (TI_Sm hI j4 sm4) t4 st4 dp4 (by omega) (by omega)
end SU
