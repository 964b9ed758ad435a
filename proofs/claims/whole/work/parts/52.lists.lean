section SQ
variable {tk : Nat → Int32} {tv : Nat → Int64} {tr vl pl : Nat → Int32} {q : Nat} {G : PS → RS → Prop} {d : Nat} {S S' S0 S1 S2 : PS} {R R' R0 R1 R2 P : RS} {x y : Int32}
theorem i_3 : rst1 tr vl pl q 3 x y R = if tr R.at = 125 then rAt (R.at + 1) R else if tr R.at = 59 then rPu 3 0 0 (rAt (R.at + 1) R) else rPu 6 0 0 (rPu 4 0 0 R) := rfl
theorem i_4 : rst1 tr vl pl q 4 x y R = if tr R.at = 125 then rAt (R.at + 1) R else rPu 3 0 0 (rXp tr 59 R) := rfl
theorem i_1 : rst1 tr vl pl q 1 x y R = if R.at = q then R else if tr R.at = 59 then rPu 1 0 0 (rAt (R.at + 1) R) else if tr R.at = 100 then rDe tr vl (rPu 2 0 0 R) else rPu 6 0 0 (rPu 2 0 0 R) := rfl
theorem i_2 : rst1 tr vl pl q 2 x y R = if R.at = q then R else rPu 1 0 0 (rXp tr 59 R) := rfl
theorem s_skip (hT : TC tk tv tr vl pl q) {w : Int32} {rest : List (Int32 × Int32 × Int32)} {c : PS → PR} (hi : ∀ P : RS, tr P.at = 59 → P.at ≠ q → rst1 tr vl pl q w 0 0 P = rPu w 0 0 (rAt (P.at + 1) P)) (hl : rest.length ≤ 390) : ∀ n S R N, J q S R → Stk R ((w, 0, 0) :: rest) → R.dp = nI d → q ≤ n + S.p → 10 * (q - S.p) + 1 ≤ N → (∀ S' R' N', J q S' R' → Sm S R S' R' → ¬ tk S'.p = 59 → Stk R' ((w, 0, 0) :: rest) → R'.dp = nI d → N ≤ N' + 10 * (S'.p - S.p) → OK tr vl pl q G (c S') N' R') → OK tr vl pl q G (c (pSk tk q n S)) N R := by
  have hq := hT.1
  intro n
  induction n with
  | zero =>
    intro S R N hj hs hd hn hN K
    have hp := hj.2.1
    have e : S.p = q := by omega
    exact K S R N hj (Sm_R q_r) (by rw [e, hT.2.1]; decide) hs hd (by omega)
  | succ n ih =>
    intro S R N hj hs hd hn hN K
    have hp := hj.2.1
    unfold pSk
    by_cases h : tk S.p = 59
    · rw [if_pos h]
      have hlt := p_lt hT hj (by rw [h]; decide)
      have av := adv_lt hq hlt
      obtain ⟨M, rfl⟩ : ∃ L, N = L + 1 := ⟨N - 1, by omega⟩
      refine go hs hj.2.2.1 (J_RB hj hs (by omega)) fun P e a dp st => ?_
      have k := tk_59 hT (Eqc_J hj a e)
      have j1 := hj.1
      rw [hi P (k.mpr h) (by rw [a, ← j1]; omega)]
      have q1 : Eqc R (rPu w 0 0 (rAt (P.at + 1) P)) := q_pu (q_at e)
      have sm := Sm_adv (S := S) hq hlt q1
      refine ih (adv q S) _ M (J_adv hq hj hlt (by rw [← a]; exact a_pu.trans a_at) q1) (Stk_pu (s_at st)) (d_pu (d_at (dp.trans hd))) (by omega) (by omega) ?_
      intro S' R' N' j' sm' t' st' dp' hN'
      have := sm'.1.2.2.2.2.2.2.2.1
      exact K S' R' N' j' (Sm_trans sm sm') t' st' dp' (by omega)
    · rw [if_neg h]
      exact K S R N hj (Sm_R q_r) h hs hd (by omega)
theorem pLp_cl {cl : Int32} {F : PS → PR} {n : Nat} (h : tk S.p = cl) : pLp tk q cl F n S = .inr S := by
  cases n with
  | zero => rfl
  | succ n => exact if_pos h
theorem pSk_n {n : Nat} (h : ¬ tk S.p = 59) : pSk tk q n S = S := by
  cases n with
  | zero => rfl
  | succ n => exact if_neg h
theorem s_lp (hT : TC tk tv tr vl pl q) (hd6 : d ≤ 6) {st df : PS → PR} (hst : SimS tr vl pl q G 40 (60 + 20 * d) 6 d st) {S0 : PS} {R0 : RS} {rest : List (Int32 × Int32 × Int32)} {c : PS → PR} (hB0 : S0.n + 3 * q ≤ 600 + 3 * S0.p) (hl : rest.length ≤ 50 + 20 * d) (hW0 : R0.w = 0 ∨ rho R0.o R0.n = true) : ∀ n S R N, SC q S0 R0 S R → ¬ tk S.p = 59 → Stk R ((3, 0, 0) :: rest) → R.dp = nI d → q ≤ n + S.p → 10 * (q - S.p) + 41 ≤ N → (∀ S' R' N', SC q S0 R0 S' R' → Stk R' rest → R'.dp = nI d → N ≤ N' + 10 * (S'.p - S.p) → S.p < S'.p → OK tr vl pl q G (c S') N' R') → OK tr vl pl q G (pB (pLp tk q 125 (pPt tk 125 df st) n S) fun S2 => pB (pX tk q 125 S2) c) N R := by
  have hq := hT.1
  intro n
  induction n with
  | zero =>
    intro S R N sc hsm hs hd hn hN K
    have hj := sc.1
    have hp := hj.2.1
    have e : S.p = q := by omega
    have t0 : tk S.p = 0 := by rw [e, hT.2.1]
    show OK tr vl pl q G (pB (pX tk q 125 S) c) N R
    rw [pX_neg (show ¬ tk S.p = 125 by rw [t0]; decide)]
    obtain ⟨M, rfl⟩ : ∃ L, N = L + 6 + 1 := ⟨N - 7, by omega⟩
    refine go hs hj.2.2.1 (J_RB hj hs (by omega)) fun P e a dp st => ?_
    have tp : tr P.at = 0 := by
      rw [(tk_at hT (Eqc_J hj a e)).2, t0]
      rfl
    rw [i_3, tp, if_neg (show ¬ (0 : Int32) = 125 by decide), if_neg (show ¬ (0 : Int32) = 59 by decide)]
    have q1 : Eqc R (rPu 6 0 0 (rPu 4 0 0 P)) := q_pu (q_pu e)
    have a1 : (rPu 6 0 0 (rPu 4 0 0 P)).at = P.at := a_pu.trans a_pu
    have pg := psi_ge (o := R.o) R.n
    have sn := S.hn
    have k5 := hj.2.2.2.2
    have k1 := hj.1
    exact s_end (by rw [a1]; exact tp) (by omega) (q1.2.1.trans hj.2.2.1) (by have := q1.1; omega) (Stk_pu (Stk_pu st)) (by rw [List.length_cons]; omega)
  | succ n ih =>
    intro S R N sc hsm hs hd hn hN K
    have hj := sc.1
    have hp := hj.2.1
    obtain ⟨M, rfl⟩ : ∃ L, N = L + 1 := ⟨N - 1, by omega⟩
    by_cases h125 : tk S.p = 125
    · rw [pLp_cl h125]
      show OK tr vl pl q G (pB (pX tk q 125 S) c) (M + 1) R
      rw [pX_pos h125]
      have hlt := p_lt hT hj (by rw [h125]; decide)
      have av := adv_lt hq hlt
      refine go hs hj.2.2.1 (J_RB hj hs (by omega)) fun P e a dp st => ?_
      have k := tk_125 hT (Eqc_J hj a e)
      rw [i_3, if_pos (k.mpr h125)]
      exact K _ _ M (SC_post sc (J_adv hq hj hlt (by rw [← a]; exact a_at) (q_at e)) (Sm_adv hq hlt (q_at e))) (s_at st) (d_at (dp.trans hd)) (by omega) (by omega)
    · refine go hs hj.2.2.1 (J_RB hj hs (by omega)) fun P e a dp st1 => ?_
      have jP := Eqc_J hj a e
      have k := tk_125 hT jP
      have k59 := tk_59 hT jP
      rw [i_3, if_neg (fun z => h125 (k.mp z)), if_neg (fun z => hsm (k59.mp z))]
      unfold pLp
      rw [if_neg h125, pB_B]
      have pt : pPt tk 125 df st S = st S := if_neg (fun z => absurd z.1 (by decide))
      rw [pt]
      have q1 : Eqc R (rPu 6 0 0 (rPu 4 0 0 P)) := q_pu (q_pu e)
      have c6 := sc.2.2.2.2.2.1
      have w1 : R.w = R0.w := sc.2.1.2.2.2.2.2.2.2.2.2
      have r1 := sc.2.2.2.2.1
      refine hst S (rPu 6 0 0 (rPu 4 0 0 P)) M ((4, 0, 0) :: rest) _ (Eqc_J hj ((a_pu.trans a_pu).trans a) q1) (d_pu (d_pu (dp.trans hd))) (Stk_pu (Stk_pu st1)) (by rw [List.length_cons]; omega) (by omega) (by rw [t_q q1]; exact sc.2.2.2.1) (by rw [q1.2.2.1, q1.1, q1.2.2.2.1, w1, r1]; exact hW0) (by omega) ?_
      intro S1 R1 N1 sc1 st1 dp1 hN1 hp1
      have sc1' := SC_trans sc (SC_pre (Sm_R q1) sc1)
      have hq1 := sc1.1.2.1
      obtain ⟨M1, rfl⟩ : ∃ L, N1 = L + 1 := ⟨N1 - 1, by omega⟩
      refine go st1 sc1.1.2.2.1 (J_RB sc1.1 st1 (by omega)) fun P2 e2 a2 dp2 st2 => ?_
      have j2 := Eqc_J sc1.1 a2 e2
      have k2 := tk_125 hT j2
      have k3 := tk_59 hT j2
      rw [i_4]
      by_cases h2 : tk S1.p = 125
      · rw [if_pos h2, if_pos (k2.mpr h2)]
        show OK tr vl pl q G (pB (pLp tk q 125 (pPt tk 125 df st) n (pSk tk q 200 S1)) _) M1 _
        rw [pSk_n (show ¬ tk S1.p = 59 by rw [h2]; decide), pLp_cl h2]
        show OK tr vl pl q G (pB (pX tk q 125 S1) c) M1 _
        rw [pX_pos h2]
        have hlt := p_lt hT sc1.1 (by rw [h2]; decide)
        have av := adv_lt hq hlt
        exact K _ _ M1 (SC_post sc1' (J_adv hq sc1.1 hlt (by rw [← a2]; exact a_at) (q_at e2)) (Sm_adv hq hlt (q_at e2))) (s_at st2) (d_at (dp2.trans dp1)) (by omega) (by omega)
      · rw [if_neg h2, if_neg (fun z => h2 (k2.mp z))]
        unfold rXp
        by_cases h3 : tk S1.p = 59
        · rw [pB_B, pX_pos h3, if_pos (k3.mpr h3)]
          have hlt := p_lt hT sc1.1 (by rw [h3]; decide)
          have av := adv_lt hq hlt
          have q3 : Eqc R1 (rPu 3 0 0 (rAt (P2.at + 1) P2)) := q_pu (q_at e2)
          have sm3 := Sm_adv (S := S1) hq hlt q3
          have j3 : J q (adv q S1) (rPu 3 0 0 (rAt (P2.at + 1) P2)) := J_adv hq sc1.1 hlt (by rw [← a2]; exact a_pu.trans a_at) q3
          have sc3 := SC_post sc1' j3 sm3
          refine s_skip (d := d) (c := fun X => pB (pLp tk q 125 (pPt tk 125 df st) n X) fun S2 => pB (pX tk q 125 S2) c) hT (fun P h1 h2 => by rw [i_3, h1, if_neg (show ¬ (59 : Int32) = 125 by decide), if_pos rfl]) (show rest.length ≤ 390 by omega) 200 (adv q S1) _ M1 j3 (Stk_pu (s_at st2)) (d_pu (d_at (dp2.trans dp1))) (by omega) (by omega) ?_
          intro S4 R4 N4 j4 sm4 t4 st4 dp4 hN4
          have m4 := sm4.1.2.2.2.2.2.2.2.1
          have q4 := j4.2.1
          refine ih S4 R4 N4 (SC_post sc3 j4 sm4) t4 st4 dp4 (by omega) (by omega) ?_
          intro S5 R5 N5 sc5 st5 dp5 hN5 hp5
          exact K S5 R5 N5 sc5 st5 dp5 (by omega) (by omega)
        · rw [pB_B, pX_neg h3, if_neg (fun z => h3 (k3.mp z))]
          obtain ⟨M2, rfl⟩ : ∃ L, M1 = L + 1 := ⟨M1 - 1, by omega⟩
          exact bad (fa_pu fa_fa)
theorem s_list (hT : TC tk tv tr vl pl q) (hd6 : d ≤ 6) {st df : PS → PR} (hst : SimS tr vl pl q G 40 (60 + 20 * d) 6 d st) : SimS tr vl pl q G 45 (50 + 20 * d) 3 d (fun S => pB (pLi tk q 125 (pPt tk 125 df st) S) fun S2 => pX tk q 125 S2) := by
  intro S R N rest c hj hdp hs hl hB ht hW hN K
  have hp := hj.2.1
  have hq := hT.1
  show OK tr vl pl q G (pB (pB (pLi tk q 125 (pPt tk 125 df st) S) _) c) N R
  unfold pLi
  rw [pB_B]
  refine s_skip (d := d) (c := fun X => pB (pLp tk q 125 (pPt tk 125 df st) 200 X) fun S2 => pB (pX tk q 125 S2) c) hT (fun P h1 h2 => by rw [i_3, h1, if_neg (show ¬ (59 : Int32) = 125 by decide), if_pos rfl]) (show rest.length ≤ 390 by omega) 200 S R N hj hs hdp (by omega) (by omega) ?_
  intro S4 R4 N4 j4 sm4 t4 st4 dp4 hN4
  have m4 := sm4.1.2.2.2.2.2.2.2.1
  have q4 := j4.2.1
  have sc : SC q S R S4 R4 := SC_post (SC_refl hj ht) j4 sm4
  refine s_lp hT hd6 hst hB hl hW 200 S4 R4 N4 sc t4 st4 dp4 (by omega) (by omega) ?_
  intro S5 R5 N5 sc5 st5 dp5 hN5 hp5
  exact K S5 R5 N5 sc5 st5 dp5 (by omega) (by omega)
end SQ
section SR
variable {tk : Nat → Int32} {tv : Nat → Int64} {tr vl pl : Nat → Int32} {q : Nat} {G : PS → RS → Prop}
theorem s_SL (hT : TC tk tv tr vl pl q) : ∀ k d, d + k = 6 → SimS tr vl pl q G 40 (60 + 20 * d) 6 d (pSL tk tv q (k + 1)).1 ∧ SimS tr vl pl q G 45 (50 + 20 * d) 3 d (fun S => pB ((pSL tk tv q (k + 1)).2 S) fun S2 => pX tk q 125 S2) := by
  intro k
  induction k with
  | zero =>
    intro d hd
    have st : SimS tr vl pl q G 40 (60 + 20 * d) 6 d (pSL tk tv q (0 + 1)).1 := s_stat hT (by omega) (s_EU hT 0 d hd).1 (fun S h => ⟨_, eu_end h⟩) (by omega) (fun _ _ => rfl) (by omega) (by omega) (fun _ _ => rfl)
    exact ⟨st, s_list hT (by omega) st⟩
  | succ k ih =>
    intro d hd
    obtain ⟨h1, h2⟩ := ih (d + 1) (by omega)
    have h3 := (s_EU (G := G) hT k (d + 1) (by omega)).1
    rw [show 60 + 20 * (d + 1) = 80 + 20 * d by omega] at h1
    rw [show 50 + 20 * (d + 1) = 70 + 20 * d by omega] at h2
    rw [show 1 + 3 * (d + 1) = 4 + 3 * d by omega, show 100 + 20 * (d + 1) = 120 + 20 * d by omega] at h3
    have st : SimS tr vl pl q G 40 (60 + 20 * d) 6 d (pSL tk tv q (k + 1 + 1)).1 := s_stat hT (by omega) (s_EU hT (k + 1) d hd).1 (fun S h => ⟨_, eu_end h⟩) (fun _ => h3) (by omega) (fun _ => h1) (fun _ => h2) (by omega)
    exact ⟨st, s_list hT (by omega) st⟩
end SR
