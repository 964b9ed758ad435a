section SL
variable {tk : Nat → Int32} {tv : Nat → Int64} {tr vl pl : Nat → Int32} {q : Nat} {G : PS → RS → Prop} {d : Nat}
/-- a left side, a token, a right side, the operation -/
theorem EC_bin {S S1 S2 S3 : PS} {R R1 R2 R3 P : RS} {o : Int32} (hB : S.n + 3 * q ≤ 601 + 3 * S.p) (hH : hh (tau R.o R.n) ≤ 21) (h1 : EC q S R S1 R1) (hm : Sm S1 R1 S2 R2) (hp : S2.p = S1.p + 1) (h2 : EC q S2 R2 S3 R3) (hP : Eqc R3 P) (ha : P.at = R3.at) (ho : isBn o) : EC q S R (emt o 0 S3) (rEm 5 o 0 P) ∧ (emt o 0 S3).p = S3.p := by
  obtain ⟨a1, a2, a3, a4, a5, a6, a7, a8, a9⟩ := h1
  obtain ⟨b1, b2, b3, b4, b5, b6, b7, b8, b9⟩ := h2
  obtain ⟨m1, m2, m3, m4⟩ := hm
  have c1 := CS_Fr a1 m1 a3 (fun b h1 h2 => by omega)
  have hl := b1.2.1
  have hn : S3.n < 600 := by omega
  have me := emt_lt (o := o) (v := 0) hn
  have ht : tau R3.o R3.n = hh (tau R.o R.n) + 2 := by
    rw [b4, m2, m3, a4, hh_le hH]
  obtain ⟨f1, f2, f3, f4, f5⟩ := em_J (Rp := P) (k := 5) (c := 5) (o := o) (v := 0) (x := o) (y := 0) b1 hn rfl (by decide) ha hP ⟨ho, rfl, by omega, by omega⟩
  have c2 : CS S3 R3 R.n := by
    intro b l1 l2
    by_cases hb : b < R2.n
    · refine LC_Fr (fun c hc => (b2.2.1 c hc).1) hb (b2.2.1 b hb).2.1 (b2.2.1 b hb).2.2 (fun a _ ha => ?_) b2.1 (c1 b l1 hb)
      have := psi_mono (o := R2.o) (m := b + 1) (n := R2.n) (by omega)
      have e := a1.2.2.2.2
      rw [← m3, ← m2] at e
      exact b2.2.2.1 a (by omega)
    · exact b3 b (by omega) l2
  refine ⟨⟨f1, Fr_trans (Fr_trans (Fr_trans a2 m1) b2) f2, CS_Fr b1 f2 c2 f3, ?_, ?_, ?_, ?_, ?_, ?_⟩, emt_p⟩
  · rw [f4, f5, ta_s, if_neg (by decide), if_neg (by decide), if_neg (by decide), if_pos (by decide), ht]
    show hh (hh (tau R.o R.n) + 2) - 1 = _
    rw [show hh (hh (tau R.o R.n) + 2) = hh (tau R.o R.n) + 2 from if_neg (by omega)]
    omega
  · rw [emt_p]
    omega
  · rw [emt_p, me.1]
    omega
  · omega
  · rw [f4, upd_ne (by omega), (b2.2.1 R.n (by omega)).1, m3]
    exact a8
  · rw [f4, f5, rh_n (by decide) (by decide), b9, m2, m3, a9]
theorem s_un (hT : TC tk tv tr vl pl q) (hd6 : d ≤ 6) {E U : PS → PR} (hE : d < 6 → SimE tr vl pl q G 3 (4 + 3 * d) (120 + 20 * d) 7 (d + 1) E) (hE6 : ¬ d < 6 → ∀ S, E S = .inl S) (hU : d < 6 → SimE tr vl pl q G 7 (6 + 3 * d) (128 + 20 * d) 11 (d + 1) U) (hU6 : ¬ d < 6 → ∀ S, U S = .inl S) : SimE tr vl pl q G 7 (3 + 3 * d) (108 + 20 * d) 11 d (pUn tk tv q E U) := by
  have hq := hT.1
  refine mkE (by omega) (by decide) ?_
  intro S R M rest c hj hd hs1 hl hB hH hN K
  rw [i_11]
  have k45 := tk_45 hT hj
  unfold pUn
  by_cases h45 : tk S.p = 45
  · have hl' := p_lt hT hj (by rw [h45]; decide)
    have a' := adv_lt hq hl'
    rw [if_pos h45, if_pos (k45.mpr h45), pB_B]
    by_cases h6 : d < 6
    · rw [dd_lt (R := rAt (R.at + 1) R) (d_at hd) h6]
      refine hU h6 (adv q S) (rPu 11 0 0 (rPu 17 4 0 (rPu 5 0 0 (rDp (nI (d + 1)) (rAt (R.at + 1) R))))) M ((17, 4, 0) :: (5, 0, 0) :: rest) _ (J_adv hq hj hl' rfl (q_pu (q_pu (q_pu (q_dp (q_at q_r)))))) (d_pu (d_pu (d_pu d_dp))) (Stk_pu (Stk_pu (Stk_pu (s_dp (s_at hs1))))) (by rw [List.length_cons, List.length_cons]; omega) (by omega) (by rw [t_q (q_pu (q_pu (q_pu (q_dp (q_at q_r)))))]; omega) (by omega) ?_
      intro S' R' N' ec st' dp' hN'
      have e5 := ec.2.2.2.2.1
      have e6 := ec.2.2.2.2.2.1
      have e7 := ec.1.2.1
      obtain ⟨M', rfl⟩ : ∃ M, N' = M + 1 + 1 := ⟨N' - 2, by omega⟩
      refine go st' ec.1.2.2.1 (J_RB ec.1 st' (by rw [List.length_cons]; omega)) fun P e a dp hs2 => ?_
      rw [i_17]
      show OK tr vl pl q G (c (emt 306 0 S')) (M' + 1) _
      have ec2 := EC_pre (Sm_adv hq hl' (q_pu (q_pu (q_pu (q_dp (q_at q_r)))))) ec
      have hn : S'.n < 600 := by omega
      have ht : tau R'.o R'.n = hh (tau R.o R.n) + 1 := ec2.2.2.2.1
      have hfr := ec2.2.2.2.2.2.2.1
      have me := emt_lt (o := 306) (v := 0) hn
      obtain ⟨f1, f2, f3, f4, f5⟩ := em_J (Rp := P) (k := 4) (c := 4) (o := 306) (v := 0) (x := 0) (y := 0) ec2.1 hn rfl (by decide) a e ⟨rfl, by omega, by omega⟩
      have ec3 : EC q S R (emt 306 0 S') (rEm 4 0 0 P) := by
        refine ⟨f1, Fr_trans ec2.2.1 f2, CS_Fr ec2.1 f2 ec2.2.2.1 f3, ?_, ?_, ?_, ?_, ?_, ?_⟩
        · rw [f4, f5, ta_s, if_neg (by decide), if_neg (by decide), if_pos (by decide), ht, hh_le (by omega)]
        · rw [emt_p]
          omega
        · rw [emt_p, me.1]
          omega
        · omega
        · rw [f4, upd_ne (by omega)]
          exact ec2.2.2.2.2.2.2.2.1
        · rw [f4, f5, rh_n (by decide) (by decide)]
          exact ec2.2.2.2.2.2.2.2.2
      refine go (s_em hs2) f1.2.2.1 (J_RB f1 (s_em hs2) (by omega)) fun P2 e2 a2 dp2 hs3 => ?_
      rw [i_5]
      refine K _ _ M' (EC_post ec3 (Eqc_J f1 a2 (q_dp e2)) (Sm_R (q_dp e2))) (s_dp hs3) ?_ ?_
      · rw [dp2, show (rEm 4 0 0 P).dp = nI (d + 1) from d_em (dp.trans dp'), nI_pred]
        exact d_dp
      · rw [emt_p]
        omega
    · rw [dd_6 (R := rAt (R.at + 1) R) (d_at hd) h6 hd6, hU6 h6]
      obtain ⟨M2, rfl⟩ : ∃ L, M = L + 1 := ⟨M - 1, by omega⟩
      exact bad (show ¬ (1 : Int32) = 0 by decide)
  rw [if_neg h45, if_neg (fun z => h45 (k45.mp z))]
  unfold pPow
  rw [pB_B]
  refine s_atom hT hd6 hE hE6 S (rPu 13 0 0 (rPu 12 0 0 R)) M ((12, 0, 0) :: rest) _ (Eqc_J hj rfl (q_pu (q_pu q_r))) (d_pu (d_pu hd)) (Stk_pu (Stk_pu hs1)) (by rw [List.length_cons]; omega) hB (by rw [t_q (q_pu (q_pu q_r))]; omega) (by omega) ?_
  intro S' R' N' ec st' dp' hN'
  have ec1 := EC_pre (Sm_R (q_pu (q_pu q_r))) ec
  have e5 := ec1.2.2.2.2.1
  have e6 := ec1.2.2.2.2.2.1
  have e7 := ec1.1.2.1
  obtain ⟨M', rfl⟩ : ∃ M, N' = M + 1 := ⟨N' - 1, by omega⟩
  refine go st' ec.1.2.2.1 (J_RB ec.1 st' (by omega)) fun P e a dp hs2 => ?_
  rw [i_12]
  have k94 := tk_94 hT (Eqc_J ec.1 a e)
  by_cases h94 : tk S'.p = 94
  · have hl' := p_lt hT ec.1 (by rw [h94]; decide)
    have a' := adv_lt hq hl'
    rw [if_pos h94, if_pos (k94.mpr h94), pB_B]
    by_cases h6 : d < 6
    · rw [dd_lt (R := rAt (P.at + 1) P) (d_at (dp.trans dp')) h6]
      refine hU h6 (adv q S') (rPu 11 0 0 (rPu 5 0 0 (rPu 17 5 94 (rDp (nI (d + 1)) (rAt (P.at + 1) P))))) M' ((5, 0, 0) :: (17, 5, 94) :: rest) _ (J_adv hq ec.1 hl' (by rw [← a]; rfl) (q_pu (q_pu (q_pu (q_dp (q_at e)))))) (d_pu (d_pu (d_pu d_dp))) (Stk_pu (Stk_pu (Stk_pu (s_dp (s_at hs2))))) (by rw [List.length_cons, List.length_cons]; omega) (by omega) (by rw [t_q (q_pu (q_pu (q_pu (q_dp (q_at e))))), ec1.2.2.2.1, hh_le (by omega)]; omega) (by omega) ?_
      intro S2 R2 N2 ec2 st2 dp2 hN2
      have g5 := ec2.2.2.2.2.1
      have g7 := ec2.1.2.1
      obtain ⟨M2, rfl⟩ : ∃ M, N2 = M + 1 + 1 := ⟨N2 - 2, by omega⟩
      refine go st2 ec2.1.2.2.1 (J_RB ec2.1 st2 (by rw [List.length_cons]; omega)) fun P2 e2 a2 dp3 hs3 => ?_
      rw [i_5]
      refine go (s_dp hs3) (e2.2.1.trans ec2.1.2.2.1) (J_RB (Eqc_J ec2.1 a2 (q_dp e2)) (s_dp hs3) (by omega)) fun P3 e3 a3 dp4 hs4 => ?_
      rw [i_17]
      obtain ⟨ec3, pp⟩ := EC_bin (o := 94) hB (by omega) ec1 (Sm_adv hq hl' (q_pu (q_pu (q_pu (q_dp (q_at e)))))) a'.1 (EC_post ec2 (Eqc_J ec2.1 a2 (q_dp e2)) (Sm_R (q_dp e2))) e3 a3 (by decide)
      refine K _ _ M2 ec3 (s_em hs4) ?_ ?_
      · refine d_em ?_
        rw [dp4, dp3, dp2, nI_pred]
        exact d_dp
      · rw [pp]
        omega
    · rw [dd_6 (R := rAt (P.at + 1) P) (d_at (dp.trans dp')) h6 hd6, hU6 h6]
      obtain ⟨M2, rfl⟩ : ∃ L, M' = L + 1 := ⟨M' - 1, by omega⟩
      exact bad (show ¬ (1 : Int32) = 0 by decide)
  · rw [if_neg h94, if_neg (fun z => h94 (k94.mp z))]
    exact K _ _ M' (EC_post ec1 (Eqc_J ec.1 a e) (Sm_R e)) hs2 (dp.trans dp') (by omega)
/-- the operators of a sum or a product, one after another -/
theorem s_loop (hT : TC tk tv tr vl pl q) {X H Lr : Nat} {rs nx : Int32} (is : Int32 → Prop) [DecidablePred is] {T : PS → PR} (h0 : ¬ is 0) (hb : ∀ k, is k → isBn k) (hk : ∀ k, k ∈ TK → (is k → kp k = k) ∧ (is (kp k) → is k)) (hi : ∀ P : RS, rst1 tr vl pl q rs 0 0 P = if is (tr P.at) then rMo rs nx (tr P.at) P else P) (hH : H ≤ 21) (hX : X ≤ 9) (hS : SimE tr vl pl q G X (H + 1) (Lr + 2) nx d T) (hLr : Lr ≤ 390) {S0 : PS} {R0 : RS} {rest : List (Int32 × Int32 × Int32)} {c : PS → PR} (hB : S0.n + 3 * q ≤ 601 + 3 * S0.p) (hH0 : hh (tau R0.o R0.n) ≤ H) (hl : rest.length ≤ Lr) : ∀ n S R N, EC q S0 R0 S R → Stk R ((rs, 0, 0) :: rest) → R.dp = nI d → q ≤ n + S.p → 10 * (q - S.p) + 21 ≤ N → (∀ S' R' N', EC q S0 R0 S' R' → Stk R' rest → R'.dp = nI d → S.p ≤ S'.p → N ≤ N' + 1 + 10 * (S'.p - S.p) → OK tr vl pl q G (c S') N' R') → OK tr vl pl q G (pB (pL tk q is T n S) c) N R := by
  have hq := hT.1
  intro n
  induction n with
  | zero =>
    intro S R N ec st dp hn hN K
    have e7 := ec.1.2.1
    have ep : S.p = q := by omega
    obtain ⟨M, rfl⟩ : ∃ L, N = L + 1 := ⟨N - 1, by omega⟩
    refine go st ec.1.2.2.1 (J_RB ec.1 st (by omega)) fun P e a dp1 hs2 => ?_
    have t0 : ¬ is (tr P.at) := by
      rw [a, ← ec.1.1, ep, (hT.2.2.1 q (Nat.le_refl _)).2, hT.2.1]
      exact h0
    rw [hi, if_neg t0]
    exact K S P M (EC_post ec (Eqc_J ec.1 a e) (Sm_R e)) hs2 (dp1.trans dp) (by omega) (by omega)
  | succ n ih =>
    intro S R N ec st dp hn hN K
    have e7 := ec.1.2.1
    obtain ⟨M, rfl⟩ : ∃ L, N = L + 1 := ⟨N - 1, by omega⟩
    refine go st ec.1.2.2.1 (J_RB ec.1 st (by omega)) fun P e a dp1 hs2 => ?_
    rw [hi]
    unfold pL
    have tt := hT.2.2.1 S.p e7
    have tp : tr P.at = kp (tk S.p) := by rw [a, ← ec.1.1]; exact tt.2
    by_cases hk1 : is (tk S.p)
    · have kk := (hk _ tt.1).1 hk1
      rw [if_pos hk1, tp, kk, if_pos hk1, pB_B]
      have hl' := p_lt hT ec.1 (fun z => h0 (by rw [z] at hk1; exact hk1))
      have a' := adv_lt hq hl'
      unfold rMo
      have g1 := ec.2.2.2.2.1
      have g2 := ec.2.2.2.2.2.1
      refine hS (adv q S) (rPu nx 0 0 (rPu 17 5 (tk S.p) (rPu rs 0 0 (rAt (P.at + 1) P)))) M ((17, 5, tk S.p) :: (rs, 0, 0) :: rest) _ (J_adv hq ec.1 hl' (by rw [← a]; rfl) (q_pu (q_pu (q_pu (q_at e))))) (d_pu (d_pu (d_pu (d_at (dp1.trans dp))))) (Stk_pu (Stk_pu (Stk_pu (s_at hs2)))) (by rw [List.length_cons, List.length_cons]; omega) (by omega) (by rw [t_q (q_pu (q_pu (q_pu (q_at e)))), ec.2.2.2.1, hh_le (by omega)]; omega) (by omega) ?_
      intro S2 R2 N2 ec2 st2 dp2 hN2
      have g5 := ec2.2.2.2.2.1
      have g7 := ec2.1.2.1
      obtain ⟨M2, rfl⟩ : ∃ M, N2 = M + 1 := ⟨N2 - 1, by omega⟩
      refine go st2 ec2.1.2.2.1 (J_RB ec2.1 st2 (by rw [List.length_cons]; omega)) fun P2 e2 a2 dp3 hs3 => ?_
      rw [i_17]
      obtain ⟨ec3, pp⟩ := EC_bin (o := tk S.p) hB (by omega) ec (Sm_adv hq hl' (q_pu (q_pu (q_pu (q_at e))))) a'.1 ec2 e2 a2 (hb _ hk1)
      refine ih (emt (tk S.p) 0 S2) (rEm 5 (tk S.p) 0 P2) M2 ec3 (s_em hs3) (d_em (dp3.trans dp2)) (by rw [pp]; omega) (by rw [pp]; omega) ?_
      intro S' R' N' ec4 st4 dp4 hle hN4
      rw [pp] at hN4 hle
      exact K S' R' N' ec4 st4 dp4 (by omega) (by omega)
    · have t0 : ¬ is (tr P.at) := fun z => hk1 ((hk _ tt.1).2 (by rw [← tp]; exact z))
      rw [if_neg hk1, if_neg t0]
      exact K S P M (EC_post ec (Eqc_J ec.1 a e) (Sm_R e)) hs2 (dp1.trans dp) (by omega) (by omega)
theorem fa_kp : ∀ k, k ∈ TK → (isFa k → kp k = k) ∧ (isFa (kp k) → isFa k) := by decide
theorem sg_kp : ∀ k, k ∈ TK → (isSg k → kp k = k) ∧ (isSg (kp k) → isSg k) := by decide
theorem s_term (hT : TC tk tv tr vl pl q) (hd6 : d ≤ 6) {E U : PS → PR} (hE : d < 6 → SimE tr vl pl q G 3 (4 + 3 * d) (120 + 20 * d) 7 (d + 1) E) (hE6 : ¬ d < 6 → ∀ S, E S = .inl S) (hU : d < 6 → SimE tr vl pl q G 7 (6 + 3 * d) (128 + 20 * d) 11 (d + 1) U) (hU6 : ¬ d < 6 → ∀ S, U S = .inl S) : SimE tr vl pl q G 5 (2 + 3 * d) (104 + 20 * d) 9 d (pTerm tk tv q E U) := by
  have hq := hT.1
  refine mkE (by omega) (by decide) ?_
  intro S R M rest c hj hd hs1 hl hB hH hN K
  rw [i_9]
  unfold pTerm
  rw [pB_B]
  have un := s_un (G := G) hT hd6 hE hE6 hU hU6
  have hp := hj.2.1
  refine un S (rPu 11 0 0 (rPu 10 0 0 R)) M ((10, 0, 0) :: rest) _ (Eqc_J hj rfl (q_pu (q_pu q_r))) (d_pu (d_pu hd)) (Stk_pu (Stk_pu hs1)) (by rw [List.length_cons]; omega) hB (by rw [t_q (q_pu (q_pu q_r))]; omega) (by omega) ?_
  intro S' R' N' ec st' dp' hN'
  have ec1 := EC_pre (Sm_R (q_pu (q_pu q_r))) ec
  have e5 := ec1.2.2.2.2.1
  have e7 := ec1.1.2.1
  refine s_loop (H := 2 + 3 * d) (Lr := 104 + 20 * d) hT isFa (by decide) (fun k h => by rcases h with h | h | h <;> rw [h] <;> decide) fa_kp (fun P => i_10) (by omega) (show 7 ≤ 9 by decide) (fun S R N rest c a1 a2 a3 a4 a5 a6 a7 a8 => un S R N rest c a1 a2 a3 (by omega) a5 (by omega) a7 a8) (by omega) hB hH hl 200 S' R' N' ec1 st' dp' (by omega) (by omega) ?_
  intro S2 R2 N2 ec2 st2 dp2 hle hN2
  have g7 := ec2.1.2.1
  exact K S2 R2 N2 ec2 st2 dp2 (by omega)
end SL
