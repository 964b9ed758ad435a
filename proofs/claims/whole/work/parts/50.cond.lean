section SO
variable {tk : Nat → Int32} {tv : Nat → Int64} {tr vl pl : Nat → Int32} {q : Nat} {G : PS → RS → Prop} {d : Nat} {S S' S0 S1 S2 : PS} {R R' R0 R1 R2 P : RS} {x y : Int32}
theorem s_if (hT : TC tk tv tr vl pl q) (h6 : d < 6) {E T : PS → PR} (hE : SimE tr vl pl q G 3 (4 + 3 * d) (120 + 20 * d) 7 (d + 1) E) (hS : SimS tr vl pl q G 40 (80 + 20 * d) 6 (d + 1) T) {M : Nat} {rest : List (Int32 × Int32 × Int32)} {c : PS → PR} (hj : J q S R) (hdp : R.dp = nI d) (hs1 : Stk R rest) (hl : rest.length ≤ 60 + 20 * d) (hB : S.n + 3 * q ≤ 600 + 3 * S.p) (ht : tau R.o R.n = 0) (hW : R.w = 0 ∨ rho R.o R.n = true) (hN : 10 * (q - S.p) + 39 ≤ M) (hk : tk S.p = 258 ∨ tk S.p = 259) (K : ∀ S' R' N', SC q S R S' R' → Stk R' rest → R'.dp = nI d → M + 1 ≤ N' + 10 * (S'.p - S.p) → S.p < S'.p → OK tr vl pl q G (c S') N' R') : OK tr vl pl q G (pB (pIf tk q E T (emt 300 0 S)) c) M (rPu 15 0 0 (rPu 14 0 0 (rPu 18 (tr R.at) (nI (R.n + 1)) (rDd (rXp tr 40 (rAt (R.at + 1) (rEm 14 0 0 R))))))) := by
  have hq := hT.1
  have hlp := p_lt hT hj (by rcases hk with h | h <;> rw [h] <;> decide)
  obtain ⟨f1, f2, f3, f4, f5, f6, f7, f8⟩ := em_step (P := R) hj (by omega) rfl q_r ht
  generalize hS1 : emt 300 0 S = S1 at *
  generalize hR1 : rEm 14 0 0 R = R1 at *
  have p1 : S1.p = S.p := by rw [← hS1, emt_p]
  have a1 : R1.at = R.at := by rw [← hR1]; rfl
  have d1 : R1.dp = nI d := by rw [← hR1]; exact hdp
  have s1 : Stk R1 rest := by rw [← hR1]; exact s_em hs1
  have w1 : R1.w = R.w := f2.2.2.2.2.2.2.2.2.2
  have av := adv_lt hq (S := S1) (by omega)
  have j1 : J q (adv q S1) (rAt (R.at + 1) R1) := J_adv hq f1 (by omega) (by rw [a1]; exact a_at) (q_at q_r)
  have k40 := tk_40 hT j1
  unfold pIf
  rw [pB_B]
  unfold rXp
  by_cases h40 : ¬ tk (adv q S1).p = 40
  · rw [pX_neg h40, if_neg (fun z => h40 (k40.mp z))]
    obtain ⟨M', rfl⟩ : ∃ L, M = L + 1 := ⟨M - 1, by omega⟩
    exact bad (fa_pu (fa_pu (fa_pu (fa_dd fa_fa))))
  have h40 := Decidable.not_not.mp h40
  rw [pX_pos h40, if_pos (k40.mpr h40)]
  have hl2 := p_lt hT j1 (by rw [h40]; decide)
  have av2 := adv_lt hq hl2
  rw [dd_lt (d := d) (R := rAt ((rAt (R.at + 1) R1).at + 1) (rAt (R.at + 1) R1)) (d_at (d_at d1)) h6]
  have j2 : J q (adv q (adv q S1)) (rAt ((rAt (R.at + 1) R1).at + 1) (rAt (R.at + 1) R1)) := J_adv hq j1 hl2 rfl (q_at q_r)
  have sm2 : Sm S1 R1 (adv q (adv q S1)) (rAt ((rAt (R.at + 1) R1).at + 1) (rAt (R.at + 1) R1)) := Sm_trans (Sm_adv hq (by omega) (q_at q_r)) (Sm_adv hq hl2 (q_at q_r))
  have st2 : Stk (rAt ((rAt (R.at + 1) R1).at + 1) (rAt (R.at + 1) R1)) rest := s_at (s_at s1)
  have ac1 : AC q S R S1 R1 := ⟨f1, f2, f3⟩
  have ac2 := AC_Sm ac1 j2 sm2
  have n2 : (adv q (adv q S1)).n = S1.n := av2.2.1.trans av.2.1
  have hp2 : (adv q (adv q S1)).p = S.p + 2 := by omega
  have na : (adv q S1).n = S1.n := av.2.1
  generalize hS2 : adv q (adv q S1) = S2 at *
  generalize hR2 : rAt ((rAt (R.at + 1) R1).at + 1) (rAt (R.at + 1) R1) = R2 at *
  rw [na, p1]
  have t2 : tau R2.o R2.n = 900 := by rw [sm2.2.1, sm2.2.2.1, f4]
  have ktr : tr R.at = kp (tk S.p) := (tk_at hT hj).2
  have o2 : R2.n = R.n + 1 := by rw [sm2.2.1, f6]
  obtain ⟨M1, rfl⟩ : ∃ L, M = L + 1 := ⟨M - 1, by omega⟩
  have st3 : Stk (rPu 15 0 0 (rPu 14 0 0 (rPu 18 (tr R.at) (nI (R.n + 1)) (rDp (nI (d + 1)) R2)))) ((15, 0, 0) :: (14, 0, 0) :: (18, tr R.at, nI (R.n + 1)) :: rest) := Stk_pu (Stk_pu (Stk_pu (s_dp st2)))
  have e3 : Eqc R2 (rPu 15 0 0 (rPu 14 0 0 (rPu 18 (tr R.at) (nI (R.n + 1)) (rDp (nI (d + 1)) R2)))) := q_pu (q_pu (q_pu (q_dp q_r)))
  have j3 : J q S2 (rPu 15 0 0 (rPu 14 0 0 (rPu 18 (tr R.at) (nI (R.n + 1)) (rDp (nI (d + 1)) R2)))) := Eqc_J j2 (a_pu.trans (a_pu.trans (a_pu.trans a_dp))) e3
  have dp3 : (rPu 15 0 0 (rPu 14 0 0 (rPu 18 (tr R.at) (nI (R.n + 1)) (rDp (nI (d + 1)) R2)))).dp = nI (d + 1) := d_pu (d_pu (d_pu d_dp))
  generalize hR3 : rPu 15 0 0 (rPu 14 0 0 (rPu 18 (tr R.at) (nI (R.n + 1)) (rDp (nI (d + 1)) R2))) = R3 at *
  refine go st3 j3.2.2.1 (J_RB j3 st3 (by rw [List.length_cons, List.length_cons]; omega)) fun P e a dp hs2 => ?_
  rw [i_15]
  have eP : Eqc R2 P := by
    obtain ⟨u1, u2, u3, u4, u5, u6, u7, u8⟩ := e
    obtain ⟨v1, v2, v3, v4, v5, v6, v7, v8⟩ := e3
    exact ⟨u1.trans v1, u2.trans v2, u3.trans v3, u4.trans v4, u5.trans v5, u6.trans v6, u7.trans v7, u8.trans v8⟩
  have jP : J q S2 P := Eqc_J j3 a e
  unfold pCd
  rw [pB_B, pB_B]
  have tP : tau P.o P.n = 900 := by rw [t_q eP, t2]
  refine hE S2 (rPu 7 0 0 (rPu 16 0 0 P)) M1 ((16, 0, 0) :: (14, 0, 0) :: (18, tr R.at, nI (R.n + 1)) :: rest) _ (Eqc_J jP (a_pu.trans a_pu) (q_pu (q_pu q_r))) (d_pu (d_pu (dp.trans dp3))) (Stk_pu (Stk_pu hs2)) (by rw [List.length_cons, List.length_cons, List.length_cons]; omega) (by omega) (by rw [t_q (q_pu (q_pu q_r)), tP]; exact Nat.zero_le _) (by omega) ?_
  intro S4 R4 N4 ec4 st4 dp4 hN4
  have ec4' : EC q S2 R2 S4 R4 := EC_pre (Sm_trans (Sm_R eP) (Sm_R (q_pu (q_pu q_r)))) ec4
  obtain ⟨g1, g2, g3, g4, g5, g6, g7, g8, g9⟩ := ec4'
  have ac4 := AC_EC ac2 ⟨g1, g2, g3, g4, g5, g6, g7, g8, g9⟩
  have hq4 := g1.2.1
  obtain ⟨M4, rfl⟩ : ∃ L, N4 = L + 1 := ⟨N4 - 1, by omega⟩
  refine go st4 g1.2.2.1 (J_RB g1 st4 (by rw [List.length_cons, List.length_cons]; omega)) fun P5 e5 a5 dp5 hs5 => ?_
  rw [i_16]
  have j5 : J q S4 P5 := Eqc_J g1 a5 e5
  have tt := tk_at hT j5
  have rl := kp_rl _ tt.1
  rw [tt.2]
  by_cases hrl : ¬ isRl (tk S4.p)
  · rw [if_neg hrl, if_neg (fun z => hrl (rl.mpr z))]
    obtain ⟨M5, rfl⟩ : ∃ L, M4 = L + 1 := ⟨M4 - 1, by omega⟩
    exact bad fa_fa
  have hrl := Decidable.not_not.mp hrl
  rw [if_pos hrl, if_pos (rl.mp hrl), pB_B]
  have hl5 := p_lt hT j5 (by intro z; rw [z] at hrl; exact absurd hrl (by decide))
  have av5 := adv_lt hq hl5
  have t4 : tau R4.o R4.n = 1 := by rw [g4, t2]; rfl
  have q5 : Eqc R4 (rPu 7 0 0 (rPu 17 7 (kp (tk S4.p)) (rAt (P5.at + 1) P5))) := q_pu (q_pu (q_at e5))
  refine hE (adv q S4) (rPu 7 0 0 (rPu 17 7 (kp (tk S4.p)) (rAt (P5.at + 1) P5))) M4 ((17, 7, kp (tk S4.p)) :: (14, 0, 0) :: (18, tr R.at, nI (R.n + 1)) :: rest) _ (J_adv hq g1 hl5 (by rw [← a5]; exact a_pu.trans (a_pu.trans a_at)) q5) (d_pu (d_pu (d_at (dp5.trans dp4)))) (Stk_pu (Stk_pu (s_at hs5))) (by rw [List.length_cons, List.length_cons, List.length_cons]; omega) (by omega) (by rw [t_q q5, t4]; show 1 ≤ _; omega) (by omega) ?_
  intro S6 R6 N6 ec6 st6 dp6 hN6
  have sm5 : Sm S4 R4 (adv q S4) (rPu 7 0 0 (rPu 17 7 (kp (tk S4.p)) (rAt (P5.at + 1) P5))) := Sm_adv hq hl5 q5
  have ac5 := AC_Sm ac4 (J_adv hq g1 hl5 (by rw [← a5]; exact a_pu.trans (a_pu.trans a_at)) q5) sm5
  have ac6 := AC_EC ac5 ec6
  have ec6' := EC_pre sm5 ec6
  obtain ⟨k1, k2, k3, k4, k5, k6, k7, k8, k9⟩ := ec6'
  have k5' := ec6.2.2.2.2.1
  have k6' := ec6.2.2.2.2.2.1
  have hq6 := k1.2.1
  obtain ⟨M6, rfl⟩ : ∃ L, N6 = L + 1 + 1 := ⟨N6 - 2, by omega⟩
  refine go st6 k1.2.2.1 (J_RB k1 st6 (by rw [List.length_cons, List.length_cons]; omega)) fun P7 e7 a7 dp7 hs7 => ?_
  rw [i_17]
  have t6 : tau R6.o R6.n = 2 := by rw [k4, t4]; rfl
  obtain ⟨m1, m2, m3, m4, m5⟩ := em_J (Rp := P7) (k := 7) (c := 7) (o := tk S4.p) (v := 0) (x := kp (tk S4.p)) (y := 0) k1 (by omega) rfl (by decide) a7 e7 ⟨hrl, rfl, t6⟩
  have n7 := (emt_lt (S := S6) (o := tk S4.p) (v := 0) (by omega)).1
  have p7 : (emt (tk S4.p) 0 S6).p = S6.p := emt_p
  have st8 : Stk (rEm 7 (kp (tk S4.p)) 0 P7) ((14, 0, 0) :: (18, tr R.at, nI (R.n + 1)) :: rest) := s_em hs7
  have dp8 : (rEm 7 (kp (tk S4.p)) 0 P7).dp = nI (d + 1) := d_em (dp7.trans dp6)
  have ac8 : AC q S R (emt (tk S4.p) 0 S6) (rEm 7 (kp (tk S4.p)) 0 P7) := ⟨m1, Fr_trans ac6.2.1 m2, CS_Fr k1 m2 ac6.2.2 m3⟩
  show OK tr vl pl q G (pB (pB (pX tk q 41 (emt (tk S4.p) 0 S6)) _) c) (M6 + 1) _
  generalize hS8 : emt (tk S4.p) 0 S6 = S8 at *
  generalize hR8 : rEm 7 (kp (tk S4.p)) 0 P7 = R8 at *
  have t8 : tau R8.o R8.n = 1000 := by
    rw [m4, m5, ta_s]
    rfl
  have r8 : rho R8.o R8.n = rho R.o R.n := by
    rw [m4, m5, rh_n (by decide) (by decide), k9, g9, sm2.2.1, sm2.2.2.1, f5]
  refine go st8 m1.2.2.1 (J_RB m1 st8 (by rw [List.length_cons]; omega)) fun P9 e9 a9 dp9 hs9 => ?_
  rw [i_14, pB_B]
  have j9 : J q S8 P9 := Eqc_J m1 a9 e9
  have k41 := tk_41 hT j9
  unfold rXp
  by_cases h41 : ¬ tk S8.p = 41
  · rw [pX_neg h41, if_neg (fun z => h41 (k41.mp z))]
    obtain ⟨M5, rfl⟩ : ∃ L, M6 = L + 1 := ⟨M6 - 1, by omega⟩
    exact bad (fa_dp fa_fa)
  have h41 := Decidable.not_not.mp h41
  rw [pX_pos h41, if_pos (k41.mpr h41)]
  have hl9 := p_lt hT j9 (by rw [h41]; decide)
  have av9 := adv_lt hq hl9
  have q9 : Eqc R8 (rDp (P9.dp - 1) (rAt (P9.at + 1) P9)) := q_dp (q_at e9)
  have j10 : J q (adv q S8) (rDp (P9.dp - 1) (rAt (P9.at + 1) P9)) := J_adv hq m1 hl9 (by rw [← a9]; exact a_dp.trans a_at) q9
  have sm9 : Sm S8 R8 (adv q S8) (rDp (P9.dp - 1) (rAt (P9.at + 1) P9)) := Sm_adv hq hl9 q9
  have ac10 := AC_Sm ac8 j10 sm9
  have st10 : Stk (rDp (P9.dp - 1) (rAt (P9.at + 1) P9)) ((18, kp (tk S.p), nI (R.n + 1)) :: rest) := by
    rw [← ktr]
    exact s_dp (s_at hs9)
  have dp10 : (rDp (P9.dp - 1) (rAt (P9.at + 1) P9)).dp = nI d := by
    rw [dp9, dp8, nI_pred]
    exact d_dp
  generalize hS10 : adv q S8 = S10 at *
  generalize hR10 : rDp (P9.dp - 1) (rAt (P9.at + 1) P9) = R10 at *
  have fr2 : Fr S2 R2 S10 R10 := Fr_trans (Fr_trans (Fr_trans g2 k2) m2) sm9.1
  have lk := cg_fr (b := R.n + 1) fr2 (by omega)
  have lk2 := cg_fr (b := R.n + 1) sm2.1 (by omega)
  have fr14 : R10.o R.n = 14 := by
    rw [(fr2.2.1 R.n (by omega)).1, (sm2.1.2.1 R.n (by omega)).1, f7]
  have n10 := sm9.2.1
  have mn := fr2.2.2.2.2.2.2.2.2.1
  have lo : R10.o (R.n + 1) ≠ 13 := by
    rw [sm9.2.2.1, (m2.2.1 (R.n + 1) (by omega)).1, (k2.2.1 (R.n + 1) (by omega)).1, ← o2]
    exact g8
  refine s_body (k := tk S.p) (S := S) (R := R) h6 hS ac10 (by rw [sm9.2.1, sm9.2.2.1]; exact t8) (by rw [sm9.2.1, sm9.2.2.1]; exact r8) fr14 (by omega) st10 dp10 hk (by rw [f8]) hl hB (by omega) (by omega) (by omega) hW lo ?_ ?_ ?_ (by omega) ?_
  · rw [lk.2.1, lk2.2.1, ← f6, f4]
  · rw [lk.1, lk2.1, ← f6, ← f1.2.2.2.2, f8]
  · rw [lk.2.2, lk2.2.2, ← f6, f5]
  · intro S' R' N' sc st' dp' hN' hp'
    exact K S' R' N' sc st' dp' (by omega) (by omega)
end SO
