section SK
variable {tk : Nat → Int32} {tv : Nat → Int64} {tr vl pl : Nat → Int32} {q : Nat} {G : PS → RS → Prop} {d : Nat}
/-- a numeral, a name or the scale -/
theorem EC_one {S : PS} {R Rp : RS} {o k : Int32} {v : Int64} {c : Nat} {x y : Int32} (hq : q ≤ 200) (hj : J q S R) (hl : S.p < q) (hB : S.n + 3 * q ≤ 601 + 3 * S.p) (hk : k = nI c) (hc : c = 1 ∨ c = 2 ∨ c = 3) (hE : Eqc R Rp) (hv : LV (tau R.o R.n) (rho R.o R.n) o v x y c) : EC q S R (emt o v (adv q S)) (rAt (R.at + 1) (rEm k x y Rp)) := by
  have a := adv_lt hq hl
  have j1 := J_adv (R' := rAt (R.at + 1) R) hq hj hl rfl (q_at q_r)
  have m1 : Sm S R (adv q S) (rAt (R.at + 1) R) := Sm_adv hq hl (q_at q_r)
  have hn : (adv q S).n < 600 := by omega
  have m := emt_lt (S := adv q S) (o := o) (v := v) hn
  have c15 : k ≠ 15 := by rw [hk]; rcases hc with rfl | rfl | rfl <;> decide
  obtain ⟨e1, e2, e3, e4, e5⟩ := em_J (Rp := rAt (R.at + 1) Rp) j1 hn hk c15 rfl (q_at hE) hv
  generalize hR' : rEm k x y (rAt (R.at + 1) Rp) = R' at *
  have hR2 : rAt (R.at + 1) (rEm k x y Rp) = R' := hR'
  rw [hR2]
  have e4' : R'.o = upd R.o R.n k := e4
  have e5' : R'.n = R.n + 1 := e5
  refine ⟨e1, Fr_trans m1.1 e2, e3, ?_, ?_, ?_, by omega, ?_, ?_⟩
  · rw [e4', e5', ta_s, hk]
    rcases hc with rfl | rfl | rfl <;> rfl
  · rw [emt_p]
    omega
  · rw [emt_p, m.1]
    omega
  · rw [e4', upd_eq, hk]
    rcases hc with rfl | rfl | rfl <;> decide
  · rw [e4', e5', rh_n c15 (by rw [hk]; rcases hc with rfl | rfl | rfl <;> decide)]
theorem s_atom (hT : TC tk tv tr vl pl q) (hd6 : d ≤ 6) {E : PS → PR} (hE : d < 6 → SimE tr vl pl q G 3 (4 + 3 * d) (120 + 20 * d) 7 (d + 1) E) (hE6 : ¬ d < 6 → ∀ S, E S = .inl S) : SimE tr vl pl q G 9 (3 + 3 * d) (110 + 20 * d) 13 d (pAtom tk tv q E) := by
  have hq := hT.1
  refine mkE (by omega) (by decide) ?_
  intro S R M rest c hj hd hs1 hl hB hH hN K
  rw [i_13]
  have k40' := tk_40 hT hj
  have k256 := tk_256 hT hj
  have k262 := tk_262 hT hj
  have k257 := tk_257 hT hj
  -- what comes behind an opening parenthesis, on both sides
  have par : ∀ (S1 : PS) (R1 : RS) (rest1 : List (Int32 × Int32 × Int32)) (c1 : PS → PR), J q S1 R1 → R1.dp = nI (d + 1) → S1.n = S.n → S.p < S1.p → Stk R1 ((7, 0, 0) :: (14, 0, 0) :: rest1) → rest1.length ≤ 111 + 20 * d → hh (tau R1.o R1.n) ≤ 3 + 3 * d → d < 6 → (∀ S' R' N', EC q S1 R1 S' R' → Stk R' rest1 → R'.dp = nI d → M + 11 ≤ N' + 10 * (S'.p - S1.p) → OK tr vl pl q G (c1 S') N' R') → OK tr vl pl q G (pB (pB (E S1) (fun S => pX tk q 41 S)) c1) M R1 := by
    intro S1 R1 rest1 c1 j1 d1 n1 p1 k1 l1 t1 h6 K1
    have := j1.2.1
    rw [pB_B]
    refine hE h6 S1 R1 M _ _ j1 d1 k1 (by rw [List.length_cons]; omega) (by omega) (by omega) (by omega) ?_
    intro S' R' N' ec st' dp' hN'
    have e5 := ec.2.2.2.2.1
    have := ec.1.2.1
    obtain ⟨M', rfl⟩ : ∃ M, N' = M + 1 := ⟨N' - 1, by omega⟩
    refine go st' ec.1.2.2.1 (J_RB ec.1 st' (by omega)) fun P e a dp hs2 => ?_
    rw [i_14]
    have ki' : tr P.at = 41 ↔ tk S'.p = 41 := tk_41 hT (Eqc_J ec.1 a e)
    unfold rXp
    by_cases h41 : tk S'.p = 41
    · rw [pX_pos h41, if_pos (ki'.mpr h41)]
      have hl' := p_lt hT ec.1 (by rw [h41]; decide)
      have a' := adv_lt hq hl'
      refine K1 (adv q S') _ _ (EC_post ec (J_adv hq ec.1 hl' (by rw [← a]; rfl) (q_dp (q_at e))) (Sm_adv hq hl' (q_dp (q_at e)))) (s_dp (s_at hs2)) ?_ (by omega)
      rw [dp, dp', nI_pred]
      exact d_dp
    · rw [pX_neg h41, if_neg (fun z => h41 (ki'.mp z))]
      obtain ⟨M2, rfl⟩ : ∃ M, M' = M + 1 := ⟨M' - 1, by omega⟩
      exact bad (show ¬ (1 : Int32) = 0 by decide)
  unfold pAtom rPr
  by_cases h40 : tk S.p = 40
  · have hl' := p_lt hT hj (by rw [h40]; decide)
    have a' := adv_lt hq hl'
    rw [if_pos h40, k40'.mpr h40, if_neg (show ¬ (40 : Int32) = 110 by decide), if_neg (show ¬ (40 : Int32) = 115 by decide), if_neg (show ¬ (40 : Int32) = 97 by decide), if_pos (show (40 : Int32) = 40 from rfl)]
    unfold pPar
    rw [pX_pos h40]
    by_cases h6 : d < 6
    · rw [dd_lt (R := R) hd h6]
      have st7 : Stk (rPu 7 0 0 (rPu 14 0 0 (rDp (nI (d + 1)) R))) ((7, 0, 0) :: (14, 0, 0) :: rest) := Stk_pu (Stk_pu (s_dp hs1))
      refine par (adv q S) (rAt (R.at + 1) (rPu 7 0 0 (rPu 14 0 0 (rDp (nI (d + 1)) R)))) rest c (J_adv hq hj hl' rfl (q_at (q_pu (q_pu (q_dp (q_r)))))) (d_at (d_pu (d_pu d_dp))) a'.2.1 (by omega) (s_at st7) (by omega) (by rw [t_q (q_at (q_pu (q_pu (q_dp (q_r)))))]; exact hH) h6 ?_
      intro S' R' N' ec st' dp' hN'
      have := ec.2.2.2.2.1
      exact K S' R' N' (EC_pre (Sm_adv hq hl' (q_at (q_pu (q_pu (q_dp (q_r)))))) ec) st' dp' (by omega)
    · rw [dd_6 (R := R) hd h6 hd6, hE6 h6]
      obtain ⟨M2, rfl⟩ : ∃ L, M = L + 1 := ⟨M - 1, by omega⟩
      exact bad (show ¬ (1 : Int32) = 0 by decide)
  rw [if_neg h40]
  by_cases hN1 : tk S.p = 256
  · have hl' := p_lt hT hj (by rw [hN1]; decide)
    have a' := adv_lt hq hl'
    rw [if_pos hN1, k256.mpr hN1, if_pos (show (110 : Int32) = 110 from rfl)]
    obtain ⟨m, s, v1, v2, v3, v4⟩ := (hT.2.2.2 S.p hl').2.1 hN1
    refine K _ _ M ?_ (s_at (s_em hs1)) (d_at (d_em (hd))) ?_
    · exact EC_one hq hj hl' hB (c := 1) rfl (Or.inl rfl) (q_r) ⟨rfl, by omega, m, s, v1, v2, by show vl R.at = _; rw [← hj.1]; exact v3, by show pl R.at = _; rw [← hj.1]; exact v4⟩
    · rw [emt_p, a'.1]
      omega
  rw [if_neg hN1]
  by_cases hN2 : tk S.p = 262
  · have hl' := p_lt hT hj (by rw [hN2]; decide)
    have a' := adv_lt hq hl'
    rw [if_pos hN2, k262.mpr hN2, if_neg (show ¬ (115 : Int32) = 110 by decide), if_pos (show (115 : Int32) = 115 from rfl)]
    refine K _ _ M ?_ (s_at (s_em hs1)) (d_at (d_em (hd))) ?_
    · exact EC_one hq hj hl' hB (c := 3) rfl (Or.inr (Or.inr rfl)) (q_r) ⟨rfl, by omega⟩
    · rw [emt_p, a'.1]
      omega
  rw [if_neg hN2]
  by_cases hN3 : tk S.p = 257
  · have hl' := p_lt hT hj (by rw [hN3]; decide)
    have a' := adv_lt hq hl'
    obtain ⟨v, v1, v2, v3⟩ := (hT.2.2.2 S.p hl').2.2 hN3
    rw [if_pos hN3, k257.mpr hN3, if_neg (show ¬ (97 : Int32) = 110 by decide), if_neg (show ¬ (97 : Int32) = 115 by decide), if_pos (show (97 : Int32) = 97 from rfl)]
    have jA : J q (adv q S) (rAt (R.at + 1) R) := J_adv hq hj hl' rfl (q_at q_r)
    have k40 := tk_40 hT jA
    by_cases hP : tk (adv q S).p = 40
    · have hl2 := p_lt hT jA (by rw [hP]; decide)
      have a2 := adv_lt hq hl2
      rw [if_pos hP, if_pos (show tr (R.at + 1) = 40 from k40.mpr hP)]
      unfold pPar
      rw [pX_pos hP]
      by_cases h6 : d < 6
      · rw [dd_lt (R := rAt (R.at + 1) (rPu 17 6 (vl R.at) R)) hd h6, pB_B]
        have st7 : Stk (rPu 7 0 0 (rPu 14 0 0 (rDp (nI (d + 1)) (rAt (R.at + 1) (rPu 17 6 (vl R.at) R))))) ((7, 0, 0) :: (14, 0, 0) :: (17, 6, vl R.at) :: rest) := Stk_pu (Stk_pu (s_dp (s_at (Stk_pu hs1))))
        refine par (adv q (adv q S)) (rAt (R.at + 1 + 1) (rPu 7 0 0 (rPu 14 0 0 (rDp (nI (d + 1)) (rAt (R.at + 1) (rPu 17 6 (vl R.at) R)))))) ((17, 6, vl R.at) :: rest) _ (J_adv hq jA hl2 rfl (q_at (q_pu (q_pu (q_dp (q_at (q_pu (q_r)))))))) (d_at (d_pu (d_pu d_dp))) (by omega) (by omega) (s_at st7) (by rw [List.length_cons]; omega) (by rw [t_q (q_at (q_pu (q_pu (q_dp (q_at (q_pu (q_r)))))))]; exact hH) h6 ?_
        intro S' R' N' ec st' dp' hN'
        have e5 := ec.2.2.2.2.1
        have e6 := ec.2.2.2.2.2.1
        have e7 := ec.1.2.1
        obtain ⟨M', rfl⟩ : ∃ M, N' = M + 1 := ⟨N' - 1, by omega⟩
        refine go st' ec.1.2.2.1 (J_RB ec.1 st' (by omega)) fun P e a dp hs2 => ?_
        rw [i_17]
        show OK tr vl pl q G (c (emt 308 (tv S.p) S')) M' _
        have ec2 := EC_pre (Sm_trans (Sm_adv hq hl' (q_at q_r)) (Sm_adv (R := rAt (R.at + 1) R) hq hl2 (q_at (q_pu (q_pu (q_dp (q_at (q_pu (q_r))))))))) ec
        have hn : S'.n < 600 := by omega
        have ht : tau R'.o R'.n = hh (tau R.o R.n) + 1 := ec2.2.2.2.1
        have hfr := ec2.2.2.2.2.2.2.1
        have me := emt_lt (o := 308) (v := tv S.p) hn
        obtain ⟨f1, f2, f3, f4, f5⟩ := em_J (Rp := P) (k := 6) (c := 6) (o := 308) (v := tv S.p) (x := vl R.at) (y := 0) ec2.1 hn rfl (by decide) a e ⟨rfl, by omega, by omega, v, v1, v2, by rw [← hj.1]; exact v3⟩
        refine K _ _ M' ⟨f1, Fr_trans ec2.2.1 f2, CS_Fr ec2.1 f2 ec2.2.2.1 f3, ?_, ?_, ?_, ?_, ?_, ?_⟩ (s_em hs2) (d_em (dp.trans dp')) ?_
        · rw [f4, f5, ta_s, if_neg (by decide), if_neg (by decide), if_pos (by decide), ht, hh_le (by omega)]
        · rw [emt_p]
          omega
        · rw [emt_p, me.1]
          omega
        · omega
        · rw [f4, upd_ne (by omega)]
          exact ec2.2.2.2.2.2.2.2.1
        · rw [f4, f5, rh_n (by decide) (by decide)]
          exact ec2.2.2.2.2.2.2.2.2
        · rw [emt_p]
          omega
      · rw [dd_6 (R := rAt (R.at + 1) (rPu 17 6 (vl R.at) R)) hd h6 hd6, hE6 h6]
        obtain ⟨M2, rfl⟩ : ∃ L, M = L + 1 := ⟨M - 1, by omega⟩
        exact bad (show ¬ (1 : Int32) = 0 by decide)
    · rw [if_neg hP, if_neg (show ¬ tr (R.at + 1) = 40 from fun z => hP (k40.mp z))]
      refine K _ _ M ?_ (s_at (s_em hs1)) (d_at (d_em (hd))) ?_
      · exact EC_one hq hj hl' hB (c := 2) rfl (Or.inr (Or.inl rfl)) (q_r) ⟨rfl, by omega, v, v1, v2, by show vl R.at = _; rw [← hj.1]; exact v3⟩
      · rw [emt_p, a'.1]
        omega
  rw [if_neg hN3]
  rw [if_neg (fun z => hN1 (k256.mp z)), if_neg (fun z => hN2 (k262.mp z)), if_neg (fun z => hN3 (k257.mp z)), if_neg (fun z => h40 (k40'.mp z))]
  obtain ⟨M2, rfl⟩ : ∃ L, M = L + 1 := ⟨M - 1, by omega⟩
  exact bad (show ¬ (1 : Int32) = 0 by decide)
end SK
