section SO
variable {tk : Nat → Int32} {tv : Nat → Int64} {tr vl pl : Nat → Int32} {q : Nat} {G : PS → RS → Prop} {d : Nat} {S S' S0 S1 S2 : PS} {R R' R0 R1 R2 P : RS} {x y : Int32}
def AC (q : Nat) (S : PS) (R : RS) (S' : PS) (R' : RS) : Prop := J q S' R' ∧ Fr S R S' R' ∧ CS S' R' R.n
theorem AC_EC (h : AC q S R S1 R1) (k : EC q S1 R1 S' R') : AC q S R S' R' := ⟨k.1, Fr_trans h.2.1 k.2.1, CS_Fr h.1 k.2.1 h.2.2 k.2.2.1⟩
theorem AC_Sm (h : AC q S R S1 R1) (j : J q S' R') (k : Sm S1 R1 S' R') : AC q S R S' R' := ⟨j, Fr_trans h.2.1 k.1, CS_Sm h.1 k h.2.2⟩
theorem vu_ne {f : Nat → Int64} {k i : Nat} {v : Int64} (h : i ≠ k) : vp_updL f k v i = f i := if_neg h
theorem vu_eq {f : Nat → Int64} {k : Nat} {v : Int64} : vp_updL f k v k = v := if_pos rfl
theorem fa_dd (h : ¬ R.fa = 0) : ¬ (rDd R).fa = 0 := by
  unfold rDd
  split
  · exact (show ¬ (1 : Int32) = 0 by decide)
  · exact h
theorem fa_pu {w : Int32} (h : ¬ R.fa = 0) : ¬ (rPu w x y R).fa = 0 := h
theorem fa_at {v : Nat} (h : ¬ R.fa = 0) : ¬ (rAt v R).fa = 0 := h
theorem fa_dp {v : Int32} (h : ¬ R.fa = 0) : ¬ (rDp v R).fa = 0 := h
theorem fa_fa : ¬ (rFa R).fa = 0 := show ¬ (1 : Int32) = 0 by decide
/-- a jump gets its place -/
theorem patch {b0 lo a : Nat} (hj : J q S R) (hb : b0 < R.n) (hlo : lo ≤ b0) (hE : Eqc R P) (ha : P.at = R.at) (hc : ∀ b, lo ≤ b → b < R.n → b ≠ b0 → LC S.f S.g R.o R.x R.y R.n b) (h0 : (R.o b0 = 12 ∧ S.f (psi R.o b0) = 311 ∧ tau R.o b0 = 1000) ∨ (R.o b0 = 13 ∧ S.f (psi R.o b0) = 310 ∧ tau R.o b0 = 0 ∧ rho R.o b0 = false)) (ht : tau R.o R.n = 0) (hr : rho R.o R.n = rho R.o b0) (ea : psi R.o b0 = a) (hF : Fr S0 R0 S R) (hl0 : R0.n ≤ b0) (hl1 : S0.n ≤ a) : J q (lnd a S) (rSx b0 P) ∧ CS (lnd a S) (rSx b0 P) lo ∧ Fr S0 R0 (lnd a S) (rSx b0 P) ∧ (lnd a S).p = S.p ∧ (lnd a S).n = S.n ∧ (rSx b0 P).o = R.o ∧ (rSx b0 P).n = R.n := by
  have o15 : R.o b0 ≠ 15 := by
    rcases h0 with h0 | h0 <;> rw [h0.1] <;> decide
  have s1 : psi R.o (b0 + 1) = psi R.o b0 + 1 := by
    show psi R.o b0 + (if R.o b0 = 15 then 2 else 1) = _
    rw [if_neg o15]
  have mono := psi_mono (o := R.o) (m := b0 + 1) (n := R.n) (by omega)
  obtain ⟨k1, k2, k3, k4, k5⟩ := hj
  have hlt : a < S.n := by omega
  have L : lnd a S = pmk S.p S.n S.f (vp_updL S.g a (zL S.n)) S.e S.a S.w S.hp S.hn := if_pos hlt
  have Lp : (lnd a S).p = S.p := by rw [L]; rfl
  have Ln : (lnd a S).n = S.n := by rw [L]; rfl
  have Lf : (lnd a S).f = S.f := by rw [L]; rfl
  have Lg : (lnd a S).g = vp_updL S.g a (zL S.n) := by rw [L]; rfl
  have Le : (lnd a S).e = S.e := by rw [L]; rfl
  have La : (lnd a S).a = S.a := by rw [L]; rfl
  have Lw : (lnd a S).w = S.w := by rw [L]; rfl
  obtain ⟨e1, e2, e3, e4, e5, e6, e7, e8⟩ := hE
  generalize hR : rSx b0 P = R'
  have g1 : R'.at = R.at := by rw [← hR]; exact ha
  have g2 : R'.fa = R.fa := by rw [← hR]; exact e2
  have g3 : R'.w = R.w := by rw [← hR]; exact e3
  have g4 : R'.o = R.o := by rw [← hR]; exact e4
  have g5 : R'.n = R.n := by rw [← hR]; exact e1
  have g6 : R'.x = upd R.x b0 (nI R.n) := by rw [← hR, ← e5, ← e1]; rfl
  have g7 : R'.y = R.y := by rw [← hR]; exact e6
  have g8 : R'.st = R.st := by rw [← hR]; exact e7
  have g9 : R'.pa = R.pa := by rw [← hR]; exact e8
  refine ⟨⟨by rw [Lp, k1, g1], by rw [Lp]; exact k2, by rw [g2, k3], by rw [Lw, k4, g3], by rw [Ln, k5, g4, g5]⟩, ?_, ?_, Lp, Ln, g4, g5⟩
  · intro b h1 h2
    rw [g5] at h2
    rw [Lf, Lg, g4, g5, g6, g7]
    by_cases hbb : b = b0
    · subst hbb
      refine Or.inr (Or.inr ⟨R.n, Nat.le_refl _, upd_eq, ?_, hr, ?_⟩)
      · rw [ea, vu_eq, k5]
      · rcases h0 with h0 | h0
        · exact Or.inl ⟨h0.1, h0.2.1, h0.2.2, hb, ht⟩
        · exact Or.inr (Or.inr ⟨h0.1, h0.2.1, h0.2.2.1, h0.2.2.2, hb, ht⟩)
    · refine LC_Fr (fun c _ => rfl) h2 (upd_ne hbb) rfl (fun c c1 c2 => ⟨rfl, ?_⟩) (Nat.le_refl _) (hc b h1 h2 hbb)
      by_cases hlt2 : b < b0
      · have := psi_mono (o := R.o) (m := b + 1) (n := b0) (by omega)
        exact vu_ne (by omega)
      · have := psi_mono (o := R.o) (m := b0 + 1) (n := b) (by omega)
        exact vu_ne (by omega)
  · obtain ⟨f1, f2, f3, f4, f5, f6, f7, f8, f9, f10⟩ := hF
    refine ⟨by omega, fun b hb' => ?_, fun c hc' => ?_, by rw [Le, f4], by rw [La, f5], by rw [g8, f6], by rw [g9, f7], by rw [Lp]; exact f8, by rw [Ln]; exact f9, by rw [g3, f10]⟩
    · rw [g4, g6, g7, upd_ne (by omega)]
      exact f2 b hb'
    · rw [Lf, Lg, vu_ne (by omega)]
      exact f3 c hc'
theorem patch0 {b0 lo a : Nat} (hj : J q S R) (hb : b0 < R.n) (hlo : lo ≤ b0) (hE : Eqc R P) (ha : P.at = R.at) (hc : ∀ b, lo ≤ b → b < R.n → b ≠ b0 → LC S.f S.g R.o R.x R.y R.n b) (h0 : (R.o b0 = 12 ∧ S.f (psi R.o b0) = 311 ∧ tau R.o b0 = 1000) ∨ (R.o b0 = 13 ∧ S.f (psi R.o b0) = 310 ∧ tau R.o b0 = 0 ∧ rho R.o b0 = false)) (ht : tau R.o R.n = 0) (hr : rho R.o R.n = rho R.o b0) (ea : psi R.o b0 = a) : J q (lnd a S) (rSx b0 P) ∧ CS (lnd a S) (rSx b0 P) lo ∧ (lnd a S).p = S.p ∧ (lnd a S).n = S.n ∧ (rSx b0 P).o = R.o ∧ (rSx b0 P).n = R.n ∧ (lnd a S).e = S.e ∧ (lnd a S).a = S.a ∧ (rSx b0 P).st = R.st ∧ (rSx b0 P).pa = R.pa ∧ (rSx b0 P).w = R.w := by
  have o15 : R.o b0 ≠ 15 := by
    rcases h0 with h0 | h0 <;> rw [h0.1] <;> decide
  have s1 : psi R.o (b0 + 1) = psi R.o b0 + 1 := by
    show psi R.o b0 + (if R.o b0 = 15 then 2 else 1) = _
    rw [if_neg o15]
  have mono := psi_mono (o := R.o) (m := b0 + 1) (n := R.n) (by omega)
  obtain ⟨k1, k2, k3, k4, k5⟩ := hj
  have hlt : a < S.n := by omega
  have L : lnd a S = pmk S.p S.n S.f (vp_updL S.g a (zL S.n)) S.e S.a S.w S.hp S.hn := if_pos hlt
  have Lp : (lnd a S).p = S.p := by rw [L]; rfl
  have Ln : (lnd a S).n = S.n := by rw [L]; rfl
  have Lf : (lnd a S).f = S.f := by rw [L]; rfl
  have Lg : (lnd a S).g = vp_updL S.g a (zL S.n) := by rw [L]; rfl
  have Le : (lnd a S).e = S.e := by rw [L]; rfl
  have La : (lnd a S).a = S.a := by rw [L]; rfl
  have Lw : (lnd a S).w = S.w := by rw [L]; rfl
  obtain ⟨e1, e2, e3, e4, e5, e6, e7, e8⟩ := hE
  generalize hR : rSx b0 P = R'
  have g1 : R'.at = R.at := by rw [← hR]; exact ha
  have g2 : R'.fa = R.fa := by rw [← hR]; exact e2
  have g3 : R'.w = R.w := by rw [← hR]; exact e3
  have g4 : R'.o = R.o := by rw [← hR]; exact e4
  have g5 : R'.n = R.n := by rw [← hR]; exact e1
  have g6 : R'.x = upd R.x b0 (nI R.n) := by rw [← hR, ← e5, ← e1]; rfl
  have g7 : R'.y = R.y := by rw [← hR]; exact e6
  have g8 : R'.st = R.st := by rw [← hR]; exact e7
  have g9 : R'.pa = R.pa := by rw [← hR]; exact e8
  refine ⟨⟨by rw [Lp, k1, g1], by rw [Lp]; exact k2, by rw [g2, k3], by rw [Lw, k4, g3], by rw [Ln, k5, g4, g5]⟩, ?_, Lp, Ln, g4, g5, Le, La, g8, g9, g3⟩
  · intro b h1 h2
    rw [g5] at h2
    rw [Lf, Lg, g4, g5, g6, g7]
    by_cases hbb : b = b0
    · subst hbb
      refine Or.inr (Or.inr ⟨R.n, Nat.le_refl _, upd_eq, ?_, hr, ?_⟩)
      · rw [ea, vu_eq, k5]
      · rcases h0 with h0 | h0
        · exact Or.inl ⟨h0.1, h0.2.1, h0.2.2, hb, ht⟩
        · exact Or.inr (Or.inr ⟨h0.1, h0.2.1, h0.2.2.1, h0.2.2.2, hb, ht⟩)
    · refine LC_Fr (fun c _ => rfl) h2 (upd_ne hbb) rfl (fun c c1 c2 => ⟨rfl, ?_⟩) (Nat.le_refl _) (hc b h1 h2 hbb)
      by_cases hlt2 : b < b0
      · have := psi_mono (o := R.o) (m := b + 1) (n := b0) (by omega)
        exact vu_ne (by omega)
      · have := psi_mono (o := R.o) (m := b0 + 1) (n := b) (by omega)
        exact vu_ne (by omega)
theorem tk_at {S : PS} {R : RS} (hT : TC tk tv tr vl pl q) (hj : J q S R) : tk S.p ∈ TK ∧ tr R.at = kp (tk S.p) := by
  have h := hT.2.2.1 S.p hj.2.1
  rw [hj.1] at h ⊢
  exact h
theorem cg_fr {b : Nat} (h : Fr S R S' R') (hb : b ≤ R.n) : psi R'.o b = psi R.o b ∧ tau R'.o b = tau R.o b ∧ rho R'.o b = rho R.o b := ⟨psi_cg fun c hc => (h.2.1 c (by omega)).1, tau_cg fun c hc => (h.2.1 c (by omega)).1, rho_cg fun c hc => (h.2.1 c (by omega)).1⟩
theorem s_body (h6 : d < 6) {T : PS → PR} (hS : SimS tr vl pl q G 40 (80 + 20 * d) 6 (d + 1) T) {N : Nat} {rest : List (Int32 × Int32 × Int32)} {c : PS → PR} {k : Int32} {v : Int64} (hA : AC q S R S1 R1) (ht : tau R1.o R1.n = 1000) (hr : rho R1.o R1.n = rho R.o R.n) (ho : R1.o R.n = 14) (hn : R.n + 1 < R1.n) (hs : Stk R1 ((18, kp k, nI (R.n + 1)) :: rest)) (hdp : R1.dp = nI d) (hk : k = 258 ∨ k = 259) (hv : v = zL ((S.n + 1 : Nat) : Int)) (hl : rest.length ≤ 60 + 20 * d) (hB : S.n + 3 * q ≤ 600 + 3 * S.p) (hB1 : S1.n + S.p + 2 ≤ S.n + S1.p) (hp : S.p + 6 ≤ S1.p) (hSn : S.n + 1 ≤ S1.n) (hW : R.w = 0 ∨ rho R.o R.n = true) (l1 : R1.o (R.n + 1) ≠ 13) (l2 : tau R1.o (R.n + 1) = 900) (l3 : psi R1.o (R.n + 1) = S.n + 1) (l4 : rho R1.o (R.n + 1) = rho R.o R.n) (hN : 10 * (q - S1.p) + 44 ≤ N) (K : ∀ S' R' N', SC q S R S' R' → Stk R' rest → R'.dp = nI d → N ≤ N' + 3 + 10 * (S'.p - S1.p) → S1.p < S'.p → OK tr vl pl q G (c S') N' R') : OK tr vl pl q G (pB (pB (T (emt 311 0 S1)) fun S8 => .inr (lnd ((emt 311 0 S1).n - 1) (if k = 259 then emt 310 v (emt 300 0 S8) else S8))) c) N R1 := by
  obtain ⟨hj, hf, hcs⟩ := hA
  have hq1 := hj.2.1
  obtain ⟨M, rfl⟩ : ∃ L, N = L + 1 := ⟨N - 1, by omega⟩
  refine go hs hj.2.2.1 (J_RB hj hs (by omega)) fun P e a dp hs2 => ?_
  rw [i_18, dd_lt (d := d) (R := P) (dp.trans hdp) h6, pB_B]
  have en := e.1
  obtain ⟨f1, f2, f3, f4, f5, f6', f7, f8⟩ := em_0 (P := rPu (if kp k = 105 then 19 else 20) (nI P.n) (nI (R.n + 1)) (rDp (nI (d + 1)) P)) (o := 311) (v := 0) (k := 12) (x := 0) (y := 0) hj (show S1.n < 600 by omega) (by decide) (a_pu.trans (a_dp.trans a)) (q_pu (q_dp e))
  have st2 : Stk (rEm 12 0 0 (rPu (if kp k = 105 then 19 else 20) (nI P.n) (nI (R.n + 1)) (rDp (nI (d + 1)) P))) (((if kp k = 105 then 19 else 20), nI P.n, nI (R.n + 1)) :: rest) := s_em (Stk_pu (s_dp hs2))
  have dp2 : (rEm 12 0 0 (rPu (if kp k = 105 then 19 else 20) (nI P.n) (nI (R.n + 1)) (rDp (nI (d + 1)) P))).dp = nI (d + 1) := d_em (d_pu d_dp)
  generalize hS2 : emt 311 0 S1 = S2 at *
  generalize hR2 : rEm 12 0 0 (rPu (if kp k = 105 then 19 else 20) (nI P.n) (nI (R.n + 1)) (rDp (nI (d + 1)) P)) = R2 at *
  have p2 : S2.p = S1.p := by rw [← hS2, emt_p]
  have w2 : R2.w = R.w := (f2.2.2.2.2.2.2.2.2.2).trans hf.2.2.2.2.2.2.2.2.2
  have t2 : tau R2.o R2.n = 0 := by
    rw [f3, f4, ta_s]
    rfl
  have r2 : rho R2.o R2.n = rho R.o R.n := by rw [f3, f4, rh_n (by decide) (by decide), hr]
  have hW2 : ∀ X : RS, Eqc R2 X → X.w = 0 ∨ rho X.o X.n = true := by
    intro X eX
    rw [eX.2.2.1, eX.1, eX.2.2.2.1, w2, r2]
    exact hW
  refine hS S2 (rPu 6 0 0 (rPu 5 0 0 R2)) M ((5, 0, 0) :: ((if kp k = 105 then 19 else 20), nI P.n, nI (R.n + 1)) :: rest) _ (Eqc_J f1 (a_pu.trans a_pu) (q_pu (q_pu q_r))) (d_pu (d_pu dp2)) (Stk_pu (Stk_pu st2)) (by rw [List.length_cons, List.length_cons]; omega) (by omega) (by rw [t_q (q_pu (q_pu q_r))]; exact t2) (hW2 _ (q_pu (q_pu q_r))) (by omega) ?_
  intro S3 R3 N3 sc st3 dp3 hN3 hp3
  have sc2 := SC_pre (Sm_R (S := S2) (q_pu (q_pu (q_r (R := R2))))) sc
  obtain ⟨c1, c2, c3, c4, c5, c6, c7⟩ := sc2
  have hq3 := c1.2.1
  have b0 := c2.1
  have mono2 := c2.2.2.2.2.2.2.2.2.1
  obtain ⟨M3, rfl⟩ : ∃ L, N3 = L + 1 + 1 := ⟨N3 - 2, by omega⟩
  refine go st3 c1.2.2.1 (J_RB c1 st3 (by rw [List.length_cons]; omega)) fun P4 e4 a4 dp4 hs4 => ?_
  rw [i_5]
  have j4 : J q S3 (rDp (P4.dp - 1) P4) := Eqc_J c1 (a_dp.trans a4) (q_dp e4)
  -- what stands at the branch
  have o1 : R3.o R1.n = 12 := by rw [(c2.2.1 R1.n (by omega)).1, f3, upd_eq]
  have g1 := cg_fr (b := R1.n) (Fr_trans f2 c2) (Nat.le_refl _)
  have gl := cg_fr (b := R.n + 1) (Fr_trans f2 c2) (by omega)
  have f311 : S3.f (psi R3.o R1.n) = 311 := by
    rw [g1.1, ← hj.2.2.2.2, (c2.2.2.1 S1.n (by omega)).1, f6', upd_eq]
  -- all but the branch
  have CX : ∀ b, R.n ≤ b → b < R3.n → b ≠ R1.n → LC S3.f S3.g R3.o R3.x R3.y R3.n b := by
    intro b h1 h2 h3
    by_cases hb : b < R1.n
    · have fr := Fr_trans f2 c2
      refine LC_Fr (fun z hz => (fr.2.1 z hz).1) hb (fr.2.1 b hb).2.1 (fr.2.1 b hb).2.2 (fun z _ hz => ?_) fr.1 (hcs b h1 hb)
      have := psi_mono (o := R1.o) (m := b + 1) (n := R1.n) (by omega)
      exact fr.2.2.1 z (by rw [hj.2.2.2.2]; omega)
    · exact c3 b (by omega) h2
  have e4n : P4.n = R3.n := e4.1
  have oo : ∀ z, z < R1.n → R3.o z = R1.o z := fun z hz => ((Fr_trans f2 c2).2.1 z hz).1
  have frA := Fr_trans hf (Fr_trans f2 c2)
  refine go (s_dp hs4) j4.2.2.1 (J_RB j4 (s_dp hs4) (by omega)) fun P5 e5 a5 dp5 hs5 => ?_
  have dp5' : P5.dp = nI d := by
    rw [dp5, dp4, dp3, nI_pred]
    exact d_dp
  have e35 : Eqc R3 P5 := by
    obtain ⟨u1, u2, u3, u4, u5, u6, u7, u8⟩ := e5
    obtain ⟨v1, v2, v3, v4, v5, v6, v7, v8⟩ := q_dp (v := P4.dp - 1) e4
    exact ⟨u1.trans v1, u2.trans v2, u3.trans v3, u4.trans v4, u5.trans v5, u6.trans v6, u7.trans v7, u8.trans v8⟩
  have a35 : P5.at = R3.at := a5.trans (a_dp.trans a4)
  have clamp : (nI P.n).toNatClampNeg = R1.n := by
    have pg := psi_ge (o := R1.o) R1.n
    have sn := S1.hn
    have k5 := hj.2.2.2.2
    rw [en, nI_clamp (by omega)]
  have hnn : S2.n - 1 = S1.n := by omega
  rcases hk with hk | hk
  · have hx : (if kp k = 105 then (19 : Int32) else 20) = 19 := by rw [hk]; rfl
    rw [hx, i_19, clamp, if_neg (show ¬ k = 259 by rw [hk]; decide), hnn]
    obtain ⟨z1, z2, z3, z4, z5, z6, z7⟩ := patch (b0 := R1.n) (lo := R.n) (a := S1.n) c1 (by omega) (by omega) e35 a35 CX (Or.inl ⟨o1, f311, g1.2.1.trans ht⟩) c4 (by rw [c5, r2, g1.2.2, hr]) (by rw [g1.1, hj.2.2.2.2]) frA (by omega) (by omega)
    refine K _ _ M3 ⟨z1, z3, z2, by rw [z6, z7]; exact c4, by rw [z6, z7, c5, r2], by omega, Or.inr ?_⟩ (s_sx hs5) (d_sx dp5') (by omega) (by omega)
    rw [z6, oo R.n (by omega)]
    exact ho
  · have hx : (if kp k = 105 then (19 : Int32) else 20) = 20 := by rw [hk]; rfl
    rw [hx, i_20, clamp, if_pos hk, hnn]
    obtain ⟨s1, s2, s3, s4, s5, s6, s7, s8⟩ := em_step (P := P5) c1 (by omega) a35 e35 c4
    have st6 : Stk (rEm 14 0 0 P5) rest := s_em hs5
    have dp6 : (rEm 14 0 0 P5).dp = nI d := d_em dp5'
    generalize hS4 : emt 300 0 S3 = S4 at *
    generalize hR4 : rEm 14 0 0 P5 = R4 at *
    have p4 : S4.p = S3.p := by rw [← hS4, emt_p]
    obtain ⟨y1, y2, y3, y4, y5, y6, y7, y8⟩ := em_0 (P := R4) (o := 310) (v := v) (k := 13) (x := nI (R.n + 1)) (y := 0) s1 (by omega) (by decide) rfl q_r
    have st7 : Stk (rEm 13 (nI (R.n + 1)) 0 R4) rest := s_em st6
    have dp7 : (rEm 13 (nI (R.n + 1)) 0 R4).dp = nI d := d_em dp6
    generalize hS5 : emt 310 v S4 = S5 at *
    generalize hR5 : rEm 13 (nI (R.n + 1)) 0 R4 = R5 at *
    have p5 : S5.p = S4.p := by rw [← hS5, emt_p]
    have frB := Fr_trans s2 y2
    have h15 := cg_fr (b := R1.n) frB (by omega)
    have hl5 := cg_fr (b := R.n + 1) frB (by omega)
    have h44 := cg_fr (b := R4.n) y2 (Nat.le_refl _)
    have t5 : tau R5.o R5.n = 0 := by
      rw [y3, y4, ta_s]
      rfl
    have r5 : rho R5.o R5.n = rho R.o R.n := by
      rw [y3, y4, rh_s, if_neg (by decide), if_neg (fun z => by rw [s4] at z; exact absurd z.2 (by decide)), s5, c5, r2]
    have CY : ∀ b, R.n ≤ b → b < R5.n → b ≠ R1.n → LC S5.f S5.g R5.o R5.x R5.y R5.n b := by
      intro b h1 h2 h3
      by_cases hb : b < R3.n
      · refine LC_Fr (fun z hz => (frB.2.1 z hz).1) hb (frB.2.1 b hb).2.1 (frB.2.1 b hb).2.2 (fun z _ hz => ?_) frB.1 (CX b h1 hb h3)
        have := psi_mono (o := R3.o) (m := b + 1) (n := R3.n) (by omega)
        exact frB.2.2.1 z (by rw [c1.2.2.2.2]; omega)
      · by_cases hb2 : b < R4.n
        · refine LC_Fr (fun z hz => (y2.2.1 z hz).1) hb2 (y2.2.1 b hb2).2.1 (y2.2.1 b hb2).2.2 (fun z _ hz => ?_) y2.1 (s3 b (by omega) hb2)
          have := psi_mono (o := R4.o) (m := b + 1) (n := R4.n) (by omega)
          exact y2.2.2.1 z (by rw [s1.2.2.2.2]; omega)
        · have eb : b = R4.n := by omega
          subst eb
          refine Or.inr (Or.inr ⟨R.n + 1, by omega, by rw [y5, upd_eq], ?_, ?_, Or.inr (Or.inl ⟨by rw [y3, upd_eq], ?_, ?_, by omega, by omega, ?_, ?_⟩)⟩)
          · rw [h44.1, ← s1.2.2.2.2, y7, vu_eq, hv, hl5.1, gl.1, l3]
          · rw [h44.2.2, hl5.2.2, gl.2.2, l4, s5, c5, r2]
          · rw [h44.1, ← s1.2.2.2.2, y6, upd_eq]
          · rw [h44.2.1, s4]
          · rw [hl5.2.1, gl.2.1, l2]
          · rw [(frB.2.1 (R.n + 1) (by omega)).1, oo (R.n + 1) (by omega)]
            exact l1
    obtain ⟨z1, z2, z3, z4, z5, z6, z7⟩ := patch (b0 := R1.n) (lo := R.n) (a := S1.n) (P := R5) y1 (by omega) (by omega) q_r rfl CY (Or.inl ⟨by rw [(frB.2.1 R1.n (by omega)).1, o1], by rw [h15.1, (frB.2.2.1 (psi R3.o R1.n) (by rw [g1.1, ← hj.2.2.2.2]; omega)).1, f311], by rw [h15.2.1, g1.2.1, ht]⟩) t5 (by rw [r5, h15.2.2, g1.2.2, hr]) (by rw [h15.1, g1.1, hj.2.2.2.2]) (Fr_trans frA frB) (by omega) (by omega)
    refine K _ _ M3 ⟨z1, z3, z2, by rw [z6, z7]; exact t5, by rw [z6, z7, r5], by omega, Or.inr ?_⟩ (s_sx st7) (d_sx dp7) (by omega) (by omega)
    rw [z6, (frB.2.1 R.n (by omega)).1, oo R.n (by omega)]
    exact ho
end SO
