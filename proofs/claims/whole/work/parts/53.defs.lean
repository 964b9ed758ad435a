/-! The two parsers keep step: definitions, the whole. -/
def EN (S : PS) (R : RS) : Prop := ∀ v, v < 26 → (S.e v = -1 ∧ R.st v = -1) ∨ ∃ b, b < R.n ∧ S.e v = nI (psi R.o b) ∧ R.st v = nI b ∧ tau R.o b = 0 ∧ rho R.o b = true ∧ (R.o b = 14 ∨ R.o b = 15) ∧ ∃ p, p < 26 ∧ S.a v = nI p ∧ R.pa v = nI p
def TI (q : Nat) (S : PS) (R : RS) : Prop := J q S R ∧ CS S R 0 ∧ tau R.o R.n = 0 ∧ rho R.o R.n = false ∧ R.w = 0 ∧ S.n ≤ 3 * S.p ∧ EN S R
theorem F_rAt_at (v : Nat) (R : RS) : (rAt v R).at = v := rfl
theorem F_rAt_n (v : Nat) (R : RS) : (rAt v R).n = R.n := rfl
theorem F_rAt_dp (v : Nat) (R : RS) : (rAt v R).dp = R.dp := rfl
theorem F_rAt_fa (v : Nat) (R : RS) : (rAt v R).fa = R.fa := rfl
theorem F_rAt_w (v : Nat) (R : RS) : (rAt v R).w = R.w := rfl
theorem F_rAt_o (v : Nat) (R : RS) : (rAt v R).o = R.o := rfl
theorem F_rAt_x (v : Nat) (R : RS) : (rAt v R).x = R.x := rfl
theorem F_rAt_y (v : Nat) (R : RS) : (rAt v R).y = R.y := rfl
theorem F_rAt_st (v : Nat) (R : RS) : (rAt v R).st = R.st := rfl
theorem F_rAt_pa (v : Nat) (R : RS) : (rAt v R).pa = R.pa := rfl
theorem F_rDp_at (v : Int32) (R : RS) : (rDp v R).at = R.at := rfl
theorem F_rDp_n (v : Int32) (R : RS) : (rDp v R).n = R.n := rfl
theorem F_rDp_dp (v : Int32) (R : RS) : (rDp v R).dp = v := rfl
theorem F_rDp_fa (v : Int32) (R : RS) : (rDp v R).fa = R.fa := rfl
theorem F_rDp_w (v : Int32) (R : RS) : (rDp v R).w = R.w := rfl
theorem F_rDp_o (v : Int32) (R : RS) : (rDp v R).o = R.o := rfl
theorem F_rDp_x (v : Int32) (R : RS) : (rDp v R).x = R.x := rfl
theorem F_rDp_y (v : Int32) (R : RS) : (rDp v R).y = R.y := rfl
theorem F_rDp_st (v : Int32) (R : RS) : (rDp v R).st = R.st := rfl
theorem F_rDp_pa (v : Int32) (R : RS) : (rDp v R).pa = R.pa := rfl
theorem F_rWi_at (v : Int32) (R : RS) : (rWi v R).at = R.at := rfl
theorem F_rWi_n (v : Int32) (R : RS) : (rWi v R).n = R.n := rfl
theorem F_rWi_dp (v : Int32) (R : RS) : (rWi v R).dp = R.dp := rfl
theorem F_rWi_fa (v : Int32) (R : RS) : (rWi v R).fa = R.fa := rfl
theorem F_rWi_w (v : Int32) (R : RS) : (rWi v R).w = v := rfl
theorem F_rWi_o (v : Int32) (R : RS) : (rWi v R).o = R.o := rfl
theorem F_rWi_x (v : Int32) (R : RS) : (rWi v R).x = R.x := rfl
theorem F_rWi_y (v : Int32) (R : RS) : (rWi v R).y = R.y := rfl
theorem F_rWi_st (v : Int32) (R : RS) : (rWi v R).st = R.st := rfl
theorem F_rWi_pa (v : Int32) (R : RS) : (rWi v R).pa = R.pa := rfl
theorem F_rPu_at (a b c : Int32) (R : RS) : (rPu a b c R).at = R.at := rfl
theorem F_rPu_n (a b c : Int32) (R : RS) : (rPu a b c R).n = R.n := rfl
theorem F_rPu_dp (a b c : Int32) (R : RS) : (rPu a b c R).dp = R.dp := rfl
theorem F_rPu_fa (a b c : Int32) (R : RS) : (rPu a b c R).fa = R.fa := rfl
theorem F_rPu_w (a b c : Int32) (R : RS) : (rPu a b c R).w = R.w := rfl
theorem F_rPu_o (a b c : Int32) (R : RS) : (rPu a b c R).o = R.o := rfl
theorem F_rPu_x (a b c : Int32) (R : RS) : (rPu a b c R).x = R.x := rfl
theorem F_rPu_y (a b c : Int32) (R : RS) : (rPu a b c R).y = R.y := rfl
theorem F_rPu_st (a b c : Int32) (R : RS) : (rPu a b c R).st = R.st := rfl
theorem F_rPu_pa (a b c : Int32) (R : RS) : (rPu a b c R).pa = R.pa := rfl
theorem F_rEm_at (a b c : Int32) (R : RS) : (rEm a b c R).at = R.at := rfl
theorem F_rEm_n (a b c : Int32) (R : RS) : (rEm a b c R).n = R.n + 1 := rfl
theorem F_rEm_dp (a b c : Int32) (R : RS) : (rEm a b c R).dp = R.dp := rfl
theorem F_rEm_fa (a b c : Int32) (R : RS) : (rEm a b c R).fa = R.fa := rfl
theorem F_rEm_w (a b c : Int32) (R : RS) : (rEm a b c R).w = R.w := rfl
theorem F_rEm_o (a b c : Int32) (R : RS) : (rEm a b c R).o = upd R.o R.n a := rfl
theorem F_rEm_x (a b c : Int32) (R : RS) : (rEm a b c R).x = upd R.x R.n b := rfl
theorem F_rEm_y (a b c : Int32) (R : RS) : (rEm a b c R).y = upd R.y R.n c := rfl
theorem F_rEm_st (a b c : Int32) (R : RS) : (rEm a b c R).st = R.st := rfl
theorem F_rEm_pa (a b c : Int32) (R : RS) : (rEm a b c R).pa = R.pa := rfl
theorem F_rDf_at (i : Nat) (p : Int32) (R : RS) : (rDf i p R).at = R.at := rfl
theorem F_rDf_n (i : Nat) (p : Int32) (R : RS) : (rDf i p R).n = R.n := rfl
theorem F_rDf_dp (i : Nat) (p : Int32) (R : RS) : (rDf i p R).dp = R.dp := rfl
theorem F_rDf_fa (i : Nat) (p : Int32) (R : RS) : (rDf i p R).fa = R.fa := rfl
theorem F_rDf_w (i : Nat) (p : Int32) (R : RS) : (rDf i p R).w = R.w := rfl
theorem F_rDf_o (i : Nat) (p : Int32) (R : RS) : (rDf i p R).o = R.o := rfl
theorem F_rDf_x (i : Nat) (p : Int32) (R : RS) : (rDf i p R).x = R.x := rfl
theorem F_rDf_y (i : Nat) (p : Int32) (R : RS) : (rDf i p R).y = R.y := rfl
theorem F_rDf_st (i : Nat) (p : Int32) (R : RS) : (rDf i p R).st = upd R.st i (nI R.n) := rfl
theorem F_rDf_pa (i : Nat) (p : Int32) (R : RS) : (rDf i p R).pa = upd R.pa i p := rfl
section ST
variable {tk : Nat → Int32} {tv : Nat → Int64} {tr vl pl : Nat → Int32} {q : Nat} {d : Nat} {S S' S0 S1 S2 : PS} {R R' R0 R1 R2 P : RS} {x y : Int32}
theorem EN_Fr (h : EN S R) (f : Fr S R S' R') : EN S' R' := by
  obtain ⟨f1, f2, f3, f4, f5, f6, f7, f8, f9, f10⟩ := f
  intro v hv
  rw [f4, f5, f6, f7]
  rcases h v hv with h | ⟨b, h1, h2, h3, h4, h5, h6, h7⟩
  · exact Or.inl h
  · have up : ∀ c, c < b → R'.o c = R.o c := fun c hc => (f2 c (by omega)).1
    refine Or.inr ⟨b, by omega, ?_, h3, ?_, ?_, ?_, h7⟩
    · rw [psi_cg up]
      exact h2
    · rw [tau_cg up]
      exact h4
    · rw [rho_cg up]
      exact h5
    · rw [(f2 b h1).1]
      exact h6
theorem TI_SC (h : TI q S R) (k : SC q S R S' R') : TI q S' R' := by
  obtain ⟨h1, h2, h3, h4, h5, h6, h7⟩ := h
  obtain ⟨k1, k2, k3, k4, k5, k6, k7⟩ := k
  exact ⟨k1, CS_Fr h1 k2 h2 k3, k4, k5.trans h4, (k2.2.2.2.2.2.2.2.2.2).trans h5, by omega, EN_Fr h7 k2⟩
theorem TI_Sm (h : TI q S R) (j : J q S' R') (k : Sm S R S' R') : TI q S' R' := TI_SC h (SC_post (SC_refl h.1 h.2.2.1) j k)
theorem fa_xp {k : Int32} (h : ¬ R.fa = 0) : ¬ (rXp tr k R).fa = 0 := by
  unfold rXp
  split
  · exact fa_at h
  · exact fa_fa
theorem xp_at {k : Int32} (h : tr R.at = k) : rXp tr k R = rAt (R.at + 1) R := if_pos h
theorem xp_no {k : Int32} (h : ¬ tr R.at = k) : rXp tr k R = rFa R := if_neg h
theorem pB_i {r : PR} : pB r .inr = r := by cases r <;> rfl
theorem zL_i32 {k : Nat} : (zL (k : Int)).toInt32 = nI k := Int64.toInt32_ofInt
theorem nI_m1 {k : Nat} (h : k < 2 ^ 31) : nI k ≠ -1 := by
  intro z
  have e := nI_clamp h
  rw [z] at e
  have : (-1 : Int32).toNatClampNeg = 0 := by decide
  have k0 : k = 0 := by omega
  subst k0
  exact absurd z (by decide)
/-- a definition's end -/
theorem em_end (hj : J q S R) (hn : S.n + 1 < 600) (h1 : P.at = R.at) (hE : Eqc R P) (ht : tau R.o R.n = 0) (hr : rho R.o R.n = true) : J q (emt 309 0 (emt 301 0 (sw 0 S))) (rWi 0 (rEm 15 0 0 P)) ∧ CS (emt 309 0 (emt 301 0 (sw 0 S))) (rWi 0 (rEm 15 0 0 P)) R.n ∧ (rWi 0 (rEm 15 0 0 P)).o = upd R.o R.n 15 ∧ (rWi 0 (rEm 15 0 0 P)).n = R.n + 1 ∧ (rWi 0 (rEm 15 0 0 P)).x = upd R.x R.n 0 ∧ (rWi 0 (rEm 15 0 0 P)).y = upd R.y R.n 0 ∧ (rWi 0 (rEm 15 0 0 P)).st = R.st ∧ (rWi 0 (rEm 15 0 0 P)).pa = R.pa ∧ (emt 309 0 (emt 301 0 (sw 0 S))).n = S.n + 2 ∧ (emt 309 0 (emt 301 0 (sw 0 S))).p = S.p ∧ (∀ a, a < S.n → (emt 309 0 (emt 301 0 (sw 0 S))).f a = S.f a ∧ (emt 309 0 (emt 301 0 (sw 0 S))).g a = S.g a) ∧ (emt 309 0 (emt 301 0 (sw 0 S))).e = S.e ∧ (emt 309 0 (emt 301 0 (sw 0 S))).a = S.a := by
  obtain ⟨e1, e2, e3, e4, e5, e6, e7, e8⟩ := hE
  obtain ⟨k1, k2, k3, k4, k5⟩ := hj
  have m1 := emt_lt (S := sw 0 S) (o := 301) (v := 0) (show S.n < 600 by omega)
  have m2 := emt_lt (S := emt 301 0 (sw 0 S)) (o := 309) (v := 0) (by rw [m1.1]; exact hn)
  have n1 : (emt 301 0 (sw 0 S)).n = S.n + 1 := m1.1
  have f1 : (emt 301 0 (sw 0 S)).f = upd S.f S.n 301 := m1.2.1
  have g1 : (emt 301 0 (sw 0 S)).g = vp_updL S.g S.n 0 := m1.2.2.1
  have ee : (emt 309 0 (emt 301 0 (sw 0 S))).e = S.e := m2.2.2.2.1.trans m1.2.2.2.1
  have ea : (emt 309 0 (emt 301 0 (sw 0 S))).a = S.a := m2.2.2.2.2.trans m1.2.2.2.2
  have n2 : (emt 309 0 (emt 301 0 (sw 0 S))).n = S.n + 2 := by rw [m2.1, n1]
  have f2 : (emt 309 0 (emt 301 0 (sw 0 S))).f = upd (upd S.f S.n 301) (S.n + 1) 309 := by rw [m2.2.1, n1, f1]
  have g2 : (emt 309 0 (emt 301 0 (sw 0 S))).g = vp_updL (vp_updL S.g S.n 0) (S.n + 1) 0 := by rw [m2.2.2.1, n1, g1]
  have pp : (emt 309 0 (emt 301 0 (sw 0 S))).p = S.p := emt_p.trans emt_p
  have ww : (emt 309 0 (emt 301 0 (sw 0 S))).w = 0 := emt_w.trans emt_w
  generalize emt 309 0 (emt 301 0 (sw 0 S)) = S' at *
  generalize hR : rWi 0 (rEm 15 0 0 P) = R'
  have h0 : R'.at = R.at := by rw [← hR]; exact h1
  have h2 : R'.fa = R.fa := by rw [← hR]; exact e2
  have h3 : R'.w = 0 := by rw [← hR]; rfl
  have h4 : R'.o = upd R.o R.n 15 := by rw [← hR, ← e4, ← e1]; rfl
  have h5 : R'.n = R.n + 1 := by rw [← hR, ← e1]; rfl
  have h6 : R'.x = upd R.x R.n 0 := by rw [← hR, ← e5, ← e1]; rfl
  have h7 : R'.y = upd R.y R.n 0 := by rw [← hR, ← e6, ← e1]; rfl
  have h8 : R'.st = R.st := by rw [← hR]; exact e7
  have h9 : R'.pa = R.pa := by rw [← hR]; exact e8
  have up : ∀ b, b < R.n → R'.o b = R.o b := fun b hb => by rw [h4, upd_ne (by omega)]
  have hp : psi R'.o R.n = psi R.o R.n := psi_cg up
  have ht' : tau R'.o R.n = tau R.o R.n := tau_cg up
  have hr' : rho R'.o R.n = rho R.o R.n := rho_cg up
  have ho : R'.o R.n = 15 := by rw [h4, upd_eq]
  refine ⟨⟨by rw [pp, k1, h0], by rw [pp]; exact k2, by rw [h2, k3], by rw [ww, h3], ?_⟩, ?_, h4, h5, h6, h7, h8, h9, n2, pp, ?_, ee, ea⟩
  · rw [n2, h5, k5]
    show psi R.o R.n + 2 = psi R'.o R.n + (if R'.o R.n = 15 then 2 else 1)
    rw [hp, ho, if_pos rfl]
  · intro b hb1 hb2
    have e : b = R.n := by omega
    subst e
    refine Or.inr (Or.inl ⟨ho, ?_, ?_, ?_, hr'.trans hr, ht'.trans ht⟩)
    · rw [hp, ← k5, f2, upd_ne (by omega), upd_eq]
    · rw [hp, ← k5, g2, vu_ne (by omega), vu_eq]
    · rw [hp, ← k5, f2, upd_eq]
  · intro a ha
    rw [f2, g2, upd_ne (by omega), upd_ne (by omega), vu_ne (by omega), vu_ne (by omega)]
    exact ⟨rfl, rfl⟩
theorem at_at {u v : Nat} : rAt v (rAt u R) = rAt v R := rfl
theorem s_wi {l : List (Int32 × Int32 × Int32)} {v : Int32} (h : Stk R l) : Stk (rWi v R) l := h
theorem s_df {l : List (Int32 × Int32 × Int32)} {i : Nat} {p : Int32} (h : Stk R l) : Stk (rDf i p R) l := h
theorem d_wi {v k : Int32} (h : R.dp = k) : (rWi v R).dp = k := h
def rQ (tr : Nat → Int32) (R : RS) : RS := rXp tr 123 (rXp tr 41 (rXp tr 97 (rXp tr 40 (rXp tr 97 (rAt (R.at + 1) R)))))
theorem de_bad (h : ¬ (rQ tr R).fa = 0) : rDe tr vl R = rFa (rQ tr R) := if_neg h
theorem de_dup (h1 : (rQ tr R).fa = 0) (h2 : 0 ≤ (rQ tr R).st (vl (R.at + 1)).toNatClampNeg) : rDe tr vl R = rFa (rQ tr R) := (if_pos h1).trans (if_pos h2)
theorem de_ok (h1 : (rQ tr R).fa = 0) (h2 : ¬ 0 ≤ (rQ tr R).st (vl (R.at + 1)).toNatClampNeg) : rDe tr vl R = rPu 3 0 0 (rPu 5 0 0 (rDf (vl (R.at + 1)).toNatClampNeg (vl (rXp tr 40 (rXp tr 97 (rAt (R.at + 1) R))).at) (rEm 13 0 0 (rPu 21 (nI (rQ tr R).n) 0 (rWi 1 (rDd (rQ tr R))))))) := (if_pos h1).trans (if_neg h2)
theorem i_21 : rst1 tr vl pl q 21 x y R = rSx x.toNatClampNeg (rWi 0 (rEm 15 0 0 R)) := rfl
theorem s_def (hT : TC tk tv tr vl pl q) {M : Nat} {rest : List (Int32 × Int32 × Int32)} {c : PS → PR} (hI : TI q S R) (h260 : tk S.p = 260) (hdp : R.dp = nI 0) (hs : Stk R rest) (hl : rest.length ≤ 10) (hN : 10 * (q - S.p) + 50 ≤ M) (K : ∀ S' R' N', TI q S' R' → Stk R' rest → R'.dp = nI 0 → M + 1 ≤ N' + 10 * (S'.p - S.p) → S.p < S'.p → OK tr vl pl q (TI q) (c S') N' R') : OK tr vl pl q (TI q) (pB (pDf tk tv q (pSL tk tv q 6).2 S) c) M (rDe tr vl R) := by
  have hq := hT.1
  obtain ⟨hj, hcs, ht, hr, hw, hB, hEN⟩ := hI
  obtain ⟨M', rfl⟩ : ∃ L, M = L + 1 := ⟨M - 1, by omega⟩
  have l0 := p_lt hT hj (by rw [h260]; decide)
  have v0 := adv_lt hq l0
  have j1 : J q (adv q S) (rAt (R.at + 1) R) := J_adv hq hj l0 a_at (q_at q_r)
  have fail : ∀ X, ¬ (rQ tr R).fa = 0 → OK tr vl pl q (TI q) (.inl X) (M' + 1) (rDe tr vl R) := by
    intro X h
    rw [de_bad h]
    exact bad fa_fa
  unfold pDf
  rw [pB_B, pX_pos h260, pB_B]
  by_cases h1 : ¬ tk (adv q S).p = 257
  · rw [pX_neg h1]
    refine fail _ ?_
    unfold rQ
    rw [xp_no (k := 97) (R := rAt (R.at + 1) R) (fun z => h1 ((tk_257 hT j1).mp z))]
    exact fa_xp (fa_xp (fa_xp (fa_xp fa_fa)))
  have h1 := Decidable.not_not.mp h1
  rw [pX_pos h1]
  have x1 := xp_at ((tk_257 hT j1).mpr h1)
  have l1 := p_lt hT j1 (by rw [h1]; decide)
  have v1 := adv_lt hq l1
  obtain ⟨k, k1, k2, k3⟩ := (hT.2.2.2 _ l1).2.2 h1
  have ek : (tv (adv q S).p).toInt32.toNatClampNeg = k := by rw [k2, zL_i32, nI_clamp (by omega)]
  have pa1 : (adv q S).p = R.at + 1 := by rw [v0.1, hj.1]
  have ek' : (vl (R.at + 1)).toNatClampNeg = k := by rw [← pa1, k3, nI_clamp (by omega)]
  have j2 : J q (adv q (adv q S)) (rAt (R.at + 1 + 1) R) := J_adv hq j1 l1 a_at (q_at (q_at q_r))
  have pa2 : (adv q (adv q S)).p = R.at + 1 + 1 := by rw [v1.1, pa1]
  have ee2 : (adv q (adv q S)).e = S.e := v1.2.2.2.2.1.trans v0.2.2.2.2.1
  rw [ek, ee2]
  have xst : ∀ (z : Int32) (R' : RS), (rXp tr z R').st = R'.st := by
    intro z R'
    unfold rXp
    split
    · exact F_rAt_st _ _
    · rfl
  have st6 : (rQ tr R).st = R.st := by
    unfold rQ
    rw [xst, xst, xst, xst, xst]
    exact F_rAt_st _ _
  by_cases hB1 : ¬ S.e k = -1
  · rw [if_neg hB1]
    by_cases hf : (rQ tr R).fa = 0
    · rw [de_dup hf]
      · exact bad fa_fa
      · rw [st6, ek']
        rcases hEN k k1 with h | ⟨b, b1, b2, b3, _⟩
        · exact absurd h.1 hB1
        · rw [b3]
          have pg := psi_ge (o := R.o) R.n
          have sn := S.hn
          have k5 := hj.2.2.2.2
          exact nI_pos' (by omega)
    · exact fail _ hf
  have hB1 := Decidable.not_not.mp hB1
  rw [if_pos hB1, pB_B]
  by_cases h2 : ¬ tk (adv q (adv q S)).p = 40
  · rw [pX_neg h2]
    refine fail _ ?_
    unfold rQ
    rw [x1, show (rAt (R.at + 1) R).at = R.at + 1 from rfl, at_at, xp_no (k := 40) (R := rAt (R.at + 1 + 1) R) (fun z => h2 ((tk_40 hT j2).mp z))]
    exact fa_xp (fa_xp (fa_xp fa_fa))
  have h2 := Decidable.not_not.mp h2
  rw [pX_pos h2, pB_B]
  have x2 := xp_at ((tk_40 hT j2).mpr h2)
  have l2 := p_lt hT j2 (by rw [h2]; decide)
  have v2 := adv_lt hq l2
  have j3 : J q (adv q (adv q (adv q S))) (rAt (R.at + 1 + 1 + 1) R) := J_adv hq j2 l2 a_at (q_at (q_at q_r))
  have pa3 : (adv q (adv q (adv q S))).p = R.at + 1 + 1 + 1 := by rw [v2.1, pa2]
  have e12 : rXp tr 40 (rXp tr 97 (rAt (R.at + 1) R)) = rAt (R.at + 1 + 1 + 1) R := by
    rw [x1, show (rAt (R.at + 1) R).at = R.at + 1 from rfl, at_at, x2, show (rAt (R.at + 1 + 1) R).at = R.at + 1 + 1 from rfl, at_at]
  have eQ : rQ tr R = rXp tr 123 (rXp tr 41 (rXp tr 97 (rAt (R.at + 1 + 1 + 1) R))) := by
    unfold rQ
    rw [e12]
  by_cases h3 : ¬ tk (adv q (adv q (adv q S))).p = 257
  · rw [pX_neg h3]
    refine fail _ ?_
    rw [eQ, xp_no (k := 97) (R := rAt (R.at + 1 + 1 + 1) R) (fun z => h3 ((tk_257 hT j3).mp z))]
    exact fa_xp (fa_xp fa_fa)
  have h3 := Decidable.not_not.mp h3
  rw [pX_pos h3, pB_B]
  have x3 := xp_at ((tk_257 hT j3).mpr h3)
  rw [show (rAt (R.at + 1 + 1 + 1) R).at = R.at + 1 + 1 + 1 from rfl, at_at] at x3
  have l3 := p_lt hT j3 (by rw [h3]; decide)
  have v3 := adv_lt hq l3
  obtain ⟨p, p1, p2, p3⟩ := (hT.2.2.2 _ l3).2.2 h3
  have j4 : J q (adv q (adv q (adv q (adv q S)))) (rAt (R.at + 1 + 1 + 1 + 1) R) := J_adv hq j3 l3 a_at (q_at (q_at q_r))
  have pa4 : (adv q (adv q (adv q (adv q S)))).p = R.at + 1 + 1 + 1 + 1 := by rw [v3.1, pa3]
  by_cases h4 : ¬ tk (adv q (adv q (adv q (adv q S)))).p = 41
  · rw [pX_neg h4]
    refine fail _ ?_
    rw [eQ, x3, xp_no (k := 41) (R := rAt (R.at + 1 + 1 + 1 + 1) R) (fun z => h4 ((tk_41 hT j4).mp z))]
    exact fa_xp fa_fa
  have h4 := Decidable.not_not.mp h4
  rw [pX_pos h4, pB_B]
  have x4 := xp_at ((tk_41 hT j4).mpr h4)
  rw [show (rAt (R.at + 1 + 1 + 1 + 1) R).at = R.at + 1 + 1 + 1 + 1 from rfl, at_at] at x4
  have l4 := p_lt hT j4 (by rw [h4]; decide)
  have v4 := adv_lt hq l4
  have j5 : J q (adv q (adv q (adv q (adv q (adv q S))))) (rAt (R.at + 1 + 1 + 1 + 1 + 1) R) := J_adv hq j4 l4 a_at (q_at (q_at q_r))
  have pa5 : (adv q (adv q (adv q (adv q (adv q S))))).p = R.at + 1 + 1 + 1 + 1 + 1 := by rw [v4.1, pa4]
  have vp : tv (adv q (adv q (adv q S))).p = zL p := p2
  rw [vp, zL_i32]
  have sm5 : Sm S R (adv q (adv q (adv q (adv q (adv q S))))) (rAt (R.at + 1 + 1 + 1 + 1 + 1) R) :=
    Sm_trans (Sm_trans (Sm_trans (Sm_trans (Sm_adv hq l0 (q_at q_r)) (Sm_adv (R := rAt (R.at + 1) R) hq l1 (q_at q_r))) (Sm_adv (R := rAt (R.at + 1 + 1) R) hq l2 (q_at q_r))) (Sm_adv (R := rAt (R.at + 1 + 1 + 1) R) hq l3 (q_at q_r))) (Sm_adv (R := rAt (R.at + 1 + 1 + 1 + 1) R) hq l4 (q_at q_r))
  generalize hS5 : adv q (adv q (adv q (adv q (adv q S)))) = S5 at *
  have n5 : S5.n = S.n := sm5.2.2.2
  have eQ2 : rQ tr R = rXp tr 123 (rAt (R.at + 1 + 1 + 1 + 1 + 1) R) := by rw [eQ, x3, x4]
  -- the jump over the function
  obtain ⟨m1, m2, m3, m4, m5, m6, m7, m8⟩ := em_0 (P := rAt (R.at + 1 + 1 + 1 + 1 + 1) R) (o := 310) (v := 0) (k := 13) (x := 0) (y := 0) j5 (show S5.n < 600 by omega) (by decide) rfl q_r
  have p6 : (emt 310 0 S5).p = S5.p := emt_p
  have ee6 : (emt 310 0 S5).e = S.e := by rw [m2.2.2.2.1, sm5.1.2.2.2.1]
  have ea6 : (emt 310 0 S5).a = S.a := by rw [m2.2.2.2.2.1, sm5.1.2.2.2.2.1]
  generalize hS6 : emt 310 0 S5 = S6 at *
  have p7 : (sw 1 (dfn k (nI p) S6)).p = S6.p := rfl
  unfold pBr
  rw [pB_B]
  by_cases h5 : ¬ tk S5.p = 123
  · rw [pX_neg (show ¬ tk (sw 1 (dfn k (nI p) S6)).p = 123 by rw [p7, p6]; exact h5)]
    refine fail _ ?_
    rw [eQ2, xp_no (k := 123) (R := rAt (R.at + 1 + 1 + 1 + 1 + 1) R) (fun z => h5 ((tk_123 hT j5).mp z))]
    exact fa_fa
  have h5 := Decidable.not_not.mp h5
  rw [pX_pos (show tk (sw 1 (dfn k (nI p) S6)).p = 123 by rw [p7, p6]; exact h5)]
  have x5 := xp_at ((tk_123 hT j5).mpr h5)
  rw [show (rAt (R.at + 1 + 1 + 1 + 1 + 1) R).at = R.at + 1 + 1 + 1 + 1 + 1 from rfl, at_at] at x5
  have l5 := p_lt hT j5 (by rw [h5]; decide)
  have eQ3 : rQ tr R = rAt (R.at + 1 + 1 + 1 + 1 + 1 + 1) R := by rw [eQ2, x5]
  have l7 : (sw 1 (dfn k (nI p) S6)).p < q := by rw [p7, p6]; exact l5
  have v7 := adv_lt hq l7
  rw [de_ok (by rw [eQ3]; exact hj.2.2.1) (by
    rw [st6, ek']
    rcases hEN k k1 with h | ⟨b, b1, b2, b3, _⟩
    · rw [h.2]
      decide
    · have pg := psi_ge (o := R.o) R.n
      have pm := psi_mono (o := R.o) (m := b) (n := R.n) (by omega)
      have sn := S.hn
      have k5 := hj.2.2.2.2
      exact absurd (b2.symm.trans hB1) (nI_m1 (by omega))), eQ3, dd_lt (R := rAt (R.at + 1 + 1 + 1 + 1 + 1 + 1) R) (d := 0) (d_at hdp) (by decide), ek', e12]
  have vp' : vl (rAt (R.at + 1 + 1 + 1) R).at = nI p := by
    rw [show (rAt (R.at + 1 + 1 + 1) R).at = R.at + 1 + 1 + 1 from rfl, ← pa3]
    exact p3
  rw [vp', show (rAt (R.at + 1 + 1 + 1 + 1 + 1 + 1) R).n = R.n from rfl]
  have s8 : Stk (rDf k (nI p) (rEm 13 0 0 (rPu 21 (nI R.n) 0 (rWi 1 (rDp (nI (0 + 1)) (rAt (R.at + 1 + 1 + 1 + 1 + 1 + 1) R)))))) ((21, nI R.n, 0) :: rest) := s_df (s_em (Stk_pu (s_wi (s_dp (s_at hs)))))
  have dp8 : (rDf k (nI p) (rEm 13 0 0 (rPu 21 (nI R.n) 0 (rWi 1 (rDp (nI (0 + 1)) (rAt (R.at + 1 + 1 + 1 + 1 + 1 + 1) R)))))).dp = nI 1 := by simp only [F_rAt_at, F_rAt_n, F_rAt_dp, F_rAt_fa, F_rAt_w, F_rAt_o, F_rAt_x, F_rAt_y, F_rAt_st, F_rAt_pa, F_rDp_at, F_rDp_n, F_rDp_dp, F_rDp_fa, F_rDp_w, F_rDp_o, F_rDp_x, F_rDp_y, F_rDp_st, F_rDp_pa, F_rWi_at, F_rWi_n, F_rWi_dp, F_rWi_fa, F_rWi_w, F_rWi_o, F_rWi_x, F_rWi_y, F_rWi_st, F_rWi_pa, F_rPu_at, F_rPu_n, F_rPu_dp, F_rPu_fa, F_rPu_w, F_rPu_o, F_rPu_x, F_rPu_y, F_rPu_st, F_rPu_pa, F_rEm_at, F_rEm_n, F_rEm_dp, F_rEm_fa, F_rEm_w, F_rEm_o, F_rEm_x, F_rEm_y, F_rEm_st, F_rEm_pa, F_rDf_at, F_rDf_n, F_rDf_dp, F_rDf_fa, F_rDf_w, F_rDf_o, F_rDf_x, F_rDf_y, F_rDf_st, F_rDf_pa]
  have at8 : (rDf k (nI p) (rEm 13 0 0 (rPu 21 (nI R.n) 0 (rWi 1 (rDp (nI (0 + 1)) (rAt (R.at + 1 + 1 + 1 + 1 + 1 + 1) R)))))).at = R.at + 1 + 1 + 1 + 1 + 1 + 1 := by simp only [F_rAt_at, F_rAt_n, F_rAt_dp, F_rAt_fa, F_rAt_w, F_rAt_o, F_rAt_x, F_rAt_y, F_rAt_st, F_rAt_pa, F_rDp_at, F_rDp_n, F_rDp_dp, F_rDp_fa, F_rDp_w, F_rDp_o, F_rDp_x, F_rDp_y, F_rDp_st, F_rDp_pa, F_rWi_at, F_rWi_n, F_rWi_dp, F_rWi_fa, F_rWi_w, F_rWi_o, F_rWi_x, F_rWi_y, F_rWi_st, F_rWi_pa, F_rPu_at, F_rPu_n, F_rPu_dp, F_rPu_fa, F_rPu_w, F_rPu_o, F_rPu_x, F_rPu_y, F_rPu_st, F_rPu_pa, F_rEm_at, F_rEm_n, F_rEm_dp, F_rEm_fa, F_rEm_w, F_rEm_o, F_rEm_x, F_rEm_y, F_rEm_st, F_rEm_pa, F_rDf_at, F_rDf_n, F_rDf_dp, F_rDf_fa, F_rDf_w, F_rDf_o, F_rDf_x, F_rDf_y, F_rDf_st, F_rDf_pa]
  have n8 : (rDf k (nI p) (rEm 13 0 0 (rPu 21 (nI R.n) 0 (rWi 1 (rDp (nI (0 + 1)) (rAt (R.at + 1 + 1 + 1 + 1 + 1 + 1) R)))))).n = R.n + 1 := by simp only [F_rAt_at, F_rAt_n, F_rAt_dp, F_rAt_fa, F_rAt_w, F_rAt_o, F_rAt_x, F_rAt_y, F_rAt_st, F_rAt_pa, F_rDp_at, F_rDp_n, F_rDp_dp, F_rDp_fa, F_rDp_w, F_rDp_o, F_rDp_x, F_rDp_y, F_rDp_st, F_rDp_pa, F_rWi_at, F_rWi_n, F_rWi_dp, F_rWi_fa, F_rWi_w, F_rWi_o, F_rWi_x, F_rWi_y, F_rWi_st, F_rWi_pa, F_rPu_at, F_rPu_n, F_rPu_dp, F_rPu_fa, F_rPu_w, F_rPu_o, F_rPu_x, F_rPu_y, F_rPu_st, F_rPu_pa, F_rEm_at, F_rEm_n, F_rEm_dp, F_rEm_fa, F_rEm_w, F_rEm_o, F_rEm_x, F_rEm_y, F_rEm_st, F_rEm_pa, F_rDf_at, F_rDf_n, F_rDf_dp, F_rDf_fa, F_rDf_w, F_rDf_o, F_rDf_x, F_rDf_y, F_rDf_st, F_rDf_pa]
  have fa8 : (rDf k (nI p) (rEm 13 0 0 (rPu 21 (nI R.n) 0 (rWi 1 (rDp (nI (0 + 1)) (rAt (R.at + 1 + 1 + 1 + 1 + 1 + 1) R)))))).fa = 0 := by simp only [F_rAt_at, F_rAt_n, F_rAt_dp, F_rAt_fa, F_rAt_w, F_rAt_o, F_rAt_x, F_rAt_y, F_rAt_st, F_rAt_pa, F_rDp_at, F_rDp_n, F_rDp_dp, F_rDp_fa, F_rDp_w, F_rDp_o, F_rDp_x, F_rDp_y, F_rDp_st, F_rDp_pa, F_rWi_at, F_rWi_n, F_rWi_dp, F_rWi_fa, F_rWi_w, F_rWi_o, F_rWi_x, F_rWi_y, F_rWi_st, F_rWi_pa, F_rPu_at, F_rPu_n, F_rPu_dp, F_rPu_fa, F_rPu_w, F_rPu_o, F_rPu_x, F_rPu_y, F_rPu_st, F_rPu_pa, F_rEm_at, F_rEm_n, F_rEm_dp, F_rEm_fa, F_rEm_w, F_rEm_o, F_rEm_x, F_rEm_y, F_rEm_st, F_rEm_pa, F_rDf_at, F_rDf_n, F_rDf_dp, F_rDf_fa, F_rDf_w, F_rDf_o, F_rDf_x, F_rDf_y, F_rDf_st, F_rDf_pa]; exact hj.2.2.1
  have w8 : (rDf k (nI p) (rEm 13 0 0 (rPu 21 (nI R.n) 0 (rWi 1 (rDp (nI (0 + 1)) (rAt (R.at + 1 + 1 + 1 + 1 + 1 + 1) R)))))).w = 1 := by simp only [F_rAt_at, F_rAt_n, F_rAt_dp, F_rAt_fa, F_rAt_w, F_rAt_o, F_rAt_x, F_rAt_y, F_rAt_st, F_rAt_pa, F_rDp_at, F_rDp_n, F_rDp_dp, F_rDp_fa, F_rDp_w, F_rDp_o, F_rDp_x, F_rDp_y, F_rDp_st, F_rDp_pa, F_rWi_at, F_rWi_n, F_rWi_dp, F_rWi_fa, F_rWi_w, F_rWi_o, F_rWi_x, F_rWi_y, F_rWi_st, F_rWi_pa, F_rPu_at, F_rPu_n, F_rPu_dp, F_rPu_fa, F_rPu_w, F_rPu_o, F_rPu_x, F_rPu_y, F_rPu_st, F_rPu_pa, F_rEm_at, F_rEm_n, F_rEm_dp, F_rEm_fa, F_rEm_w, F_rEm_o, F_rEm_x, F_rEm_y, F_rEm_st, F_rEm_pa, F_rDf_at, F_rDf_n, F_rDf_dp, F_rDf_fa, F_rDf_w, F_rDf_o, F_rDf_x, F_rDf_y, F_rDf_st, F_rDf_pa]
  have o8 : (rDf k (nI p) (rEm 13 0 0 (rPu 21 (nI R.n) 0 (rWi 1 (rDp (nI (0 + 1)) (rAt (R.at + 1 + 1 + 1 + 1 + 1 + 1) R)))))).o = upd R.o R.n 13 := by simp only [F_rAt_at, F_rAt_n, F_rAt_dp, F_rAt_fa, F_rAt_w, F_rAt_o, F_rAt_x, F_rAt_y, F_rAt_st, F_rAt_pa, F_rDp_at, F_rDp_n, F_rDp_dp, F_rDp_fa, F_rDp_w, F_rDp_o, F_rDp_x, F_rDp_y, F_rDp_st, F_rDp_pa, F_rWi_at, F_rWi_n, F_rWi_dp, F_rWi_fa, F_rWi_w, F_rWi_o, F_rWi_x, F_rWi_y, F_rWi_st, F_rWi_pa, F_rPu_at, F_rPu_n, F_rPu_dp, F_rPu_fa, F_rPu_w, F_rPu_o, F_rPu_x, F_rPu_y, F_rPu_st, F_rPu_pa, F_rEm_at, F_rEm_n, F_rEm_dp, F_rEm_fa, F_rEm_w, F_rEm_o, F_rEm_x, F_rEm_y, F_rEm_st, F_rEm_pa, F_rDf_at, F_rDf_n, F_rDf_dp, F_rDf_fa, F_rDf_w, F_rDf_o, F_rDf_x, F_rDf_y, F_rDf_st, F_rDf_pa]
  have x8 : (rDf k (nI p) (rEm 13 0 0 (rPu 21 (nI R.n) 0 (rWi 1 (rDp (nI (0 + 1)) (rAt (R.at + 1 + 1 + 1 + 1 + 1 + 1) R)))))).x = upd R.x R.n 0 := by simp only [F_rAt_at, F_rAt_n, F_rAt_dp, F_rAt_fa, F_rAt_w, F_rAt_o, F_rAt_x, F_rAt_y, F_rAt_st, F_rAt_pa, F_rDp_at, F_rDp_n, F_rDp_dp, F_rDp_fa, F_rDp_w, F_rDp_o, F_rDp_x, F_rDp_y, F_rDp_st, F_rDp_pa, F_rWi_at, F_rWi_n, F_rWi_dp, F_rWi_fa, F_rWi_w, F_rWi_o, F_rWi_x, F_rWi_y, F_rWi_st, F_rWi_pa, F_rPu_at, F_rPu_n, F_rPu_dp, F_rPu_fa, F_rPu_w, F_rPu_o, F_rPu_x, F_rPu_y, F_rPu_st, F_rPu_pa, F_rEm_at, F_rEm_n, F_rEm_dp, F_rEm_fa, F_rEm_w, F_rEm_o, F_rEm_x, F_rEm_y, F_rEm_st, F_rEm_pa, F_rDf_at, F_rDf_n, F_rDf_dp, F_rDf_fa, F_rDf_w, F_rDf_o, F_rDf_x, F_rDf_y, F_rDf_st, F_rDf_pa]
  have y8 : (rDf k (nI p) (rEm 13 0 0 (rPu 21 (nI R.n) 0 (rWi 1 (rDp (nI (0 + 1)) (rAt (R.at + 1 + 1 + 1 + 1 + 1 + 1) R)))))).y = upd R.y R.n 0 := by simp only [F_rAt_at, F_rAt_n, F_rAt_dp, F_rAt_fa, F_rAt_w, F_rAt_o, F_rAt_x, F_rAt_y, F_rAt_st, F_rAt_pa, F_rDp_at, F_rDp_n, F_rDp_dp, F_rDp_fa, F_rDp_w, F_rDp_o, F_rDp_x, F_rDp_y, F_rDp_st, F_rDp_pa, F_rWi_at, F_rWi_n, F_rWi_dp, F_rWi_fa, F_rWi_w, F_rWi_o, F_rWi_x, F_rWi_y, F_rWi_st, F_rWi_pa, F_rPu_at, F_rPu_n, F_rPu_dp, F_rPu_fa, F_rPu_w, F_rPu_o, F_rPu_x, F_rPu_y, F_rPu_st, F_rPu_pa, F_rEm_at, F_rEm_n, F_rEm_dp, F_rEm_fa, F_rEm_w, F_rEm_o, F_rEm_x, F_rEm_y, F_rEm_st, F_rEm_pa, F_rDf_at, F_rDf_n, F_rDf_dp, F_rDf_fa, F_rDf_w, F_rDf_o, F_rDf_x, F_rDf_y, F_rDf_st, F_rDf_pa]
  have st8 : (rDf k (nI p) (rEm 13 0 0 (rPu 21 (nI R.n) 0 (rWi 1 (rDp (nI (0 + 1)) (rAt (R.at + 1 + 1 + 1 + 1 + 1 + 1) R)))))).st = upd R.st k (nI (R.n + 1)) := by simp only [F_rAt_at, F_rAt_n, F_rAt_dp, F_rAt_fa, F_rAt_w, F_rAt_o, F_rAt_x, F_rAt_y, F_rAt_st, F_rAt_pa, F_rDp_at, F_rDp_n, F_rDp_dp, F_rDp_fa, F_rDp_w, F_rDp_o, F_rDp_x, F_rDp_y, F_rDp_st, F_rDp_pa, F_rWi_at, F_rWi_n, F_rWi_dp, F_rWi_fa, F_rWi_w, F_rWi_o, F_rWi_x, F_rWi_y, F_rWi_st, F_rWi_pa, F_rPu_at, F_rPu_n, F_rPu_dp, F_rPu_fa, F_rPu_w, F_rPu_o, F_rPu_x, F_rPu_y, F_rPu_st, F_rPu_pa, F_rEm_at, F_rEm_n, F_rEm_dp, F_rEm_fa, F_rEm_w, F_rEm_o, F_rEm_x, F_rEm_y, F_rEm_st, F_rEm_pa, F_rDf_at, F_rDf_n, F_rDf_dp, F_rDf_fa, F_rDf_w, F_rDf_o, F_rDf_x, F_rDf_y, F_rDf_st, F_rDf_pa]
  have pa8 : (rDf k (nI p) (rEm 13 0 0 (rPu 21 (nI R.n) 0 (rWi 1 (rDp (nI (0 + 1)) (rAt (R.at + 1 + 1 + 1 + 1 + 1 + 1) R)))))).pa = upd R.pa k (nI p) := by simp only [F_rAt_at, F_rAt_n, F_rAt_dp, F_rAt_fa, F_rAt_w, F_rAt_o, F_rAt_x, F_rAt_y, F_rAt_st, F_rAt_pa, F_rDp_at, F_rDp_n, F_rDp_dp, F_rDp_fa, F_rDp_w, F_rDp_o, F_rDp_x, F_rDp_y, F_rDp_st, F_rDp_pa, F_rWi_at, F_rWi_n, F_rWi_dp, F_rWi_fa, F_rWi_w, F_rWi_o, F_rWi_x, F_rWi_y, F_rWi_st, F_rWi_pa, F_rPu_at, F_rPu_n, F_rPu_dp, F_rPu_fa, F_rPu_w, F_rPu_o, F_rPu_x, F_rPu_y, F_rPu_st, F_rPu_pa, F_rEm_at, F_rEm_n, F_rEm_dp, F_rEm_fa, F_rEm_w, F_rEm_o, F_rEm_x, F_rEm_y, F_rEm_st, F_rEm_pa, F_rDf_at, F_rDf_n, F_rDf_dp, F_rDf_fa, F_rDf_w, F_rDf_o, F_rDf_x, F_rDf_y, F_rDf_st, F_rDf_pa]
  generalize rDf k (nI p) (rEm 13 0 0 (rPu 21 (nI R.n) 0 (rWi 1 (rDp (nI (0 + 1)) (rAt (R.at + 1 + 1 + 1 + 1 + 1 + 1) R))))) = R8 at *
  have e8n : (adv q (sw 1 (dfn k (nI p) S6))).n = S6.n := v7.2.1
  have e8f : (adv q (sw 1 (dfn k (nI p) S6))).f = S6.f := v7.2.2.1
  have e8g : (adv q (sw 1 (dfn k (nI p) S6))).g = S6.g := v7.2.2.2.1
  have e8e : (adv q (sw 1 (dfn k (nI p) S6))).e = upd S.e k (nI S6.n) := v7.2.2.2.2.1.trans (by rw [← ee6]; rfl)
  have e8a : (adv q (sw 1 (dfn k (nI p) S6))).a = upd S.a k (nI p) := v7.2.2.2.2.2.1.trans (by rw [← ea6]; rfl)
  have e8w : (adv q (sw 1 (dfn k (nI p) S6))).w = 1 := v7.2.2.2.2.2.2
  have e8p : (adv q (sw 1 (dfn k (nI p) S6))).p = S5.p + 1 := by rw [v7.1, p7, p6]
  generalize hS8 : adv q (sw 1 (dfn k (nI p) S6)) = S8 at *
  have k5 := hj.2.2.2.2
  have cg : ∀ b, b < R.n → R8.o b = R.o b := fun b hb => by rw [o8, upd_ne (by omega)]
  have ps8 : psi R8.o R.n = psi R.o R.n := psi_cg cg
  have ta8 : tau R8.o R.n = 0 := (tau_cg cg).trans ht
  have rh8 : rho R8.o R.n = false := (rho_cg cg).trans hr
  have oo8 : R8.o R.n = 13 := by rw [o8, upd_eq]
  have sn6 : S6.n = S.n + 1 := by rw [m8, n5]
  have ps9 : psi R8.o (R.n + 1) = S6.n := by
    show psi R8.o R.n + (if R8.o R.n = 15 then 2 else 1) = _
    rw [oo8, if_neg (by decide), ps8, ← k5, sn6]
  have ta9 : tau R8.o (R.n + 1) = 0 := by
    rw [o8, ta_s]
    rfl
  have rh9 : rho R8.o (R.n + 1) = true := by rw [o8, rh_s, if_neg (by decide), if_pos ⟨rfl, ht⟩]
  have j8 : J q S8 R8 := ⟨by rw [e8p, pa5, at8], by omega, fa8, by rw [e8w, w8], by rw [e8n, n8, ps9]⟩
  have q9 : Eqc R8 (rPu 3 0 0 (rPu 5 0 0 R8)) := q_pu (q_pu q_r)
  obtain ⟨_, sl⟩ := s_SL (G := TI q) hT 5 1 rfl
  have pS : S5.p = S.p + 5 := by rw [pa5, hj.1]
  refine sl S8 (rPu 3 0 0 (rPu 5 0 0 R8)) (M' + 1) ((5, 0, 0) :: (21, nI R.n, 0) :: rest) _ (Eqc_J j8 (a_pu.trans a_pu) q9) (d_pu (d_pu dp8)) (Stk_pu (Stk_pu s8)) (by rw [List.length_cons, List.length_cons]; omega) (by omega) (by rw [t_q q9, n8]; exact ta9) (Or.inr (by rw [q9.1, q9.2.2.2.1, n8]; exact rh9)) (by omega) ?_
  intro S9 R9 N9 sc st9 dp9 hN9 hp9
  have sc2 := SC_pre (Sm_R (S := S8) q9) sc
  obtain ⟨c1, c2, c3, c4, c5, c6, c7⟩ := sc2
  have hq9 := c1.2.1
  have cn := c2.1
  have cm := c2.2.2.2.2.2.2.2.2.1
  obtain ⟨M9, rfl⟩ : ∃ L, N9 = L + 1 + 1 := ⟨N9 - 2, by omega⟩
  refine go st9 c1.2.2.1 (J_RB c1 st9 (by rw [List.length_cons]; omega)) fun P e a dp stP => ?_
  rw [i_5]
  have j10 : J q S9 (rDp (P.dp - 1) P) := Eqc_J c1 (a_dp.trans a) (q_dp e)
  refine go (s_dp stP) j10.2.2.1 (J_RB j10 (s_dp stP) (by omega)) fun P2 e2 a2 dp2 stP2 => ?_
  have eP2 : Eqc R9 P2 := by
    obtain ⟨u1, u2, u3, u4, u5, u6, u7, u8⟩ := e2
    obtain ⟨w1, w2, w3, w4, w5, w6, w7, w8⟩ := q_dp (v := P.dp - 1) e
    exact ⟨u1.trans w1, u2.trans w2, u3.trans w3, u4.trans w4, u5.trans w5, u6.trans w6, u7.trans w7, u8.trans w8⟩
  have aP2 : P2.at = R9.at := a2.trans (a_dp.trans a)
  have dP2 : P2.dp = nI 0 := by
    rw [dp2, dp, dp9]
    exact d_dp.trans (nI_pred 0)
  have pg := psi_ge (o := R.o) R.n
  have sn := S.hn
  rw [i_21, nI_clamp (show R.n < 2 ^ 31 by omega)]
  have r9 : rho R9.o R9.n = true := by rw [c5, n8, rh9]
  obtain ⟨z1, z2, z3, z4, z5, z6, z7, z8, z9, z10, z11, z12, z13⟩ := em_end (P := P2) c1 (by omega) aP2 eP2 c4 r9
  have sE : Stk (rWi 0 (rEm 15 0 0 P2)) rest := s_wi (s_em stP2)
  have dE : (rWi 0 (rEm 15 0 0 P2)).dp = nI 0 := d_wi (d_em dP2)
  have wE : (rWi 0 (rEm 15 0 0 P2)).w = 0 := F_rWi_w _ _
  generalize hS10 : emt 309 0 (emt 301 0 (sw 0 S9)) = S10 at *
  generalize hR10 : rWi 0 (rEm 15 0 0 P2) = R10 at *
  have nn : S6.n - 1 = S.n := by omega
  rw [nn]
  -- all that lies below
  have lo : ∀ b, b < R9.n → R10.o b = R9.o b ∧ R10.x b = R9.x b ∧ R10.y b = R9.y b := fun b hb => by
    rw [z3, z5, z6, upd_ne (by omega), upd_ne (by omega), upd_ne (by omega)]
    exact ⟨rfl, rfl, rfl⟩
  have lo8 : ∀ b, b < R.n + 1 → R10.o b = R8.o b := fun b hb => by
    rw [(lo b (by omega)).1, (c2.2.1 b (by omega)).1]
  have hps : psi R10.o R.n = S.n := by rw [psi_cg (fun b hb => lo8 b (by omega)), ps8, k5]
  have hta : tau R10.o R.n = 0 := by rw [tau_cg (fun b hb => lo8 b (by omega)), ta8]
  have hrh : rho R10.o R.n = false := by rw [rho_cg (fun b hb => lo8 b (by omega)), rh8]
  have hps1 : psi R10.o (R.n + 1) = S6.n := by rw [psi_cg (fun b hb => lo8 b (by omega)), ps9]
  have hta1 : tau R10.o (R.n + 1) = 0 := by rw [tau_cg (fun b hb => lo8 b (by omega)), ta9]
  have hrh1 : rho R10.o (R.n + 1) = true := by rw [rho_cg (fun b hb => lo8 b (by omega)), rh9]
  have fin : tau R10.o R10.n = 0 := by
    rw [z3, z4, ta_s]
    rfl
  have fin2 : rho R10.o R10.n = false := by rw [z3, z4, rh_s, if_pos rfl]
  have f310 : S10.f (psi R10.o R.n) = 310 := by
    rw [hps, (z11 S.n (by omega)).1, (c2.2.2.1 S.n (by omega)).1, e8f, m6, ← n5, upd_eq]
  have all : ∀ b, 0 ≤ b → b < R10.n → b ≠ R.n → LC S10.f S10.g R10.o R10.x R10.y R10.n b := by
    intro b _ h2 h3
    by_cases hb : b < R.n
    · refine LC_Fr (n := R.n) (fun d hd => ?_) hb ?_ ?_ (fun d _ hd => ?_) (by omega) (hcs b (Nat.zero_le _) hb)
      · rw [lo8 d (by omega), cg d hd]
      · rw [(lo b (by omega)).2.1, (c2.2.1 b (by omega)).2.1, x8, upd_ne (by omega)]
      · rw [(lo b (by omega)).2.2, (c2.2.1 b (by omega)).2.2, y8, upd_ne (by omega)]
      · have pm := psi_mono (o := R.o) (m := b + 1) (n := R.n) (by omega)
        have f5 := sm5.1.2.2.1 d (by omega)
        have f6 := m2.2.2.1 d (by omega)
        rw [(z11 d (by omega)).1, (z11 d (by omega)).2, (c2.2.2.1 d (by omega)).1, (c2.2.2.1 d (by omega)).2, e8f, e8g]
        exact ⟨f6.1.trans f5.1, f6.2.trans f5.2⟩
    · by_cases hb2 : b < R9.n
      · refine LC_Fr (n := R9.n) (fun d hd => (lo d hd).1) hb2 (lo b hb2).2.1 (lo b hb2).2.2 (fun d _ hd => ?_) (by omega) (c3 b (by omega) hb2)
        have pm := psi_mono (o := R9.o) (m := b + 1) (n := R9.n) (by omega)
        exact z11 d (by rw [c1.2.2.2.2]; omega)
      · exact z2 b (by omega) h2
  obtain ⟨y1, y2, y3, y4, y5, y6, y7, y8, y9, y10, y11⟩ := patch0 (b0 := R.n) (lo := 0) (a := S.n) (P := R10) z1 (by omega) (by omega) q_r rfl all (Or.inr ⟨by rw [lo8 R.n (by omega), oo8], f310, hta, hrh⟩) fin (by rw [fin2, hrh]) hps
  refine K _ _ M9 ⟨y1, y2, by rw [y5, y6]; exact fin, by rw [y5, y6]; exact fin2, y11.trans wE, by omega, ?_⟩ (s_sx sE) (d_sx dE) (by omega) (by omega)
  intro v hv
  rw [y5, y6, y7, y8, y9, y10, z12, z13, z7, z8, c2.2.2.2.1, c2.2.2.2.2.1, c2.2.2.2.2.2.1, c2.2.2.2.2.2.2.1, e8e, e8a, st8, pa8]
  by_cases hvk : v = k
  · subst hvk
    rw [upd_eq, upd_eq, upd_eq, upd_eq]
    refine Or.inr ⟨R.n + 1, by omega, by rw [hps1], rfl, hta1, hrh1, ?_, p, p1, rfl, rfl⟩
    rw [n8] at c7
    rcases c7 with c7 | c7
    · refine Or.inr ?_
      rw [z3, ← c7, upd_eq]
    · by_cases hlt : R.n + 1 < R9.n
      · refine Or.inl ?_
        rw [(lo (R.n + 1) hlt).1, c7]
      · refine Or.inr ?_
        rw [z3, show R.n + 1 = R9.n by omega, upd_eq]
  · rw [upd_ne hvk, upd_ne hvk, upd_ne hvk, upd_ne hvk]
    rcases hEN v hv with h | ⟨b, b1, b2, b3, b4, b5, b6, b7⟩
    · exact Or.inl h
    · have up : ∀ d, d < b + 1 → R10.o d = R.o d := fun d hd => by rw [lo8 d (by omega), cg d (by omega)]
      refine Or.inr ⟨b, by omega, ?_, b3, ?_, ?_, ?_, b7⟩
      · rw [psi_cg (fun d hd => up d (by omega))]
        exact b2
      · rw [tau_cg (fun d hd => up d (by omega))]
        exact b4
      · rw [rho_cg (fun d hd => up d (by omega))]
        exact b5
      · rw [up b (by omega)]
        exact b6
end ST
