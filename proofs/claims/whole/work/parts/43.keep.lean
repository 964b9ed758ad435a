/-! The two parsers keep step: expressions. -/
def EC (q : Nat) (S : PS) (R : RS) (S' : PS) (R' : RS) : Prop :=
  J q S' R' ∧ Fr S R S' R' ∧ CS S' R' R.n ∧ tau R'.o R'.n = hh (tau R.o R.n) + 1 ∧ S.p < S'.p ∧ S'.n + S.p ≤ S.n + S'.p ∧ R.n < R'.n ∧ R'.o R.n ≠ 13 ∧ rho R'.o R'.n = rho R.o R.n
section SI
variable {tk : Nat → Int32} {tv : Nat → Int64} {tr vl pl : Nat → Int32} {q : Nat} {G : PS → RS → Prop}
/-- a method of the parser and an item of the plan keep step -/
def SimE (tr vl pl : Nat → Int32) (q : Nat) (G : PS → RS → Prop) (X H P : Nat) (w : Int32) (d : Nat) (E : PS → PR) : Prop := ∀ S R N rest (c : PS → PR), J q S R → R.dp = nI d → Stk R ((w, 0, 0) :: rest) → rest.length ≤ P → S.n + 3 * q ≤ 601 + 3 * S.p → hh (tau R.o R.n) ≤ H → 10 * (q - S.p) + 29 ≤ N + X → (∀ S' R' N', EC q S R S' R' → Stk R' rest → R'.dp = nI d → N + X ≤ N' + 10 * (S'.p - S.p) → OK tr vl pl q G (c S') N' R') → OK tr vl pl q G (pB (E S) c) N R
theorem bad {S : PS} {N : Nat} {R : RS} (h : ¬ R.fa = 0) : OK tr vl pl q G (.inl S) (N + 1) R := by
  unfold OK
  rw [if_neg h]
  exact ⟨S, rfl⟩
theorem J_RB {S : PS} {R : RS} {w : Int32 × Int32 × Int32} {rest : List (Int32 × Int32 × Int32)} (hj : J q S R) (hs : Stk R (w :: rest)) (hp : rest.length ≤ 399) : RB q R := by
  obtain ⟨h1, h2, h3, h4, h5⟩ := hj
  have sl := stk_len hs
  have e := psi_ge (o := R.o) R.n
  have := S.hn
  have l : (w :: rest).length = rest.length + 1 := rfl
  exact ⟨by omega, by omega, by omega⟩
theorem tk_iff {S : PS} {R : RS} (hT : TC tk tv tr vl pl q) (hj : J q S R) (c : Int32) (hc : c ∈ TK) : tr R.at = kp c ↔ tk S.p = c := by
  have h := hT.2.2.1 S.p hj.2.1
  rw [← hj.1, h.2]
  constructor
  · exact kp_inj _ h.1 _ hc
  · intro e
    rw [e]
theorem adv_lt (hq : q ≤ 200) {S : PS} (h : S.p < q) : (adv q S).p = S.p + 1 ∧ (adv q S).n = S.n ∧ (adv q S).f = S.f ∧ (adv q S).g = S.g ∧ (adv q S).e = S.e ∧ (adv q S).a = S.a ∧ (adv q S).w = S.w := by
  unfold adv
  rw [dif_pos ⟨h, by omega⟩]
  exact ⟨rfl, rfl, rfl, rfl, rfl, rfl, rfl⟩
theorem emt_lt {S : PS} {o : Int32} {v : Int64} (h : S.n < 600) : (emt o v S).n = S.n + 1 ∧ (emt o v S).f = upd S.f S.n o ∧ (emt o v S).g = vp_updL S.g S.n v ∧ (emt o v S).e = S.e ∧ (emt o v S).a = S.a := by
  unfold emt
  rw [dif_pos h]
  exact ⟨rfl, rfl, rfl, rfl, rfl⟩
/-- the same code -/
def Eqc (R R' : RS) : Prop := R'.n = R.n ∧ R'.fa = R.fa ∧ R'.w = R.w ∧ R'.o = R.o ∧ R'.x = R.x ∧ R'.y = R.y ∧ R'.st = R.st ∧ R'.pa = R.pa
theorem q_r {R : RS} : Eqc R R := ⟨rfl, rfl, rfl, rfl, rfl, rfl, rfl, rfl⟩
theorem q_at {R R' : RS} {v : Nat} (h : Eqc R R') : Eqc R (rAt v R') := h
theorem q_pc {R R' : RS} {v : Nat} (h : Eqc R R') : Eqc R (rPc v R') := h
theorem q_dp {R R' : RS} {v : Int32} (h : Eqc R R') : Eqc R (rDp v R') := h
theorem q_pu {R R' : RS} {w x y : Int32} (h : Eqc R R') : Eqc R (rPu w x y R') := h
/-- a token taken on both sides -/
theorem J_adv (hq : q ≤ 200) {S : PS} {R R' : RS} (hj : J q S R) (hl : S.p < q) (h1 : R'.at = R.at + 1) (h : Eqc R R') : J q (adv q S) R' := by
  have a := adv_lt hq hl
  obtain ⟨k1, k2, k3, k4, k5⟩ := hj
  obtain ⟨e1, e2, e3, e4, e5, e6, e7, e8⟩ := h
  exact ⟨by omega, by omega, by rw [e2, k3], by rw [a.2.2.2.2.2.2, k4, e3], by rw [a.2.1, k5, e4, e1]⟩
theorem Fr_adv (hq : q ≤ 200) {S : PS} {R R' : RS} (hl : S.p < q) (h : Eqc R R') : Fr S R (adv q S) R' := by
  have a := adv_lt hq hl
  obtain ⟨e1, e2, e3, e4, e5, e6, e7, e8⟩ := h
  refine ⟨by omega, fun b _ => by rw [e4, e5, e6]; exact ⟨rfl, rfl, rfl⟩, fun b _ => by rw [a.2.2.1, a.2.2.2.1]; exact ⟨rfl, rfl⟩, a.2.2.2.2.1, a.2.2.2.2.2.1, e7, e8, by omega, by omega, e3⟩
/-- one operation written on both sides -/
theorem em_J {S : PS} {R Rp : RS} {o k : Int32} {v : Int64} {c : Nat} {x y : Int32} (hj : J q S R) (hn : S.n < 600) (hk : k = nI c) (hc : k ≠ 15) (h1 : Rp.at = R.at) (hE : Eqc R Rp) (hv : LV (tau R.o R.n) (rho R.o R.n) o v x y c) : J q (emt o v S) (rEm k x y Rp) ∧ Fr S R (emt o v S) (rEm k x y Rp) ∧ CS (emt o v S) (rEm k x y Rp) R.n ∧ (rEm k x y Rp).o = upd R.o R.n k ∧ (rEm k x y Rp).n = R.n + 1 := by
  obtain ⟨e1, e2, e3, e4, e5, e6, e7, e8⟩ := hE
  generalize hR : rEm k x y Rp = R'
  have g1 : R'.at = R.at := by rw [← hR]; exact h1
  have g2 : R'.fa = R.fa := by rw [← hR]; exact e2
  have g3 : R'.w = R.w := by rw [← hR]; exact e3
  have h4 : R'.o = upd R.o R.n k := by rw [← hR, ← e4, ← e1]; rfl
  have h5 : R'.n = R.n + 1 := by rw [← hR, ← e1]; rfl
  have h6 : R'.x = upd R.x R.n x := by rw [← hR, ← e5, ← e1]; rfl
  have h7 : R'.y = upd R.y R.n y := by rw [← hR, ← e6, ← e1]; rfl
  have h8 : R'.st = R.st := by rw [← hR]; exact e7
  have h9 : R'.pa = R.pa := by rw [← hR]; exact e8
  have m := emt_lt (o := o) (v := v) hn
  obtain ⟨k1, k2, k3, k4, k5⟩ := hj
  have up : ∀ b, b < R.n → R'.o b = R.o b := fun b hb => by rw [h4, upd_ne (by omega)]
  have hp : psi R'.o R.n = psi R.o R.n := psi_cg up
  have ht : tau R'.o R.n = tau R.o R.n := tau_cg up
  have hr : rho R'.o R.n = rho R.o R.n := rho_cg up
  have ho : R'.o R.n = k := by rw [h4, upd_eq]
  refine ⟨⟨by rw [emt_p, k1, g1], by rw [emt_p]; exact k2, by rw [g2, k3], by rw [emt_w, k4, g3], ?_⟩, ⟨by omega, fun b hb => ⟨up b hb, by rw [h6, upd_ne (by omega)], by rw [h7, upd_ne (by omega)]⟩, fun a ha => ?_, m.2.2.2.1, m.2.2.2.2, h8, h9, by rw [emt_p]; exact Nat.le_refl _, by omega, g3⟩, ?_, h4, h5⟩
  · rw [m.1, k5, h5]
    show psi R.o R.n + 1 = psi R'.o R.n + (if R'.o R.n = 15 then 2 else 1)
    rw [hp, ho, if_neg hc]
  · rw [m.2.1, m.2.2.1]
    exact ⟨upd_ne (by omega), if_neg (by omega)⟩
  · intro b hb1 hb2
    have e : b = R.n := by omega
    subst e
    refine Or.inl ⟨c, ho.trans hk, ?_⟩
    rw [ht, hr, hp, ← k5, m.2.1, m.2.2.1, h6, h7, upd_eq, upd_eq, upd_eq, show vp_updL S.g S.n v S.n = v from if_pos rfl]
    exact hv
theorem go {r : PR} {N : Nat} {R : RS} {w x y : Int32} {rest : List (Int32 × Int32 × Int32)} (hs : Stk R ((w, x, y) :: rest)) (hf : R.fa = 0) (hb : RB q R) (h : ∀ P : RS, Eqc R P → P.at = R.at → P.dp = R.dp → Stk P rest → OK tr vl pl q G r N (rst1 tr vl pl q w x y P)) : OK tr vl pl q G r (N + 1) R := by
  obtain ⟨m, h1, h2, h3, h4, h5⟩ := hs
  have e : R.pc - 1 = m := by omega
  unfold OK
  rw [if_pos hf, if_neg (show ¬ R.pc = 0 by omega)]
  refine ⟨hb, ?_⟩
  unfold rst
  rw [e, h2, h3, h4]
  exact h _ (q_pc q_r) rfl rfl h5
theorem Eqc_J {S : PS} {R R' : RS} (hj : J q S R) (h1 : R'.at = R.at) (h : Eqc R R') : J q S R' := by
  obtain ⟨k1, k2, k3, k4, k5⟩ := hj
  obtain ⟨e1, e2, e3, e4, e5, e6, e7, e8⟩ := h
  exact ⟨by omega, k2, by rw [e2, k3], by rw [e3, k4], by rw [e4, e1, k5]⟩
end SI
