/-! The two parsers keep step: statements. -/
def SC (q : Nat) (S : PS) (R : RS) (S' : PS) (R' : RS) : Prop :=
  J q S' R' ∧ Fr S R S' R' ∧ CS S' R' R.n ∧ tau R'.o R'.n = 0 ∧ rho R'.o R'.n = rho R.o R.n ∧ S'.n + 3 * S.p ≤ S.n + 3 * S'.p ∧ (R'.n = R.n ∨ R'.o R.n = 14)
section SN
variable {tk : Nat → Int32} {tv : Nat → Int64} {tr vl pl : Nat → Int32} {q : Nat} {G : PS → RS → Prop} {d : Nat} {S S' S1 S2 : PS} {R R' R1 R2 P : RS} {x y : Int32}
theorem i_6 : rst1 tr vl pl q 6 x y R = rSt tr vl R := rfl
theorem i_15 : rst1 tr vl pl q 15 x y R = rPu 7 0 0 (rPu 16 0 0 R) := rfl
theorem i_16 : rst1 tr vl pl q 16 x y R = if isRr (tr R.at) then rPu 7 0 0 (rPu 17 7 (tr R.at) (rAt (R.at + 1) R)) else rFa R := rfl
theorem i_18 : rst1 tr vl pl q 18 x y R = rPu 6 0 0 (rPu 5 0 0 (rEm 12 0 0 (rPu (if x = 105 then 19 else 20) (nI R.n) y (rDd R)))) := rfl
theorem i_19 : rst1 tr vl pl q 19 x y R = rSx x.toNatClampNeg R := rfl
theorem i_20 : rst1 tr vl pl q 20 x y R = rSx x.toNatClampNeg (rEm 13 y 0 (rEm 14 0 0 R)) := rfl
/-- a method of the parser and an item of the plan keep step: statements -/
def SimS (tr vl pl : Nat → Int32) (q : Nat) (G : PS → RS → Prop) (Z L : Nat) (w : Int32) (d : Nat) (F : PS → PR) : Prop := ∀ S R N rest (c : PS → PR), J q S R → R.dp = nI d → Stk R ((w, 0, 0) :: rest) → rest.length ≤ L → S.n + 3 * q ≤ 600 + 3 * S.p → tau R.o R.n = 0 → (R.w = 0 ∨ rho R.o R.n = true) → 10 * (q - S.p) + Z ≤ N → (∀ S' R' N', SC q S R S' R' → Stk R' rest → R'.dp = nI d → N ≤ N' + 10 * (S'.p - S.p) → S.p < S'.p → OK tr vl pl q G (c S') N' R') → OK tr vl pl q G (pB (F S) c) N R
/-- an operation written on both sides, whatever it is -/
theorem em_0 {o k : Int32} {v : Int64} (hj : J q S R) (hn : S.n < 600) (hc : k ≠ 15) (h1 : P.at = R.at) (hE : Eqc R P) : J q (emt o v S) (rEm k x y P) ∧ Fr S R (emt o v S) (rEm k x y P) ∧ (rEm k x y P).o = upd R.o R.n k ∧ (rEm k x y P).n = R.n + 1 ∧ (rEm k x y P).x = upd R.x R.n x ∧ (emt o v S).f = upd S.f S.n o ∧ (emt o v S).g = vp_updL S.g S.n v ∧ (emt o v S).n = S.n + 1 := by
  obtain ⟨e1, e2, e3, e4, e5, e6, e7, e8⟩ := hE
  generalize hR : rEm k x y P = R'
  have g1 : R'.at = R.at := by rw [← hR]; exact h1
  have g2 : R'.fa = R.fa := by rw [← hR]; exact e2
  have g3 : R'.w = R.w := by rw [← hR]; exact e3
  have h4 : R'.o = upd R.o R.n k := by rw [← hR, ← e4, ← e1]; rfl
  have h5 : R'.n = R.n + 1 := by rw [← hR, ← e1]; rfl
  have h6 : R'.x = upd R.x R.n x := by rw [← hR, ← e5, ← e1]; rfl
  have h7 : R'.y = upd R.y R.n y := by rw [← hR, ← e6, ← e1]; rfl
  have h8 : R'.st = R.st := by rw [← hR]; exact e7
  have h9 : R'.pa = R.pa := by rw [← hR]; exact e8
  have m := emt_lt (o := o) (v := v) hn
  obtain ⟨k1, k2, k3, k4, k5⟩ := hj
  have up : ∀ b, b < R.n → R'.o b = R.o b := fun b hb => by rw [h4, upd_ne (by omega)]
  have hp : psi R'.o R.n = psi R.o R.n := psi_cg up
  have ho : R'.o R.n = k := by rw [h4, upd_eq]
  refine ⟨⟨by rw [emt_p, k1, g1], by rw [emt_p]; exact k2, by rw [g2, k3], by rw [emt_w, k4, g3], ?_⟩, ⟨by omega, fun b hb => ⟨up b hb, by rw [h6, upd_ne (by omega)], by rw [h7, upd_ne (by omega)]⟩, fun a ha => ?_, m.2.2.2.1, m.2.2.2.2, h8, h9, by rw [emt_p]; exact Nat.le_refl _, by omega, g3⟩, h4, h5, h6, m.2.1, m.2.2.1, m.1⟩
  · rw [m.1, k5, h5]
    show psi R.o R.n + 1 = psi R'.o R.n + (if R'.o R.n = 15 then 2 else 1)
    rw [hp, ho, if_neg hc]
  · rw [m.2.1, m.2.2.1]
    exact ⟨upd_ne (by omega), if_neg (by omega)⟩
theorem SC_trans (h : SC q S R S1 R1) (k : SC q S1 R1 S' R') : SC q S R S' R' := by
  obtain ⟨h1, h2, h3, h4, h5, h6, h7⟩ := h
  obtain ⟨k1, k2, k3, k4, k5, k6, k7⟩ := k
  have := h2.1
  refine ⟨k1, Fr_trans h2 k2, CS_Fr h1 k2 h3 k3, k4, k5.trans h5, by omega, ?_⟩
  rcases h7 with h7 | h7
  · rw [h7] at k7
    exact k7
  · by_cases e : R.n < R1.n
    · exact Or.inr ((k2.2.1 R.n e).1.trans h7)
    · have : R1.n = R.n := by omega
      rw [this] at k7
      exact k7
theorem SC_post (h : SC q S R S1 R1) (hj : J q S' R') (hm : Sm S1 R1 S' R') : SC q S R S' R' := by
  obtain ⟨h1, h2, h3, h4, h5, h6, h7⟩ := h
  have c := CS_Sm h1 hm h3
  have f := Fr_trans h2 hm.1
  have := hm.1.2.2.2.2.2.2.2.1
  obtain ⟨m1, m2, m3, m4⟩ := hm
  exact ⟨hj, f, c, by rw [m2, m3]; exact h4, by rw [m2, m3]; exact h5, by omega, by rw [m2, m3]; exact h7⟩
theorem SC_pre (hm : Sm S R S1 R1) (h : SC q S1 R1 S' R') : SC q S R S' R' := by
  obtain ⟨m1, m2, m3, m4⟩ := hm
  obtain ⟨h1, h2, h3, h4, h5, h6, h7⟩ := h
  have := m1.2.2.2.2.2.2.2.1
  rw [m2] at h3 h7
  rw [m2, m3] at h5
  exact ⟨h1, Fr_trans m1 h2, h3, h4, h5, by omega, h7⟩
theorem SC_refl (hj : J q S R) (ht : tau R.o R.n = 0) : SC q S R S R := ⟨hj, Fr_refl, fun b h1 h2 => by omega, ht, rfl, by omega, Or.inl rfl⟩
/-- the step of a statement -/
theorem em_step (hj : J q S R) (hn : S.n < 600) (h1 : P.at = R.at) (hE : Eqc R P) (ht : tau R.o R.n = 0) : J q (emt 300 0 S) (rEm 14 0 0 P) ∧ Fr S R (emt 300 0 S) (rEm 14 0 0 P) ∧ CS (emt 300 0 S) (rEm 14 0 0 P) R.n ∧ tau (rEm 14 0 0 P).o (rEm 14 0 0 P).n = 900 ∧ rho (rEm 14 0 0 P).o (rEm 14 0 0 P).n = rho R.o R.n ∧ (rEm 14 0 0 P).n = R.n + 1 ∧ (rEm 14 0 0 P).o R.n = 14 ∧ (emt 300 0 S).n = S.n + 1 := by
  obtain ⟨f1, f2, f3, f4, f5⟩ := em_J (Rp := P) (k := 14) (c := 14) (o := 300) (v := 0) (x := 0) (y := 0) hj hn rfl (by decide) h1 hE ⟨rfl, by rw [ht]; rfl⟩
  refine ⟨f1, f2, f3, ?_, ?_, f5, by rw [f4, upd_eq], (emt_lt hn).1⟩
  · rw [f4, f5, ta_s, if_pos rfl]
  · rw [f4, f5, rh_n (by decide) (by decide)]
/-- a statement that ends with one operation on one value -/
theorem SC_one {S3 : PS} {R3 : RS} {o k : Int32} {v : Int64} {c : Nat} (hB : S.n + 3 * q ≤ 600 + 3 * S.p) (hj : J q S1 R1) (hf : Fr S R S1 R1) (hcs : CS S1 R1 R.n) (ht : hh (tau R1.o R1.n) = 0) (hr : rho R1.o R1.n = rho R.o R.n) (hn : R1.n = R.n + 1) (ho : R1.o R.n = 14) (hS : S1.n = S.n + 1) (he : EC q S1 R1 S3 R3) (hP : Eqc R3 P) (ha : P.at = R3.at) (hk : k = nI c) (hc : c = 8 ∨ c = 9 ∨ c = 10 ∨ c = 11) (hv : ∀ r, r = rho R.o R.n → LV 1 r o v x y c) : SC q S R (emt o v S3) (rEm k x y P) := by
  obtain ⟨b1, b2, b3, b4, b5, b6, b7, b8, b9⟩ := he
  have hl := b1.2.1
  have hp := hf.2.2.2.2.2.2.2.1
  have hn3 : S3.n < 600 := by omega
  have me := emt_lt (o := o) (v := v) hn3
  have t1 : tau R3.o R3.n = 1 := by rw [b4, ht]
  have c15 : k ≠ 15 := by rw [hk]; rcases hc with rfl | rfl | rfl | rfl <;> decide
  have c13 : k ≠ 13 := by rw [hk]; rcases hc with rfl | rfl | rfl | rfl <;> decide
  obtain ⟨f1, f2, f3, f4, f5⟩ := em_J (Rp := P) (k := k) (c := c) (o := o) (v := v) (x := x) (y := y) b1 hn3 hk c15 ha hP (by rw [t1]; exact hv _ (b9.trans hr))
  refine ⟨f1, Fr_trans (Fr_trans hf b2) f2, CS_Fr b1 f2 (CS_Fr hj b2 hcs b3) f3, ?_, ?_, ?_, Or.inr ?_⟩
  · rw [f4, f5, ta_s, t1, hk]
    rcases hc with rfl | rfl | rfl | rfl <;> rfl
  · rw [f4, f5, rh_n c15 c13, b9, hr]
  · rw [emt_p, me.1]
    omega
  · rw [f4, upd_ne (by omega), (b2.2.1 R.n (by omega)).1]
    exact ho
end SN
