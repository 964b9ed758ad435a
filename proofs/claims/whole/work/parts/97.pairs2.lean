/-! No two numerals side by side: statements. -/
section UI
variable {tk : Nat → Int32} {tv : Nat → Int64} {q : Nat} {S S' : PS}
theorem n_cd (hq : q ≤ 200) (h0 : tk q = 0) {E : PS → PR} (hE : NP tk q E) : NP tk q (pCd tk q E) := by
  intro S S' hp h
  unfold pCd at h
  obtain ⟨S1, e1, h⟩ := pB_r h
  have x := hE S S1 hp e1
  by_cases hr : isRl (tk S1.p)
  · rw [if_pos hr] at h
    have n0 : tk S1.p ≠ 0 := fun z => by rw [z] at hr; exact absurd hr (by decide)
    have n2 : tk S1.p ≠ 256 := fun z => by rw [z] at hr; exact absurd hr (by decide)
    have a := ad_p hq h0 x.2.1 n0
    obtain ⟨S2, e2, h⟩ := pB_r h
    have y := hE (adv q S1) S2 (by omega) e2
    cases h
    rw [emt_p]
    refine ⟨by omega, y.2.1, NA_join x.2.2 n2 ?_⟩
    rw [← a.1]
    exact y.2.2
  · rw [if_neg hr] at h
    cases h
theorem lnd_p {t : Nat} : (lnd t S).p = S.p := by
  unfold lnd
  split <;> rfl
theorem n_if (hq : q ≤ 200) (h0 : tk q = 0) {E F : PS → PR} (hE : NP tk q E) (hF : NP tk q F) (hk : tk S.p ≠ 0 ∧ tk S.p ≠ 256) (hp : S.p ≤ q) (h : pIf tk q E F S = .inr S') : S.p ≤ S'.p ∧ S'.p ≤ q ∧ NA tk S.p S'.p := by
  unfold pIf at h
  have a := ad_p hq h0 hp hk.1
  obtain ⟨S2, e2, h⟩ := pB_r h
  obtain ⟨S3, e3, h⟩ := pB_r h
  obtain ⟨S4, e4, h⟩ := pB_r h
  obtain ⟨S6, e6, h⟩ := pB_r h
  have x2 := pX_r hq h0 (by omega) (by decide) e2
  have x3 := n_cd hq h0 hE S2 S3 x2.2.2 e3
  have x4 := pX_r hq h0 x3.2.1 (by decide) e4
  have x6 := hF (emt 311 0 S4) S6 (by rw [emt_p]; exact x4.2.2) e6
  rw [emt_p] at x6
  cases h
  have pp : (lnd ((emt 311 0 S4).n - 1) (if tk S.p = 259 then emt 310 (zL (adv q S).n) (emt 300 0 S6) else S6)).p = S6.p := by
    rw [lnd_p]
    split
    · rw [emt_p, emt_p]
    · rfl
  rw [pp]
  refine ⟨by omega, x6.2.1, ?_⟩
  have n1 : NA tk (adv q S).p S3.p := NA_fst (by rw [x2.1]; decide) (by rw [← x2.2.1]; exact x3.2.2)
  have n2 : NA tk (adv q S).p S6.p := NA_join n1 (by rw [x4.1]; decide) (by rw [← x4.2.1]; exact x6.2.2)
  exact NA_fst hk.2 (by rw [← a.1]; exact n2)
theorem n_br (hq : q ≤ 200) (h0 : tk q = 0) {I : PS → PR} (hI : NP tk q I) : NP tk q (pBr tk q I) := by
  intro S S' hp h
  unfold pBr at h
  obtain ⟨S1, e1, h⟩ := pB_r h
  obtain ⟨S2, e2, h⟩ := pB_r h
  have x1 := pX_r hq h0 hp (by decide) e1
  have x2 := hI S1 S2 x1.2.2 e2
  have x3 := pX_r hq h0 x2.2.1 (by decide) h
  refine ⟨by omega, x3.2.2, ?_⟩
  rw [x3.2.1]
  refine NA_ext (NA_fst (by rw [x1.1]; decide) ?_) (by rw [x3.1]; decide)
  rw [← x1.2.1]
  exact x2.2.2
theorem n_st (hq : q ≤ 200) (h0 : tk q = 0) {E E' F I : PS → PR} (hE : NP tk q E) (hE' : NP tk q E') (hF : NP tk q F) (hI : NP tk q I) : NP tk q (pSt tk tv q E E' F I) := by
  intro S S' hp h
  unfold pSt at h
  by_cases h1 : tk S.p = 123
  · rw [if_pos h1] at h
    exact n_br hq h0 hI S S' hp h
  rw [if_neg h1] at h
  by_cases h2 : tk S.p = 258 ∨ tk S.p = 259
  · rw [if_pos h2] at h
    have r := n_if hq h0 hE' hF (S := emt 300 0 S) (by rw [emt_p]; rcases h2 with e | e <;> rw [e] <;> decide) (by rw [emt_p]; exact hp) h
    rw [emt_p] at r
    exact r
  rw [if_neg h2] at h
  by_cases h3 : tk S.p = 261
  · rw [if_pos h3] at h
    unfold pGv at h
    split at h
    · cases h
    · obtain ⟨S1, e1, h⟩ := pB_r h
      have a := ad_p (S := emt 300 0 S) hq h0 (by rw [emt_p]; exact hp) (by rw [emt_p, h3]; decide)
      rw [emt_p] at a
      have x := hE (adv q (emt 300 0 S)) S1 (by omega) e1
      cases h
      rw [emt_p]
      exact ⟨by omega, x.2.1, NA_fst (by rw [h3]; decide) (by rw [← a.1]; exact x.2.2)⟩
  rw [if_neg h3] at h
  split at h
  · rename_i h4
    unfold pAs at h
    have a := ad_p (S := emt 300 0 S) hq h0 (by rw [emt_p]; exact hp) (by rw [emt_p]; rcases h4.1 with e | e <;> rw [e] <;> decide)
    rw [emt_p] at a
    obtain ⟨S1, e1, h⟩ := pB_r h
    obtain ⟨S2, e2, h⟩ := pB_r h
    have x1 := pX_r hq h0 (by omega) (by decide) e1
    have x2 := hE S1 S2 x1.2.2 e2
    cases h
    rw [emt_p]
    refine ⟨by omega, x2.2.1, NA_fst (by rcases h4.1 with e | e <;> rw [e] <;> decide) ?_⟩
    rw [← a.1]
    exact NA_fst (by rw [x1.1]; decide) (by rw [← x1.2.1]; exact x2.2.2)
  · obtain ⟨S1, e1, h⟩ := pB_r h
    have x := hE (emt 300 0 S) S1 (by rw [emt_p]; exact hp) e1
    rw [emt_p] at x
    cases h
    rw [emt_p]
    exact x
end UI
