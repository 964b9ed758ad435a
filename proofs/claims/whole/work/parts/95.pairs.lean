/-! No two numerals side by side: expressions. -/
def NA (tk : Nat → Int32) (a b : Nat) : Prop := ∀ i, a ≤ i → i + 1 < b → ¬ (tk i = 256 ∧ tk (i + 1) = 256)
def NP (tk : Nat → Int32) (q : Nat) (F : PS → PR) : Prop := ∀ S S', S.p ≤ q → F S = .inr S' → S.p ≤ S'.p ∧ S'.p ≤ q ∧ NA tk S.p S'.p
section UG
variable {tk : Nat → Int32} {tv : Nat → Int64} {q : Nat} {S S' : PS}
theorem NA_one {a : Nat} : NA tk a (a + 1) := fun i h1 h2 => by omega
theorem NA_nil {a : Nat} : NA tk a a := fun i h1 h2 => by omega
theorem NA_join {a b c : Nat} (h1 : NA tk a b) (h : tk b ≠ 256) (h2 : NA tk (b + 1) c) : NA tk a c := by
  intro i i1 i2 hi
  by_cases e1 : i + 1 < b
  · exact h1 i i1 e1 hi
  · by_cases e2 : i + 1 = b
    · rw [e2] at hi
      exact h hi.2
    · by_cases e3 : i = b
      · rw [e3] at hi
        exact h hi.1
      · exact h2 i (by omega) i2 hi
theorem NA_fst {a c : Nat} (h : tk a ≠ 256) (h2 : NA tk (a + 1) c) : NA tk a c := NA_join NA_nil h h2
theorem NA_ext {a b : Nat} (h1 : NA tk a b) (h : tk b ≠ 256) : NA tk a (b + 1) := NA_join h1 h NA_nil
theorem pB_r {r : PR} {k : PS → PR} (h : pB r k = .inr S') : ∃ S1, r = .inr S1 ∧ k S1 = .inr S' := by
  cases r with
  | inl S => cases h
  | inr S => exact ⟨S, rfl, h⟩
theorem ad_p (hq : q ≤ 200) (h0 : tk q = 0) (hp : S.p ≤ q) (h : tk S.p ≠ 0) : (adv q S).p = S.p + 1 ∧ S.p < q := by
  have l : S.p < q := by
    by_cases e : S.p = q
    · rw [e] at h
      exact absurd h0 h
    · omega
  exact ⟨(adv_lt hq l).1, l⟩
theorem pX_r {k : Int32} (hq : q ≤ 200) (h0 : tk q = 0) (hp : S.p ≤ q) (hk : k ≠ 0) (h : pX tk q k S = .inr S') : tk S.p = k ∧ S'.p = S.p + 1 ∧ S'.p ≤ q := by
  have t := pX_k h
  have a := ad_p hq h0 hp (by rw [t]; exact hk)
  unfold pX at h
  rw [if_pos t] at h
  cases h
  exact ⟨t, a.1, by omega⟩
theorem n_par (hq : q ≤ 200) (h0 : tk q = 0) {E : PS → PR} (hE : NP tk q E) : NP tk q (pPar tk q E) := by
  intro S S' hp h
  unfold pPar at h
  obtain ⟨S1, e1, h⟩ := pB_r h
  obtain ⟨S2, e2, h⟩ := pB_r h
  have x1 := pX_r hq h0 hp (by decide) e1
  have x2 := hE S1 S2 x1.2.2 e2
  have x3 := pX_r hq h0 x2.2.1 (by decide) h
  refine ⟨by omega, x3.2.2, ?_⟩
  rw [x3.2.1]
  refine NA_ext (NA_fst (by rw [x1.1]; decide) ?_) (by rw [x3.1]; decide)
  rw [← x1.2.1]
  exact x2.2.2
theorem n_atom (hq : q ≤ 200) (h0 : tk q = 0) {E : PS → PR} (hE : NP tk q E) : NP tk q (pAtom tk tv q E) := by
  intro S S' hp h
  unfold pAtom at h
  by_cases h1 : tk S.p = 40
  · rw [if_pos h1] at h
    exact n_par hq h0 hE S S' hp h
  rw [if_neg h1] at h
  by_cases h2 : tk S.p = 256
  · rw [if_pos h2] at h
    have a := ad_p hq h0 hp (by rw [h2]; decide)
    cases h
    rw [emt_p, a.1]
    exact ⟨by omega, by omega, NA_one⟩
  rw [if_neg h2] at h
  by_cases h3 : tk S.p = 262
  · rw [if_pos h3] at h
    have a := ad_p hq h0 hp (by rw [h3]; decide)
    cases h
    rw [emt_p, a.1]
    exact ⟨by omega, by omega, NA_one⟩
  rw [if_neg h3] at h
  by_cases h4 : tk S.p = 257
  · rw [if_pos h4] at h
    have a := ad_p hq h0 hp (by rw [h4]; decide)
    split at h
    · obtain ⟨S1, e1, h⟩ := pB_r h
      have x := n_par hq h0 hE (adv q S) S1 (by omega) e1
      cases h
      rw [emt_p]
      refine ⟨by omega, x.2.1, NA_fst (by rw [h4]; decide) ?_⟩
      rw [← a.1]
      exact x.2.2
    · cases h
      rw [emt_p, a.1]
      exact ⟨by omega, by omega, NA_one⟩
  · rw [if_neg h4] at h
    cases h
end UG
