/-! No two numerals side by side: sums. -/
section UH
variable {tk : Nat → Int32} {tv : Nat → Int64} {q : Nat} {S S' : PS}
theorem n_un (hq : q ≤ 200) (h0 : tk q = 0) {E U : PS → PR} (hE : NP tk q E) (hU : NP tk q U) : NP tk q (pUn tk tv q E U) := by
  intro S S' hp h
  unfold pUn at h
  by_cases h1 : tk S.p = 45
  · rw [if_pos h1] at h
    have a := ad_p hq h0 hp (by rw [h1]; decide)
    obtain ⟨S1, e1, h⟩ := pB_r h
    have x := hU (adv q S) S1 (by omega) e1
    cases h
    rw [emt_p]
    refine ⟨by omega, x.2.1, NA_fst (by rw [h1]; decide) ?_⟩
    rw [← a.1]
    exact x.2.2
  rw [if_neg h1] at h
  unfold pPow at h
  obtain ⟨S1, e1, h⟩ := pB_r h
  have x := n_atom hq h0 hE S S1 hp e1
  by_cases h2 : tk S1.p = 94
  · rw [if_pos h2] at h
    have a := ad_p hq h0 x.2.1 (by rw [h2]; decide)
    obtain ⟨S2, e2, h⟩ := pB_r h
    have y := hU (adv q S1) S2 (by omega) e2
    cases h
    rw [emt_p]
    refine ⟨by omega, y.2.1, NA_join x.2.2 (by rw [h2]; decide) ?_⟩
    rw [← a.1]
    exact y.2.2
  · rw [if_neg h2] at h
    cases h
    exact x
theorem n_loop (hq : q ≤ 200) (h0 : tk q = 0) (is : Int32 → Prop) [DecidablePred is] (h1 : ∀ k, is k → k ≠ 0 ∧ k ≠ 256) {F : PS → PR} (hF : NP tk q F) : ∀ n a S S', a ≤ S.p → S.p ≤ q → NA tk a S.p → pL tk q is F n S = .inr S' → S.p ≤ S'.p ∧ S'.p ≤ q ∧ NA tk a S'.p
  | 0, a, S, S', _, hp, hn, h => by
    cases h
    exact ⟨Nat.le_refl _, hp, hn⟩
  | n + 1, a, S, S', ha, hp, hn, h => by
    unfold pL at h
    by_cases hi : is (tk S.p)
    · rw [if_pos hi] at h
      have ad := ad_p hq h0 hp (h1 _ hi).1
      obtain ⟨S1, e1, h⟩ := pB_r h
      have x := hF (adv q S) S1 (by omega) e1
      have j : NA tk a S1.p := NA_join hn (h1 _ hi).2 (by rw [← ad.1]; exact x.2.2)
      have r := n_loop hq h0 is h1 hF n a (emt (tk S.p) 0 S1) S' (by rw [emt_p]; omega) (by rw [emt_p]; exact x.2.1) (by rw [emt_p]; exact j) h
      rw [emt_p] at r
      exact ⟨by omega, r.2.1, r.2.2⟩
    · rw [if_neg hi] at h
      cases h
      exact ⟨Nat.le_refl _, hp, hn⟩
theorem n_term (hq : q ≤ 200) (h0 : tk q = 0) {E U : PS → PR} (hE : NP tk q E) (hU : NP tk q U) : NP tk q (pTerm tk tv q E U) := by
  intro S S' hp h
  unfold pTerm at h
  obtain ⟨S1, e1, h⟩ := pB_r h
  have x := n_un hq h0 hE hU S S1 hp e1
  have r := n_loop hq h0 isFa (fun k hk => by rcases hk with e | e | e <;> rw [e] <;> decide) (n_un hq h0 hE hU) 200 S.p S1 S' x.1 x.2.1 x.2.2 h
  exact ⟨by omega, r.2.1, r.2.2⟩
theorem n_exp (hq : q ≤ 200) (h0 : tk q = 0) {E U : PS → PR} (hE : NP tk q E) (hU : NP tk q U) : NP tk q (pExp tk tv q E U) := by
  intro S S' hp h
  unfold pExp at h
  obtain ⟨S1, e1, h⟩ := pB_r h
  have x := n_term hq h0 hE hU S S1 hp e1
  have r := n_loop hq h0 isSg (fun k hk => by rcases hk with e | e <;> rw [e] <;> decide) (n_term hq h0 hE hU) 200 S.p S1 S' x.1 x.2.1 x.2.2 h
  exact ⟨by omega, r.2.1, r.2.2⟩
theorem n_EU (hq : q ≤ 200) (h0 : tk q = 0) : ∀ k, NP tk q (pEU tk tv q k).1 ∧ NP tk q (pEU tk tv q k).2
  | 0 => ⟨fun S S' _ h => (by cases h), fun S S' _ h => (by cases h)⟩
  | k + 1 => ⟨n_exp hq h0 (n_EU hq h0 k).1 (n_EU hq h0 k).2, n_un hq h0 (n_EU hq h0 k).1 (n_EU hq h0 k).2⟩
end UH
