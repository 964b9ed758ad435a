/-! A text that is read to its end has no two numerals side by side. -/
section UK
variable {tk : Nat → Int32} {tv : Nat → Int64} {q : Nat} {S S' : PS}
theorem lp_end (hq : q ≤ 200) (h0 : tk q = 0) (hne : ∀ i, i < q → tk i ≠ 0) {P : PS → PR} (hP : NP tk q P) : ∀ n S S', S.p ≤ q → q ≤ n + S.p → pLp tk q 0 P n S = .inr S' → S'.p = q
  | 0, S, S', hp, hn, h => by
    cases h
    omega
  | n + 1, S, S', hp, hn, h => by
    have at0 : ∀ X : PS, X.p ≤ q → tk X.p = 0 → X.p = q := by
      intro X hX e
      by_cases l : X.p < q
      · exact absurd e (hne _ l)
      · omega
    by_cases hc : tk S.p = 0
    · rw [pLp_cl hc] at h
      cases h
      exact at0 S hp hc
    · unfold pLp at h
      rw [if_neg hc] at h
      obtain ⟨S1, e1, h⟩ := pB_r h
      obtain ⟨S2, e2, h⟩ := pB_r h
      have x := hP S S1 hp e1
      by_cases hc1 : tk S1.p = 0
      · rw [if_pos hc1] at e2
        have e3 := Sum.inr.inj e2
        rw [← e3, pSk_n (show ¬ tk S1.p = 59 by rw [hc1]; decide), pLp_cl hc1] at h
        have e4 := Sum.inr.inj h
        rw [← e4]
        exact at0 S1 x.2.1 hc1
      · rw [if_neg hc1] at e2
        have y := pX_r hq h0 x.2.1 (by decide) e2
        have k := n_sk hq h0 200 S2.p S2 (Nat.le_refl _) y.2.2 ⟨NA_nil, fun i h1 h2 => by omega⟩
        exact lp_end hq h0 hne hP n (pSk tk q 200 S2) S' k.2.1 (by omega) h
theorem all_pairs (hq : q ≤ 200) (h0 : tk q = 0) (hne : ∀ i, i < q → tk i ≠ 0) (hp : S.p = 0) (h : pAll tk tv q S = .inr S') : NA tk 0 q := by
  have r := n_all hq h0 S S' (by omega) h
  unfold pAll pLi at h
  have k := n_sk hq h0 200 S.p S (Nat.le_refl _) (by omega) ⟨NA_nil, fun i h1 h2 => by omega⟩
  have e := lp_end hq h0 hne (n_pt (n_df hq h0 (n_SL hq h0 6).2) (n_SL hq h0 7).1) 200 _ S' k.2.1 (by omega) h
  rw [e, hp] at r
  exact r.2.2
end UK
