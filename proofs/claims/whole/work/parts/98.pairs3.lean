/-! No two numerals side by side: lists, definitions, the whole. -/
def LBd (tk : Nat → Int32) (a : Nat) (S : PS) : Prop := NA tk a S.p ∧ ∀ i, i + 1 = S.p → a ≤ i → tk i = 256 → tk S.p ≠ 256
section UJ
variable {tk : Nat → Int32} {tv : Nat → Int64} {q : Nat} {S S' : PS}
theorem NA_j3 {a c : Nat} (h : LBd tk a S) (h2 : NA tk S.p c) : NA tk a c := by
  intro i i1 i2 hi
  by_cases e1 : i + 1 < S.p
  · exact h.1 i i1 e1 hi
  · by_cases e2 : i + 1 = S.p
    · exact h.2 i e2 i1 hi.1 (by rw [← e2]; exact hi.2)
    · exact h2 i (by omega) i2 hi
theorem n_sk (hq : q ≤ 200) (h0 : tk q = 0) : ∀ n a S, a ≤ S.p → S.p ≤ q → LBd tk a S → S.p ≤ (pSk tk q n S).p ∧ (pSk tk q n S).p ≤ q ∧ LBd tk a (pSk tk q n S)
  | 0, a, S, _, hp, h => ⟨Nat.le_refl _, hp, h⟩
  | n + 1, a, S, ha, hp, h => by
    unfold pSk
    by_cases e : tk S.p = 59
    · rw [if_pos e]
      have ad := ad_p hq h0 hp (by rw [e]; decide)
      have r := n_sk hq h0 n a (adv q S) (by omega) (by omega) ⟨by rw [ad.1]; exact NA_ext h.1 (by rw [e]; decide), fun i hi _ h6 => by
        have : i = S.p := by omega
        rw [this, e] at h6
        exact absurd h6 (by decide)⟩
      exact ⟨by omega, r.2.1, r.2.2⟩
    · rw [if_neg e]
      exact ⟨Nat.le_refl _, hp, h⟩
theorem n_lp (hq : q ≤ 200) (h0 : tk q = 0) {cl : Int32} (hcl : cl ≠ 256) {P : PS → PR} (hP : NP tk q P) : ∀ n a S S', a ≤ S.p → S.p ≤ q → LBd tk a S → pLp tk q cl P n S = .inr S' → S.p ≤ S'.p ∧ S'.p ≤ q ∧ NA tk a S'.p
  | 0, a, S, S', _, hp, hb, h => by
    cases h
    exact ⟨Nat.le_refl _, hp, hb.1⟩
  | n + 1, a, S, S', ha, hp, hb, h => by
    unfold pLp at h
    by_cases hc : tk S.p = cl
    · rw [if_pos hc] at h
      cases h
      exact ⟨Nat.le_refl _, hp, hb.1⟩
    · rw [if_neg hc] at h
      obtain ⟨S1, e1, h⟩ := pB_r h
      obtain ⟨S2, e2, h⟩ := pB_r h
      have x := hP S S1 hp e1
      have j := NA_j3 hb x.2.2
      have l2 : S1.p ≤ S2.p ∧ S2.p ≤ q ∧ LBd tk a S2 := by
        split at e2
        · rename_i hc1
          cases e2
          exact ⟨Nat.le_refl _, x.2.1, j, fun i _ _ _ => by rw [hc1]; exact hcl⟩
        · have y := pX_r hq h0 x.2.1 (by decide) e2
          refine ⟨by omega, y.2.2, by rw [y.2.1]; exact NA_ext j (by rw [y.1]; decide), fun i hi _ h6 => ?_⟩
          have : i = S1.p := by omega
          rw [this, y.1] at h6
          exact absurd h6 (by decide)
      have k := n_sk hq h0 200 a S2 (by omega) l2.2.1 l2.2.2
      have r := n_lp hq h0 hcl hP n a (pSk tk q 200 S2) S' (by omega) k.2.1 k.2.2 h
      exact ⟨by omega, r.2.1, r.2.2⟩
theorem n_li (hq : q ≤ 200) (h0 : tk q = 0) {cl : Int32} (hcl : cl ≠ 256) {P : PS → PR} (hP : NP tk q P) : NP tk q (pLi tk q cl P) := by
  intro S S' hp h
  unfold pLi at h
  have k := n_sk hq h0 200 S.p S (Nat.le_refl _) hp ⟨NA_nil, fun i h1 h2 => by omega⟩
  have r := n_lp hq h0 hcl hP 200 S.p (pSk tk q 200 S) S' k.1 k.2.1 k.2.2 h
  exact ⟨by omega, r.2.1, r.2.2⟩
theorem n_pt {cl : Int32} {df st : PS → PR} (hd : NP tk q df) (hs : NP tk q st) : NP tk q (pPt tk cl df st) := by
  intro S S' hp h
  unfold pPt at h
  split at h
  · exact hd S S' hp h
  · exact hs S S' hp h
theorem n_inl : NP tk q (fun S => .inl S) := fun S S' _ h => (by cases h)
theorem n_SL (hq : q ≤ 200) (h0 : tk q = 0) : ∀ k, NP tk q (pSL tk tv q k).1 ∧ NP tk q (pSL tk tv q k).2
  | 0 => ⟨n_inl, n_inl⟩
  | k + 1 => by
    have s := n_st (tv := tv) hq h0 (n_EU (tv := tv) hq h0 (k + 1)).1 (n_EU (tv := tv) hq h0 k).1 (n_SL hq h0 k).1 (n_SL hq h0 k).2
    exact ⟨s, n_li hq h0 (by decide) (n_pt n_inl s)⟩
theorem n_df (hq : q ≤ 200) (h0 : tk q = 0) {I : PS → PR} (hI : NP tk q I) : NP tk q (pDf tk tv q I) := by
  intro S S' hp h
  unfold pDf at h
  obtain ⟨S1, e1, h⟩ := pB_r h
  obtain ⟨S2, e2, h⟩ := pB_r h
  split at h
  · obtain ⟨S3, e3, h⟩ := pB_r h
    obtain ⟨S4, e4, h⟩ := pB_r h
    obtain ⟨S5, e5, h⟩ := pB_r h
    obtain ⟨S8, e8, h⟩ := pB_r h
    have x1 := pX_r hq h0 hp (by decide) e1
    have x2 := pX_r hq h0 x1.2.2 (by decide) e2
    have x3 := pX_r hq h0 x2.2.2 (by decide) e3
    have x4 := pX_r hq h0 x3.2.2 (by decide) e4
    have x5 := pX_r hq h0 x4.2.2 (by decide) e5
    have pq : (sw 1 (dfn (tv S1.p).toInt32.toNatClampNeg (tv S3.p).toInt32 (emt 310 0 S5))).p = S5.p := emt_p (S := S5)
    have x8 := n_br hq h0 hI _ S8 (by rw [pq]; exact x5.2.2) e8
    rw [pq] at x8
    cases h
    have pp : (lnd ((emt 310 0 S5).n - 1) (emt 309 0 (emt 301 0 (sw 0 S8)))).p = S8.p := lnd_p.trans (emt_p.trans emt_p)
    rw [pp]
    refine ⟨by omega, x8.2.1, NA_fst (by rw [x1.1]; decide) ?_⟩
    rw [← x1.2.1]
    refine NA_fst (by rw [x2.1]; decide) ?_
    rw [← x2.2.1]
    refine NA_fst (by rw [x3.1]; decide) ?_
    rw [← x3.2.1]
    refine NA_fst (by rw [x4.1]; decide) ?_
    rw [← x4.2.1]
    refine NA_fst (by rw [x5.1]; decide) ?_
    rw [← x5.2.1]
    exact x8.2.2
  · cases h
theorem n_all (hq : q ≤ 200) (h0 : tk q = 0) : NP tk q (pAll tk tv q) := n_li hq h0 (by decide) (n_pt (n_df hq h0 (n_SL hq h0 6).2) (n_SL hq h0 7).1)
end UJ
