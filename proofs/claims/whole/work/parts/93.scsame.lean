/-! The two scanners side by side: the whole text. -/
def RTk (s : SQ) (r : SR) : Prop := s.1 = r.1 ∧ ∀ i, i < s.1 → s.2.1 i ∈ TK ∧ r.2.1 i = kp (s.2.1 i) ∧ s.2.1 i ≠ 0 ∧ (s.2.1 i = 256 → ∃ m t, nm m t ∧ s.2.2 i = pn m t ∧ r.2.2.1 i = zI m ∧ r.2.2.2 i = nI t) ∧ (s.2.1 i = 257 → ∃ q : Nat, q < 26 ∧ s.2.2 i = zL q ∧ r.2.2.1 i = nI q)
section UE
variable {T : Nat → Nat} {z p : Nat}
theorem tk_blank {C : Nat → Nat} {w : Nat} (h : tkR C p = some (none, w)) : tkC C p = some (none, w) ∧ w = 1 := by
  unfold tkR at h
  unfold tkC
  split at h
  · rename_i hb
    cases h
    exact ⟨if_pos hb, rfl⟩
  split at h
  · split at h
    · cases h
    · cases h
  split at h
  · split at h
    · cases h
    · cases h
  split at h
  · cases h
  · cases h
theorem sc_same (hz : z ≤ 200) (hc : ∀ i, tA T z i < 256) : ∀ N p (s : SQ) (r r' : SR), RTk s r → srl (tA T z) z N p r = some r' → ∃ s', scl (tA T z) z N p s = .inr s' ∧ RTk s' r'
  | 0, p, s, r, r', h, e => by
    cases e
    exact ⟨s, rfl, h⟩
  | N + 1, p, s, r, r', h, e => by
    unfold srl at e
    unfold scl
    by_cases hp : p < z
    · rw [if_pos hp] at e ⊢
      cases ht : tkR (tA T z) p with
      | none =>
        rw [ht] at e
        cases e
      | some t =>
        rw [ht] at e
        obtain ⟨t1, w⟩ := t
        have e' : srl (tA T z) z N (p + w) (srA t1 r) = some r' := e
        cases t1 with
        | none =>
          have b := tk_blank ht
          rw [b.1]
          show ∃ s', scl (tA T z) z N (p + max 1 w) s = .inr s' ∧ _
          rw [show max 1 w = w by omega]
          exact sc_same hz hc N (p + w) s r r' h e'
        | some k =>
          obtain ⟨k1, x, y⟩ := k
          obtain ⟨kc, v, c1, c2, c3, c4, c5, c6, c7⟩ := tk_some hz hc ht
          rw [c1]
          show ∃ s', scl (tA T z) z N (p + max 1 w) (s.1 + 1, upd s.2.1 s.1 kc, vp_updL s.2.2 s.1 v) = .inr s' ∧ _
          rw [show max 1 w = w by omega]
          refine sc_same hz hc N (p + w) _ (srA (some (k1, x, y)) r) r' ⟨?_, ?_⟩ e'
          · show s.1 + 1 = r.1 + 1
            rw [h.1]
          · intro i hi
            have hi' : i < s.1 + 1 := hi
            show upd s.2.1 s.1 kc i ∈ TK ∧ upd r.2.1 r.1 k1 i = kp (upd s.2.1 s.1 kc i) ∧ upd s.2.1 s.1 kc i ≠ 0 ∧ (upd s.2.1 s.1 kc i = 256 → ∃ m t, nm m t ∧ vp_updL s.2.2 s.1 v i = pn m t ∧ upd r.2.2.1 r.1 x i = zI m ∧ upd r.2.2.2 r.1 y i = nI t) ∧ (upd s.2.1 s.1 kc i = 257 → ∃ q : Nat, q < 26 ∧ vp_updL s.2.2 s.1 v i = zL q ∧ upd r.2.2.1 r.1 x i = nI q)
            rw [← h.1]
            by_cases ei : i = s.1
            · rw [ei, upd_eq, upd_eq, upd_eq, upd_eq, vu_eq]
              exact ⟨c3, c2, c4, c6, c7⟩
            · rw [upd_ne ei, upd_ne ei, upd_ne ei, upd_ne ei, vu_ne ei]
              exact h.2 i (by omega)
    · rw [if_neg hp] at e ⊢
      cases e
      exact ⟨s, rfl, h⟩
end UE
