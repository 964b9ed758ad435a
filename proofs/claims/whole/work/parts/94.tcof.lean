/-! From the scanners to the parsers. -/
section UF
variable {C : Nat → Nat} {z : Nat}
theorem sqA_le {t : Option (Int32 × Int64)} {s : SQ} : (sqA t s).1 ≤ s.1 + 1 := by
  cases t with
  | none => exact Nat.le_succ _
  | some k => exact Nat.le_refl _
theorem sc_cnt : ∀ N p (s s' : SQ), scl C z N p s = .inr s' → s.1 ≤ p → s.1 ≤ z → s'.1 ≤ z
  | 0, p, s, s', h, _, h2 => by
    cases h
    exact h2
  | N + 1, p, s, s', h, h1, h2 => by
    unfold scl at h
    by_cases hp : p < z
    · rw [if_pos hp] at h
      cases ht : tkC C p with
      | none =>
        rw [ht] at h
        cases h
      | some t =>
        rw [ht] at h
        have l := sqA_le (t := t.1) (s := s)
        exact sc_cnt N (p + max 1 t.2) (sqA t.1 s) s' h (by omega) (by omega)
    · rw [if_neg hp] at h
      cases h
      exact h2
theorem TC_of {s : SQ} {r : SR} (h : RTk s r) (hq : s.1 ≤ 200) : TC (upd s.2.1 s.1 0) s.2.2 (upd (upd r.2.1 r.1 0) (r.1 + 1) 0) r.2.2.1 r.2.2.2 s.1 := by
  obtain ⟨h1, h2⟩ := h
  rw [← h1]
  refine ⟨hq, upd_eq, fun i hi => ?_, fun i hi => ?_⟩
  · by_cases e : i = s.1
    · rw [e, upd_eq, upd_ne (show s.1 ≠ s.1 + 1 by omega), upd_eq]
      decide
    · rw [upd_ne e, upd_ne (show i ≠ s.1 + 1 by omega), upd_ne e]
      have k := h2 i (by omega)
      exact ⟨k.1, k.2.1⟩
  · have k := h2 i hi
    rw [upd_ne (show i ≠ s.1 by omega)]
    exact ⟨k.2.2.1, k.2.2.2.1, k.2.2.2.2⟩
end UF
