/-! The two scanners side by side: numerals. -/
section UB
variable {C : Nat → Nat} {p : Nat}
theorem vfw_add : ∀ a b i m, vfw C (a + b) i m = vfw C b (i + a) (vfw C a i m)
  | 0, b, i, m => by
    rw [Nat.zero_add]
    rfl
  | a + 1, b, i, m => by
    rw [show a + 1 + b = a + b + 1 by omega]
    show vfw C (a + b) (i + 1) _ = vfw C b (i + (a + 1)) (vfw C a (i + 1) _)
    rw [vfw_add a b (i + 1), show i + 1 + a = i + (a + 1) by omega]
theorem dgs_no {n : Nat} (h : ¬ isD (C p)) : dgs C p n 0 = 0 := by
  cases n with
  | zero => rfl
  | succ n => exact if_neg (show ¬ isD (C (p + 0)) from h)
theorem num_same (hs : ¬ (9 < (nr C p).2.2.1 ∨ 4 < (nr C p).2.2.2)) : nuP C p = (nr C p).2.2.2 ∧ p + nuW C p = (nr C p).1 ∧ nuV C p = (nr C p).2.1 ∧ (nr C p).2.2.2 ≤ 4 ∧ (nr C p).2.2.1 ≤ 9 := by
  have a1 := nl_dgs (C := C) (p := p) 251 0 0 0
  rw [Nat.add_zero] at a1
  have a2 := nl_vfw (C := C) (p := p) 251 0 0 0
  rw [Nat.add_zero] at a2
  have m1 := dgs_min (C := C) (p := p) 9 242 0
  unfold nuV nuW
  unfold nr at hs ⊢
  have m1' : dgs C p 9 0 = min 9 (dgs C p 251 0) := m1
  generalize hD1 : dgs C p 251 0 = D1 at a1 a2 m1'
  have e1 : (nl C 251 p 0 0).1 = p + D1 := a1.1
  have e2 : (nl C 251 p 0 0).2.2 = D1 := by have := a1.2; omega
  rw [e1, e2] at hs ⊢
  by_cases hdot : C (p + D1) = 46 ∧ isD (C (p + D1 + 1))
  · rw [if_pos hdot] at hs ⊢
    have b1 := nl_dgs (C := C) (p := p + D1 + 1) 251 0 (nl C 251 p 0 0).2.1 D1
    rw [Nat.add_zero] at b1
    have b2 := nl_vfw (C := C) (p := p + D1 + 1) 251 0 (nl C 251 p 0 0).2.1 D1
    rw [Nat.add_zero] at b2
    have m2 : ∀ n, n ≤ 251 → dgs C (p + D1 + 1) n 0 = min n (dgs C (p + D1 + 1) 251 0) := by
      intro n hn
      have := dgs_min (C := C) (p := p + D1 + 1) n (251 - n) 0
      rw [show n + (251 - n) = 251 by omega] at this
      exact this
    have d2 : 1 ≤ dgs C (p + D1 + 1) 251 0 := by
      show 1 ≤ (if isD (C (p + D1 + 1 + 0)) then dgs C (p + D1 + 1) 250 (0 + 1) else 0)
      rw [if_pos (show isD (C (p + D1 + 1 + 0)) from hdot.2)]
      exact (dgs_le 250 1).1
    generalize hD2 : dgs C (p + D1 + 1) 251 0 = D2 at b1 b2 m2 d2
    have f1 : (nl C 251 (p + D1 + 1) (nl C 251 p 0 0).2.1 D1).1 = p + D1 + 1 + D2 := b1.1
    have f2 : (nl C 251 (p + D1 + 1) (nl C 251 p 0 0).2.1 D1).2.2 = D1 + D2 := by have := b1.2; omega
    have hs1 : ¬ (9 < D1 + D2 ∨ 4 < D1 + D2 - D1) := by
      rw [← f2]
      exact hs
    have g : dgs C p 9 0 = D1 := by omega
    have P : nuP C p = D2 := by
      unfold nuP
      rw [g, if_pos hdot.1, m2 (min 4 (9 - D1)) (by omega)]
      omega
    have V : (nl C 251 p 0 0).2.1 = vfw C D1 p 0 := a2 (by omega)
    have V2 : (nl C 251 (p + D1 + 1) (nl C 251 p 0 0).2.1 D1).2.1 = vfw C D2 (p + D1 + 1) (nl C 251 p 0 0).2.1 := b2 (by omega)
    show nuP C p = (nl C 251 (p + D1 + 1) (nl C 251 p 0 0).2.1 D1).2.2 - D1 ∧ p + (if nuP C p = 0 then dgs C p 9 0 else dgs C p 9 0 + 1 + nuP C p) = (nl C 251 (p + D1 + 1) (nl C 251 p 0 0).2.1 D1).1 ∧ vfw C (if nuP C p = 0 then dgs C p 9 0 else dgs C p 9 0 + 1 + nuP C p) p 0 = (nl C 251 (p + D1 + 1) (nl C 251 p 0 0).2.1 D1).2.1 ∧ (nl C 251 (p + D1 + 1) (nl C 251 p 0 0).2.1 D1).2.2 - D1 ≤ 4 ∧ (nl C 251 (p + D1 + 1) (nl C 251 p 0 0).2.1 D1).2.2 ≤ 9
    rw [P, g, if_neg (show ¬ D2 = 0 by omega), f1, f2, V2, V]
    refine ⟨by omega, by omega, ?_, by omega, by omega⟩
    rw [show D1 + 1 + D2 = D1 + (1 + D2) by omega, vfw_add, vfw_add]
    have dot : vfw C 1 (p + D1) (vfw C D1 p 0) = vfw C D1 p 0 := by
      show (if isD (C (p + D1)) then _ else vfw C D1 p 0) = _
      rw [if_neg (show ¬ isD (C (p + D1)) by rw [hdot.1]; decide)]
    rw [dot]
  · rw [if_neg hdot] at hs ⊢
    have hs1 : ¬ (9 < D1 ∨ 4 < 0) := hs
    have g : dgs C p 9 0 = D1 := by omega
    have P : nuP C p = 0 := by
      unfold nuP
      rw [g]
      by_cases h46 : C (p + D1) = 46
      · rw [if_pos h46]
        exact dgs_no (fun y => hdot ⟨h46, y⟩)
      · rw [if_neg h46]
    have V : (nl C 251 p 0 0).2.1 = vfw C D1 p 0 := a2 (by omega)
    show nuP C p = 0 ∧ p + (if nuP C p = 0 then dgs C p 9 0 else dgs C p 9 0 + 1 + nuP C p) = p + D1 ∧ vfw C (if nuP C p = 0 then dgs C p 9 0 else dgs C p 9 0 + 1 + nuP C p) p 0 = (nl C 251 p 0 0).2.1 ∧ 0 ≤ 4 ∧ D1 ≤ 9
    rw [P, if_pos rfl, g, V]
    exact ⟨rfl, rfl, rfl, by decide, by omega⟩
end UB
