/-! The two scanners side by side: counting. -/
section UA
variable {T : Nat → Nat} {z p : Nat} {C : Nat → Nat}
theorem lts_f : ∀ N M w, z ≤ N + (p + w) → z ≤ M + (p + w) → lts (tA T z) p N w = lts (tA T z) p M w
  | 0, 0, _, _, _ => rfl
  | 0, M + 1, w, h, _ => by
    show w = (if isW (tA T z (p + w)) then lts (tA T z) p M (w + 1) else w)
    rw [tA_ge (show z ≤ p + w by omega), if_neg (show ¬ isW 0 by decide)]
  | N + 1, 0, w, _, h => by
    show (if isW (tA T z (p + w)) then lts (tA T z) p N (w + 1) else w) = w
    rw [tA_ge (show z ≤ p + w by omega), if_neg (show ¬ isW 0 by decide)]
  | N + 1, M + 1, w, h1, h2 => by
    show (if isW (tA T z (p + w)) then lts (tA T z) p N (w + 1) else w) = (if isW (tA T z (p + w)) then lts (tA T z) p M (w + 1) else w)
    rw [lts_f N M (w + 1) (by omega) (by omega)]
theorem lts_1 (hz : z ≤ 200) (h : isW (tA T z p)) : lts (tA T z) p 250 0 = lts (tA T z) p 199 1 := by
  show (if isW (tA T z (p + 0)) then lts (tA T z) p 249 (0 + 1) else 0) = _
  rw [if_pos (show isW (tA T z (p + 0)) from h)]
  exact lts_f 249 199 1 (by omega) (by omega)
theorem dgs_min : ∀ n k w, dgs C p n w = min (n + w) (dgs C p (n + k) w)
  | 0, k, w => by
    have h := dgs_le (C := C) (p := p) (0 + k) w
    show w = min (0 + w) (dgs C p (0 + k) w)
    omega
  | n + 1, k, w => by
    have ih := dgs_min n k (w + 1)
    rw [show n + 1 + k = n + k + 1 by omega]
    show (if isD (C (p + w)) then dgs C p n (w + 1) else w) = min (n + 1 + w) (if isD (C (p + w)) then dgs C p (n + k) (w + 1) else w)
    by_cases h : isD (C (p + w))
    · rw [if_pos h, if_pos h, ih]
      omega
    · rw [if_neg h, if_neg h]
      omega
theorem nl_dgs : ∀ N w v g, (nl C N (p + w) v g).1 = p + dgs C p N w ∧ (nl C N (p + w) v g).2.2 + w = g + dgs C p N w
  | 0, w, v, g => ⟨rfl, rfl⟩
  | N + 1, w, v, g => by
    have ih := nl_dgs N (w + 1) (vst (C (p + w)) v g) (g + 1)
    rw [show p + (w + 1) = p + w + 1 by omega] at ih
    show (if isD (C (p + w)) then nl C N (p + w + 1) (vst (C (p + w)) v g) (g + 1) else (p + w, v, g)).1 = p + (if isD (C (p + w)) then dgs C p N (w + 1) else w) ∧ (if isD (C (p + w)) then nl C N (p + w + 1) (vst (C (p + w)) v g) (g + 1) else (p + w, v, g)).2.2 + w = g + (if isD (C (p + w)) then dgs C p N (w + 1) else w)
    by_cases h : isD (C (p + w))
    · rw [if_pos h, if_pos h]
      omega
    · rw [if_neg h, if_neg h]
      exact ⟨rfl, rfl⟩
theorem nl_vfw : ∀ N w v g, g + dgs C p N w ≤ 9 + w → (nl C N (p + w) v g).2.1 = vfw C (dgs C p N w - w) (p + w) v
  | 0, w, v, g, _ => by
    show v = vfw C (w - w) (p + w) v
    rw [Nat.sub_self]
    rfl
  | N + 1, w, v, g, hg => by
    have hl := dgs_le (C := C) (p := p) N (w + 1)
    have ih := nl_vfw N (w + 1) (vst (C (p + w)) v g) (g + 1)
    rw [show p + (w + 1) = p + w + 1 by omega] at ih
    have e : dgs C p (N + 1) w = if isD (C (p + w)) then dgs C p N (w + 1) else w := rfl
    rw [e] at hg ⊢
    show (if isD (C (p + w)) then nl C N (p + w + 1) (vst (C (p + w)) v g) (g + 1) else (p + w, v, g)).2.1 = _
    by_cases h : isD (C (p + w))
    · rw [if_pos h] at hg ⊢
      rw [if_pos h, ih (by omega)]
      have g9 : g < 9 := by omega
      rw [show vst (C (p + w)) v g = 10 * v + (C (p + w) - 48) from if_pos g9, show dgs C p N (w + 1) - w = dgs C p N (w + 1) - (w + 1) + 1 by omega]
      show _ = vfw C (dgs C p N (w + 1) - (w + 1)) (p + w + 1) (if isD (C (p + w)) then v * 10 + (C (p + w) - 48) else v)
      rw [if_pos h, Nat.mul_comm]
    · rw [if_neg h] at hg ⊢
      rw [if_neg h, Nat.sub_self]
      rfl
end UA
