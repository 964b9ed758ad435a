/-! The two scanners side by side: a token, the whole. -/
section UD
variable {T : Nat → Nat} {z p : Nat} {C : Nat → Nat}
theorem nr_lt (hs : ¬ (9 < (nr C p).2.2.1 ∨ 4 < (nr C p).2.2.2)) : (nr C p).2.1 + 1 ≤ 10 ^ 9 := by
  have a1 := nl_dgs (C := C) (p := p) 251 0 0 0
  rw [Nat.add_zero] at a1
  have a2 := nl_vfw (C := C) (p := p) 251 0 0 0
  rw [Nat.add_zero] at a2
  unfold nr at hs ⊢
  generalize hD1 : dgs C p 251 0 = D1 at a1 a2
  have e1 : (nl C 251 p 0 0).1 = p + D1 := a1.1
  have e2 : (nl C 251 p 0 0).2.2 = D1 := by have := a1.2; omega
  rw [e1, e2] at hs ⊢
  have vl := vfw_lt (C := C) D1 p 0
  by_cases hdot : C (p + D1) = 46 ∧ isD (C (p + D1 + 1))
  · rw [if_pos hdot] at hs ⊢
    have b1 := nl_dgs (C := C) (p := p + D1 + 1) 251 0 (nl C 251 p 0 0).2.1 D1
    rw [Nat.add_zero] at b1
    have b2 := nl_vfw (C := C) (p := p + D1 + 1) 251 0 (nl C 251 p 0 0).2.1 D1
    rw [Nat.add_zero] at b2
    generalize hD2 : dgs C (p + D1 + 1) 251 0 = D2 at b1 b2
    have f2 : (nl C 251 (p + D1 + 1) (nl C 251 p 0 0).2.1 D1).2.2 = D1 + D2 := by have := b1.2; omega
    have hs1 : ¬ (9 < D1 + D2 ∨ 4 < D1 + D2 - D1) := by
      rw [← f2]
      exact hs
    have V : (nl C 251 p 0 0).2.1 = vfw C D1 p 0 := a2 (by omega)
    have V2 : (nl C 251 (p + D1 + 1) (nl C 251 p 0 0).2.1 D1).2.1 = vfw C D2 (p + D1 + 1) (nl C 251 p 0 0).2.1 := b2 (by omega)
    show (nl C 251 (p + D1 + 1) (nl C 251 p 0 0).2.1 D1).2.1 + 1 ≤ _
    rw [V2, V]
    have v2 := vfw_lt (C := C) D2 (p + D1 + 1) (vfw C D1 p 0)
    have h1 : (vfw C D1 p 0 + 1) * 10 ^ D2 ≤ 10 ^ D1 * 10 ^ D2 := Nat.mul_le_mul_right _ (by rw [Nat.zero_add, Nat.one_mul] at vl; exact vl)
    rw [← Nat.pow_add] at h1
    exact Nat.le_trans v2 (Nat.le_trans h1 (Nat.pow_le_pow_right (by decide) (by omega)))
  · rw [if_neg hdot] at hs ⊢
    have hs1 : ¬ (9 < D1 ∨ 4 < 0) := hs
    show (nl C 251 p 0 0).2.1 + 1 ≤ _
    rw [show (nl C 251 p 0 0).2.1 = vfw C D1 p 0 from a2 (by omega)]
    rw [Nat.zero_add, Nat.one_mul] at vl
    exact Nat.le_trans vl (Nat.pow_le_pow_right (by decide) (by omega))
/-- where the reference finds a token, the project finds the same -/
theorem tk_some (hz : z ≤ 200) (hc : ∀ i, tA T z i < 256) {k x y : Int32} {w : Nat} (h : tkR (tA T z) p = some (some (k, x, y), w)) : ∃ kc v, tkC (tA T z) p = some (some (kc, v), w) ∧ k = kp kc ∧ kc ∈ TK ∧ kc ≠ 0 ∧ 1 ≤ w ∧ (kc = 256 → ∃ m s, nm m s ∧ v = pn m s ∧ x = zI m ∧ y = nI s) ∧ (kc = 257 → ∃ q : Nat, q < 26 ∧ v = zL q ∧ x = nI q) := by
  unfold tkR at h
  unfold tkC
  split at h
  · cases h
  rename_i hb
  rw [if_neg hb]
  split at h
  · rename_i hd
    rw [if_pos hd]
    split at h
    · cases h
    · rename_i hs
      cases h
      have ng := nr_ge hd
      obtain ⟨n1, n2, n3, n4, n5⟩ := num_same hs
      have nl9 := nr_lt hs
      refine ⟨256, _, by rw [show nuW (tA T z) p = (nr (tA T z) p).1 - p by omega], rfl, by decide, by decide, by omega, fun _ => ⟨((nr (tA T z) p).2.1 : Int), (nr (tA T z) p).2.2.2, ?_, ?_, rfl, rfl⟩, fun e => absurd e (by decide)⟩
      · unfold nm
        omega
      · rw [n3, n1]
  rename_i hd
  rw [if_neg hd]
  split at h
  · rename_i hw
    rw [if_pos hw]
    rw [lts_1 hz hw] at h
    split at h
    · cases h
    · rename_i h0
      cases h
      have ll := lts_le (C := tA T z) (p := p) 199 1
      unfold woK woV
      unfold woR at h0 ⊢
      by_cases h1 : lts (tA T z) p 199 1 = 1
      · rw [if_pos h1, if_pos h1, if_pos h1]
        refine ⟨257, _, rfl, rfl, by decide, by decide, by omega, fun e => absurd e (by decide), fun _ => ⟨tA T z p - 97, ?_, rfl, rfl⟩⟩
        have := hw.2
        omega
      · rw [if_neg h1] at h0 ⊢
        rw [if_neg h1, if_neg h1]
        cases hr : rsv (tA T z) p (lts (tA T z) p 199 1) with
        | none =>
          rw [hr] at h0
          exact absurd rfl h0
        | some k =>
          have rk := rsv_k hr
          exact ⟨k, _, rfl, rfl, rk.1, rk.2.1, by omega, fun e => absurd e rk.2.2.1, fun e => absurd e rk.2.2.2.1⟩
  · rename_i hw
    rw [if_neg hw]
    split at h
    · cases h
    · rename_i h0
      cases h
      unfold sgK at h0 ⊢
      cases hk : syK (tA T z) p with
      | none =>
        rw [hk] at h0
        exact absurd rfl h0
      | some k =>
        have sk := sy_same (hc p) hk
        refine ⟨k.1, 0, ?_, rfl, sk.1, sk.2.1, ?_, fun e => absurd e sk.2.2.1, fun e => absurd e sk.2.2.2.1⟩
        · show some (some (k.1, (0 : Int64)), k.2) = _
          rw [sk.2.2.2.2.2]
        · show 1 ≤ (if kp k.1 = 76 ∨ kp k.1 = 71 ∨ kp k.1 = 69 ∨ kp k.1 = 78 then 2 else 1)
          split <;> decide
end UD
