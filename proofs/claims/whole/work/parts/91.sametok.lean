/-! The two scanners side by side: one token. -/
section UC
variable {T : Nat → Nat} {z p : Nat} {C : Nat → Nat}
theorem vfw_lt : ∀ n i m, vfw C n i m + 1 ≤ (m + 1) * 10 ^ n
  | 0, _, m => by
    show m + 1 ≤ (m + 1) * 1
    omega
  | n + 1, i, m => by
    have ih := vfw_lt n (i + 1) (if isD (C i) then m * 10 + (C i - 48) else m)
    show vfw C n (i + 1) (if isD (C i) then m * 10 + (C i - 48) else m) + 1 ≤ _
    have e : (m + 1) * 10 ^ (n + 1) = (m + 1) * 10 * 10 ^ n := by rw [Nat.pow_succ, Nat.mul_assoc, Nat.mul_comm 10]
    rw [e]
    refine Nat.le_trans ih (Nat.mul_le_mul_right _ ?_)
    split
    · rename_i h
      have := h.2
      omega
    · omega
theorem sy_dec : ∀ c, c < 256 → isSy c = true → nI c ∈ TK ∧ nI c ≠ 0 ∧ nI c ≠ 256 ∧ nI c ≠ 257 ∧ kp (nI c) ≠ 0 ∧ ¬ (kp (nI c) = 76 ∨ kp (nI c) = 71 ∨ kp (nI c) = 69 ∨ kp (nI c) = 78) := by decide +kernel
theorem we_dec : ∀ c, c < 256 → ¬ wes c = 0 → wes c ∈ TK ∧ wes c ≠ 256 ∧ wes c ≠ 257 ∧ kp (wes c) ≠ 0 ∧ (kp (wes c) = 76 ∨ kp (wes c) = 71 ∨ kp (wes c) = 69 ∨ kp (wes c) = 78) := by decide +kernel
/-- a sign: kind and width agree -/
theorem sy_same (h : C p < 256) {k : Int32 × Nat} (hk : syK C p = some k) : k.1 ∈ TK ∧ k.1 ≠ 0 ∧ k.1 ≠ 256 ∧ k.1 ≠ 257 ∧ kp k.1 ≠ 0 ∧ k.2 = (if kp k.1 = 76 ∨ kp k.1 = 71 ∨ kp k.1 = 69 ∨ kp k.1 = 78 then 2 else 1) := by
  unfold syK at hk
  split at hk
  · rename_i e
    cases hk
    have d := we_dec (C p) h e.2
    exact ⟨d.1, e.2, d.2.1, d.2.2.1, d.2.2.2.1, (if_pos d.2.2.2.2).symm⟩
  split at hk
  · cases hk
    decide
  split at hk
  · rename_i e
    cases hk
    have d := sy_dec (C p) h e
    exact ⟨d.1, d.2.1, d.2.2.1, d.2.2.2.1, d.2.2.2.2.1, (if_neg d.2.2.2.2.2).symm⟩
  · cases hk
theorem rsv_k {w : Nat} {k : Int32} (h : rsv C p w = some k) : k ∈ TK ∧ k ≠ 0 ∧ k ≠ 256 ∧ k ≠ 257 ∧ kp k ≠ 0 := by
  unfold rsv at h
  split at h
  · cases h
    decide
  split at h
  · cases h
    decide
  split at h
  · cases h
    decide
  split at h
  · cases h
    decide
  split at h
  · cases h
    decide
  · cases h
end UC
