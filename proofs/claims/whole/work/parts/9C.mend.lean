/-! The machine's end. -/
section WD
variable {f : Nat → Int32} {g : Nat → Int64} {e a o x y sa pa : Nat → Int32} {n N fu p i : Nat} {A : AM}
theorem aS_1 (hC : CDX f g e a o x y sa pa n N) (hI : AIv o n fu A) : (aS o x y sa pa fu A).1 ≠ 1 := by
  refine a_cases hC hI ?_ ?_ ?_ ?_ ?_ ?_ ?_ ?_ ?_ ?_ ?_ ?_ ?_ ?_ ?_ ?_
  · intro m s _ ho _ _ _ _ _ _
    rw [as_1 ho]
    exact (show (0 : Nat) ≠ 1 by decide)
  · intro v _ ho _ _ _ _ _
    rw [as_2 ho]
    exact (show (0 : Nat) ≠ 1 by decide)
  · intro _ ho _ _
    rw [as_3 ho]
    exact (show (0 : Nat) ≠ 1 by decide)
  · intro m l _ ho _ hs _ _
    rw [as_4 ho hs]
    exact (show (0 : Nat) ≠ 1 by decide)
  · intro m w l _ ho _ _ hs _ _
    cases hr : r_op A.sc (x A.b) w.1 w.2 m.1 m.2 with
    | inl z =>
      have := op_f' hr
      rw [as_5f ho hs hr]
      exact (show z ≠ 1 by omega)
    | inr z =>
      rw [as_5 ho hs hr]
      exact (show (0 : Nat) ≠ 1 by decide)
  · intro m l v _ ho _ _ _ _ hs _ _
    by_cases h0 : 0 ≤ sa (x A.b).toNatClampNeg
    · by_cases h4 : A.fr.length = 4
      · rw [as_6f ho hs h0 h4]
        exact (show (7 : Nat) ≠ 1 by decide)
      · rw [as_6 ho hs h0 h4]
        exact (show (0 : Nat) ≠ 1 by decide)
    · rw [as_6n ho hs h0]
      exact (show (6 : Nat) ≠ 1 by decide)
  · intro m w l k _ ho _ _ _ hs _
    rw [as_7 ho hs]
    exact (show (0 : Nat) ≠ 1 by decide)
  · intro m l v _ ho _ _ _ _ hs _
    rw [as_8 ho hs]
    exact (show (0 : Nat) ≠ 1 by decide)
  · intro m l _ ho _ hs _
    cases hr : r_who m.1 m.2 0 4 with
    | inl z =>
      have := who_f hr
      rw [as_9f ho hs hr]
      exact (show z ≠ 1 by omega)
    | inr z =>
      rw [as_9 ho hs hr]
      exact (show (0 : Nat) ≠ 1 by decide)
  · intro m l _ ho _ hs _
    by_cases hr : A.z + wl m.1 m.2 (max (m.2 + 1) (dgn m.1.natAbs)) ≤ 300
    · rw [as_10 ho hs hr]
      exact (show (0 : Nat) ≠ 1 by decide)
    · rw [as_10f ho hs hr]
      exact (show (8 : Nat) ≠ 1 by decide)
  · intro m l F L _ ho _ _ hF _ _
    rw [as_11 ho hF]
    exact (show (0 : Nat) ≠ 1 by decide)
  · intro t _ ho _ _ _ _ _ _ _ _
    rw [as_12 ho]
    exact (show (0 : Nat) ≠ 1 by decide)
  · intro t _ ho _ _ _ _ _ _ _ _
    rw [as_13 ho]
    exact (show (0 : Nat) ≠ 1 by decide)
  · intro _ ho _ _
    by_cases hk : A.k < fu
    · rw [as_14 ho hk]
      exact (show (0 : Nat) ≠ 1 by decide)
    · rw [as_14f ho hk]
      exact (show (4 : Nat) ≠ 1 by decide)
  · intro F L _ ho _ _ _ hF _ _
    rw [as_15 ho hF]
    exact (show (0 : Nat) ≠ 1 by decide)
  · intro _ ho hF _
    rw [as_16 ho hF]
    exact (show (100 : Nat) ≠ 1 by decide)
theorem aI_ok (hC : CDX f g e a o x y sa pa n N) : ∀ W A, AIv o n fu A → pot o fu A < W → AIv o n fu (aI o x y sa pa fu W A).2 ∧ ((aI o x y sa pa fu W A).1 = 100 ∨ (2 ≤ (aI o x y sa pa fu W A).1 ∧ (aI o x y sa pa fu W A).1 ≤ 8))
  | 0, A, _, h => absurd h (Nat.not_lt_zero _)
  | W + 1, A, hI, h => by
    obtain ⟨a1, a2, a3⟩ := a_inv hC hI
    have a4 := aS_f hC hI
    have a5 := aS_1 hC hI
    show AIv o n fu (if (aS o x y sa pa fu A).1 = 0 then aI o x y sa pa fu W (aS o x y sa pa fu A).2 else aS o x y sa pa fu A).2 ∧ ((if (aS o x y sa pa fu A).1 = 0 then aI o x y sa pa fu W (aS o x y sa pa fu A).2 else aS o x y sa pa fu A).1 = 100 ∨ (2 ≤ (if (aS o x y sa pa fu A).1 = 0 then aI o x y sa pa fu W (aS o x y sa pa fu A).2 else aS o x y sa pa fu A).1 ∧ (if (aS o x y sa pa fu A).1 = 0 then aI o x y sa pa fu W (aS o x y sa pa fu A).2 else aS o x y sa pa fu A).1 ≤ 8))
    by_cases h0 : (aS o x y sa pa fu A).1 = 0
    · rw [if_pos h0]
      have b := a3 h0
      have b2 : pot o fu (aS o x y sa pa fu A).2 + 1 ≤ pot o fu A := by
        have := b.2
        split at this <;> omega
      exact aI_ok hC W _ b.1 (by omega)
    · rw [if_neg h0, a2 h0]
      refine ⟨hI, ?_⟩
      omega
end WD
