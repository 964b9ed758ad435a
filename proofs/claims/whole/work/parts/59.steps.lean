/-! The faults of the reckoning. -/
theorem chk_f {m : Int} {s k : Nat} (h : chk m s = .inl k) : k = 3 := by
  unfold chk at h
  split at h
  · cases h
    rfl
  · split at h
    · cases h
    · cases h
      rfl
theorem who_f {b lo hi : Int} {t k : Nat} (h : r_who b t lo hi = .inl k) : k = 5 := by
  unfold r_who at h
  split at h
  · cases h
    rfl
  · split at h
    · cases h
      rfl
    · split at h
      · cases h
      · cases h
        rfl
theorem quo_f {c s t k : Nat} {a b : Int} (h : r_quo c a s b t = .inl k) : k = 2 ∨ k = 3 := by
  unfold r_quo at h
  split at h
  · cases h
    exact Or.inl rfl
  · exact Or.inr (chk_f h)
theorem rem_f {s t k : Nat} {a b : Int} (h : r_rem a s b t = .inl k) : k = 2 ∨ k = 3 := by
  unfold r_rem at h
  split at h
  · cases h
    exact Or.inl rfl
  · exact Or.inr (chk_f h)
theorem pwi_f {c s k : Nat} {a : Int} : ∀ n m t, r_pwi c a s n m t = .inl k → k = 3
  | 0, m, t, h => by cases h
  | n + 1, m, t, h => by
    unfold r_pwi at h
    split at h
    · rename_i f hf
      cases h
      exact chk_f hf
    · exact pwi_f n _ _ h
theorem pow_f {c s t k : Nat} {a b : Int} (h : r_pow c a s b t = .inl k) : k = 2 ∨ k = 3 ∨ k = 5 := by
  unfold r_pow at h
  split at h
  · rename_i f hf
    cases h
    exact Or.inr (Or.inr (who_f hf))
  · split at h
    · rename_i f hf
      cases h
      exact Or.inr (Or.inl (pwi_f _ _ _ hf))
    · split at h
      · rcases quo_f h with h | h
        · exact Or.inl h
        · exact Or.inr (Or.inl h)
      · cases h
theorem op_f' {c s t k : Nat} {o : Int32} {a b : Int} (h : r_op c o a s b t = .inl k) : k = 2 ∨ k = 3 ∨ k = 5 := by
  unfold r_op at h
  split at h
  · rcases rem_f h with h | h
    · exact Or.inl h
    · exact Or.inr (Or.inl h)
  · split at h
    · exact Or.inr (Or.inl (chk_f h))
    · split at h
      · exact Or.inr (Or.inl (chk_f h))
      · split at h
        · exact Or.inr (Or.inl (chk_f h))
        · split at h
          · rcases quo_f h with h | h
            · exact Or.inl h
            · exact Or.inr (Or.inl h)
          · split at h
            · exact pow_f h
            · cases h
theorem op_f {c s t k : Nat} {o : Int32} {a b : Int} (h : r_op c o a s b t = .inl k) : k ≠ 99 ∧ k ≠ 0 := by
  have := op_f' h
  omega
/-! The machine's steps one by one; it keeps what it needs, and its work is bounded. -/
section AC2
variable {f : Nat → Int32} {g : Nat → Int64} {e a o x y sa pa : Nat → Int32} {n N fu : Nat} {A : AM} {m w q : Int × Nat} {l : List (Int × Nat)} {F : AF} {L : List AF}
theorem as_1 (h : o A.b = 1) : aS o x y sa pa fu A = (0, amk (A.b + 1) (((x A.b).toInt, (y A.b).toNatClampNeg) :: A.st) A.fl A.fr A.vr A.sc A.k A.z A.ot) := by
  unfold aS
  rw [if_pos h]
theorem as_2 (h : o A.b = 2) : aS o x y sa pa fu A = (0, amk (A.b + 1) (A.vr (x A.b).toNatClampNeg :: A.st) A.fl A.fr A.vr A.sc A.k A.z A.ot) := by
  unfold aS
  rw [if_neg (show ¬ o A.b = 1 by rw [h]; decide), if_pos h]
theorem as_3 (h : o A.b = 3) : aS o x y sa pa fu A = (0, amk (A.b + 1) (((A.sc : Int), 0) :: A.st) A.fl A.fr A.vr A.sc A.k A.z A.ot) := by
  unfold aS
  rw [if_neg (show ¬ o A.b = 1 by rw [h]; decide), if_neg (show ¬ o A.b = 2 by rw [h]; decide), if_pos h]
theorem as_4 (h : o A.b = 4) (hs : A.st = m :: l) : aS o x y sa pa fu A = (0, amk (A.b + 1) ((-m.1, m.2) :: l) A.fl A.fr A.vr A.sc A.k A.z A.ot) := by
  unfold aS
  rw [if_neg (show ¬ o A.b = 1 by rw [h]; decide), if_neg (show ¬ o A.b = 2 by rw [h]; decide), if_neg (show ¬ o A.b = 3 by rw [h]; decide), if_pos h]
  rw [hs]
theorem as_5f (h : o A.b = 5) (hs : A.st = m :: w :: l) {k : Nat} (hr : r_op A.sc (x A.b) w.1 w.2 m.1 m.2 = .inl k) : aS o x y sa pa fu A = (k, A) := by
  unfold aS
  rw [if_neg (show ¬ o A.b = 1 by rw [h]; decide), if_neg (show ¬ o A.b = 2 by rw [h]; decide), if_neg (show ¬ o A.b = 3 by rw [h]; decide), if_neg (show ¬ o A.b = 4 by rw [h]; decide), if_pos h]
  rw [hs]
  show (match r_op A.sc (x A.b) w.1 w.2 m.1 m.2 with | .inl f => (f, A) | .inr q => (0, amk (A.b + 1) (q :: l) A.fl A.fr A.vr A.sc A.k A.z A.ot)) = _
  rw [hr]
theorem as_5 (h : o A.b = 5) (hs : A.st = m :: w :: l) (hr : r_op A.sc (x A.b) w.1 w.2 m.1 m.2 = .inr q) : aS o x y sa pa fu A = (0, amk (A.b + 1) (q :: l) A.fl A.fr A.vr A.sc A.k A.z A.ot) := by
  unfold aS
  rw [if_neg (show ¬ o A.b = 1 by rw [h]; decide), if_neg (show ¬ o A.b = 2 by rw [h]; decide), if_neg (show ¬ o A.b = 3 by rw [h]; decide), if_neg (show ¬ o A.b = 4 by rw [h]; decide), if_pos h]
  rw [hs]
  show (match r_op A.sc (x A.b) w.1 w.2 m.1 m.2 with | .inl f => (f, A) | .inr q => (0, amk (A.b + 1) (q :: l) A.fl A.fr A.vr A.sc A.k A.z A.ot)) = _
  rw [hr]
theorem as_6n (h : o A.b = 6) (hs : A.st = m :: l) (hn : ¬ 0 ≤ sa (x A.b).toNatClampNeg) : aS o x y sa pa fu A = (6, A) := by
  unfold aS
  rw [if_neg (show ¬ o A.b = 1 by rw [h]; decide), if_neg (show ¬ o A.b = 2 by rw [h]; decide), if_neg (show ¬ o A.b = 3 by rw [h]; decide), if_neg (show ¬ o A.b = 4 by rw [h]; decide), if_neg (show ¬ o A.b = 5 by rw [h]; decide), if_pos h]
  rw [hs]
  exact if_neg hn
theorem as_6f (h : o A.b = 6) (hs : A.st = m :: l) (hn : 0 ≤ sa (x A.b).toNatClampNeg) (h4 : A.fr.length = 4) : aS o x y sa pa fu A = (7, A) := by
  unfold aS
  rw [if_neg (show ¬ o A.b = 1 by rw [h]; decide), if_neg (show ¬ o A.b = 2 by rw [h]; decide), if_neg (show ¬ o A.b = 3 by rw [h]; decide), if_neg (show ¬ o A.b = 4 by rw [h]; decide), if_neg (show ¬ o A.b = 5 by rw [h]; decide), if_pos h]
  rw [hs]
  exact (if_pos hn).trans (if_pos h4)
theorem as_6 (h : o A.b = 6) (hs : A.st = m :: l) (hn : 0 ≤ sa (x A.b).toNatClampNeg) (h4 : ¬ A.fr.length = 4) : aS o x y sa pa fu A = (0, amk (sa (x A.b).toNatClampNeg).toNatClampNeg l A.fl ((A.b + 1, (pa (x A.b).toNatClampNeg).toNatClampNeg, (A.vr (pa (x A.b).toNatClampNeg).toNatClampNeg).1, (A.vr (pa (x A.b).toNatClampNeg).toNatClampNeg).2, l.length) :: A.fr) (uv A.vr (pa (x A.b).toNatClampNeg).toNatClampNeg m) A.sc A.k A.z A.ot) := by
  unfold aS
  rw [if_neg (show ¬ o A.b = 1 by rw [h]; decide), if_neg (show ¬ o A.b = 2 by rw [h]; decide), if_neg (show ¬ o A.b = 3 by rw [h]; decide), if_neg (show ¬ o A.b = 4 by rw [h]; decide), if_neg (show ¬ o A.b = 5 by rw [h]; decide), if_pos h]
  rw [hs]
  exact (if_pos hn).trans (if_neg h4)
theorem as_7 (h : o A.b = 7) (hs : A.st = m :: w :: l) : aS o x y sa pa fu A = (0, amk (A.b + 1) l (rmo (x A.b) (w.1 * 10 ^ (4 - w.2)) (m.1 * 10 ^ (4 - m.2))) A.fr A.vr A.sc A.k A.z A.ot) := by
  unfold aS
  rw [if_neg (show ¬ o A.b = 1 by rw [h]; decide), if_neg (show ¬ o A.b = 2 by rw [h]; decide), if_neg (show ¬ o A.b = 3 by rw [h]; decide), if_neg (show ¬ o A.b = 4 by rw [h]; decide), if_neg (show ¬ o A.b = 5 by rw [h]; decide), if_neg (show ¬ o A.b = 6 by rw [h]; decide), if_pos h]
  rw [hs]
theorem as_8 (h : o A.b = 8) (hs : A.st = m :: l) : aS o x y sa pa fu A = (0, amk (A.b + 1) l A.fl A.fr (uv A.vr (x A.b).toNatClampNeg m) A.sc A.k A.z A.ot) := by
  unfold aS
  rw [if_neg (show ¬ o A.b = 1 by rw [h]; decide), if_neg (show ¬ o A.b = 2 by rw [h]; decide), if_neg (show ¬ o A.b = 3 by rw [h]; decide), if_neg (show ¬ o A.b = 4 by rw [h]; decide), if_neg (show ¬ o A.b = 5 by rw [h]; decide), if_neg (show ¬ o A.b = 6 by rw [h]; decide), if_neg (show ¬ o A.b = 7 by rw [h]; decide), if_pos h]
  rw [hs]
theorem as_9f (h : o A.b = 9) (hs : A.st = m :: l) {k : Nat} (hr : r_who m.1 m.2 0 4 = .inl k) : aS o x y sa pa fu A = (k, A) := by
  unfold aS
  rw [if_neg (show ¬ o A.b = 1 by rw [h]; decide), if_neg (show ¬ o A.b = 2 by rw [h]; decide), if_neg (show ¬ o A.b = 3 by rw [h]; decide), if_neg (show ¬ o A.b = 4 by rw [h]; decide), if_neg (show ¬ o A.b = 5 by rw [h]; decide), if_neg (show ¬ o A.b = 6 by rw [h]; decide), if_neg (show ¬ o A.b = 7 by rw [h]; decide), if_neg (show ¬ o A.b = 8 by rw [h]; decide), if_pos h]
  rw [hs]
  show (match r_who m.1 m.2 0 4 with | .inl f => (f, A) | .inr n => (0, amk (A.b + 1) l A.fl A.fr A.vr n.toNat A.k A.z A.ot)) = _
  rw [hr]
theorem as_9 (h : o A.b = 9) (hs : A.st = m :: l) {k : Int} (hr : r_who m.1 m.2 0 4 = .inr k) : aS o x y sa pa fu A = (0, amk (A.b + 1) l A.fl A.fr A.vr k.toNat A.k A.z A.ot) := by
  unfold aS
  rw [if_neg (show ¬ o A.b = 1 by rw [h]; decide), if_neg (show ¬ o A.b = 2 by rw [h]; decide), if_neg (show ¬ o A.b = 3 by rw [h]; decide), if_neg (show ¬ o A.b = 4 by rw [h]; decide), if_neg (show ¬ o A.b = 5 by rw [h]; decide), if_neg (show ¬ o A.b = 6 by rw [h]; decide), if_neg (show ¬ o A.b = 7 by rw [h]; decide), if_neg (show ¬ o A.b = 8 by rw [h]; decide), if_pos h]
  rw [hs]
  show (match r_who m.1 m.2 0 4 with | .inl f => (f, A) | .inr n => (0, amk (A.b + 1) l A.fl A.fr A.vr n.toNat A.k A.z A.ot)) = _
  rw [hr]
theorem as_10 (h : o A.b = 10) (hs : A.st = m :: l) (hr : A.z + wl m.1 m.2 (max (m.2 + 1) (dgn m.1.natAbs)) ≤ 300) : aS o x y sa pa fu A = (0, amk (A.b + 1) l A.fl A.fr A.vr A.sc A.k (A.z + wl m.1 m.2 (max (m.2 + 1) (dgn m.1.natAbs))) (wa A.ot m.1.natAbs m.2 (max (m.2 + 1) (dgn m.1.natAbs)) (A.z + wl m.1 m.2 (max (m.2 + 1) (dgn m.1.natAbs))) (wl m.1 m.2 (max (m.2 + 1) (dgn m.1.natAbs))))) := by
  unfold aS
  rw [if_neg (show ¬ o A.b = 1 by rw [h]; decide), if_neg (show ¬ o A.b = 2 by rw [h]; decide), if_neg (show ¬ o A.b = 3 by rw [h]; decide), if_neg (show ¬ o A.b = 4 by rw [h]; decide), if_neg (show ¬ o A.b = 5 by rw [h]; decide), if_neg (show ¬ o A.b = 6 by rw [h]; decide), if_neg (show ¬ o A.b = 7 by rw [h]; decide), if_neg (show ¬ o A.b = 8 by rw [h]; decide), if_neg (show ¬ o A.b = 9 by rw [h]; decide), if_pos h]
  rw [hs]
  exact if_pos hr
theorem as_10f (h : o A.b = 10) (hs : A.st = m :: l) (hr : ¬ A.z + wl m.1 m.2 (max (m.2 + 1) (dgn m.1.natAbs)) ≤ 300) : aS o x y sa pa fu A = (8, A) := by
  unfold aS
  rw [if_neg (show ¬ o A.b = 1 by rw [h]; decide), if_neg (show ¬ o A.b = 2 by rw [h]; decide), if_neg (show ¬ o A.b = 3 by rw [h]; decide), if_neg (show ¬ o A.b = 4 by rw [h]; decide), if_neg (show ¬ o A.b = 5 by rw [h]; decide), if_neg (show ¬ o A.b = 6 by rw [h]; decide), if_neg (show ¬ o A.b = 7 by rw [h]; decide), if_neg (show ¬ o A.b = 8 by rw [h]; decide), if_neg (show ¬ o A.b = 9 by rw [h]; decide), if_pos h]
  rw [hs]
  exact if_neg hr
theorem as_11 (h : o A.b = 11) (hF : A.fr = F :: L) : aS o x y sa pa fu A = (0, amk F.1 A.st A.fl L (uv A.vr F.2.1 (F.2.2.1, F.2.2.2.1)) A.sc A.k A.z A.ot) := by
  unfold aS
  rw [if_neg (show ¬ o A.b = 1 by rw [h]; decide), if_neg (show ¬ o A.b = 2 by rw [h]; decide), if_neg (show ¬ o A.b = 3 by rw [h]; decide), if_neg (show ¬ o A.b = 4 by rw [h]; decide), if_neg (show ¬ o A.b = 5 by rw [h]; decide), if_neg (show ¬ o A.b = 6 by rw [h]; decide), if_neg (show ¬ o A.b = 7 by rw [h]; decide), if_neg (show ¬ o A.b = 8 by rw [h]; decide), if_neg (show ¬ o A.b = 9 by rw [h]; decide), if_neg (show ¬ o A.b = 10 by rw [h]; decide), if_pos h]
  rw [hF]
theorem as_12 (h : o A.b = 12) : aS o x y sa pa fu A = (0, amk (if A.fl = true then A.b + 1 else (x A.b).toNatClampNeg) A.st A.fl A.fr A.vr A.sc A.k A.z A.ot) := by
  unfold aS
  rw [if_neg (show ¬ o A.b = 1 by rw [h]; decide), if_neg (show ¬ o A.b = 2 by rw [h]; decide), if_neg (show ¬ o A.b = 3 by rw [h]; decide), if_neg (show ¬ o A.b = 4 by rw [h]; decide), if_neg (show ¬ o A.b = 5 by rw [h]; decide), if_neg (show ¬ o A.b = 6 by rw [h]; decide), if_neg (show ¬ o A.b = 7 by rw [h]; decide), if_neg (show ¬ o A.b = 8 by rw [h]; decide), if_neg (show ¬ o A.b = 9 by rw [h]; decide), if_neg (show ¬ o A.b = 10 by rw [h]; decide), if_neg (show ¬ o A.b = 11 by rw [h]; decide), if_pos h]
theorem as_13 (h : o A.b = 13) : aS o x y sa pa fu A = (0, amk (x A.b).toNatClampNeg A.st A.fl A.fr A.vr A.sc A.k A.z A.ot) := by
  unfold aS
  rw [if_neg (show ¬ o A.b = 1 by rw [h]; decide), if_neg (show ¬ o A.b = 2 by rw [h]; decide), if_neg (show ¬ o A.b = 3 by rw [h]; decide), if_neg (show ¬ o A.b = 4 by rw [h]; decide), if_neg (show ¬ o A.b = 5 by rw [h]; decide), if_neg (show ¬ o A.b = 6 by rw [h]; decide), if_neg (show ¬ o A.b = 7 by rw [h]; decide), if_neg (show ¬ o A.b = 8 by rw [h]; decide), if_neg (show ¬ o A.b = 9 by rw [h]; decide), if_neg (show ¬ o A.b = 10 by rw [h]; decide), if_neg (show ¬ o A.b = 11 by rw [h]; decide), if_neg (show ¬ o A.b = 12 by rw [h]; decide), if_pos h]
theorem as_14 (h : o A.b = 14) (hk : A.k < fu) : aS o x y sa pa fu A = (0, amk (A.b + 1) A.st A.fl A.fr A.vr A.sc (A.k + 1) A.z A.ot) := by
  unfold aS
  rw [if_neg (show ¬ o A.b = 1 by rw [h]; decide), if_neg (show ¬ o A.b = 2 by rw [h]; decide), if_neg (show ¬ o A.b = 3 by rw [h]; decide), if_neg (show ¬ o A.b = 4 by rw [h]; decide), if_neg (show ¬ o A.b = 5 by rw [h]; decide), if_neg (show ¬ o A.b = 6 by rw [h]; decide), if_neg (show ¬ o A.b = 7 by rw [h]; decide), if_neg (show ¬ o A.b = 8 by rw [h]; decide), if_neg (show ¬ o A.b = 9 by rw [h]; decide), if_neg (show ¬ o A.b = 10 by rw [h]; decide), if_neg (show ¬ o A.b = 11 by rw [h]; decide), if_neg (show ¬ o A.b = 12 by rw [h]; decide), if_neg (show ¬ o A.b = 13 by rw [h]; decide), if_pos h]
  exact if_pos hk
theorem as_14f (h : o A.b = 14) (hk : ¬ A.k < fu) : aS o x y sa pa fu A = (4, A) := by
  unfold aS
  rw [if_neg (show ¬ o A.b = 1 by rw [h]; decide), if_neg (show ¬ o A.b = 2 by rw [h]; decide), if_neg (show ¬ o A.b = 3 by rw [h]; decide), if_neg (show ¬ o A.b = 4 by rw [h]; decide), if_neg (show ¬ o A.b = 5 by rw [h]; decide), if_neg (show ¬ o A.b = 6 by rw [h]; decide), if_neg (show ¬ o A.b = 7 by rw [h]; decide), if_neg (show ¬ o A.b = 8 by rw [h]; decide), if_neg (show ¬ o A.b = 9 by rw [h]; decide), if_neg (show ¬ o A.b = 10 by rw [h]; decide), if_neg (show ¬ o A.b = 11 by rw [h]; decide), if_neg (show ¬ o A.b = 12 by rw [h]; decide), if_neg (show ¬ o A.b = 13 by rw [h]; decide), if_pos h]
  exact if_neg hk
theorem as_15 (h : o A.b = 15) (hF : A.fr = F :: L) : aS o x y sa pa fu A = (0, amk F.1 ((0, 0) :: A.st) A.fl L (uv A.vr F.2.1 (F.2.2.1, F.2.2.2.1)) A.sc A.k A.z A.ot) := by
  unfold aS
  rw [if_neg (show ¬ o A.b = 1 by rw [h]; decide), if_neg (show ¬ o A.b = 2 by rw [h]; decide), if_neg (show ¬ o A.b = 3 by rw [h]; decide), if_neg (show ¬ o A.b = 4 by rw [h]; decide), if_neg (show ¬ o A.b = 5 by rw [h]; decide), if_neg (show ¬ o A.b = 6 by rw [h]; decide), if_neg (show ¬ o A.b = 7 by rw [h]; decide), if_neg (show ¬ o A.b = 8 by rw [h]; decide), if_neg (show ¬ o A.b = 9 by rw [h]; decide), if_neg (show ¬ o A.b = 10 by rw [h]; decide), if_neg (show ¬ o A.b = 11 by rw [h]; decide), if_neg (show ¬ o A.b = 12 by rw [h]; decide), if_neg (show ¬ o A.b = 13 by rw [h]; decide), if_neg (show ¬ o A.b = 14 by rw [h]; decide)]
  rw [hF]
theorem as_16 (h : o A.b = 15) (hF : A.fr = []) : aS o x y sa pa fu A = (100, A) := by
  unfold aS
  rw [if_neg (show ¬ o A.b = 1 by rw [h]; decide), if_neg (show ¬ o A.b = 2 by rw [h]; decide), if_neg (show ¬ o A.b = 3 by rw [h]; decide), if_neg (show ¬ o A.b = 4 by rw [h]; decide), if_neg (show ¬ o A.b = 5 by rw [h]; decide), if_neg (show ¬ o A.b = 6 by rw [h]; decide), if_neg (show ¬ o A.b = 7 by rw [h]; decide), if_neg (show ¬ o A.b = 8 by rw [h]; decide), if_neg (show ¬ o A.b = 9 by rw [h]; decide), if_neg (show ¬ o A.b = 10 by rw [h]; decide), if_neg (show ¬ o A.b = 11 by rw [h]; decide), if_neg (show ¬ o A.b = 12 by rw [h]; decide), if_neg (show ¬ o A.b = 13 by rw [h]; decide), if_neg (show ¬ o A.b = 14 by rw [h]; decide)]
  rw [hF]
theorem tn_1 {b : Nat} (h : o b = 1) : tau o (b + 1) = hh (tau o b) + 1 := by
  show (if o b = 14 then 900 else if o b = 1 ∨ o b = 2 ∨ o b = 3 then hh (tau o b) + 1 else if o b = 4 ∨ o b = 6 then hh (tau o b) else if o b = 5 ∨ o b = 8 ∨ o b = 9 ∨ o b = 10 then hh (tau o b) - 1 else if o b = 7 then 1000 else 0) = _
  rw [h]
  rfl
theorem tn_2 {b : Nat} (h : o b = 2) : tau o (b + 1) = hh (tau o b) + 1 := by
  show (if o b = 14 then 900 else if o b = 1 ∨ o b = 2 ∨ o b = 3 then hh (tau o b) + 1 else if o b = 4 ∨ o b = 6 then hh (tau o b) else if o b = 5 ∨ o b = 8 ∨ o b = 9 ∨ o b = 10 then hh (tau o b) - 1 else if o b = 7 then 1000 else 0) = _
  rw [h]
  rfl
theorem tn_3 {b : Nat} (h : o b = 3) : tau o (b + 1) = hh (tau o b) + 1 := by
  show (if o b = 14 then 900 else if o b = 1 ∨ o b = 2 ∨ o b = 3 then hh (tau o b) + 1 else if o b = 4 ∨ o b = 6 then hh (tau o b) else if o b = 5 ∨ o b = 8 ∨ o b = 9 ∨ o b = 10 then hh (tau o b) - 1 else if o b = 7 then 1000 else 0) = _
  rw [h]
  rfl
theorem tn_4 {b : Nat} (h : o b = 4) : tau o (b + 1) = hh (tau o b) := by
  show (if o b = 14 then 900 else if o b = 1 ∨ o b = 2 ∨ o b = 3 then hh (tau o b) + 1 else if o b = 4 ∨ o b = 6 then hh (tau o b) else if o b = 5 ∨ o b = 8 ∨ o b = 9 ∨ o b = 10 then hh (tau o b) - 1 else if o b = 7 then 1000 else 0) = _
  rw [h]
  rfl
theorem tn_5 {b : Nat} (h : o b = 5) : tau o (b + 1) = hh (tau o b) - 1 := by
  show (if o b = 14 then 900 else if o b = 1 ∨ o b = 2 ∨ o b = 3 then hh (tau o b) + 1 else if o b = 4 ∨ o b = 6 then hh (tau o b) else if o b = 5 ∨ o b = 8 ∨ o b = 9 ∨ o b = 10 then hh (tau o b) - 1 else if o b = 7 then 1000 else 0) = _
  rw [h]
  rfl
theorem tn_6 {b : Nat} (h : o b = 6) : tau o (b + 1) = hh (tau o b) := by
  show (if o b = 14 then 900 else if o b = 1 ∨ o b = 2 ∨ o b = 3 then hh (tau o b) + 1 else if o b = 4 ∨ o b = 6 then hh (tau o b) else if o b = 5 ∨ o b = 8 ∨ o b = 9 ∨ o b = 10 then hh (tau o b) - 1 else if o b = 7 then 1000 else 0) = _
  rw [h]
  rfl
theorem tn_7 {b : Nat} (h : o b = 7) : tau o (b + 1) = 1000 := by
  show (if o b = 14 then 900 else if o b = 1 ∨ o b = 2 ∨ o b = 3 then hh (tau o b) + 1 else if o b = 4 ∨ o b = 6 then hh (tau o b) else if o b = 5 ∨ o b = 8 ∨ o b = 9 ∨ o b = 10 then hh (tau o b) - 1 else if o b = 7 then 1000 else 0) = _
  rw [h]
  rfl
theorem tn_8 {b : Nat} (h : o b = 8) : tau o (b + 1) = hh (tau o b) - 1 := by
  show (if o b = 14 then 900 else if o b = 1 ∨ o b = 2 ∨ o b = 3 then hh (tau o b) + 1 else if o b = 4 ∨ o b = 6 then hh (tau o b) else if o b = 5 ∨ o b = 8 ∨ o b = 9 ∨ o b = 10 then hh (tau o b) - 1 else if o b = 7 then 1000 else 0) = _
  rw [h]
  rfl
theorem tn_9 {b : Nat} (h : o b = 9) : tau o (b + 1) = hh (tau o b) - 1 := by
  show (if o b = 14 then 900 else if o b = 1 ∨ o b = 2 ∨ o b = 3 then hh (tau o b) + 1 else if o b = 4 ∨ o b = 6 then hh (tau o b) else if o b = 5 ∨ o b = 8 ∨ o b = 9 ∨ o b = 10 then hh (tau o b) - 1 else if o b = 7 then 1000 else 0) = _
  rw [h]
  rfl
theorem tn_10 {b : Nat} (h : o b = 10) : tau o (b + 1) = hh (tau o b) - 1 := by
  show (if o b = 14 then 900 else if o b = 1 ∨ o b = 2 ∨ o b = 3 then hh (tau o b) + 1 else if o b = 4 ∨ o b = 6 then hh (tau o b) else if o b = 5 ∨ o b = 8 ∨ o b = 9 ∨ o b = 10 then hh (tau o b) - 1 else if o b = 7 then 1000 else 0) = _
  rw [h]
  rfl
theorem tn_11 {b : Nat} (h : o b = 11) : tau o (b + 1) = 0 := by
  show (if o b = 14 then 900 else if o b = 1 ∨ o b = 2 ∨ o b = 3 then hh (tau o b) + 1 else if o b = 4 ∨ o b = 6 then hh (tau o b) else if o b = 5 ∨ o b = 8 ∨ o b = 9 ∨ o b = 10 then hh (tau o b) - 1 else if o b = 7 then 1000 else 0) = _
  rw [h]
  rfl
theorem tn_12 {b : Nat} (h : o b = 12) : tau o (b + 1) = 0 := by
  show (if o b = 14 then 900 else if o b = 1 ∨ o b = 2 ∨ o b = 3 then hh (tau o b) + 1 else if o b = 4 ∨ o b = 6 then hh (tau o b) else if o b = 5 ∨ o b = 8 ∨ o b = 9 ∨ o b = 10 then hh (tau o b) - 1 else if o b = 7 then 1000 else 0) = _
  rw [h]
  rfl
theorem tn_13 {b : Nat} (h : o b = 13) : tau o (b + 1) = 0 := by
  show (if o b = 14 then 900 else if o b = 1 ∨ o b = 2 ∨ o b = 3 then hh (tau o b) + 1 else if o b = 4 ∨ o b = 6 then hh (tau o b) else if o b = 5 ∨ o b = 8 ∨ o b = 9 ∨ o b = 10 then hh (tau o b) - 1 else if o b = 7 then 1000 else 0) = _
  rw [h]
  rfl
theorem tn_14 {b : Nat} (h : o b = 14) : tau o (b + 1) = 900 := by
  show (if o b = 14 then 900 else if o b = 1 ∨ o b = 2 ∨ o b = 3 then hh (tau o b) + 1 else if o b = 4 ∨ o b = 6 then hh (tau o b) else if o b = 5 ∨ o b = 8 ∨ o b = 9 ∨ o b = 10 then hh (tau o b) - 1 else if o b = 7 then 1000 else 0) = _
  rw [h]
  rfl
theorem tn_15 {b : Nat} (h : o b = 15) : tau o (b + 1) = 0 := by
  show (if o b = 14 then 900 else if o b = 1 ∨ o b = 2 ∨ o b = 3 then hh (tau o b) + 1 else if o b = 4 ∨ o b = 6 then hh (tau o b) else if o b = 5 ∨ o b = 8 ∨ o b = 9 ∨ o b = 10 then hh (tau o b) - 1 else if o b = 7 then 1000 else 0) = _
  rw [h]
  rfl
theorem rn_o {b : Nat} (h1 : o b ≠ 15) (h2 : o b ≠ 13) : rho o (b + 1) = rho o b := by
  show (if o b = 15 then false else if o b = 13 ∧ tau o b = 0 then true else rho o b) = _
  rw [if_neg h1, if_neg (fun z => h2 z.1)]
theorem ht_h {t : Nat} (h : t ≤ 23) : ht t = hh t := if_neg (by omega)
theorem hh_h {t : Nat} (h : t ≤ 23) : hh t = t := if_neg (by omega)
/-- an address that no loop jumps from costs no more than what lies behind it -/
theorem wt_le {b : Nat} (h : ¬ (o b = 13 ∧ tau o b = 900)) : wt o b ≤ 3 * (600 - psi o b) ∨ (o b = 15 ∧ wt o b = 2) := by
  unfold wt
  by_cases h1 : o b = 14
  · rw [if_pos h1]
    exact Or.inl (Nat.zero_le _)
  · rw [if_neg h1, if_neg h]
    by_cases h2 : o b = 15
    · rw [if_pos h2]
      exact Or.inr ⟨h2, rfl⟩
    · rw [if_neg h2]
      exact Or.inl (Nat.le_refl _)
theorem wt_n {b : Nat} (h1 : o b ≠ 14) (h2 : ¬ (o b = 13 ∧ tau o b = 900)) (h3 : o b ≠ 15) : wt o b = 3 * (600 - psi o b) := by
  unfold wt
  rw [if_neg h1, if_neg h2, if_neg h3]
theorem whob4 {b : Int} {t : Nat} {k : Int} (h : r_who b t 0 4 = .inr k) : 0 ≤ k ∧ k ≤ 4 := by
  unfold r_who at h
  split at h
  · cases h
  · split at h
    · cases h
    · split at h
      · cases h
        omega
      · cases h
theorem uv_nm {vr : Nat → Int × Nat} {v : Nat} {m : Int × Nat} (h : ∀ v, v < 26 → nm (vr v).1 (vr v).2) (hm : nm m.1 m.2) : ∀ u, u < 26 → nm (uv vr v m u).1 (uv vr v m u).2 := by
  intro u hu
  unfold uv
  split
  · exact hm
  · exact h u hu
/-- what a step to the next address keeps -/
theorem nx_I (hI : AIv o n fu A) (hlt : A.b < n) (h13 : o A.b ≠ 13) (h15 : o A.b ≠ 15) {st : List (Int × Nat)} {fl : Bool} {vr : Nat → Int × Nat} {sc k z : Nat} {ot : Nat → Int32} (h1 : ∀ m ∈ st, nm m.1 m.2) (h2 : ∀ v, v < 26 → nm (vr v).1 (vr v).2) (h3 : sc ≤ 4) (h4 : k ≤ fu) (h5 : z ≤ 300) (h6 : st.length = hb A.fr + ht (tau o (A.b + 1))) : AIv o n fu (amk (A.b + 1) st fl A.fr vr sc k z ot) := by
  obtain ⟨i1, i2, i3, i4, i5, i6, i7, i8, i9, i10⟩ := hI
  exact ⟨h1, h2, h3, h4, h5, hlt, i7, i8, h6, (rn_o h15 h13).trans i10⟩
/-- what it costs -/
theorem nx_P (hC : CDX f g e a o x y sa pa n N) (hlt : A.b < n) (h13 : o A.b ≠ 13) (h14 : o A.b ≠ 14) (h15 : o A.b ≠ 15) (ht9 : tau o (A.b + 1) ≠ 900) {st : List (Int × Nat)} {fl : Bool} {vr : Nat → Int × Nat} {sc z : Nat} {ot : Nat → Int32} : pot o fu (amk (A.b + 1) st fl A.fr vr sc A.k z ot) + (if o A.b = 15 then 2 else 1) ≤ pot o fu A := by
  rw [if_neg h15]
  show 1799 * (fu - A.k) + wt o (A.b + 1) + wtf o A.fr + 1 ≤ 1799 * (fu - A.k) + wt o A.b + wtf o A.fr
  have p1 := psi_n (o := o) h15
  have pm := psi_mono (o := o) (m := A.b + 1) (n := n) (by omega)
  have c5 := hC.2.2.2.2.1
  have c6 := hC.2.2.2.2.2.1
  have w0 := wt_n (o := o) h14 (fun z => h13 z.1) h15
  rcases wt_le (o := o) (b := A.b + 1) (fun z => ht9 z.2) with h | ⟨_, h⟩
  · omega
  · omega
theorem a_inv (hC : CDX f g e a o x y sa pa n N) (hI : AIv o n fu A) : (aS o x y sa pa fu A).1 ≠ 99 ∧ ((aS o x y sa pa fu A).1 ≠ 0 → (aS o x y sa pa fu A).2 = A) ∧ ((aS o x y sa pa fu A).1 = 0 → AIv o n fu (aS o x y sa pa fu A).2 ∧ pot o fu (aS o x y sa pa fu A).2 + (if o A.b = 15 then 2 else 1) ≤ pot o fu A) := by
  have hI0 := hI
  obtain ⟨i1, i2, i3, i4, i5, i6, i7, i8, i9, i10⟩ := hI
  have good : ∀ A' : AM, aS o x y sa pa fu A = (0, A') → AIv o n fu A' → pot o fu A' + (if o A.b = 15 then 2 else 1) ≤ pot o fu A → (aS o x y sa pa fu A).1 ≠ 99 ∧ ((aS o x y sa pa fu A).1 ≠ 0 → (aS o x y sa pa fu A).2 = A) ∧ ((aS o x y sa pa fu A).1 = 0 → AIv o n fu (aS o x y sa pa fu A).2 ∧ pot o fu (aS o x y sa pa fu A).2 + (if o A.b = 15 then 2 else 1) ≤ pot o fu A) := by
    intro A' e h1 h2
    rw [e]
    exact ⟨show (0 : Nat) ≠ 99 by decide, fun z => absurd rfl z, fun _ => ⟨h1, h2⟩⟩
  have stop : ∀ k : Nat, aS o x y sa pa fu A = (k, A) → k ≠ 99 → k ≠ 0 → (aS o x y sa pa fu A).1 ≠ 99 ∧ ((aS o x y sa pa fu A).1 ≠ 0 → (aS o x y sa pa fu A).2 = A) ∧ ((aS o x y sa pa fu A).1 = 0 → AIv o n fu (aS o x y sa pa fu A).2 ∧ pot o fu (aS o x y sa pa fu A).2 + (if o A.b = 15 then 2 else 1) ≤ pot o fu A) := by
    intro k e h1 h2
    rw [e]
    exact ⟨h1, fun _ => rfl, fun z => absurd z h2⟩
  have sub : ∀ {m : Int × Nat} {l : List (Int × Nat)}, A.st = m :: l → nm m.1 m.2 ∧ ∀ w ∈ l, nm w.1 w.2 := by
    intro m l hs
    rw [hs] at i1
    exact ⟨i1 m (List.mem_cons_self ..), fun w hw => i1 w (List.mem_cons_of_mem _ hw)⟩
  have con : ∀ {m : Int × Nat} {l : List (Int × Nat)}, nm m.1 m.2 → (∀ w ∈ l, nm w.1 w.2) → ∀ w ∈ m :: l, nm w.1 w.2 := by
    intro m l h1 h2 w hw
    rcases List.mem_cons.mp hw with rfl | hw
    · exact h1
    · exact h2 w hw
  refine a_cases hC hI0 ?_ ?_ ?_ ?_ ?_ ?_ ?_ ?_ ?_ ?_ ?_ ?_ ?_ ?_ ?_ ?_
  · intro m s hlt ho _ _ hx hy hm hth
    have t1 := tn_1 (o := o) ho
    refine good _ (as_1 ho) (nx_I hI0 hlt (by rw [ho]; decide) (by rw [ho]; decide) (con ?_ i1) i2 i3 i4 i5 ?_) (nx_P hC hlt (by rw [ho]; decide) (by rw [ho]; decide) (by rw [ho]; decide) (by omega))
    · rw [hx, hy, zI_T (by have := hm.1; omega) (by have := hm.2.1; omega), nI_clamp (by have := hm.2.2; omega)]
      exact hm
    · rw [List.length_cons, i9, t1, show ht (tau o A.b) = hh (tau o A.b) from if_neg (fun z => by rw [z] at hth; exact absurd hth (by decide)), ht_n (by omega) (by omega)]
      omega
  · intro v hlt ho _ _ hx hv hth
    have t1 := tn_2 (o := o) ho
    refine good _ (as_2 ho) (nx_I hI0 hlt (by rw [ho]; decide) (by rw [ho]; decide) (con ?_ i1) i2 i3 i4 i5 ?_) (nx_P hC hlt (by rw [ho]; decide) (by rw [ho]; decide) (by rw [ho]; decide) (by omega))
    · rw [hx, nI_clamp (by omega)]
      exact i2 v hv
    · rw [List.length_cons, i9, t1, show ht (tau o A.b) = hh (tau o A.b) from if_neg (fun z => by rw [z] at hth; exact absurd hth (by decide)), ht_n (by omega) (by omega)]
      omega
  · intro hlt ho _ hth
    have t1 := tn_3 (o := o) ho
    refine good _ (as_3 ho) (nx_I hI0 hlt (by rw [ho]; decide) (by rw [ho]; decide) (con ?_ i1) i2 i3 i4 i5 ?_) (nx_P hC hlt (by rw [ho]; decide) (by rw [ho]; decide) (by rw [ho]; decide) (by omega))
    · show nm (A.sc : Int) 0
      unfold nm
      omega
    · rw [List.length_cons, i9, t1, show ht (tau o A.b) = hh (tau o A.b) from if_neg (fun z => by rw [z] at hth; exact absurd hth (by decide)), ht_n (by omega) (by omega)]
      omega
  · intro m l hlt ho _ hs h1 h2
    have t1 := tn_4 (o := o) ho
    rw [hh_h (by omega)] at t1
    obtain ⟨s1, s2⟩ := sub hs
    refine good _ (as_4 ho hs) (nx_I hI0 hlt (by rw [ho]; decide) (by rw [ho]; decide) (con (neg_nm s1) s2) i2 i3 i4 i5 ?_) (nx_P hC hlt (by rw [ho]; decide) (by rw [ho]; decide) (by rw [ho]; decide) (by omega))
    rw [t1, ← i9, hs, List.length_cons, List.length_cons]
  · intro m w l hlt ho _ _ hs h1 h2
    have t1 := tn_5 (o := o) ho
    rw [hh_h (by omega)] at t1
    obtain ⟨s1, s2⟩ := sub hs
    have s3 := s2 w (List.mem_cons_self ..)
    cases hr : r_op A.sc (x A.b) w.1 w.2 m.1 m.2 with
    | inl k => exact stop k (as_5f ho hs hr) (op_f hr).1 (op_f hr).2
    | inr q =>
      refine good _ (as_5 ho hs hr) (nx_I hI0 hlt (by rw [ho]; decide) (by rw [ho]; decide) (con (op_nm i3 s3 s1 hr) (fun u hu => s2 u (List.mem_cons_of_mem _ hu))) i2 i3 i4 i5 ?_) (nx_P hC hlt (by rw [ho]; decide) (by rw [ho]; decide) (by rw [ho]; decide) (by omega))
      rw [hs, List.length_cons, List.length_cons, ht_n (by omega) h2] at i9
      rw [t1, List.length_cons, ht_n (by omega) (by omega)]
      omega
  · intro m l v hlt ho _ _ hx hv hs h1 h2
    have t1 := tn_6 (o := o) ho
    rw [hh_h (by omega)] at t1
    obtain ⟨s1, s2⟩ := sub hs
    have ev : (x A.b).toNatClampNeg = v := by rw [hx, nI_clamp (by omega)]
    rcases hC.2.2.2.2.2.2 v hv with ⟨_, e2⟩ | ⟨b, b1, b2, b3, b4, b5, b6, p, b7, b8, b9⟩
    · exact stop 6 (as_6n ho hs (by rw [ev, e2]; decide)) (by decide) (by decide)
    · have pg := psi_ge (o := o) n
      have c5 := hC.2.2.2.2.1
      have c6 := hC.2.2.2.2.2.1
      have n0 : 0 ≤ sa (x A.b).toNatClampNeg := by rw [ev, b3]; exact nI_pos' (by omega)
      by_cases h4 : A.fr.length = 4
      · exact stop 7 (as_6f ho hs n0 h4) (by decide) (by decide)
      · have e1 : (sa (x A.b).toNatClampNeg).toNatClampNeg = b := by rw [ev, b3, nI_clamp (by omega)]
        have e2 : (pa (x A.b).toNatClampNeg).toNatClampNeg = p := by rw [ev, b9, nI_clamp (by omega)]
        have as := as_6 (o := o) (x := x) (y := y) (sa := sa) (pa := pa) (fu := fu) ho hs n0 h4
        rw [e1, e2] at as
        have lt1 : A.b + 1 < n := by
          by_cases q : A.b + 1 < n
          · exact q
          · have : A.b + 1 = n := by omega
            have c3 := hC.2.2.1
            rw [← this, t1] at c3
            omega
        have i9' := i9
        rw [hs, List.length_cons, ht_n h1 (by omega)] at i9'
        refine good _ as ⟨s2, uv_nm i2 s1, i3, i4, i5, by show b ≤ n; omega, ⟨by show A.b + 1 ≤ n; omega, b7, i2 p b7, by show 1 ≤ tau o (A.b + 1); omega, by show tau o (A.b + 1) ≤ 22; omega, by show l.length + 1 = hb A.fr + tau o (A.b + 1); omega, ?_, i7⟩, ?_, ?_, ?_⟩ ?_
        · show rho o (A.b + 1) = _
          rw [rn_o (by rw [ho]; decide) (by rw [ho]; decide)]
          exact i10
        · show A.fr.length + 1 ≤ 4
          omega
        · show l.length = l.length + ht (tau o b)
          rw [b4]
          rfl
        · show rho o b = _
          rw [b5]
          rfl
        · show 1799 * (fu - A.k) + wt o b + (wt o (A.b + 1) + wtf o A.fr) + (if o A.b = 15 then 2 else 1) ≤ 1799 * (fu - A.k) + wt o A.b + wtf o A.fr
          rw [if_neg (show o A.b ≠ 15 by rw [ho]; decide)]
          have w0 := wt_n (o := o) (b := A.b) (by rw [ho]; decide) (fun z => by rw [ho] at z; exact absurd z.1 (by decide)) (by rw [ho]; decide)
          have p1 := psi_n (o := o) (b := A.b) (by rw [ho]; decide)
          have pm := psi_mono (o := o) (m := A.b + 1) (n := n) (by omega)
          have w2 : wt o b ≤ 2 := by
            unfold wt
            rcases b6 with b6 | b6
            · rw [if_pos b6]
              exact Nat.zero_le _
            · rw [if_neg (by rw [b6]; decide), if_neg (fun z => by rw [b6] at z; exact absurd z.1 (by decide)), if_pos b6]
              exact Nat.le_refl _
          have n15 : o (A.b + 1) ≠ 15 := by
            intro z
            rcases hC.1 (A.b + 1) lt1 with ⟨c, hc, hv⟩ | k | ⟨t, _, _, _, _, k⟩
            · rw [z] at hc
              match c, hc, hv with
              | 1, hc, _ => exact absurd hc (by decide)
              | 2, hc, _ => exact absurd hc (by decide)
              | 3, hc, _ => exact absurd hc (by decide)
              | 4, hc, _ => exact absurd hc (by decide)
              | 5, hc, _ => exact absurd hc (by decide)
              | 6, hc, _ => exact absurd hc (by decide)
              | 7, hc, _ => exact absurd hc (by decide)
              | 8, hc, _ => exact absurd hc (by decide)
              | 9, hc, _ => exact absurd hc (by decide)
              | 10, hc, _ => exact absurd hc (by decide)
              | 11, hc, _ => exact absurd hc (by decide)
              | 14, hc, _ => exact absurd hc (by decide)
            · have := k.2.2.2.2.2
              omega
            · rw [z] at k
              rcases k with k | k | k
              · exact absurd k.1 (by decide)
              · exact absurd k.1 (by decide)
              · exact absurd k.1 (by decide)
          rcases wt_le (o := o) (b := A.b + 1) (fun z => by omega) with h | ⟨h, _⟩
          · omega
          · exact absurd h n15
  · intro m w l k hlt ho _ _ _ hs h2
    have t1 := tn_7 (o := o) ho
    obtain ⟨s1, s2⟩ := sub hs
    refine good _ (as_7 ho hs) (nx_I hI0 hlt (by rw [ho]; decide) (by rw [ho]; decide) (fun u hu => s2 u (List.mem_cons_of_mem _ hu)) i2 i3 i4 i5 ?_) (nx_P hC hlt (by rw [ho]; decide) (by rw [ho]; decide) (by rw [ho]; decide) (by omega))
    rw [hs, List.length_cons, List.length_cons, h2] at i9
    rw [t1]
    show l.length = hb A.fr + 0
    have : ht 2 = 2 := rfl
    omega
  · intro m l v hlt ho _ _ hx hv hs h2
    have t1 := tn_8 (o := o) ho
    rw [h2] at t1
    obtain ⟨s1, s2⟩ := sub hs
    refine good _ (as_8 ho hs) (nx_I hI0 hlt (by rw [ho]; decide) (by rw [ho]; decide) s2 (uv_nm i2 s1) i3 i4 i5 ?_) (nx_P hC hlt (by rw [ho]; decide) (by rw [ho]; decide) (by rw [ho]; decide) (by rw [t1]; decide))
    rw [hs, List.length_cons, h2] at i9
    rw [t1]
    show l.length = hb A.fr + 0
    have : ht 1 = 1 := rfl
    omega
  · intro m l hlt ho _ hs h2
    have t1 := tn_9 (o := o) ho
    rw [h2] at t1
    obtain ⟨s1, s2⟩ := sub hs
    cases hr : r_who m.1 m.2 0 4 with
    | inl k => exact stop k (as_9f ho hs hr) (by rw [who_f hr]; decide) (by rw [who_f hr]; decide)
    | inr k =>
      have kb := whob4 hr
      refine good _ (as_9 ho hs hr) (nx_I hI0 hlt (by rw [ho]; decide) (by rw [ho]; decide) s2 i2 (by omega) i4 i5 ?_) (nx_P hC hlt (by rw [ho]; decide) (by rw [ho]; decide) (by rw [ho]; decide) (by rw [t1]; decide))
      rw [hs, List.length_cons, h2] at i9
      rw [t1]
      show l.length = hb A.fr + 0
      have : ht 1 = 1 := rfl
      omega
  · intro m l hlt ho _ hs h2
    have t1 := tn_10 (o := o) ho
    rw [h2] at t1
    obtain ⟨s1, s2⟩ := sub hs
    by_cases hr : A.z + wl m.1 m.2 (max (m.2 + 1) (dgn m.1.natAbs)) ≤ 300
    · refine good _ (as_10 ho hs hr) (nx_I hI0 hlt (by rw [ho]; decide) (by rw [ho]; decide) s2 i2 i3 i4 hr ?_) (nx_P hC hlt (by rw [ho]; decide) (by rw [ho]; decide) (by rw [ho]; decide) (by rw [t1]; decide))
      rw [hs, List.length_cons, h2] at i9
      rw [t1]
      show l.length = hb A.fr + 0
      have : ht 1 = 1 := rfl
      omega
    · exact stop 8 (as_10f ho hs hr) (by decide) (by decide)
  · intro m l F L hlt ho _ hs hF hl h2
    rw [hF] at i7 i8 i10 hl
    obtain ⟨f1, f2, f3, f4, f5, f6, f7, f8⟩ := i7
    refine good _ (as_11 ho hF) ⟨i1, uv_nm i2 f3, i3, i4, i5, f1, f8, ?_, ?_, f7⟩ ?_
    · rw [List.length_cons] at i8
      show L.length ≤ 4
      omega
    · show A.st.length = hb L + ht (tau o F.1)
      rw [hs, List.length_cons, hl, ht_n f4 (by omega)]
      exact f6
    · show 1799 * (fu - A.k) + wt o F.1 + wtf o L + (if o A.b = 15 then 2 else 1) ≤ 1799 * (fu - A.k) + wt o A.b + wtf o A.fr
      rw [if_neg (show o A.b ≠ 15 by rw [ho]; decide), hF]
      have w0 := wt_n (o := o) (b := A.b) (by rw [ho]; decide) (fun z => by rw [ho] at z; exact absurd z.1 (by decide)) (by rw [ho]; decide)
      have p1 := psi_n (o := o) (b := A.b) (by rw [ho]; decide)
      have pm := psi_mono (o := o) (m := A.b + 1) (n := n) (by omega)
      have c5 := hC.2.2.2.2.1
      have c6 := hC.2.2.2.2.2.1
      show _ ≤ 1799 * (fu - A.k) + wt o A.b + (wt o F.1 + wtf o L)
      omega
  · intro t hlt ho _ hx _ ht1 h1000 hbt ht0 hrt
    have t1 := tn_12 (o := o) ho
    have et : (x A.b).toNatClampNeg = t := by
      have pg := psi_ge (o := o) n
      have c5 := hC.2.2.2.2.1
      have c6 := hC.2.2.2.2.2.1
      rw [hx, nI_clamp (by omega)]
    have as := as_12 (o := o) (x := x) (y := y) (sa := sa) (pa := pa) (fu := fu) ho
    rw [et] at as
    have hst : A.st.length = hb A.fr := by
      rw [i9, h1000]
      rfl
    by_cases hfl : A.fl = true
    · rw [if_pos hfl] at as
      refine good _ as (nx_I hI0 hlt (by rw [ho]; decide) (by rw [ho]; decide) i1 i2 i3 i4 i5 (by rw [t1]; exact hst)) (nx_P hC hlt (by rw [ho]; decide) (by rw [ho]; decide) (by rw [ho]; decide) (by rw [t1]; decide))
    · rw [if_neg hfl] at as
      refine good _ as ⟨i1, i2, i3, i4, i5, ht1, i7, i8, ?_, hrt.trans i10⟩ ?_
      · show A.st.length = hb A.fr + ht (tau o t)
        rw [ht0]
        exact hst
      · show 1799 * (fu - A.k) + wt o t + wtf o A.fr + (if o A.b = 15 then 2 else 1) ≤ 1799 * (fu - A.k) + wt o A.b + wtf o A.fr
        rw [if_neg (show o A.b ≠ 15 by rw [ho]; decide)]
        have w0 := wt_n (o := o) (b := A.b) (by rw [ho]; decide) (fun z => by rw [ho] at z; exact absurd z.1 (by decide)) (by rw [ho]; decide)
        have p1 := psi_n (o := o) (b := A.b) (by rw [ho]; decide)
        have pm := psi_mono (o := o) (m := A.b + 1) (n := t) (by omega)
        have pm2 := psi_mono (o := o) (m := t) (n := n) (by omega)
        have c5 := hC.2.2.2.2.1
        have c6 := hC.2.2.2.2.2.1
        rcases wt_le (o := o) (b := t) (fun z => by rw [ht0] at z; exact absurd z.2 (by decide)) with h | ⟨_, h⟩
        · omega
        · omega
  · intro t hlt ho _ hx _ ht1 hb0 ht0 hrt hd
    have et : (x A.b).toNatClampNeg = t := by
      have pg := psi_ge (o := o) n
      have c5 := hC.2.2.2.2.1
      have c6 := hC.2.2.2.2.2.1
      rw [hx, nI_clamp (by omega)]
    have as := as_13 (o := o) (x := x) (y := y) (sa := sa) (pa := pa) (fu := fu) ho
    rw [et] at as
    refine good _ as ⟨i1, i2, i3, i4, i5, ht1, i7, i8, ?_, hrt.trans i10⟩ ?_
    · show A.st.length = hb A.fr + ht (tau o t)
      rw [i9, ht_0 hb0, ht_0 ht0]
    · show 1799 * (fu - A.k) + wt o t + wtf o A.fr + (if o A.b = 15 then 2 else 1) ≤ 1799 * (fu - A.k) + wt o A.b + wtf o A.fr
      rw [if_neg (show o A.b ≠ 15 by rw [ho]; decide)]
      have pm2 := psi_mono (o := o) (m := t) (n := n) (by omega)
      have c5 := hC.2.2.2.2.1
      have c6 := hC.2.2.2.2.2.1
      rcases hd with ⟨h9, t1, t2, t3⟩ | ⟨h0, t1, t2⟩
      · have w0 : wt o A.b = 1798 := by
          unfold wt
          rw [if_neg (by rw [ho]; decide), if_pos ⟨ho, h9⟩]
        have pg := psi_ge (o := o) t
        rcases wt_le (o := o) (b := t) (fun z => t3 z.1) with h | ⟨_, h⟩
        · omega
        · omega
      · have w0 := wt_n (o := o) (b := A.b) (by rw [ho]; decide) (fun z => by rw [h0] at z; exact absurd z.2 (by decide)) (by rw [ho]; decide)
        have p1 := psi_n (o := o) (b := A.b) (by rw [ho]; decide)
        have pm := psi_mono (o := o) (m := A.b + 1) (n := t) (by omega)
        rcases wt_le (o := o) (b := t) (fun z => by rw [t2] at z; exact absurd z.2 (by decide)) with h | ⟨_, h⟩
        · omega
        · omega
  · intro hlt ho _ h0
    have t1 := tn_14 (o := o) ho
    by_cases hk : A.k < fu
    · refine good _ (as_14 ho hk) (nx_I hI0 hlt (by rw [ho]; decide) (by rw [ho]; decide) i1 i2 i3 hk i5 ?_) ?_
      · rw [t1, i9, ht_0 h0]
        rfl
      · show 1799 * (fu - (A.k + 1)) + wt o (A.b + 1) + wtf o A.fr + (if o A.b = 15 then 2 else 1) ≤ 1799 * (fu - A.k) + wt o A.b + wtf o A.fr
        rw [if_neg (show o A.b ≠ 15 by rw [ho]; decide)]
        have p1 := psi_n (o := o) (b := A.b) (by rw [ho]; decide)
        have w1 : wt o (A.b + 1) ≤ 1798 := by
          unfold wt
          split
          · exact Nat.zero_le _
          · split
            · exact Nat.le_refl _
            · split
              · decide
              · omega
        omega
    · exact stop 4 (as_14f ho hk) (by decide) (by decide)
  · intro F L hlt ho _ _ _ hF h0 hN
    rw [hF] at i7 i8 i10
    obtain ⟨f1, f2, f3, f4, f5, f6, f7, f8⟩ := i7
    refine good _ (as_15 ho hF) ⟨con (show nm 0 0 by unfold nm; omega) i1, uv_nm i2 f3, i3, i4, i5, f1, f8, ?_, ?_, f7⟩ ?_
    · rw [List.length_cons] at i8
      show L.length ≤ 4
      omega
    · show A.st.length + 1 = hb L + ht (tau o F.1)
      rw [i9, hF, h0, ht_n f4 (by omega)]
      exact f6
    · show 1799 * (fu - A.k) + wt o F.1 + wtf o L + (if o A.b = 15 then 2 else 1) ≤ 1799 * (fu - A.k) + wt o A.b + wtf o A.fr
      rw [if_pos ho, hF]
      have w0 : wt o A.b = 2 := by
        unfold wt
        rw [if_neg (by rw [ho]; decide), if_neg (fun z => by rw [ho] at z; exact absurd z.1 (by decide)), if_pos ho]
      show _ ≤ 1799 * (fu - A.k) + wt o A.b + (wt o F.1 + wtf o L)
      omega
  · intro _ ho hF _
    exact stop 100 (as_16 ho hF) (by decide) (by decide)
end AC2
