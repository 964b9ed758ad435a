/-! Which operations there are, and what they find. -/
section AC1
variable {f : Nat → Int32} {g : Nat → Int64} {e a o x y sa pa : Nat → Int32} {n N fu : Nat} {A : AM}
theorem bool_ne {l : List AF} (h : true = !l.isEmpty) : ∃ F L, l = F :: L := by
  cases l with
  | nil => exact absurd h (by decide)
  | cons F L => exact ⟨F, L, rfl⟩
theorem bool_nil {l : List AF} (h : false = !l.isEmpty) : l = [] := by
  cases l with
  | nil => rfl
  | cons F L => exact absurd h (by simp)
theorem len1 {l : List (Int × Nat)} (h : 1 ≤ l.length) : ∃ m k, l = m :: k := by
  cases l with
  | nil => exact absurd h (by decide)
  | cons m k => exact ⟨m, k, rfl⟩
theorem len2 {l : List (Int × Nat)} (h : 2 ≤ l.length) : ∃ m w k, l = m :: w :: k := by
  cases l with
  | nil => exact absurd h (by decide)
  | cons m l =>
    cases l with
    | nil => exact absurd h (show ¬ 2 ≤ 1 by decide)
    | cons w k => exact ⟨m, w, k, rfl⟩
theorem ht_n {t : Nat} (h1 : 1 ≤ t) (h2 : t ≤ 23) : ht t = t := by
  unfold ht hh
  rw [if_neg (by omega), if_neg (by omega)]
theorem ht_0 {t : Nat} (h : hh t = 0) : ht t = 0 := by
  unfold ht
  split
  · rfl
  · exact h
theorem psi_n {b : Nat} (h : o b ≠ 15) : psi o (b + 1) = psi o b + 1 := by
  show psi o b + (if o b = 15 then 2 else 1) = _
  rw [if_neg h]
theorem a_cases {C : Prop} (hC : CDX f g e a o x y sa pa n N) (hI : AIv o n fu A)
  (h1 : ∀ m s, A.b < n → o A.b = 1 → f (psi o A.b) = 301 → g (psi o A.b) = pn m s → x A.b = zI m → y A.b = nI s → nm m s → hh (tau o A.b) ≤ 21 → C)
  (h2 : ∀ v : Nat, A.b < n → o A.b = 2 → f (psi o A.b) = 302 → g (psi o A.b) = zL v → x A.b = nI v → v < 26 → hh (tau o A.b) ≤ 21 → C)
  (h3 : A.b < n → o A.b = 3 → f (psi o A.b) = 304 → hh (tau o A.b) ≤ 21 → C)
  (h4 : ∀ m l, A.b < n → o A.b = 4 → f (psi o A.b) = 306 → A.st = m :: l → 1 ≤ tau o A.b → tau o A.b ≤ 22 → C)
  (h5 : ∀ m w l, A.b < n → o A.b = 5 → f (psi o A.b) = x A.b → isBn (x A.b) → A.st = m :: w :: l → 2 ≤ tau o A.b → tau o A.b ≤ 23 → C)
  (h6 : ∀ m l (v : Nat), A.b < n → o A.b = 6 → f (psi o A.b) = 308 → g (psi o A.b) = zL v → x A.b = nI v → v < 26 → A.st = m :: l → 1 ≤ tau o A.b → tau o A.b ≤ 22 → C)
  (h7 : ∀ m w l k, A.b < n → o A.b = 7 → f (psi o A.b) = k → isRl k → x A.b = kp k → A.st = m :: w :: l → tau o A.b = 2 → C)
  (h8 : ∀ m l (v : Nat), A.b < n → o A.b = 8 → f (psi o A.b) = 303 → g (psi o A.b) = zL v → x A.b = nI v → v < 26 → A.st = m :: l → tau o A.b = 1 → C)
  (h9 : ∀ m l, A.b < n → o A.b = 9 → f (psi o A.b) = 305 → A.st = m :: l → tau o A.b = 1 → C)
  (h10 : ∀ m l, A.b < n → o A.b = 10 → f (psi o A.b) = 307 → A.st = m :: l → tau o A.b = 1 → C)
  (h11 : ∀ m l F L, A.b < n → o A.b = 11 → f (psi o A.b) = 309 → A.st = m :: l → A.fr = F :: L → l.length = hb A.fr → tau o A.b = 1 → C)
  (h12 : ∀ t, A.b < n → o A.b = 12 → f (psi o A.b) = 311 → x A.b = nI t → g (psi o A.b) = zL (psi o t : Nat) → t ≤ n → tau o A.b = 1000 → A.b < t → tau o t = 0 → rho o t = rho o A.b → C)
  (h13 : ∀ t, A.b < n → o A.b = 13 → f (psi o A.b) = 310 → x A.b = nI t → g (psi o A.b) = zL (psi o t : Nat) → t ≤ n → hh (tau o A.b) = 0 → hh (tau o t) = 0 → rho o t = rho o A.b → (tau o A.b = 900 ∧ 1 ≤ t ∧ t < A.b ∧ o t ≠ 13 ∨ tau o A.b = 0 ∧ A.b < t ∧ tau o t = 0) → C)
  (h14 : A.b < n → o A.b = 14 → f (psi o A.b) = 300 → hh (tau o A.b) = 0 → C)
  (h15 : ∀ F L, A.b < n → o A.b = 15 → f (psi o A.b) = 301 → g (psi o A.b) = 0 → f (psi o A.b + 1) = 309 → A.fr = F :: L → tau o A.b = 0 → psi o A.b + 2 ≤ N → C)
  (h16 : A.b = n → o A.b = 15 → A.fr = [] → tau o A.b = 0 → C) : C := by
  obtain ⟨c1, c2, c3, c4, c5, c6, c7⟩ := hC
  obtain ⟨i1, i2, i3, i4, i5, i6, i7, i8, i9, i10⟩ := hI
  by_cases hb0 : A.b = n
  · refine h16 hb0 (by rw [hb0]; exact c2) (bool_nil ?_) (by rw [hb0]; exact c3)
    rw [← i10, hb0, c4]
  have hlt : A.b < n := by omega
  rcases c1 A.b hlt with ⟨c, hc, hv⟩ | ⟨k1, k2, k3, k4, k5, k6⟩ | ⟨t, t1, t2, t3, t4, t5⟩
  · match c, hc, hv with
    | 1, hc, ⟨v1, v2, m, s, v3, v4, v5, v6⟩ => exact h1 m s hlt hc v1 v4 v5 v6 v3 v2
    | 2, hc, ⟨v1, v2, v, v3, v4, v5⟩ => exact h2 v hlt hc v1 v4 v5 v3 v2
    | 3, hc, ⟨v1, v2⟩ => exact h3 hlt hc v1 v2
    | 4, hc, ⟨v1, v2, v3⟩ =>
      rw [ht_n v2 (by omega)] at i9
      obtain ⟨m, l, hm⟩ := len1 (l := A.st) (by omega)
      exact h4 m l hlt hc v1 hm v2 v3
    | 5, hc, ⟨v1, v2, v3, v4⟩ =>
      rw [ht_n (by omega) v4] at i9
      obtain ⟨m, w, l, hm⟩ := len2 (l := A.st) (by omega)
      exact h5 m w l hlt hc v2.symm (by rw [v2]; exact v1) hm v3 v4
    | 6, hc, ⟨v1, v2, v3, v, v4, v5, v6⟩ =>
      rw [ht_n v2 (by omega)] at i9
      obtain ⟨m, l, hm⟩ := len1 (l := A.st) (by omega)
      exact h6 m l v hlt hc v1 v5 v6 v4 hm v2 v3
    | 7, hc, ⟨v1, v2, v3⟩ =>
      rw [ht_n (by omega) (by omega)] at i9
      obtain ⟨m, w, l, hm⟩ := len2 (l := A.st) (by omega)
      exact h7 m w l _ hlt hc rfl v1 v2 hm v3
    | 8, hc, ⟨v1, v2, v, v3, v4, v5⟩ =>
      rw [ht_n (by omega) (by omega)] at i9
      obtain ⟨m, l, hm⟩ := len1 (l := A.st) (by omega)
      exact h8 m l v hlt hc v1 v4 v5 v3 hm v2
    | 9, hc, ⟨v1, v2⟩ =>
      rw [ht_n (by omega) (by omega)] at i9
      obtain ⟨m, l, hm⟩ := len1 (l := A.st) (by omega)
      exact h9 m l hlt hc v1 hm v2
    | 10, hc, ⟨v1, v2⟩ =>
      rw [ht_n (by omega) (by omega)] at i9
      obtain ⟨m, l, hm⟩ := len1 (l := A.st) (by omega)
      exact h10 m l hlt hc v1 hm v2
    | 11, hc, ⟨v1, v2, v3⟩ =>
      rw [ht_n (by omega) (by omega)] at i9
      obtain ⟨m, l, hm⟩ := len1 (l := A.st) (by omega)
      rw [v3] at i10
      obtain ⟨F, L, hF⟩ := bool_ne i10
      refine h11 m l F L hlt hc v1 hm hF ?_ v2
      rw [hm, List.length_cons] at i9
      omega
    | 14, hc, ⟨v1, v2⟩ => exact h14 hlt hc v1 v2
  · rw [k5] at i10
    obtain ⟨F, L, hF⟩ := bool_ne i10
    have m := psi_mono (o := o) (m := A.b + 1) (n := n) (by omega)
    have s : psi o (A.b + 1) = psi o A.b + 2 := by
      show psi o A.b + (if o A.b = 15 then 2 else 1) = _
      rw [if_pos k1]
    exact h15 F L hlt k1 k2 k3 k4 hF k6 (by omega)
  · rcases t5 with ⟨u1, u2, u3, u4, u5⟩ | ⟨u1, u2, u3, u4, u5, u6, u7⟩ | ⟨u1, u2, u3, u4, u5, u6⟩
    · exact h12 t hlt u1 u2 t2 t3 t1 u3 u4 u5 t4
    · exact h13 t hlt u1 u2 t2 t3 t1 (by rw [u3]; rfl) (by rw [u6]; rfl) t4 (Or.inl ⟨u3, u4, u5, u7⟩)
    · exact h13 t hlt u1 u2 t2 t3 t1 (by rw [u3]; rfl) (by rw [u6]; rfl) t4 (Or.inr ⟨u3, u5, u6⟩)
end AC1
