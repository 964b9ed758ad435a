/-! The scanner of the reference: split. -/
/-- what the reference finds at p: a token or a blank, and how long it is; nothing where the text is faulty -/
def tkR (C : Nat → Nat) (p : Nat) : Option (Option (Int32 × Int32 × Int32) × Nat) := if C p = 32 then some (none, 1) else if isD (C p) then (if 9 < (nr C p).2.2.1 ∨ 4 < (nr C p).2.2.2 then none else some (some (110, nI (nr C p).2.1, nI (nr C p).2.2.2), (nr C p).1 - p)) else if isW (C p) then (if woR C p (lts C p 250 0) = 0 then none else some (some (woR C p (lts C p 250 0), nI (C p - 97), 0), lts C p 250 0)) else (if sgK C p = 0 then none else some (some (sgK C p, 0, 0), if sgK C p = 76 ∨ sgK C p = 71 ∨ sgK C p = 69 ∨ sgK C p = 78 then 2 else 1))
abbrev SR : Type := Nat × (Nat → Int32) × (Nat → Int32) × (Nat → Int32)
def srA (t : Option (Int32 × Int32 × Int32)) (s : SR) : SR := match t with
  | none => s
  | some k => (s.1 + 1, upd s.2.1 s.1 k.1, upd s.2.2.1 s.1 k.2.1, upd s.2.2.2 s.1 k.2.2)
def srl (C : Nat → Nat) (n : Nat) : Nat → Nat → SR → Option SR
  | 0, _, s => some s
  | N + 1, p, s => if p < n then (match tkR C p with
    | none => none
    | some t => srl C n N (p + t.2) (srA t.1 s)) else some s
def sm (xi : Nat → Int32) (xa : Nat → Nat → Int32) (xl : Nat → Nat → Int64) (j : dx_S) (f : Int32) (s : SR) : dx_S := mk (ui (ui xi 1416 (nI s.1)) 1418 f) (ua (ua (ua xa 26 s.2.1) 27 s.2.2.1) 28 s.2.2.2) xl j
section TE2
variable {L : Nat} {xs : Nat → Int32} {d : Nat} {σ : dx_S} {Q : dx_O → dx_S → Prop} {xi : Nat → Int32} {xa : Nat → Nat → Int32} {xl : Nat → Nat → Int64} {j : dx_S} {T : Nat → Nat} {q r t p c k v n i w m z N g : Nat} {s : SR} {f : Int32}
theorem m_ci : dx_ci (tb_K L xs) (sm xi xa xl j f s) (.ref 22) = some 9 := rfl
theorem m_g1 : dx_gf (tb_K L xs) (sm xi xa xl j f s) (.ref 22) 9 1 = some (.int (xi 1409)) := rfl
theorem m_g5 : dx_gf (tb_K L xs) (sm xi xa xl j f s) (.ref 22) 9 5 = some (.ref 26) := rfl
theorem m_g8 : dx_gf (tb_K L xs) (sm xi xa xl j f s) (.ref 22) 9 8 = some (.int (nI s.1)) := rfl
theorem m_g10 : dx_gf (tb_K L xs) (sm xi xa xl j f s) (.ref 22) 9 10 = some (.int f) := rfl
theorem m_p10 {x : Int32} (hx : x = 0 ∨ x = 1) : dx_pf (sm xi xa xl j f s) (.ref 22) 9 10 2 (.int x) = some (sm xi xa xl j x s) := by
  unfold sm
  rw [sf_22_10_v hx, ui_ui]
theorem m_p26 {x : Int32} (h : k < 210) : dx_pi (sm xi xa xl j f s) 0 (.ref 26) (nI k) x = some (sm xi xa xl j f (s.1, upd s.2.1 k x, s.2.2.1, s.2.2.2)) := by
  unfold sm
  rw [sa_26 (vp_in_nI h (by decide)), nI_clamp (by omega)]
  congr 2
  funext i
  show (if i = 26 then upd s.2.1 k x else if i = 28 then s.2.2.2 else if i = 27 then s.2.2.1 else if i = 26 then s.2.1 else xa i) = if i = 28 then s.2.2.2 else if i = 27 then s.2.2.1 else if i = 26 then upd s.2.1 k x else xa i
  by_cases h1 : i = 26
  · subst h1
    rfl
  · simp only [if_neg h1]
theorem m_tok {a b c' : Int32} (h : s.1 < 210) : dx_M (tb_Z L xs) (d + 1) 104 [.ref 22, .int a, .int b, .int c'] (sm xi xa xl j f s) Q ↔ Q (.inl none) (sm xi xa xl j f (srA (some (a, b, c')) s)) := by
  unfold sm
  rw [f_token (s := s.1) rfl h]
  have e1 : ui (ui (ui xi 1416 (nI s.1)) 1418 f) 1416 (nI (s.1 + 1)) = ui (ui xi 1416 (nI (s.1 + 1))) 1418 f := by
    funext i
    show (if i = 1416 then nI (s.1 + 1) else if i = 1418 then f else if i = 1416 then nI s.1 else xi i) = if i = 1418 then f else if i = 1416 then nI (s.1 + 1) else xi i
    by_cases h1 : i = 1416
    · subst h1
      rfl
    · simp only [if_neg h1]
  have e2 : ∀ (x y z' : Nat → Int32), ua (ua (ua (ua (ua (ua xa 26 s.2.1) 27 s.2.2.1) 28 s.2.2.2) 26 x) 27 y) 28 z' = ua (ua (ua xa 26 x) 27 y) 28 z' := by
    intro x y z'
    funext i
    show (if i = 28 then z' else if i = 27 then y else if i = 26 then x else if i = 28 then s.2.2.2 else if i = 27 then s.2.2.1 else if i = 26 then s.2.1 else xa i) = if i = 28 then z' else if i = 27 then y else if i = 26 then x else xa i
    by_cases h3 : i = 28
    · simp only [if_pos h3]
    by_cases h2 : i = 27
    · simp only [if_neg h3, if_pos h2]
    by_cases h1 : i = 26
    · simp only [if_neg h3, if_neg h2, if_pos h1]
    · simp only [if_neg h3, if_neg h2, if_neg h1]
  rw [e1, e2]
  rfl
end TE2
