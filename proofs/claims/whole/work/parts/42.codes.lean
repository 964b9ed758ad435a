/-! The two codes side by side. -/
def psi (o : Nat → Int32) : Nat → Nat
  | 0 => 0
  | b + 1 => psi o b + (if o b = 15 then 2 else 1)
def hh (t : Nat) : Nat := if t = 900 then 0 else t
def tau (o : Nat → Int32) : Nat → Nat
  | 0 => 0
  | b + 1 => if o b = 14 then 900
    else if o b = 1 ∨ o b = 2 ∨ o b = 3 then hh (tau o b) + 1
    else if o b = 4 ∨ o b = 6 then hh (tau o b)
    else if o b = 5 ∨ o b = 8 ∨ o b = 9 ∨ o b = 10 then hh (tau o b) - 1
    else if o b = 7 then 1000 else 0
def rho (o : Nat → Int32) : Nat → Bool
  | 0 => false
  | b + 1 => if o b = 15 then false else if o b = 13 ∧ tau o b = 0 then true else rho o b
section CG
variable {o o' : Nat → Int32}
theorem psi_cg : ∀ {n : Nat}, (∀ b, b < n → o' b = o b) → psi o' n = psi o n
  | 0, _ => rfl
  | n + 1, h => by
    show psi o' n + (if o' n = 15 then 2 else 1) = psi o n + (if o n = 15 then 2 else 1)
    rw [psi_cg (fun b hb => h b (by omega)), h n (by omega)]
theorem tau_cg : ∀ {n : Nat}, (∀ b, b < n → o' b = o b) → tau o' n = tau o n
  | 0, _ => rfl
  | n + 1, h => by
    unfold tau
    rw [tau_cg (n := n) (fun b hb => h b (by omega)), h n (by omega)]
theorem rho_cg : ∀ {n : Nat}, (∀ b, b < n → o' b = o b) → rho o' n = rho o n
  | 0, _ => rfl
  | n + 1, h => by
    unfold rho
    rw [rho_cg (n := n) (fun b hb => h b (by omega)), tau_cg (n := n) (fun b hb => h b (by omega)), h n (by omega)]
theorem psi_s {b : Nat} : psi o b + 1 ≤ psi o (b + 1) := by
  show psi o b + 1 ≤ psi o b + (if o b = 15 then 2 else 1)
  split <;> omega
theorem psi_ge : ∀ b, b ≤ psi o b
  | 0 => Nat.le_refl _
  | b + 1 => by
    have := psi_ge b
    have := psi_s (o := o) (b := b)
    omega
theorem psi_mono : ∀ {m n : Nat}, m ≤ n → psi o m + (n - m) ≤ psi o n
  | m, 0, h => by
    have : m = 0 := by omega
    subst this
    exact Nat.le_refl _
  | m, n + 1, h => by
    by_cases e : m = n + 1
    · subst e
      omega
    · have := psi_mono (m := m) (n := n) (by omega)
      have := psi_s (o := o) (b := n)
      omega
end CG
/-- the reference's kind of a token -/
def kp (k : Int32) : Int32 := if k = 256 then 110 else if k = 257 then 97 else if k = 258 then 105 else if k = 259 then 119 else if k = 260 then 100 else if k = 261 then 114 else if k = 262 then 115 else if k = 263 then 76 else if k = 264 then 71 else if k = 265 then 69 else if k = 266 then 78 else k
def TK : List Int32 := [0, 59, 43, 45, 42, 47, 37, 94, 40, 41, 123, 125, 61, 60, 62, 256, 257, 258, 259, 260, 261, 262, 263, 264, 265, 266]
theorem kp_inj : ∀ a ∈ TK, ∀ b ∈ TK, kp a = kp b → a = b := by decide
theorem kp_rl : ∀ a ∈ TK, (isRl a ↔ isRr (kp a)) := by decide
abbrev isBn (o : Int32) : Prop := o = 43 ∨ o = 45 ∨ o = 42 ∨ o = 47 ∨ o = 37 ∨ o = 94
/-- one operation in both codes, but for jumps and ends: t what lies on the stack, r in a function -/
def LV (t : Nat) (r : Bool) (o : Int32) (v : Int64) (x y : Int32) : Nat → Prop
  | 1 => o = 301 ∧ hh t ≤ 21 ∧ ∃ m s, nm m s ∧ v = pn m s ∧ x = zI m ∧ y = nI s
  | 2 => o = 302 ∧ hh t ≤ 21 ∧ ∃ k : Nat, k < 26 ∧ v = zL k ∧ x = nI k
  | 3 => o = 304 ∧ hh t ≤ 21
  | 4 => o = 306 ∧ 1 ≤ t ∧ t ≤ 22
  | 5 => isBn o ∧ x = o ∧ 2 ≤ t ∧ t ≤ 23
  | 6 => o = 308 ∧ 1 ≤ t ∧ t ≤ 22 ∧ ∃ k : Nat, k < 26 ∧ v = zL k ∧ x = nI k
  | 7 => isRl o ∧ x = kp o ∧ t = 2
  | 8 => o = 303 ∧ t = 1 ∧ ∃ k : Nat, k < 26 ∧ v = zL k ∧ x = nI k
  | 9 => o = 305 ∧ t = 1
  | 10 => o = 307 ∧ t = 1
  | 11 => o = 309 ∧ t = 1 ∧ r = true
  | 14 => o = 300 ∧ hh t = 0
  | _ => False
def LC (f : Nat → Int32) (g : Nat → Int64) (o x y : Nat → Int32) (n b : Nat) : Prop :=
  (∃ c, o b = nI c ∧ LV (tau o b) (rho o b) (f (psi o b)) (g (psi o b)) (x b) (y b) c) ∨
  (o b = 15 ∧ f (psi o b) = 301 ∧ g (psi o b) = 0 ∧ f (psi o b + 1) = 309 ∧ rho o b = true ∧ tau o b = 0) ∨
  (∃ t, t ≤ n ∧ x b = nI t ∧ g (psi o b) = zL (psi o t : Nat) ∧ rho o t = rho o b ∧
    ((o b = 12 ∧ f (psi o b) = 311 ∧ tau o b = 1000 ∧ b < t ∧ tau o t = 0) ∨
     (o b = 13 ∧ f (psi o b) = 310 ∧ tau o b = 900 ∧ 1 ≤ t ∧ t < b ∧ tau o t = 900 ∧ o t ≠ 13) ∨
     (o b = 13 ∧ f (psi o b) = 310 ∧ tau o b = 0 ∧ rho o b = false ∧ b < t ∧ tau o t = 0)))
def Fr (S : PS) (R : RS) (S' : PS) (R' : RS) : Prop := R.n ≤ R'.n ∧ (∀ b, b < R.n → R'.o b = R.o b ∧ R'.x b = R.x b ∧ R'.y b = R.y b) ∧ (∀ a, a < S.n → S'.f a = S.f a ∧ S'.g a = S.g a) ∧ S'.e = S.e ∧ S'.a = S.a ∧ R'.st = R.st ∧ R'.pa = R.pa ∧ S.p ≤ S'.p ∧ S.n ≤ S'.n ∧ R'.w = R.w
def CS (S : PS) (R : RS) (lo : Nat) : Prop := ∀ b, lo ≤ b → b < R.n → LC S.f S.g R.o R.x R.y R.n b
def J (q : Nat) (S : PS) (R : RS) : Prop := S.p = R.at ∧ S.p ≤ q ∧ R.fa = 0 ∧ S.w = R.w ∧ S.n = psi R.o R.n
theorem Fr_refl {S : PS} {R : RS} : Fr S R S R := ⟨Nat.le_refl _, fun _ _ => ⟨rfl, rfl, rfl⟩, fun _ _ => ⟨rfl, rfl⟩, rfl, rfl, rfl, rfl, Nat.le_refl _, Nat.le_refl _, rfl⟩
theorem Fr_trans {S S' S'' : PS} {R R' R'' : RS} (h : Fr S R S' R') (k : Fr S' R' S'' R'') : Fr S R S'' R'' := by
  obtain ⟨h1, h2, h3, h4, h5, h6, h7, h8, h9, h10⟩ := h
  obtain ⟨k1, k2, k3, k4, k5, k6, k7, k8, k9, k10⟩ := k
  refine ⟨by omega, fun b hb => ?_, fun a ha => ?_, k4.trans h4, k5.trans h5, k6.trans h6, k7.trans h7, by omega, by omega, k10.trans h10⟩
  · have x := h2 b hb
    have y := k2 b (by omega)
    exact ⟨y.1.trans x.1, y.2.1.trans x.2.1, y.2.2.trans x.2.2⟩
  · have x := h3 a ha
    have y := k3 a (by omega)
    exact ⟨y.1.trans x.1, y.2.trans x.2⟩
theorem LC_Fr {f f' : Nat → Int32} {g g' : Nat → Int64} {o o' x x' y y' : Nat → Int32} {n n' b : Nat} (h1 : ∀ b, b < n → o' b = o b) (hb : b < n) (h2 : x' b = x b) (h2' : y' b = y b) (h3 : ∀ a, psi o b ≤ a → a < psi o (b + 1) → f' a = f a ∧ g' a = g a) (h4 : n ≤ n') (h : LC f g o x y n b) : LC f' g' o' x' y' n' b := by
  have e1 : psi o' b = psi o b := psi_cg fun c hc => h1 c (by omega)
  have e2 : tau o' b = tau o b := tau_cg fun c hc => h1 c (by omega)
  have e3 : rho o' b = rho o b := rho_cg fun c hc => h1 c (by omega)
  have ht : ∀ t, t ≤ n → psi o' t = psi o t ∧ tau o' t = tau o t ∧ rho o' t = rho o t := fun t ht => ⟨psi_cg fun c hc => h1 c (by omega), tau_cg fun c hc => h1 c (by omega), rho_cg fun c hc => h1 c (by omega)⟩
  have hs := psi_s (o := o) (b := b)
  have z := h3 (psi o b) (Nat.le_refl _) (by omega)
  unfold LC at h ⊢
  rw [e1, e2, e3, h1 b hb, h2, h2', z.1, z.2]
  rcases h with h | h | ⟨t, k1, k2, k3, k4, k5⟩
  · exact Or.inl h
  · refine Or.inr (Or.inl ?_)
    have z2 := h3 (psi o b + 1) (by omega) (by
      show psi o b + 1 < psi o b + (if o b = 15 then 2 else 1)
      rw [if_pos h.1]
      omega)
    rw [z2.1]
    exact h
  · refine Or.inr (Or.inr ⟨t, by omega, k2, ?_, ?_, ?_⟩)
    · rw [(ht t k1).1]
      exact k3
    · rw [(ht t k1).2.2]
      exact k4
    · rw [(ht t k1).2.1]
      rcases k5 with k5 | k5 | k5
      · exact Or.inl k5
      · refine Or.inr (Or.inl ?_)
        rw [h1 t (by omega)]
        exact k5
      · exact Or.inr (Or.inr k5)
theorem CS_Fr {q : Nat} {S S' : PS} {R R' : RS} {lo : Nat} (hj : J q S R) (h : Fr S R S' R') (k : CS S R lo) (k' : CS S' R' R.n) : CS S' R' lo := by
  intro b h1 h2
  by_cases hb : b < R.n
  · refine LC_Fr (fun c hc => (h.2.1 c hc).1) hb (h.2.1 b hb).2.1 (h.2.1 b hb).2.2 (fun a _ ha => ?_) h.1 (k b h1 hb)
    have := psi_mono (o := R.o) (m := b + 1) (n := R.n) (by omega)
    exact h.2.2.1 a (by rw [hj.2.2.2.2]; omega)
  · exact k' b (by omega) h2
/-- what both sides have in common before a run of the parsers -/
def TC (tk : Nat → Int32) (tv : Nat → Int64) (tr vl pl : Nat → Int32) (q : Nat) : Prop := q ≤ 200 ∧ tk q = 0 ∧ (∀ i, i ≤ q → tk i ∈ TK ∧ tr i = kp (tk i)) ∧ (∀ i, i < q → tk i ≠ 0 ∧ (tk i = 256 → ∃ m s, nm m s ∧ tv i = pn m s ∧ vl i = zI m ∧ pl i = nI s) ∧ (tk i = 257 → ∃ k : Nat, k < 26 ∧ tv i = zL k ∧ vl i = nI k))
