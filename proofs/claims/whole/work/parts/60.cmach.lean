/-! The machine of the project keeps step with the common one: what it holds. -/
def sC (f : Nat → Int64) : Nat → List (Int × Nat) → Prop
  | n, [] => n = 0
  | n, m :: l => ∃ k, n = k + 1 ∧ f k = pn m.1 m.2 ∧ sC f k l
def fC (o re pm : Nat → Int32) (be : Nat → Int64) : Nat → List AF → Prop
  | n, [] => n = 0
  | n, F :: l => ∃ k, n = k + 1 ∧ re k = nI (psi o F.1) ∧ pm k = nI F.2.1 ∧ be k = pn F.2.2.1 F.2.2.2.1 ∧ fC o re pm be k l
def cst (o : Nat → Int32) (A : AM) : List (Int × Nat) := if tau o A.b = 1000 then ((if A.fl = true then 1 else 0), 0) :: A.st else A.st
/-- what stays from run to run, and what a run leaves -/
def RC0 (fu : Nat) (A : AM) (xi : Nat → Int32) (xa : Nat → Nat → Int32) (xl : Nat → Nat → Int64) : Prop := (∀ v, v < 26 → xl 4 v = pn (A.vr v).1 (A.vr v).2) ∧ xi 193 = nI A.sc ∧ xi 323 = nI A.k ∧ xi 324 = nI fu ∧ xi 321 = nI A.z ∧ (∀ q, q < A.z → xa 6 q = A.ot q)
def RM (o : Nat → Int32) (A : AM) (xi : Nat → Int32) (xa : Nat → Nat → Int32) (xl : Nat → Nat → Int64) : Prop := xi 1030 = nI (psi o A.b) ∧ (∃ t, xi 1029 = nI t ∧ sC (xl 17) t (cst o A)) ∧ (∃ c, xi 1034 = nI c ∧ fC o (xa 18) (xa 19) (xl 20) c A.fr)
def CK (f : Nat → Int32) (g : Nat → Int64) (e a : Nat → Int32) (N : Nat) (xi : Nat → Int32) (xa : Nat → Nat → Int32) (xl : Nat → Nat → Int64) : Prop := xi 452 = nI N ∧ xa 8 = f ∧ xl 9 = g ∧ xa 10 = e ∧ xa 11 = a
def KI : List Nat := [1029, 1030, 1034, 193, 321, 322, 323]
def KA : List Nat := [6, 18, 19]
def KL : List Nat := [4, 17, 20]
def FrC (xi : Nat → Int32) (xa : Nat → Nat → Int32) (xl : Nat → Nat → Int64) (xi' : Nat → Int32) (xa' : Nat → Nat → Int32) (xl' : Nat → Nat → Int64) : Prop := (∀ i, i ∉ KI → xi' i = xi i) ∧ (∀ i, i ∉ KA → xa' i = xa i) ∧ (∀ i, i ∉ KL → xl' i = xl i)
section CM
variable {xi xi' xi2 : Nat → Int32} {xa xa' xa2 : Nat → Nat → Int32} {xl xl' xl2 : Nat → Nat → Int64} {k : Nat}
theorem Fc_r : FrC xi xa xl xi xa xl := ⟨fun _ _ => rfl, fun _ _ => rfl, fun _ _ => rfl⟩
theorem Fc_t (h : FrC xi xa xl xi' xa' xl') (g : FrC xi' xa' xl' xi2 xa2 xl2) : FrC xi xa xl xi2 xa2 xl2 := ⟨fun i hi => (g.1 i hi).trans (h.1 i hi), fun i hi => (g.2.1 i hi).trans (h.2.1 i hi), fun i hi => (g.2.2 i hi).trans (h.2.2 i hi)⟩
theorem Fc_i {v : Int32} (hk : k ∈ KI) (h : FrC xi xa xl xi' xa' xl') : FrC xi xa xl (ui xi' k v) xa' xl' := ⟨fun i hi => (if_neg (show ¬ i = k from fun z => hi (by rw [z]; exact hk))).trans (h.1 i hi), h.2.1, h.2.2⟩
theorem Fc_a {v : Nat → Int32} (hk : k ∈ KA) (h : FrC xi xa xl xi' xa' xl') : FrC xi xa xl xi' (ua xa' k v) xl' := ⟨h.1, fun i hi => (if_neg (show ¬ i = k from fun z => hi (by rw [z]; exact hk))).trans (h.2.1 i hi), h.2.2⟩
theorem Fc_l {v : Nat → Int64} (hk : k ∈ KL) (h : FrC xi xa xl xi' xa' xl') : FrC xi xa xl xi' xa' (ul xl' k v) := ⟨h.1, h.2.1, fun i hi => (if_neg (show ¬ i = k from fun z => hi (by rw [z]; exact hk))).trans (h.2.2 i hi)⟩
theorem CK_F {f : Nat → Int32} {g : Nat → Int64} {e a : Nat → Int32} {N : Nat} (h : CK f g e a N xi xa xl) (k : FrC xi xa xl xi' xa' xl') : CK f g e a N xi' xa' xl' := by
  obtain ⟨h1, h2, h3, h4, h5⟩ := h
  exact ⟨(k.1 452 (by decide)).trans h1, (k.2.1 8 (by decide)).trans h2, (k.2.2 9 (by decide)).trans h3, (k.2.1 10 (by decide)).trans h4, (k.2.1 11 (by decide)).trans h5⟩
theorem sC_up {f : Nat → Int64} {v : Int64} : ∀ {l n}, n ≤ k → sC f n l → sC (vp_updL f k v) n l
  | [], _, _, h => h
  | m :: l, n, hn, ⟨j, h1, h2, h3⟩ => ⟨j, h1, (if_neg (by omega)).trans h2, sC_up (by omega) h3⟩
theorem sC_pu {f : Nat → Int64} {m : Int} {s : Nat} {l : List (Int × Nat)} (h : sC f k l) : sC (vp_updL f k (pn m s)) (k + 1) ((m, s) :: l) := ⟨k, rfl, if_pos rfl, sC_up (Nat.le_refl _) h⟩
theorem sC_len {f : Nat → Int64} : ∀ {l n}, sC f n l → n = l.length
  | [], _, h => h
  | _ :: l, _, ⟨j, h1, _, h3⟩ => by rw [h1, sC_len h3]; rfl
theorem fC_up {o re pm : Nat → Int32} {be : Nat → Int64} {x y : Int32} {z : Int64} : ∀ {l n}, n ≤ k → fC o re pm be n l → fC o (upd re k x) (upd pm k y) (vp_updL be k z) n l
  | [], _, _, h => h
  | F :: l, n, hn, ⟨j, h1, h2, h3, h4, h5⟩ => ⟨j, h1, (if_neg (by omega)).trans h2, (if_neg (by omega)).trans h3, (if_neg (by omega)).trans h4, fC_up (by omega) h5⟩
theorem fC_len {o re pm : Nat → Int32} {be : Nat → Int64} : ∀ {l n}, fC o re pm be n l → n = l.length
  | [], _, h => h
  | _ :: l, _, ⟨j, h1, _, _, _, h5⟩ => by rw [h1, fC_len h5]; rfl
theorem cst_n {o : Nat → Int32} {A : AM} (h : tau o A.b ≠ 1000) : cst o A = A.st := if_neg h
theorem cst_len {o : Nat → Int32} {n fu : Nat} {A : AM} (h : AIv o n fu A) (ht1 : ht (tau o A.b) ≤ 23) : (cst o A).length ≤ 110 := by
  obtain ⟨i1, i2, i3, i4, i5, i6, i7, i8, i9, i10⟩ := h
  have := hb_le i7
  unfold cst
  split
  · rw [List.length_cons]
    omega
  · omega
theorem uv_e {vr : Nat → Int × Nat} {v : Nat} {x : Int × Nat} : uv vr v x v = x := if_pos rfl
theorem uv_n {vr : Nat → Int × Nat} {v u : Nat} {x : Int × Nat} (h : u ≠ v) : uv vr v x u = vr u := if_neg h
theorem uv_4 {vr : Nat → Int × Nat} {v : Nat} {m : Int} {s : Nat} {f : Nat → Int64} {z : Int64} (h : ∀ v, v < 26 → f v = pn (vr v).1 (vr v).2) (hz : z = pn m s) : ∀ u, u < 26 → vp_updL f v z u = pn (uv vr v (m, s) u).1 (uv vr v (m, s) u).2 := by
  intro u hu
  show (if u = v then z else f u) = _
  by_cases e : u = v
  · rw [if_pos e, e, uv_e, hz]
  · rw [if_neg e, uv_n e]
    exact h u hu
end CM
