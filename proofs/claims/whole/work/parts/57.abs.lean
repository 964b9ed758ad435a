/-! One machine for both: its states, its steps. -/
abbrev AF : Type := Nat × Nat × Int × Nat × Nat
abbrev AM : Type := Nat × List (Int × Nat) × Bool × List AF × (Nat → Int × Nat) × Nat × Nat × Nat × (Nat → Int32)
def AM.b (A : AM) : Nat := A.1
def AM.st (A : AM) : List (Int × Nat) := A.2.1
def AM.fl (A : AM) : Bool := A.2.2.1
def AM.fr (A : AM) : List AF := A.2.2.2.1
def AM.vr (A : AM) : Nat → Int × Nat := A.2.2.2.2.1
def AM.sc (A : AM) : Nat := A.2.2.2.2.2.1
def AM.k (A : AM) : Nat := A.2.2.2.2.2.2.1
def AM.z (A : AM) : Nat := A.2.2.2.2.2.2.2.1
def AM.ot (A : AM) : Nat → Int32 := A.2.2.2.2.2.2.2.2
def amk (b : Nat) (st : List (Int × Nat)) (fl : Bool) (fr : List AF) (vr : Nat → Int × Nat) (sc k z : Nat) (ot : Nat → Int32) : AM := (b, st, fl, fr, vr, sc, k, z, ot)
/-- another value for a variable -/
def uv (f : Nat → Int × Nat) (v : Nat) (x : Int × Nat) : Nat → Int × Nat := fun i => if i = v then x else f i
/-- a step of the machine: 0 it goes on, 100 it has ended, else the fault -/
def aS (o x y sa pa : Nat → Int32) (fu : Nat) (A : AM) : Nat × AM :=
  if o A.b = 1 then (0, amk (A.b + 1) (((x A.b).toInt, (y A.b).toNatClampNeg) :: A.st) A.fl A.fr A.vr A.sc A.k A.z A.ot)
  else if o A.b = 2 then (0, amk (A.b + 1) (A.vr (x A.b).toNatClampNeg :: A.st) A.fl A.fr A.vr A.sc A.k A.z A.ot)
  else if o A.b = 3 then (0, amk (A.b + 1) (((A.sc : Int), 0) :: A.st) A.fl A.fr A.vr A.sc A.k A.z A.ot)
  else if o A.b = 4 then (match A.st with
    | [] => (99, A)
    | m :: l => (0, amk (A.b + 1) ((-m.1, m.2) :: l) A.fl A.fr A.vr A.sc A.k A.z A.ot))
  else if o A.b = 5 then (match A.st with
    | m :: w :: l => (match r_op A.sc (x A.b) w.1 w.2 m.1 m.2 with
      | .inl f => (f, A)
      | .inr q => (0, amk (A.b + 1) (q :: l) A.fl A.fr A.vr A.sc A.k A.z A.ot))
    | _ => (99, A))
  else if o A.b = 6 then (match A.st with
    | [] => (99, A)
    | m :: l => if 0 ≤ sa (x A.b).toNatClampNeg then (if A.fr.length = 4 then (7, A) else (0, amk (sa (x A.b).toNatClampNeg).toNatClampNeg l A.fl ((A.b + 1, (pa (x A.b).toNatClampNeg).toNatClampNeg, (A.vr (pa (x A.b).toNatClampNeg).toNatClampNeg).1, (A.vr (pa (x A.b).toNatClampNeg).toNatClampNeg).2, l.length) :: A.fr) (uv A.vr (pa (x A.b).toNatClampNeg).toNatClampNeg m) A.sc A.k A.z A.ot)) else (6, A))
  else if o A.b = 7 then (match A.st with
    | m :: w :: l => (0, amk (A.b + 1) l (rmo (x A.b) (w.1 * 10 ^ (4 - w.2)) (m.1 * 10 ^ (4 - m.2))) A.fr A.vr A.sc A.k A.z A.ot)
    | _ => (99, A))
  else if o A.b = 8 then (match A.st with
    | [] => (99, A)
    | m :: l => (0, amk (A.b + 1) l A.fl A.fr (uv A.vr (x A.b).toNatClampNeg m) A.sc A.k A.z A.ot))
  else if o A.b = 9 then (match A.st with
    | [] => (99, A)
    | m :: l => (match r_who m.1 m.2 0 4 with
      | .inl f => (f, A)
      | .inr n => (0, amk (A.b + 1) l A.fl A.fr A.vr n.toNat A.k A.z A.ot)))
  else if o A.b = 10 then (match A.st with
    | [] => (99, A)
    | m :: l => if A.z + wl m.1 m.2 (max (m.2 + 1) (dgn m.1.natAbs)) ≤ 300 then (0, amk (A.b + 1) l A.fl A.fr A.vr A.sc A.k (A.z + wl m.1 m.2 (max (m.2 + 1) (dgn m.1.natAbs))) (wa A.ot m.1.natAbs m.2 (max (m.2 + 1) (dgn m.1.natAbs)) (A.z + wl m.1 m.2 (max (m.2 + 1) (dgn m.1.natAbs))) (wl m.1 m.2 (max (m.2 + 1) (dgn m.1.natAbs))))) else (8, A))
  else if o A.b = 11 then (match A.fr with
    | [] => (99, A)
    | (r, v, m, s, _) :: l => (0, amk r A.st A.fl l (uv A.vr v (m, s)) A.sc A.k A.z A.ot))
  else if o A.b = 12 then (0, amk (if A.fl = true then A.b + 1 else (x A.b).toNatClampNeg) A.st A.fl A.fr A.vr A.sc A.k A.z A.ot)
  else if o A.b = 13 then (0, amk (x A.b).toNatClampNeg A.st A.fl A.fr A.vr A.sc A.k A.z A.ot)
  else if o A.b = 14 then (if A.k < fu then (0, amk (A.b + 1) A.st A.fl A.fr A.vr A.sc (A.k + 1) A.z A.ot) else (4, A))
  else (match A.fr with
    | [] => (100, A)
    | (r, v, m, s, _) :: l => (0, amk r ((0, 0) :: A.st) A.fl l (uv A.vr v (m, s)) A.sc A.k A.z A.ot))
/-- the steps, one after another -/
def aI (o x y sa pa : Nat → Int32) (fu : Nat) : Nat → AM → Nat × AM
  | 0, A => (99, A)
  | n + 1, A => if (aS o x y sa pa fu A).1 = 0 then aI o x y sa pa fu n (aS o x y sa pa fu A).2 else aS o x y sa pa fu A
/-- what the two codes and the two lists of functions have in common -/
def CDX (f : Nat → Int32) (g : Nat → Int64) (e a o x y sa pa : Nat → Int32) (n N : Nat) : Prop := (∀ b, b < n → LC f g o x y n b) ∧ o n = 15 ∧ tau o n = 0 ∧ rho o n = false ∧ psi o n = N ∧ N ≤ 600 ∧ (∀ v, v < 26 → (e v = -1 ∧ sa v = -1) ∨ ∃ b, b < n ∧ e v = nI (psi o b) ∧ sa v = nI b ∧ tau o b = 0 ∧ rho o b = true ∧ (o b = 14 ∨ o b = 15) ∧ ∃ p, p < 26 ∧ a v = nI p ∧ pa v = nI p)
theorem TI_CDX {q : Nat} {S : PS} {R : RS} (h : TI q S R) : CDX S.f S.g S.e S.a (upd R.o R.n 15) (upd R.x R.n 0) (upd R.y R.n 0) R.st R.pa R.n S.n := by
  obtain ⟨h1, h2, h3, h4, h5, h6, h7⟩ := h
  have up : ∀ c, c < R.n → upd R.o R.n 15 c = R.o c := fun c hc => upd_ne (by omega)
  refine ⟨fun b hb => ?_, upd_eq, (tau_cg up).trans h3, (rho_cg up).trans h4, (psi_cg up).trans h1.2.2.2.2.symm, S.hn, fun v hv => ?_⟩
  · exact LC_Fr up hb (upd_ne (by omega)) (upd_ne (by omega)) (fun _ _ _ => ⟨rfl, rfl⟩) (Nat.le_refl _) (h2 b (Nat.zero_le _) hb)
  · rcases h7 v hv with h | ⟨b, k1, k2, k3, k4, k5, k6, k7⟩
    · exact Or.inl h
    · refine Or.inr ⟨b, k1, ?_, k3, ?_, ?_, ?_, k7⟩
      · rw [psi_cg (fun c hc => up c (by omega))]
        exact k2
      · rw [tau_cg (fun c hc => up c (by omega))]
        exact k4
      · rw [rho_cg (fun c hc => up c (by omega))]
        exact k5
      · rw [up b k1]
        exact k6
/-- where the running call's values begin -/
def hb : List AF → Nat
  | [] => 0
  | f :: _ => f.2.2.2.2
def fok (o : Nat → Int32) (n : Nat) : List AF → Prop
  | [] => True
  | f :: l => f.1 ≤ n ∧ f.2.1 < 26 ∧ nm f.2.2.1 f.2.2.2.1 ∧ 1 ≤ tau o f.1 ∧ tau o f.1 ≤ 22 ∧ f.2.2.2.2 + 1 = hb l + tau o f.1 ∧ rho o f.1 = !l.isEmpty ∧ fok o n l
/-- the height at an address -/
def ht (t : Nat) : Nat := if t = 1000 then 0 else hh t
def AIv (o : Nat → Int32) (n fu : Nat) (A : AM) : Prop := (∀ m ∈ A.st, nm m.1 m.2) ∧ (∀ v, v < 26 → nm (A.vr v).1 (A.vr v).2) ∧ A.sc ≤ 4 ∧ A.k ≤ fu ∧ A.z ≤ 300 ∧ A.b ≤ n ∧ fok o n A.fr ∧ A.fr.length ≤ 4 ∧ A.st.length = hb A.fr + ht (tau o A.b) ∧ rho o A.b = !A.fr.isEmpty
/-- how many operations an address may still cost -/
def wt (o : Nat → Int32) (b : Nat) : Nat := if o b = 14 then 0 else if o b = 13 ∧ tau o b = 900 then 1798 else if o b = 15 then 2 else 3 * (600 - psi o b)
def wtf (o : Nat → Int32) : List AF → Nat
  | [] => 0
  | f :: l => wt o f.1 + wtf o l
def pot (o : Nat → Int32) (fu : Nat) (A : AM) : Nat := 1799 * (fu - A.k) + wt o A.b + wtf o A.fr
theorem hb_le {o : Nat → Int32} {n : Nat} : ∀ {l : List AF}, fok o n l → hb l ≤ 21 * l.length
  | [], _ => Nat.zero_le _
  | f :: l, h => by
    obtain ⟨h1, h2, h3, h4, h5, h6, h7, h8⟩ := h
    have := hb_le h8
    show f.2.2.2.2 ≤ 21 * (l.length + 1)
    omega
