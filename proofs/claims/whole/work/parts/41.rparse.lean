/-! The reference's parser as a function on its rows. -/
abbrev RS : Type := Nat × Nat × Nat × Int32 × Int32 × Int32 × (Nat → Int32) × (Nat → Int32) × (Nat → Int32) × (Nat → Int32) × (Nat → Int32) × (Nat → Int32) × (Nat → Int32) × (Nat → Int32)
def RS.at (R : RS) : Nat := R.1
def RS.n (R : RS) : Nat := R.2.1
def RS.pc (R : RS) : Nat := R.2.2.1
def RS.dp (R : RS) : Int32 := R.2.2.2.1
def RS.fa (R : RS) : Int32 := R.2.2.2.2.1
def RS.w (R : RS) : Int32 := R.2.2.2.2.2.1
def RS.o (R : RS) : Nat → Int32 := R.2.2.2.2.2.2.1
def RS.x (R : RS) : Nat → Int32 := R.2.2.2.2.2.2.2.1
def RS.y (R : RS) : Nat → Int32 := R.2.2.2.2.2.2.2.2.1
def RS.st (R : RS) : Nat → Int32 := R.2.2.2.2.2.2.2.2.2.1
def RS.pa (R : RS) : Nat → Int32 := R.2.2.2.2.2.2.2.2.2.2.1
def RS.pw (R : RS) : Nat → Int32 := R.2.2.2.2.2.2.2.2.2.2.2.1
def RS.px (R : RS) : Nat → Int32 := R.2.2.2.2.2.2.2.2.2.2.2.2.1
def RS.py (R : RS) : Nat → Int32 := R.2.2.2.2.2.2.2.2.2.2.2.2.2
def rAt (v : Nat) (R : RS) : RS := (v, R.n, R.pc, R.dp, R.fa, R.w, R.o, R.x, R.y, R.st, R.pa, R.pw, R.px, R.py)
def rPc (v : Nat) (R : RS) : RS := (R.at, R.n, v, R.dp, R.fa, R.w, R.o, R.x, R.y, R.st, R.pa, R.pw, R.px, R.py)
def rDp (v : Int32) (R : RS) : RS := (R.at, R.n, R.pc, v, R.fa, R.w, R.o, R.x, R.y, R.st, R.pa, R.pw, R.px, R.py)
def rFa (R : RS) : RS := (R.at, R.n, R.pc, R.dp, 1, R.w, R.o, R.x, R.y, R.st, R.pa, R.pw, R.px, R.py)
def rWi (v : Int32) (R : RS) : RS := (R.at, R.n, R.pc, R.dp, R.fa, v, R.o, R.x, R.y, R.st, R.pa, R.pw, R.px, R.py)
def rEm (o x y : Int32) (R : RS) : RS := (R.at, R.n + 1, R.pc, R.dp, R.fa, R.w, upd R.o R.n o, upd R.x R.n x, upd R.y R.n y, R.st, R.pa, R.pw, R.px, R.py)
def rPu (w x y : Int32) (R : RS) : RS := (R.at, R.n, R.pc + 1, R.dp, R.fa, R.w, R.o, R.x, R.y, R.st, R.pa, upd R.pw R.pc w, upd R.px R.pc x, upd R.py R.pc y)
def rSx (i : Nat) (R : RS) : RS := (R.at, R.n, R.pc, R.dp, R.fa, R.w, R.o, upd R.x i (nI R.n), R.y, R.st, R.pa, R.pw, R.px, R.py)
def rDf (i : Nat) (p : Int32) (R : RS) : RS := (R.at, R.n, R.pc, R.dp, R.fa, R.w, R.o, R.x, R.y, upd R.st i (nI R.n), upd R.pa i p, R.pw, R.px, R.py)
def rDd (R : RS) : RS := if 6 < R.dp + 1 then rFa (rDp (R.dp + 1) R) else rDp (R.dp + 1) R
abbrev isRr (k : Int32) : Prop := k = 60 ∨ k = 62 ∨ k = 76 ∨ k = 71 ∨ k = 69 ∨ k = 78
section RP
variable (tk vl pl : Nat → Int32) (q : Nat)
def rXp (k : Int32) (R : RS) : RS := if tk R.at = k then rAt (R.at + 1) R else rFa R
def rMo (rs nx k : Int32) (R : RS) : RS := rPu nx 0 0 (rPu 17 5 k (rPu rs 0 0 (rAt (R.at + 1) R)))
def rPr (k : Int32) (R : RS) : RS :=
  if k = 110 then rAt (R.at + 1) (rEm 1 (vl R.at) (pl R.at) R)
  else if k = 115 then rAt (R.at + 1) (rEm 3 0 0 R)
  else if k = 97 then (if tk (R.at + 1) = 40 then rAt (R.at + 1 + 1) (rPu 7 0 0 (rPu 14 0 0 (rDd (rAt (R.at + 1) (rPu 17 6 (vl R.at) R))))) else rAt (R.at + 1) (rEm 2 (vl R.at) 0 R))
  else if k = 40 then rAt (R.at + 1) (rPu 7 0 0 (rPu 14 0 0 (rDd R)))
  else rAt (R.at + 1) (rFa R)
def rEx (w : Int32) (R : RS) : RS :=
  if w = 7 then rPu 9 0 0 (rPu 8 0 0 R)
  else if w = 8 then (if isSg (tk R.at) then rMo 8 9 (tk R.at) R else R)
  else if w = 9 then rPu 11 0 0 (rPu 10 0 0 R)
  else if w = 10 then (if isFa (tk R.at) then rMo 10 11 (tk R.at) R else R)
  else if w = 11 then (if tk R.at = 45 then rPu 11 0 0 (rPu 17 4 0 (rPu 5 0 0 (rDd (rAt (R.at + 1) R)))) else rPu 13 0 0 (rPu 12 0 0 R))
  else if w = 12 then (if tk R.at = 94 then rPu 11 0 0 (rPu 5 0 0 (rPu 17 5 94 (rDd (rAt (R.at + 1) R)))) else R)
  else if w = 13 then rPr tk vl pl (tk R.at) R
  else if w = 14 then rDp (R.dp - 1) (rXp tk 41 R)
  else if w = 15 then rPu 7 0 0 (rPu 16 0 0 R)
  else (if isRr (tk R.at) then rPu 7 0 0 (rPu 17 7 (tk R.at) (rAt (R.at + 1) R)) else rFa R)
def rRs (w x y : Int32) (R : RS) : RS :=
  if w = 18 then rPu 6 0 0 (rPu 5 0 0 (rEm 12 0 0 (rPu (if x = 105 then 19 else 20) (nI R.n) y (rDd R))))
  else if w = 20 then rSx x.toNatClampNeg (rEm 13 y 0 (rEm 14 0 0 R))
  else if w = 21 then rSx x.toNatClampNeg (rWi 0 (rEm 15 0 0 R))
  else rSx x.toNatClampNeg R
def rSt (R : RS) : RS :=
  if tk R.at = 123 then rPu 3 0 0 (rPu 5 0 0 (rDd (rAt (R.at + 1) R)))
  else if tk R.at = 105 ∨ tk R.at = 119 then rPu 15 0 0 (rPu 14 0 0 (rPu 18 (tk R.at) (nI (R.n + 1)) (rDd (rXp tk 40 (rAt (R.at + 1) (rEm 14 0 0 R))))))
  else if tk R.at = 114 then rPu 7 0 0 (rPu 17 11 0 (if R.w = 0 then rFa (rAt (R.at + 1) (rEm 14 0 0 R)) else rAt (R.at + 1) (rEm 14 0 0 R)))
  else if (tk R.at = 97 ∨ tk R.at = 115) ∧ tk (R.at + 1) = 61 then rPu 7 0 0 (rAt (R.at + 2) (rPu 17 (if tk R.at = 97 then 8 else 9) (vl R.at) (rEm 14 0 0 R)))
  else rPu 7 0 0 (rPu 17 10 0 (rEm 14 0 0 R))
def rDe (R : RS) : RS :=
  let R1 := rAt (R.at + 1) R
  let R3 := rXp tk 40 (rXp tk 97 R1)
  let R6 := rXp tk 123 (rXp tk 41 (rXp tk 97 R3))
  if R6.fa = 0 then
    if 0 ≤ R6.st (vl R1.at).toNatClampNeg then rFa R6
    else rPu 3 0 0 (rPu 5 0 0 (rDf (vl R1.at).toNatClampNeg (vl R3.at) (rEm 13 0 0 (rPu 21 (nI R6.n) 0 (rWi 1 (rDd R6))))))
  else rFa R6
def rLs (w : Int32) (R : RS) : RS :=
  if w = 6 then rSt tk vl R
  else if w = 5 then rDp (R.dp - 1) R
  else if w = 3 ∨ w = 4 then
    if tk R.at = 125 then rAt (R.at + 1) R
    else if w = 4 then rPu 3 0 0 (rXp tk 59 R)
    else if tk R.at = 59 then rPu 3 0 0 (rAt (R.at + 1) R)
    else rPu 6 0 0 (rPu 4 0 0 R)
  else
    if R.at = q then R
    else if w = 2 then rPu 1 0 0 (rXp tk 59 R)
    else if tk R.at = 59 then rPu 1 0 0 (rAt (R.at + 1) R)
    else if tk R.at = 100 then rDe tk vl (rPu 2 0 0 R)
    else rPu 6 0 0 (rPu 2 0 0 R)
/-- one item of the plan -/
def rst1 (w x y : Int32) (R : RS) : RS :=
  if w ≤ 6 then rLs tk vl q w R else if w < 17 then rEx tk vl pl w R else if w = 17 then rEm x y 0 R else rRs w x y R
def rst (R : RS) : RS := rst1 tk vl pl q (R.pw (R.pc - 1)) (R.px (R.pc - 1)) (R.py (R.pc - 1)) (rPc (R.pc - 1) R)
/-- where the rows are wide enough for one item -/
def RB (R : RS) : Prop := R.at ≤ q ∧ R.n ≤ 610 ∧ R.pc ≤ 400
/-- the plan's run from here, with N items at most, ends as r says -/
def OK (G : PS → RS → Prop) (r : PR) : Nat → RS → Prop
  | 0, _ => False
  | N + 1, R => if R.fa = 0 then (if R.pc = 0 then (∃ S, r = .inr S ∧ G S R) else RB q R ∧ OK G r N (rst tk vl pl q R)) else (∃ S, r = .inl S)
end RP
/-- the plan's stack, top first -/
def stk (pw px py : Nat → Int32) : Nat → List (Int32 × Int32 × Int32) → Prop
  | n, [] => n = 0
  | n, i :: l => ∃ m, n = m + 1 ∧ pw m = i.1 ∧ px m = i.2.1 ∧ py m = i.2.2 ∧ stk pw px py m l
abbrev Stk (R : RS) (l : List (Int32 × Int32 × Int32)) : Prop := stk R.pw R.px R.py R.pc l
theorem upd_ne {f : Nat → Int32} {k i : Nat} {v : Int32} (h : i ≠ k) : upd f k v i = f i := if_neg h
theorem upd_eq {f : Nat → Int32} {k : Nat} {v : Int32} : upd f k v k = v := if_pos rfl
theorem stk_up {pw px py : Nat → Int32} {w x y : Int32} {k : Nat} : ∀ l n, n ≤ k → (stk (upd pw k w) (upd px k x) (upd py k y) n l ↔ stk pw px py n l)
  | [], _, _ => Iff.rfl
  | i :: l, n, h => by
    constructor
    · rintro ⟨m, h1, h2, h3, h4, h5⟩
      have hk : m ≠ k := by omega
      rw [upd_ne hk] at h2 h3 h4
      exact ⟨m, h1, h2, h3, h4, (stk_up l m (by omega)).mp h5⟩
    · rintro ⟨m, h1, h2, h3, h4, h5⟩
      have hk : m ≠ k := by omega
      refine ⟨m, h1, ?_, ?_, ?_, (stk_up l m (by omega)).mpr h5⟩
      · rw [upd_ne hk]; exact h2
      · rw [upd_ne hk]; exact h3
      · rw [upd_ne hk]; exact h4
theorem Stk_pu {R : RS} {l : List (Int32 × Int32 × Int32)} {w x y : Int32} (h : Stk R l) : Stk (rPu w x y R) ((w, x, y) :: l) :=
  ⟨R.pc, rfl, upd_eq, upd_eq, upd_eq, (stk_up l R.pc (Nat.le_refl _)).mpr h⟩
theorem stk_len {pw px py : Nat → Int32} : ∀ {l n}, stk pw px py n l → n = l.length
  | [], _, h => h
  | _ :: l, _, ⟨m, h1, _, _, _, h5⟩ => by rw [h1, stk_len h5]; rfl
