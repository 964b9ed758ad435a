/-! Numerals that are too long; texts that are faulty. -/
section WA
variable {T : Nat → Nat} {z p : Nat} {C : Nat → Nat}
theorem dgs_lt : ∀ n w i, w ≤ i → i < dgs C p n w → isD (C (p + i))
  | 0, w, i, h1, h2 => by
    have h : i < w := h2
    omega
  | n + 1, w, i, h1, h2 => by
    have e : dgs C p (n + 1) w = if isD (C (p + w)) then dgs C p n (w + 1) else w := rfl
    rw [e] at h2
    by_cases h : isD (C (p + w))
    · rw [if_pos h] at h2
      by_cases hi : i = w
      · rw [hi]
        exact h
      · exact dgs_lt n (w + 1) i (by omega) h2
    · rw [if_neg h] at h2
      omega
theorem long_next (hs : 9 < (nr C p).2.2.1 ∨ 4 < (nr C p).2.2.2) : isD (C (p + nuW C p)) ∨ C (p + nuW C p) = 46 := by
  have a1 := nl_dgs (C := C) (p := p) 251 0 0 0
  rw [Nat.add_zero] at a1
  have m1 : dgs C p 9 0 = min 9 (dgs C p 251 0) := dgs_min (C := C) (p := p) 9 242 0
  have t1 := dgs_lt (C := C) (p := p) 251 0
  unfold nuW
  unfold nr at hs
  generalize hD1 : dgs C p 251 0 = D1 at a1 m1 t1
  have e1 : (nl C 251 p 0 0).1 = p + D1 := a1.1
  have e2 : (nl C 251 p 0 0).2.2 = D1 := by have := a1.2; omega
  rw [e1, e2] at hs
  by_cases hD : 9 < D1
  · have g : dgs C p 9 0 = 9 := by omega
    have d9 : isD (C (p + 9)) := t1 9 (by omega) (by omega)
    have P : nuP C p = 0 := by
      unfold nuP
      rw [g]
      exact if_neg (fun y => by have := d9.1; have := d9.2; omega)
    rw [P, if_pos rfl, g]
    exact Or.inl d9
  have g : dgs C p 9 0 = D1 := by omega
  by_cases hdot : C (p + D1) = 46 ∧ isD (C (p + D1 + 1))
  · rw [if_pos hdot] at hs
    have b1 := nl_dgs (C := C) (p := p + D1 + 1) 251 0 (nl C 251 p 0 0).2.1 D1
    rw [Nat.add_zero] at b1
    have t2 := dgs_lt (C := C) (p := p + D1 + 1) 251 0
    have m2 : ∀ n, n ≤ 251 → dgs C (p + D1 + 1) n 0 = min n (dgs C (p + D1 + 1) 251 0) := by
      intro n hn
      have := dgs_min (C := C) (p := p + D1 + 1) n (251 - n) 0
      rw [show n + (251 - n) = 251 by omega] at this
      exact this
    generalize hD2 : dgs C (p + D1 + 1) 251 0 = D2 at b1 m2 t2
    have f2 : (nl C 251 (p + D1 + 1) (nl C 251 p 0 0).2.1 D1).2.2 = D1 + D2 := by have := b1.2; omega
    have hs1 : 9 < D1 + D2 ∨ 4 < D1 + D2 - D1 := by
      rw [← f2]
      exact hs
    have P : nuP C p = min 4 (9 - D1) := by
      unfold nuP
      rw [g, if_pos hdot.1, m2 (min 4 (9 - D1)) (by omega)]
      omega
    by_cases h9 : D1 = 9
    · rw [P, if_pos (show min 4 (9 - D1) = 0 by omega), g]
      exact Or.inr hdot.1
    · rw [P, if_neg (show ¬ min 4 (9 - D1) = 0 by omega), g]
      rw [show p + (D1 + 1 + min 4 (9 - D1)) = p + D1 + 1 + min 4 (9 - D1) by omega]
      exact Or.inl (t2 (min 4 (9 - D1)) (by omega) (by omega))
  · rw [if_neg hdot] at hs
    have hs1 : 9 < D1 ∨ 4 < 0 := hs
    omega
theorem nuW_pos (h : isD (C p)) : 1 ≤ nuW C p := by
  have : 1 ≤ dgs C p 9 0 := by
    show 1 ≤ (if isD (C (p + 0)) then dgs C p 8 (0 + 1) else 0)
    rw [if_pos (show isD (C (p + 0)) from h)]
    exact (dgs_le 8 1).1
  unfold nuW
  split <;> omega
/-- tokens so far: none is the end, and names are known -/
def SK (s : SQ) : Prop := (∀ i, i < s.1 → s.2.1 i ≠ 0) ∧ ∀ i, s.2.1 i = 257 → ∃ q : Nat, q < 26 ∧ s.2.2 i = zL q
theorem tkC_ok (hc : C p < 256) {k : Int32} {v : Int64} {w : Nat} (h : tkC C p = some (some (k, v), w)) : k ≠ 0 ∧ (k = 257 → ∃ q : Nat, q < 26 ∧ v = zL q) := by
  unfold tkC at h
  split at h
  · cases h
  split at h
  · cases h
    exact ⟨by decide, fun e => absurd e (by decide)⟩
  split at h
  · rename_i hw
    split at h
    · rename_i k' hk
      cases h
      unfold woK at hk
      unfold woV
      by_cases h1 : lts C p 199 1 = 1
      · rw [if_pos h1] at hk ⊢
        cases hk
        refine ⟨by decide, fun _ => ⟨C p - 97, ?_, rfl⟩⟩
        have := hw.2
        omega
      · rw [if_neg h1] at hk
        have rk := rsv_k hk
        exact ⟨rk.2.1, fun e => absurd e rk.2.2.2.1⟩
    · cases h
  · split at h
    · rename_i k' hk
      cases h
      have sk := sy_same hc hk
      exact ⟨sk.2.1, fun e => absurd e sk.2.2.2.1⟩
    · cases h
theorem sk_A (hc : C p < 256) {t : Option (Int32 × Int64)} {w : Nat} (h : tkC C p = some (t, w)) {s : SQ} (hs : SK s) : SK (sqA t s) := by
  cases t with
  | none => exact hs
  | some k =>
    obtain ⟨k, v⟩ := k
    have tk := tkC_ok hc h
    refine ⟨fun i hi => ?_, fun i hi => ?_⟩
    · have hi' : i < s.1 + 1 := hi
      show upd s.2.1 s.1 k i ≠ 0
      by_cases e : i = s.1
      · rw [e, upd_eq]
        exact tk.1
      · rw [upd_ne e]
        exact hs.1 i (by omega)
    · have hi' : upd s.2.1 s.1 k i = 257 := hi
      show ∃ q : Nat, q < 26 ∧ vp_updL s.2.2 s.1 v i = zL q
      by_cases e : i = s.1
      · rw [e, upd_eq] at hi'
        rw [e, vu_eq]
        exact tk.2 hi'
      · rw [upd_ne e] at hi'
        rw [vu_ne e]
        exact hs.2 i hi'
theorem sk_scl (hc : ∀ i, C i < 256) : ∀ N p (s : SQ), SK s → (∀ s', scl C z N p s = .inl s' → SK s') ∧ (∀ s', scl C z N p s = .inr s' → SK s')
  | 0, p, s, h => ⟨fun s' e => (by cases e), fun s' e => (by cases e; exact h)⟩
  | N + 1, p, s, h => by
    unfold scl
    by_cases hp : p < z
    · rw [if_pos hp]
      cases ht : tkC C p with
      | none => exact ⟨fun s' e => (by cases e; exact h), fun s' e => (by cases e)⟩
      | some t =>
        obtain ⟨t1, w⟩ := t
        exact sk_scl hc N (p + max 1 w) (sqA t1 s) (sk_A (hc p) ht h)
    · rw [if_neg hp]
      exact ⟨fun s' e => (by cases e), fun s' e => (by cases e; exact h)⟩
theorem sqA_keep {t : Option (Int32 × Int64)} {s : SQ} : s.1 ≤ (sqA t s).1 ∧ ∀ i, i < s.1 → (sqA t s).2.1 i = s.2.1 i := by
  cases t with
  | none => exact ⟨Nat.le_refl _, fun _ _ => rfl⟩
  | some k => exact ⟨Nat.le_succ _, fun i hi => upd_ne (show i ≠ s.1 by omega)⟩
theorem scl_keep : ∀ N p (s s' : SQ), scl C z N p s = .inr s' → s.1 ≤ s'.1 ∧ ∀ i, i < s.1 → s'.2.1 i = s.2.1 i
  | 0, p, s, s', h => by
    cases h
    exact ⟨Nat.le_refl _, fun _ _ => rfl⟩
  | N + 1, p, s, s', h => by
    unfold scl at h
    by_cases hp : p < z
    · rw [if_pos hp] at h
      cases ht : tkC C p with
      | none =>
        rw [ht] at h
        cases h
      | some t =>
        rw [ht] at h
        have ih := scl_keep N (p + max 1 t.2) (sqA t.1 s) s' h
        have k := sqA_keep (t := t.1) (s := s)
        exact ⟨Nat.le_trans k.1 ih.1, fun i hi => (ih.2 i (Nat.lt_of_lt_of_le hi k.1)).trans (k.2 i hi)⟩
    · rw [if_neg hp] at h
      cases h
      exact ⟨Nat.le_refl _, fun _ _ => rfl⟩
/-- the text is faulty for the project, or has two numerals side by side -/
def BD (r : SQ ⊕ SQ) : Prop := ∀ s', r = .inr s' → ∃ i, i + 1 < s'.1 ∧ s'.2.1 i = 256 ∧ s'.2.1 (i + 1) = 256
theorem bd_none {N : Nat} {s : SQ} (hp : p < z) (h : tkC C p = none) : BD (scl C z (N + 1) p s) := by
  intro s' e
  unfold scl at e
  rw [if_pos hp, h] at e
  cases e
theorem tk_none (hz : z ≤ 200) (hc : ∀ i, tA T z i < 256) (h : tkR (tA T z) p = none) : tkC (tA T z) p = none ∨ (isD (tA T z p) ∧ (9 < (nr (tA T z) p).2.2.1 ∨ 4 < (nr (tA T z) p).2.2.2)) := by
  unfold tkR at h
  unfold tkC
  split at h
  · cases h
  rename_i hb
  rw [if_neg hb]
  split at h
  · rename_i hd
    split at h
    · rename_i hl
      exact Or.inr ⟨hd, hl⟩
    · cases h
  rename_i hd
  rw [if_neg hd]
  split at h
  · rename_i hw
    rw [if_pos hw]
    rw [lts_1 hz hw] at h
    split at h
    · rename_i h0
      unfold woK
      unfold woR at h0
      by_cases h1 : lts (tA T z) p 199 1 = 1
      · rw [if_pos h1] at h0
        exact absurd h0 (by decide)
      · rw [if_neg h1] at h0 ⊢
        cases hr : rsv (tA T z) p (lts (tA T z) p 199 1) with
        | none => exact Or.inl rfl
        | some k =>
          rw [hr] at h0
          exact absurd h0 (rsv_k hr).2.2.2.2
    · cases h
  · rename_i hw
    rw [if_neg hw]
    split at h
    · rename_i h0
      unfold sgK at h0
      cases hk : syK (tA T z) p with
      | none => exact Or.inl rfl
      | some k =>
        rw [hk] at h0
        exact absurd h0 (sy_same (hc p) hk).2.2.2.2.1
    · cases h
theorem tk_dig (h : isD (C p)) : tkC C p = some (some (256, pn (nuV C p : Nat) (nuP C p)), nuW C p) := by
  unfold tkC
  rw [if_neg (fun y => by have := h.1; omega), if_pos h]
theorem tk_dot (h : C p = 46) : tkC C p = none := by
  unfold tkC syK
  rw [h]
  rw [if_neg (by decide), if_neg (by decide), if_neg (by decide), if_neg (show ¬ (C (p + 1) = 61 ∧ ¬ wes 46 = 0) from fun y => y.2 (by decide)), if_neg (by decide), if_neg (by decide)]
theorem tA_in {i : Nat} (h : tA T z i ≠ 0) : i < z := by
  by_cases hi : i < z
  · exact hi
  · exact absurd (tA_ge (by omega)) h
theorem sc_bad (hz : z ≤ 200) (hc : ∀ i, tA T z i < 256) : ∀ N p (s : SQ) (r : SR), z ≤ N + p → srl (tA T z) z N p r = none → BD (scl (tA T z) z N p s)
  | 0, p, s, r, _, e => by cases e
  | N + 1, p, s, r, hN, e => by
    unfold srl at e
    by_cases hp : p < z
    · rw [if_pos hp] at e
      cases ht : tkR (tA T z) p with
      | none =>
        cases tk_none hz hc ht with
        | inl h => exact bd_none hp h
        | inr h =>
          have e1 : scl (tA T z) z (N + 1) p s = scl (tA T z) z N (p + max 1 (nuW (tA T z) p)) (s.1 + 1, upd s.2.1 s.1 256, vp_updL s.2.2 s.1 (pn (nuV (tA T z) p : Nat) (nuP (tA T z) p))) := by
            show (if p < z then _ else _) = _
            rw [if_pos hp, tk_dig h.1]
            rfl
          have w1 := nuW_pos h.1
          rw [e1, show max 1 (nuW (tA T z) p) = nuW (tA T z) p by omega]
          generalize hE : p + nuW (tA T z) p = E
          have ln := long_next h.2
          rw [hE] at ln
          have hE2 : E < z := tA_in (fun y => by
            rw [y] at ln
            exact absurd ln (by decide))
          cases N with
          | zero => omega
          | succ N =>
            cases ln with
            | inr h46 => exact bd_none hE2 (tk_dot h46)
            | inl hd =>
              have e2 : ∀ s : SQ, scl (tA T z) z (N + 1) E s = scl (tA T z) z N (E + max 1 (nuW (tA T z) E)) (s.1 + 1, upd s.2.1 s.1 256, vp_updL s.2.2 s.1 (pn (nuV (tA T z) E : Nat) (nuP (tA T z) E))) := by
                intro s
                show (if E < z then _ else _) = _
                rw [if_pos hE2, tk_dig hd]
                rfl
              rw [e2]
              intro s' hs'
              have k := scl_keep N _ _ s' hs'
              have k1 : s.1 + 1 + 1 ≤ s'.1 := k.1
              refine ⟨s.1, by omega, ?_, ?_⟩
              · rw [k.2 s.1 (show s.1 < s.1 + 1 + 1 by omega)]
                show upd (upd s.2.1 s.1 256) (s.1 + 1) 256 s.1 = 256
                rw [upd_ne (by omega), upd_eq]
              · rw [k.2 (s.1 + 1) (show s.1 + 1 < s.1 + 1 + 1 by omega)]
                show upd (upd s.2.1 s.1 256) (s.1 + 1) 256 (s.1 + 1) = 256
                rw [upd_eq]
      | some t =>
        rw [ht] at e
        obtain ⟨t1, w⟩ := t
        have e' : srl (tA T z) z N (p + w) (srA t1 r) = none := e
        unfold scl
        rw [if_pos hp]
        cases t1 with
        | none =>
          have b := tk_blank ht
          rw [b.1]
          show BD (scl (tA T z) z N (p + max 1 w) s)
          rw [show max 1 w = w by omega]
          exact sc_bad hz hc N (p + w) s r (by omega) e'
        | some k =>
          obtain ⟨k1, x, y⟩ := k
          obtain ⟨kc, v, c1, c2, c3, c4, c5, c6, c7⟩ := tk_some hz hc ht
          rw [c1]
          show BD (scl (tA T z) z N (p + max 1 w) (s.1 + 1, upd s.2.1 s.1 kc, vp_updL s.2.2 s.1 v))
          rw [show max 1 w = w by omega]
          exact sc_bad hz hc N (p + w) _ _ (by omega) e'
    · rw [if_neg hp] at e
      cases e
theorem kp_97 : ∀ k ∈ TK, k ≠ 257 → kp k ≠ 97 := by decide
theorem tkR_n (hc : C p < 256) {k x y : Int32} {w : Nat} (h : tkR C p = some (some (k, x, y), w)) : k = 97 → ∃ q, q < 26 ∧ x = nI q := by
  unfold tkR at h
  split at h
  · cases h
  split at h
  · split at h
    · cases h
    · cases h
      exact fun e => absurd e (by decide)
  split at h
  · rename_i hw
    split at h
    · cases h
    · cases h
      refine fun _ => ⟨C p - 97, ?_, rfl⟩
      have := hw.2
      omega
  · split at h
    · cases h
    · rename_i h0
      cases h
      unfold sgK at h0 ⊢
      cases hk : syK C p with
      | none =>
        rw [hk] at h0
        exact absurd rfl h0
      | some k =>
        have sk := sy_same hc hk
        exact fun e => absurd e (kp_97 k.1 sk.1 sk.2.2.2.1)
theorem hr_srl (hc : ∀ i, C i < 256) : ∀ N p (s s' : SR), HR s → srl C z N p s = some s' → HR s'
  | 0, p, s, s', h, e => by
    cases e
    exact h
  | N + 1, p, s, s', h, e => by
    unfold srl at e
    by_cases hp : p < z
    · rw [if_pos hp] at e
      cases ht : tkR C p with
      | none =>
        rw [ht] at e
        cases e
      | some t =>
        rw [ht] at e
        obtain ⟨t1, w⟩ := t
        refine hr_srl hc N (p + w) (srA t1 s) s' ?_ e
        cases t1 with
        | none => exact h
        | some k => exact hr_A (tkR_n (hc p) ht) h
    · rw [if_neg hp] at e
      cases e
      exact h
end WA
