/-! The relations in both. -/
theorem rl_op {k : Int32} {c s t : Nat} {a b : Int} (h : isRl k) : r_op c k a s b t = .inr ((if rl k (a * 10 ^ (4 - s)) (b * 10 ^ (4 - t)) = true then 1 else 0), 0) := by
  have ne : ∀ z : Int32, isRl z → ¬ z = 37 ∧ ¬ z = 42 ∧ ¬ z = 43 ∧ ¬ z = 45 ∧ ¬ z = 47 ∧ ¬ z = 94 := by
    intro z hz
    refine ⟨?_, ?_, ?_, ?_, ?_, ?_⟩ <;> (intro e; rw [e] at hz; exact absurd hz (by decide))
  obtain ⟨n1, n2, n3, n4, n5, n6⟩ := ne k h
  unfold r_op
  rw [if_neg n1, if_neg n2, if_neg n3, if_neg n4, if_neg n5, if_neg n6]
theorem rl6 {k : Int32} (h : 263 ≤ k ∧ k ≤ 266) : k = 263 ∨ k = 264 ∨ k = 265 ∨ k = 266 := by
  obtain ⟨h1, h2⟩ := h
  have a1 : (263 : Int32).toInt ≤ k.toInt := Int32.le_iff_toInt_le.mp h1
  have a2 : k.toInt ≤ (266 : Int32).toInt := Int32.le_iff_toInt_le.mp h2
  have b1 : (263 : Int32).toInt = 263 := by decide
  have b2 : (266 : Int32).toInt = 266 := by decide
  have d : k.toInt = 263 ∨ k.toInt = 264 ∨ k.toInt = 265 ∨ k.toInt = 266 := by omega
  rcases d with d | d | d | d
  · exact Or.inl (Int32.toInt_inj.mp (d.trans (by decide)))
  · exact Or.inr (Or.inl (Int32.toInt_inj.mp (d.trans (by decide))))
  · exact Or.inr (Or.inr (Or.inl (Int32.toInt_inj.mp (d.trans (by decide)))))
  · exact Or.inr (Or.inr (Or.inr (Int32.toInt_inj.mp (d.trans (by decide)))))
theorem rmo_kp {k : Int32} {x y : Int} (h : isRl k) : rmo (kp k) x y = rl k x y := by
  rcases h with h | h | h
  · rw [h]; rfl
  · rw [h]; rfl
  · rcases rl6 h with h | h | h | h <;> rw [h] <;> rfl
/-! The machine of the project: one step. -/
section CN
variable {L : Nat} {xs : Nat → Int32} {d : Nat} {σ : dx_S} {Q : dx_O → dx_S → Prop} {xi : Nat → Int32} {xa : Nat → Nat → Int32} {xl : Nat → Nat → Int64} {j : dx_S} {f : Nat → Int32} {g : Nat → Int64} {e a o x y sa pa : Nat → Int32} {n N fu : Nat} {A : AM}
theorem c_step (hC : CDX f g e a o x y sa pa n N) (hI : AIv o n fu A) (h0 : RC0 fu A xi xa xl) (hM : RM o A xi xa xl) (hK : CK f g e a N xi xa xl) (hfu : fu ≤ 2000) (hlt : A.b < n) (h15 : o A.b ≠ 15)
  (K0 : ∀ A' xi' xa' xl', aS o x y sa pa fu A = (0, A') → RC0 fu A' xi' xa' xl' → RM o A' xi' xa' xl' → FrC xi xa xl xi' xa' xl' → xi' 322 = xi 322 → Q (.inl none) (mk xi' xa' xl' j))
  (KF : ∀ k xi' xa' xl', aS o x y sa pa fu A = (k, A) → k ≠ 0 → k ≤ 8 → RC0 fu A xi' xa' xl' → FrC xi xa xl xi' xa' xl' → xi' 322 = nI k → Q (.inr (46 + j.length)) (mk xi' xa' xl' (j ++ [.inr (exc (nI k), [])]))) :
  dx_M (tb_Z L xs) (d + 6) 73 [.ref 16, .int (f (psi o A.b)), .long (g (psi o A.b))] (mk (ui xi 1030 (nI (psi o A.b + 1))) xa xl j) Q := by
  have hI0 := hI
  obtain ⟨i1, i2, i3, i4, i5, i6, i7, i8, i9, i10⟩ := hI
  obtain ⟨r1, r2, r3, r4, r5, r6⟩ := h0
  obtain ⟨m1, ⟨t, m2, m3⟩, ⟨c, m4, m5⟩⟩ := hM
  obtain ⟨q1, q2, q3, q4, q5⟩ := hK
  have ps := psi_n (o := o) h15
  have c4 := fC_len m5
  have fr0 : FrC xi xa xl (ui xi 1030 (nI (psi o A.b + 1))) xa xl := Fc_i (by decide) Fc_r
  have x29 : (ui xi 1030 (nI (psi o A.b + 1))) 1029 = nI t := m2
  have x34 : (ui xi 1030 (nI (psi o A.b + 1))) 1034 = nI c := m4
  have x93 : (ui xi 1030 (nI (psi o A.b + 1))) 193 = nI A.sc := r2
  have x23 : (ui xi 1030 (nI (psi o A.b + 1))) 323 = nI A.k := r3
  have x24 : (ui xi 1030 (nI (psi o A.b + 1))) 324 = nI fu := r4
  have x21 : (ui xi 1030 (nI (psi o A.b + 1))) 321 = nI A.z := r5
  have nmst : ∀ {m : Int × Nat} {l : List (Int × Nat)}, A.st = m :: l → nm m.1 m.2 ∧ ∀ w ∈ l, nm w.1 w.2 := by
    intro m l hs
    rw [hs] at i1
    exact ⟨i1 m (List.mem_cons_self ..), fun w hw => i1 w (List.mem_cons_of_mem _ hw)⟩
  have len : ht (tau o A.b) ≤ 23 → t ≤ 110 := fun h => by
    rw [sC_len m3]
    exact cst_len hI0 h
  refine a_cases hC hI0 ?_ ?_ ?_ ?_ ?_ ?_ ?_ ?_ ?_ ?_ ?_ ?_ ?_ ?_ ?_ ?_
  · intro m s _ ho hf hg hx hy hm hth
    have t1 := tn_1 (o := o) ho
    have n1000 : tau o A.b ≠ 1000 := fun z => by rw [z] at hth; exact absurd hth (by decide)
    have lt := len (by rw [show ht (tau o A.b) = hh (tau o A.b) from if_neg n1000]; omega)
    rw [cst_n n1000] at m3
    rw [hf, hg, x_301 x29 (by omega)]
    refine K0 _ _ _ _ (as_1 ho) ⟨r1, r2, r3, r4, r5, r6⟩ ⟨?_, ⟨t + 1, rfl, ?_⟩, ⟨c, m4, m5⟩⟩ (Fc_l (by decide) (Fc_i (by decide) fr0)) rfl
    · show nI (psi o A.b + 1) = nI (psi o (A.b + 1))
      rw [ps]
    · rw [cst_n (show tau o (A.b + 1) ≠ 1000 by omega)]
      show sC (vp_updL (xl 17) t (pn m s)) (t + 1) (((x A.b).toInt, (y A.b).toNatClampNeg) :: A.st)
      rw [hx, hy, zI_T (by have := hm.1; omega) (by have := hm.2.1; omega), nI_clamp (by have := hm.2.2; omega)]
      exact sC_pu m3
  · intro v _ ho hf hg hx hv hth
    have t1 := tn_2 (o := o) ho
    have n1000 : tau o A.b ≠ 1000 := fun z => by rw [z] at hth; exact absurd hth (by decide)
    have lt := len (by rw [show ht (tau o A.b) = hh (tau o A.b) from if_neg n1000]; omega)
    rw [cst_n n1000] at m3
    rw [hf, hg, x_302 x29 (by omega) hv]
    refine K0 _ _ _ _ (as_2 ho) ⟨r1, r2, r3, r4, r5, r6⟩ ⟨?_, ⟨t + 1, rfl, ?_⟩, ⟨c, m4, m5⟩⟩ (Fc_l (by decide) (Fc_i (by decide) fr0)) rfl
    · show nI (psi o A.b + 1) = nI (psi o (A.b + 1))
      rw [ps]
    · rw [cst_n (show tau o (A.b + 1) ≠ 1000 by omega)]
      show sC (vp_updL (xl 17) t (xl 4 v)) (t + 1) (A.vr (x A.b).toNatClampNeg :: A.st)
      rw [hx, nI_clamp (by omega), r1 v hv]
      exact sC_pu m3
  · intro _ ho hf hth
    have t1 := tn_3 (o := o) ho
    have n1000 : tau o A.b ≠ 1000 := fun z => by rw [z] at hth; exact absurd hth (by decide)
    have lt := len (by rw [show ht (tau o A.b) = hh (tau o A.b) from if_neg n1000]; omega)
    rw [cst_n n1000] at m3
    rw [hf, x_304 x29 (by omega) x93 i3]
    refine K0 _ _ _ _ (as_3 ho) ⟨r1, r2, r3, r4, r5, r6⟩ ⟨?_, ⟨t + 1, rfl, ?_⟩, ⟨c, m4, m5⟩⟩ (Fc_l (by decide) (Fc_i (by decide) fr0)) rfl
    · show nI (psi o A.b + 1) = nI (psi o (A.b + 1))
      rw [ps]
    · rw [cst_n (show tau o (A.b + 1) ≠ 1000 by omega)]
      exact sC_pu m3
  · intro m l _ ho hf hs h1 h2
    have t1 := tn_4 (o := o) ho
    rw [hh_h (by omega)] at t1
    have lt := len (by rw [ht_n h1 (by omega)]; omega)
    rw [cst_n (by omega), hs] at m3
    obtain ⟨k, k1, k2, k3⟩ := m3
    rw [k1] at x29
    have s1 := (nmst hs).1
    rw [hf, x_306 x29 (by omega) k2 s1]
    refine K0 _ _ _ _ (as_4 ho hs) ⟨r1, r2, r3, r4, r5, r6⟩ ⟨?_, ⟨k + 1, rfl, ?_⟩, ⟨c, m4, m5⟩⟩ (Fc_l (by decide) (Fc_i (by decide) (Fc_i (by decide) fr0))) rfl
    · show nI (psi o A.b + 1) = nI (psi o (A.b + 1))
      rw [ps]
    · rw [cst_n (show tau o (A.b + 1) ≠ 1000 by omega)]
      exact sC_pu k3
  · intro m w l _ ho hf hbn hs h1 h2
    have t1 := tn_5 (o := o) ho
    rw [hh_h (by omega)] at t1
    have lt := len (by rw [ht_n (by omega) h2]; omega)
    rw [cst_n (by omega), hs] at m3
    obtain ⟨k', k1, k2, k, k3, k4, k5⟩ := m3
    subst k3
    rw [k1] at x29
    obtain ⟨s1, s2⟩ := nmst hs
    have s3 := s2 w (List.mem_cons_self ..)
    have o3 : x A.b < 300 := by rcases hbn with h | h | h | h | h | h <;> rw [h] <;> decide
    rw [hf, x_op o3 x29 (by omega) x93 i3 k4 k2 s3 s1]
    cases hr : r_op A.sc (x A.b) w.1 w.2 m.1 m.2 with
    | inl z =>
      have zf := op_f' hr
      exact KF z _ _ _ (as_5f ho hs hr) (op_f hr).2 (by omega) ⟨r1, r2, r3, r4, r5, r6⟩ (Fc_i (by decide) (Fc_i (by decide) (Fc_i (by decide) fr0))) rfl
    | inr z =>
      refine K0 _ _ _ _ (as_5 ho hs hr) ⟨r1, r2, r3, r4, r5, r6⟩ ⟨?_, ⟨k + 1, rfl, ?_⟩, ⟨c, m4, m5⟩⟩ (Fc_l (by decide) (Fc_i (by decide) (Fc_i (by decide) (Fc_i (by decide) fr0)))) rfl
      · show nI (psi o A.b + 1) = nI (psi o (A.b + 1))
        rw [ps]
      · rw [cst_n (show tau o (A.b + 1) ≠ 1000 by omega)]
        exact sC_pu k5
  · intro m l v _ ho hf hg hx hv hs h1 h2
    have t1 := tn_6 (o := o) ho
    have lt := len (by rw [ht_n h1 (by omega)]; omega)
    rw [cst_n (by omega), hs] at m3
    obtain ⟨k, k1, k2, k3⟩ := m3
    rw [k1] at x29
    have ev : (x A.b).toNatClampNeg = v := by rw [hx, nI_clamp (by omega)]
    have hv4 : ¬ xa 10 v = -1 → xa 11 v = nI (pa v).toNatClampNeg := by
      intro hne
      rw [q4] at hne
      rw [q5]
      rcases hC.2.2.2.2.2.2 v hv with ⟨e1, _⟩ | ⟨b, b1, b2, b3, b4, b5, b6, p, b7, b8, b9⟩
      · exact absurd e1 hne
      · rw [b8, b9, nI_clamp (by omega)]
    have pv : (pa v).toNatClampNeg < 26 ∨ e v = -1 := by
      rcases hC.2.2.2.2.2.2 v hv with ⟨e1, _⟩ | ⟨b, b1, b2, b3, b4, b5, b6, p, b7, b8, b9⟩
      · exact Or.inr e1
      · rw [b9, nI_clamp (by omega)]
        exact Or.inl b7
    rcases hC.2.2.2.2.2.2 v hv with ⟨e1, e2⟩ | ⟨b, b1, b2, b3, b4, b5, b6, p, b7, b8, b9⟩
    · rw [hf, hg, x_308 (v := 0) x29 (by omega) hv x34 (by omega) (fun z => absurd (by rw [q4]; exact e1) z) (by decide), if_pos (show xa 10 v = -1 by rw [q4]; exact e1)]
      exact KF 6 _ _ _ (as_6n ho hs (by rw [ev, e2]; decide)) (by decide) (by decide) ⟨r1, r2, r3, r4, r5, r6⟩ (Fc_i (by decide) (Fc_i (by decide) fr0)) rfl
    · have pg := psi_ge (o := o) n
      have pm := psi_mono (o := o) (m := b) (n := n) (by omega)
      have cc5 := hC.2.2.2.2.1
      have cc6 := hC.2.2.2.2.2.1
      have n0 : 0 ≤ sa (x A.b).toNatClampNeg := by rw [ev, b3]; exact nI_pos' (by omega)
      have ne : ¬ xa 10 v = -1 := by rw [q4, b2]; exact nI_m1 (by omega)
      rw [hf, hg, x_308 (v := p) x29 (by omega) hv x34 (by omega) (fun _ => by rw [q5]; exact b8) b7, if_neg ne]
      by_cases h4 : A.fr.length = 4
      · rw [if_neg (show ¬ c < 4 by omega)]
        exact KF 7 _ _ _ (as_6f ho hs n0 h4) (by decide) (by decide) ⟨r1, r2, r3, r4, r5, r6⟩ (Fc_i (by decide) (Fc_i (by decide) fr0)) rfl
      · rw [if_pos (show c < 4 by omega)]
        have e1 : (sa (x A.b).toNatClampNeg).toNatClampNeg = b := by rw [ev, b3, nI_clamp (by omega)]
        have e2 : (pa (x A.b).toNatClampNeg).toNatClampNeg = p := by rw [ev, b9, nI_clamp (by omega)]
        have as := as_6 (o := o) (x := x) (y := y) (sa := sa) (pa := pa) (fu := fu) ho hs n0 h4
        rw [e1, e2] at as
        refine K0 _ _ _ _ as ⟨uv_4 r1 k2, r2, r3, r4, r5, r6⟩ ⟨?_, ⟨k, rfl, ?_⟩, ⟨c + 1, rfl, ?_⟩⟩ (Fc_l (by decide) (Fc_l (by decide) (Fc_a (by decide) (Fc_a (by decide) (Fc_i (by decide) (Fc_i (by decide) (Fc_i (by decide) fr0))))))) rfl
        · show xa 10 v = nI (psi o b)
          rw [q4, b2]
        · rw [cst_n (show tau o b ≠ 1000 by omega)]
          exact k3
        · refine ⟨c, rfl, ?_, ?_, ?_, fC_up (Nat.le_refl _) m5⟩
          · show upd (xa 18) c (nI (psi o A.b + 1)) c = nI (psi o (A.b + 1))
            rw [upd_eq, ps]
          · show upd (xa 19) c (nI p) c = nI p
            exact upd_eq
          · show vp_updL (xl 20) c (xl 4 p) c = pn (A.vr p).1 (A.vr p).2
            rw [vu_eq, r1 p b7]
  · intro m w l k0 _ ho hf hrl hx hs h2
    have t1 := tn_7 (o := o) ho
    have lt := len (by rw [h2]; decide)
    rw [cst_n (by omega), hs] at m3
    obtain ⟨k', k1, k2, k, k3, k4, k5⟩ := m3
    subst k3
    rw [k1] at x29
    obtain ⟨s1, s2⟩ := nmst hs
    have s3 := s2 w (List.mem_cons_self ..)
    have o3 : k0 < 300 := by
      rcases hrl with h | h | h
      · rw [h]; decide
      · rw [h]; decide
      · exact Int32.lt_of_le_of_lt h.2 (by decide)
    have rr := rl_op (c := A.sc) (a := w.1) (s := w.2) (b := m.1) (t := m.2) hrl
    rw [hf, x_op o3 x29 (by omega) x93 i3 k4 k2 s3 s1, rr]
    refine K0 _ _ _ _ (as_7 ho hs) ⟨r1, r2, r3, r4, r5, r6⟩ ⟨?_, ⟨k + 1, rfl, ?_⟩, ⟨c, m4, m5⟩⟩ (Fc_l (by decide) (Fc_i (by decide) (Fc_i (by decide) (Fc_i (by decide) fr0)))) rfl
    · show nI (psi o A.b + 1) = nI (psi o (A.b + 1))
      rw [ps]
    · have e7 : cst o (amk (A.b + 1) l (rmo (x A.b) (w.1 * 10 ^ (4 - w.2)) (m.1 * 10 ^ (4 - m.2))) A.fr A.vr A.sc A.k A.z A.ot) = ((if rmo (x A.b) (w.1 * 10 ^ (4 - w.2)) (m.1 * 10 ^ (4 - m.2)) = true then 1 else 0), 0) :: l := if_pos t1
      rw [e7, hx, rmo_kp hrl]
      exact sC_pu k5
  · intro m l v _ ho hf hg hx hv hs h2
    have t1 := tn_8 (o := o) ho
    rw [h2] at t1
    have lt := len (by rw [h2]; decide)
    rw [cst_n (by omega), hs] at m3
    obtain ⟨k, k1, k2, k3⟩ := m3
    rw [k1] at x29
    rw [hf, hg, x_303 x29 (by omega) hv]
    have ev : (x A.b).toNatClampNeg = v := by rw [hx, nI_clamp (by omega)]
    have as := as_8 (o := o) (x := x) (y := y) (sa := sa) (pa := pa) (fu := fu) ho hs
    rw [ev] at as
    refine K0 _ _ _ _ as ⟨uv_4 r1 k2, r2, r3, r4, r5, r6⟩ ⟨?_, ⟨k, rfl, ?_⟩, ⟨c, m4, m5⟩⟩ (Fc_l (by decide) (Fc_i (by decide) fr0)) rfl
    · show nI (psi o A.b + 1) = nI (psi o (A.b + 1))
      rw [ps]
    · rw [cst_n (show tau o (A.b + 1) ≠ 1000 by rw [t1]; decide)]
      exact k3
  · intro m l _ ho hf hs h2
    have t1 := tn_9 (o := o) ho
    rw [h2] at t1
    have lt := len (by rw [h2]; decide)
    rw [cst_n (by omega), hs] at m3
    obtain ⟨k, k1, k2, k3⟩ := m3
    rw [k1] at x29
    rw [hf, x_305 x29 (by omega) k2 (nmst hs).1]
    cases hr : r_who m.1 m.2 0 4 with
    | inl z =>
      have zf := who_f hr
      exact KF z _ _ _ (as_9f ho hs hr) (by omega) (by omega) ⟨r1, r2, r3, r4, r5, r6⟩ (Fc_i (by decide) (Fc_i (by decide) fr0)) rfl
    | inr z =>
      have zb := whob4 hr
      refine K0 _ _ _ _ (as_9 ho hs hr) ⟨r1, ?_, r3, r4, r5, r6⟩ ⟨?_, ⟨k, rfl, ?_⟩, ⟨c, m4, m5⟩⟩ (Fc_i (by decide) (Fc_i (by decide) fr0)) rfl
      · show zI z = nI z.toNat
        rw [nI_z', show ((z.toNat : Nat) : Int) = z by omega]
      · show nI (psi o A.b + 1) = nI (psi o (A.b + 1))
        rw [ps]
      · rw [cst_n (show tau o (A.b + 1) ≠ 1000 by rw [t1]; decide)]
        exact k3
  · intro m l _ ho hf hs h2
    have t1 := tn_10 (o := o) ho
    rw [h2] at t1
    have lt := len (by rw [h2]; decide)
    rw [cst_n (by omega), hs] at m3
    obtain ⟨k, k1, k2, k3⟩ := m3
    rw [k1] at x29
    rw [hf, x_307 x29 (by omega) k2 (nmst hs).1 x21 i5]
    by_cases hr : A.z + wl m.1 m.2 (max (m.2 + 1) (dgn m.1.natAbs)) ≤ 300
    · rw [if_pos hr]
      refine K0 _ _ _ _ (as_10 ho hs hr) ⟨r1, r2, r3, r4, rfl, ?_⟩ ⟨?_, ⟨k, rfl, ?_⟩, ⟨c, m4, m5⟩⟩ (Fc_a (by decide) (Fc_i (by decide) (Fc_i (by decide) fr0))) rfl
      · intro q hq
        show (if A.z + wl m.1 m.2 (max (m.2 + 1) (dgn m.1.natAbs)) ≤ q + wl m.1 m.2 (max (m.2 + 1) (dgn m.1.natAbs)) ∧ q < A.z + wl m.1 m.2 (max (m.2 + 1) (dgn m.1.natAbs)) then _ else xa 6 q) = (if A.z + wl m.1 m.2 (max (m.2 + 1) (dgn m.1.natAbs)) ≤ q + wl m.1 m.2 (max (m.2 + 1) (dgn m.1.natAbs)) ∧ q < A.z + wl m.1 m.2 (max (m.2 + 1) (dgn m.1.natAbs)) then _ else A.ot q)
        have hq' : q < A.z + wl m.1 m.2 (max (m.2 + 1) (dgn m.1.natAbs)) := hq
        by_cases hz : A.z ≤ q
        · rw [if_pos (by omega), if_pos (by omega)]
        · rw [if_neg (by omega), if_neg (by omega)]
          exact r6 q (by omega)
      · show nI (psi o A.b + 1) = nI (psi o (A.b + 1))
        rw [ps]
      · rw [cst_n (show tau o (A.b + 1) ≠ 1000 by rw [t1]; decide)]
        exact k3
    · rw [if_neg hr]
      exact KF 8 _ _ _ (as_10f ho hs hr) (by decide) (by decide) ⟨r1, r2, r3, r4, r5, r6⟩ (Fc_i (by decide) (Fc_i (by decide) fr0)) rfl
  · intro m l F L' _ ho hf hs hF hl h2
    rw [cst_n (by omega)] at m3
    rw [hF] at m5 i7 i8
    obtain ⟨k, k1, k2, k3, k4, k5⟩ := m5
    obtain ⟨f1, f2, f3, f4, f5, f6, f7, f8⟩ := i7
    rw [k1] at x34
    rw [List.length_cons] at i8
    have := fC_len k5
    rw [hf, x_309 x34 (by omega) k3 f2]
    refine K0 _ _ _ _ (as_11 ho hF) ⟨uv_4 r1 k4, r2, r3, r4, r5, r6⟩ ⟨k2, ⟨t, m2, ?_⟩, ⟨k, rfl, k5⟩⟩ (Fc_l (by decide) (Fc_i (by decide) (Fc_i (by decide) fr0))) rfl
    rw [cst_n (show tau o F.1 ≠ 1000 by omega)]
    exact m3
  · intro u _ ho hf hx hg hu h1000 hbt ht0 hrt
    have t1 := tn_12 (o := o) ho
    have lt := len (by rw [h1000]; decide)
    have e7 : cst o A = ((if A.fl = true then 1 else 0), 0) :: A.st := if_pos h1000
    rw [e7] at m3
    obtain ⟨k, k1, k2, k3⟩ := m3
    rw [k1] at x29
    have et : (x A.b).toNatClampNeg = u := by
      have pg := psi_ge (o := o) n
      have cc5 := hC.2.2.2.2.1
      have cc6 := hC.2.2.2.2.2.1
      rw [hx, nI_clamp (by omega)]
    have as := as_12 (o := o) (x := x) (y := y) (sa := sa) (pa := pa) (fu := fu) ho
    rw [et] at as
    rw [hf, hg, x_311 x29 (by omega)]
    refine K0 _ _ _ _ as ⟨r1, r2, r3, r4, r5, r6⟩ ⟨?_, ⟨k, rfl, ?_⟩, ⟨c, m4, m5⟩⟩ (Fc_i (by decide) (Fc_i (by decide) fr0)) rfl
    · show (if xl 17 k = 0 then nI (psi o u) else nI (psi o A.b + 1)) = nI (psi o (if A.fl = true then A.b + 1 else u))
      rw [k2]
      by_cases hfl : A.fl = true
      · rw [if_pos hfl, if_pos hfl, if_neg (by decide), ps]
      · rw [if_neg hfl, if_neg hfl, if_pos (by decide)]
    · have n9 : tau o (if A.fl = true then A.b + 1 else u) ≠ 1000 := by
        split
        · rw [t1]; decide
        · rw [ht0]; decide
      rw [cst_n n9]
      exact k3
  · intro u _ ho hf hx hg hu hb0 ht0 hrt hd
    have et : (x A.b).toNatClampNeg = u := by
      have pg := psi_ge (o := o) n
      have cc5 := hC.2.2.2.2.1
      have cc6 := hC.2.2.2.2.2.1
      rw [hx, nI_clamp (by omega)]
    have as := as_13 (o := o) (x := x) (y := y) (sa := sa) (pa := pa) (fu := fu) ho
    rw [et] at as
    rw [cst_n (fun z => by rw [z] at hb0; exact absurd hb0 (by decide))] at m3
    rw [hf, hg, x_310]
    refine K0 _ _ _ _ as ⟨r1, r2, r3, r4, r5, r6⟩ ⟨rfl, ⟨t, m2, ?_⟩, ⟨c, m4, m5⟩⟩ (Fc_i (by decide) fr0) rfl
    rw [cst_n (show tau o u ≠ 1000 from fun z => by rw [z] at ht0; exact absurd ht0 (by decide))]
    exact m3
  · intro _ ho hf hb0
    have t1 := tn_14 (o := o) ho
    rw [cst_n (fun z => by rw [z] at hb0; exact absurd hb0 (by decide))] at m3
    rw [hf, x_300 x23 x24 i4 hfu]
    by_cases hk : A.k < fu
    · rw [if_pos hk]
      refine K0 _ _ _ _ (as_14 ho hk) ⟨r1, r2, rfl, r4, r5, r6⟩ ⟨?_, ⟨t, m2, ?_⟩, ⟨c, m4, m5⟩⟩ (Fc_i (by decide) fr0) rfl
      · show nI (psi o A.b + 1) = nI (psi o (A.b + 1))
        rw [ps]
      · rw [cst_n (show tau o (A.b + 1) ≠ 1000 by rw [t1]; decide)]
        exact m3
    · rw [if_neg hk]
      exact KF 4 _ _ _ (as_14f ho hk) (by decide) (by decide) ⟨r1, r2, r3, r4, r5, r6⟩ (Fc_i (by decide) fr0) rfl
  · intro F L' _ ho
    exact absurd ho h15
  · intro hb0
    omega
end CN
