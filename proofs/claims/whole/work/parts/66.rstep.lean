/-! The reference keeps step with the common machine. -/
def sR (f g : Nat → Int32) : Nat → List (Int × Nat) → Prop
  | n, [] => n = 0
  | n, m :: l => ∃ k, n = k + 1 ∧ f k = zI m.1 ∧ g k = nI m.2 ∧ sR f g k l
def fR (f1 f2 f3 f4 f5 : Nat → Int32) : Nat → List AF → Prop
  | n, [] => n = 0
  | n, F :: l => ∃ k, n = k + 1 ∧ f1 k = nI F.1 ∧ f2 k = nI F.2.2.2.2 ∧ f3 k = nI F.2.1 ∧ f4 k = zI F.2.2.1 ∧ f5 k = nI F.2.2.2.1 ∧ fR f1 f2 f3 f4 f5 k l
def RR0 (fu : Nat) (A : AM) (xi : Nat → Int32) (xa : Nat → Nat → Int32) : Prop := (∀ v, v < 26 → xa 24 v = zI (A.vr v).1 ∧ xa 25 v = nI (A.vr v).2) ∧ xi 1412 = nI A.sc ∧ xi 1441 = nI A.k ∧ xi 1440 = nI fu ∧ xi 1445 = nI A.z ∧ (∀ q, q < A.z → xa 44 q = A.ot q)
def RRM (o : Nat → Int32) (A : AM) (xi : Nat → Int32) (xa : Nat → Nat → Int32) : Prop := (∃ t, xi 1438 = nI t ∧ sR (xa 37) (xa 38) t A.st ∧ (tau o A.b = 1000 → xa 37 t = if A.fl = true then 1 else 0)) ∧ (∃ c, xi 1439 = nI c ∧ fR (xa 39) (xa 40) (xa 41) (xa 42) (xa 43) c A.fr)
def CR (o x y sa pa : Nat → Int32) (xa : Nat → Nat → Int32) : Prop := xa 29 = o ∧ xa 30 = x ∧ xa 31 = y ∧ xa 32 = sa ∧ xa 33 = pa
def RI : List Nat := [1438, 1439, 1412, 1441, 1442, 1445, 1446, 1447]
def RA : List Nat := [24, 25, 37, 38, 39, 40, 41, 42, 43, 44]
def FrR (xi : Nat → Int32) (xa : Nat → Nat → Int32) (xi' : Nat → Int32) (xa' : Nat → Nat → Int32) : Prop := (∀ i, i ∉ RI → xi' i = xi i) ∧ (∀ i, i ∉ RA → xa' i = xa i)
section RN
variable {xi xi' xi2 : Nat → Int32} {xa xa' xa2 : Nat → Nat → Int32} {k : Nat}
theorem Fr_r : FrR xi xa xi xa := ⟨fun _ _ => rfl, fun _ _ => rfl⟩
theorem Fr_t (h : FrR xi xa xi' xa') (g : FrR xi' xa' xi2 xa2) : FrR xi xa xi2 xa2 := ⟨fun i hi => (g.1 i hi).trans (h.1 i hi), fun i hi => (g.2 i hi).trans (h.2 i hi)⟩
theorem Fr_i {v : Int32} (hk : k ∈ RI) (h : FrR xi xa xi' xa') : FrR xi xa (ui xi' k v) xa' := ⟨fun i hi => (if_neg (show ¬ i = k from fun z => hi (by rw [z]; exact hk))).trans (h.1 i hi), h.2⟩
theorem Fr_a {v : Nat → Int32} (hk : k ∈ RA) (h : FrR xi xa xi' xa') : FrR xi xa xi' (ua xa' k v) := ⟨h.1, fun i hi => (if_neg (show ¬ i = k from fun z => hi (by rw [z]; exact hk))).trans (h.2 i hi)⟩
theorem CR_F {o x y sa pa : Nat → Int32} (h : CR o x y sa pa xa) (k : FrR xi xa xi' xa') : CR o x y sa pa xa' := by
  obtain ⟨h1, h2, h3, h4, h5⟩ := h
  exact ⟨(k.2 29 (by decide)).trans h1, (k.2 30 (by decide)).trans h2, (k.2 31 (by decide)).trans h3, (k.2 32 (by decide)).trans h4, (k.2 33 (by decide)).trans h5⟩
theorem sR_up {f g : Nat → Int32} {x y : Int32} : ∀ {l n}, n ≤ k → sR f g n l → sR (upd f k x) (upd g k y) n l
  | [], _, _, h => h
  | m :: l, n, hn, ⟨j, h1, h2, h3, h4⟩ => ⟨j, h1, (if_neg (by omega)).trans h2, (if_neg (by omega)).trans h3, sR_up (by omega) h4⟩
theorem sR_u1 {f g : Nat → Int32} {x : Int32} : ∀ {l n}, n ≤ k → sR f g n l → sR (upd f k x) g n l
  | [], _, _, h => h
  | m :: l, n, hn, ⟨j, h1, h2, h3, h4⟩ => ⟨j, h1, (if_neg (by omega)).trans h2, h3, sR_u1 (by omega) h4⟩
theorem sR_pu {f g : Nat → Int32} {m : Int × Nat} {l : List (Int × Nat)} (h : sR f g k l) : sR (upd f k (zI m.1)) (upd g k (nI m.2)) (k + 1) (m :: l) := ⟨k, rfl, if_pos rfl, if_pos rfl, sR_up (Nat.le_refl _) h⟩
theorem sR_len {f g : Nat → Int32} : ∀ {l n}, sR f g n l → n = l.length
  | [], _, h => h
  | _ :: l, _, ⟨j, h1, _, _, h3⟩ => by rw [h1, sR_len h3]; rfl
theorem fR_up {f1 f2 f3 f4 f5 : Nat → Int32} {a b c d e : Int32} : ∀ {l n}, n ≤ k → fR f1 f2 f3 f4 f5 n l → fR (upd f1 k a) (upd f2 k b) (upd f3 k c) (upd f4 k d) (upd f5 k e) n l
  | [], _, _, h => h
  | F :: l, n, hn, ⟨j, h1, h2, h3, h4, h5, h6, h7⟩ => ⟨j, h1, (if_neg (by omega)).trans h2, (if_neg (by omega)).trans h3, (if_neg (by omega)).trans h4, (if_neg (by omega)).trans h5, (if_neg (by omega)).trans h6, fR_up (by omega) h7⟩
theorem fR_len {f1 f2 f3 f4 f5 : Nat → Int32} : ∀ {l n}, fR f1 f2 f3 f4 f5 n l → n = l.length
  | [], _, h => h
  | _ :: l, _, ⟨j, h1, _, _, _, _, _, h7⟩ => by rw [h1, fR_len h7]; rfl
theorem uv_24 {vr : Nat → Int × Nat} {v : Nat} {m : Int × Nat} {f g : Nat → Int32} (h : ∀ v, v < 26 → f v = zI (vr v).1 ∧ g v = nI (vr v).2) : ∀ u, u < 26 → upd f v (zI m.1) u = zI (uv vr v m u).1 ∧ upd g v (nI m.2) u = nI (uv vr v m u).2 := by
  intro u hu
  show (if u = v then zI m.1 else f u) = _ ∧ (if u = v then nI m.2 else g u) = _
  by_cases e : u = v
  · rw [if_pos e, if_pos e, e, uv_e]
    exact ⟨rfl, rfl⟩
  · rw [if_neg e, if_neg e, uv_n e]
    exact h u hu
end RN
section RO
variable {L : Nat} {xs : Nat → Int32} {d : Nat} {σ : dx_S} {Q : dx_O → dx_S → Prop} {xi : Nat → Int32} {xa : Nat → Nat → Int32} {xl : Nat → Nat → Int64} {j : dx_S} {f : Nat → Int32} {g : Nat → Int64} {e a o x y sa pa : Nat → Int32} {n N fu : Nat} {A : AM}
theorem r_step (hC : CDX f g e a o x y sa pa n N) (hI : AIv o n fu A) (h0 : RR0 fu A xi xa) (hM : RRM o A xi xa) (hK : CR o x y sa pa xa) (hfu : fu ≤ 2000)
  (K0 : ∀ A' xi' xa', aS o x y sa pa fu A = (0, A') → RR0 fu A' xi' xa' → RRM o A' xi' xa' → FrR xi xa xi' xa' → xi' 1442 = xi 1442 → Q (.inl (some (.int (nI A'.b)))) (mk xi' xa' xl j))
  (KF : ∀ k xi' xa', aS o x y sa pa fu A = (k, A) → k ≠ 0 → RR0 fu A xi' xa' → FrR xi xa xi' xa' → xi' 1442 = (if k = 100 then xi 1442 else nI k) → Q (.inl (some (.int (-1)))) (mk xi' xa' xl j)) :
  dx_M (tb_Z L xs) (d + 5) 121 [.ref 22, .int (nI A.b)] (mk xi xa xl j) Q := by
  have hI0 := hI
  obtain ⟨i1, i2, i3, i4, i5, i6, i7, i8, i9, i10⟩ := hI
  obtain ⟨r1, r2, r3, r4, r5, r6⟩ := h0
  obtain ⟨⟨t, m2, m3, mf⟩, ⟨c, m4, m5⟩⟩ := hM
  obtain ⟨q1, q2, q3, q4, q5⟩ := hK
  have c4 := fR_len m5
  have tl := sR_len m3
  have hbl := hb_le i7
  have cc5 := hC.2.2.2.2.1
  have cc6 := hC.2.2.2.2.2.1
  have pg := psi_ge (o := o) n
  have hp : A.b < 1200 := by omega
  have nmst : ∀ {m : Int × Nat} {l : List (Int × Nat)}, A.st = m :: l → nm m.1 m.2 ∧ ∀ w ∈ l, nm w.1 w.2 := by
    intro m l hs
    rw [hs] at i1
    exact ⟨i1 m (List.mem_cons_self ..), fun w hw => i1 w (List.mem_cons_of_mem _ hw)⟩
  have len : ht (tau o A.b) ≤ 23 → t ≤ 110 := fun h => by omega
  refine a_cases hC hI0 ?_ ?_ ?_ ?_ ?_ ?_ ?_ ?_ ?_ ?_ ?_ ?_ ?_ ?_ ?_ ?_
  · intro m s _ ho hf hg hx hy hm hth
    have t1 := tn_1 (o := o) ho
    have n1000 : tau o A.b ≠ 1000 := fun z => by rw [z] at hth; exact absurd hth (by decide)
    have lt := len (by rw [show ht (tau o A.b) = hh (tau o A.b) from if_neg n1000]; omega)
    rw [y_1 hp m2 (by omega) (by omega) (by rw [q1]; exact ho)]
    refine K0 _ _ _ (as_1 ho) ⟨r1, r2, r3, r4, r5, r6⟩ ⟨⟨t + 1, rfl, ?_, fun z => absurd z (show tau o (A.b + 1) ≠ 1000 by omega)⟩, ⟨c, m4, m5⟩⟩ (Fr_a (by decide) (Fr_a (by decide) (Fr_i (by decide) Fr_r))) rfl
    show sR (upd (xa 37) t (xa 30 A.b)) (upd (xa 38) t (xa 31 A.b)) (t + 1) (((x A.b).toInt, (y A.b).toNatClampNeg) :: A.st)
    rw [q2, q3, hx, hy, zI_T (by have := hm.1; omega) (by have := hm.2.1; omega), nI_clamp (by have := hm.2.2; omega)]
    exact sR_pu (m := (m, s)) m3
  · intro v _ ho hf hg hx hv hth
    have t1 := tn_2 (o := o) ho
    have n1000 : tau o A.b ≠ 1000 := fun z => by rw [z] at hth; exact absurd hth (by decide)
    have lt := len (by rw [show ht (tau o A.b) = hh (tau o A.b) from if_neg n1000]; omega)
    rw [y_2 (v := v) hp m2 (by omega) (by omega) (by rw [q2]; exact hx) hv (by rw [q1]; exact ho)]
    refine K0 _ _ _ (as_2 ho) ⟨r1, r2, r3, r4, r5, r6⟩ ⟨⟨t + 1, rfl, ?_, fun z => absurd z (show tau o (A.b + 1) ≠ 1000 by omega)⟩, ⟨c, m4, m5⟩⟩ (Fr_a (by decide) (Fr_a (by decide) (Fr_i (by decide) Fr_r))) rfl
    show sR (upd (xa 37) t (xa 24 v)) (upd (xa 38) t (xa 25 v)) (t + 1) (A.vr (x A.b).toNatClampNeg :: A.st)
    rw [hx, nI_clamp (by omega), (r1 v hv).1, (r1 v hv).2]
    exact sR_pu m3
  · intro _ ho hf hth
    have t1 := tn_3 (o := o) ho
    have n1000 : tau o A.b ≠ 1000 := fun z => by rw [z] at hth; exact absurd hth (by decide)
    have lt := len (by rw [show ht (tau o A.b) = hh (tau o A.b) from if_neg n1000]; omega)
    rw [y_3 hp m2 (by omega) (by omega) (by rw [q1]; exact ho)]
    refine K0 _ _ _ (as_3 ho) ⟨r1, r2, r3, r4, r5, r6⟩ ⟨⟨t + 1, rfl, ?_, fun z => absurd z (show tau o (A.b + 1) ≠ 1000 by omega)⟩, ⟨c, m4, m5⟩⟩ (Fr_a (by decide) (Fr_a (by decide) (Fr_i (by decide) Fr_r))) rfl
    show sR (upd (xa 37) t (xi 1412)) (upd (xa 38) t 0) (t + 1) (((A.sc : Int), 0) :: A.st)
    rw [r2]
    exact sR_pu (m := ((A.sc : Int), 0)) m3
  · intro m l _ ho hf hs h1 h2
    have t1 := tn_4 (o := o) ho
    rw [hh_h (by omega)] at t1
    have lt := len (by rw [ht_n h1 (by omega)]; omega)
    rw [hs] at m3
    obtain ⟨k, k1, k2, k2', k3⟩ := m3
    rw [k1] at m2
    rw [y_4 hp m2 (by omega) (by rw [q1]; exact ho)]
    refine K0 _ _ _ (as_4 ho hs) ⟨r1, r2, r3, r4, r5, r6⟩ ⟨⟨k + 1, m2, ?_, fun z => absurd z (show tau o (A.b + 1) ≠ 1000 by omega)⟩, ⟨c, m4, m5⟩⟩ (Fr_a (by decide) Fr_r) rfl
    refine ⟨k, rfl, ?_, k2', sR_u1 (Nat.le_refl _) k3⟩
    show upd (xa 37) k (-(xa 37 k)) k = zI (-m.1)
    rw [upd_eq, k2, zI_neg]
  · intro m w l _ ho hf hbn hs h1 h2
    have t1 := tn_5 (o := o) ho
    rw [hh_h (by omega)] at t1
    have lt := len (by rw [ht_n (by omega) h2]; omega)
    rw [hs] at m3
    obtain ⟨k', k1, k2, k2', k, k3, k4, k4', k5⟩ := m3
    subst k3
    rw [k1] at m2
    obtain ⟨s1, s2⟩ := nmst hs
    have s3 := s2 w (List.mem_cons_self ..)
    refine y_5 hp m2 (by omega) k2 k2' k4 k4' s3 s1 r2 i3 (by rw [q2]; exact hbn) (by rw [q1]; exact ho) ?_
    rw [q2]
    cases hr : r_op A.sc (x A.b) w.1 w.2 m.1 m.2 with
    | inl z =>
      have zf := op_f' hr
      intro xi' xa' hbs hf2 hxa
      refine KF z xi' xa' (as_5f ho hs hr) (op_f hr).2 ⟨?_, ?_, ?_, ?_, ?_, ?_⟩ ⟨?_, ?_⟩ ?_
      · rw [hxa 24 (by decide) (by decide), hxa 25 (by decide) (by decide)]
        exact r1
      · rw [hbs 1412 (by decide) (by decide) (by decide)]
        exact r2
      · rw [hbs 1441 (by decide) (by decide) (by decide)]
        exact r3
      · rw [hbs 1440 (by decide) (by decide) (by decide)]
        exact r4
      · rw [hbs 1445 (by decide) (by decide) (by decide)]
        exact r5
      · rw [hxa 44 (by decide) (by decide)]
        exact r6
      · intro i hi
        rw [hbs i (fun q => hi (by rw [q]; decide)) (fun q => hi (by rw [q]; decide)) (fun q => hi (by rw [q]; decide))]
        exact if_neg (fun q => hi (by rw [q]; decide))
      · intro i hi
        exact hxa i (fun q => hi (by rw [q]; decide)) (fun q => hi (by rw [q]; decide))
      · rw [if_neg (show ¬ z = 100 by omega)]
        exact hf2
    | inr z =>
      refine K0 _ _ _ (as_5 ho hs hr) ⟨r1, r2, r3, r4, r5, r6⟩ ⟨⟨k + 1, rfl, sR_pu k5, fun z => absurd z (show tau o (A.b + 1) ≠ 1000 by omega)⟩, ⟨c, m4, m5⟩⟩ (Fr_a (by decide) (Fr_a (by decide) (Fr_i (by decide) (Fr_i (by decide) (Fr_i (by decide) Fr_r))))) rfl
  · intro m l v _ ho hf hg hx hv hs h1 h2
    have lt := len (by rw [ht_n h1 (by omega)]; omega)
    rw [hs] at m3
    obtain ⟨k, k1, k2, k2', k3⟩ := m3
    rw [k1] at m2
    have kl := sR_len k3
    have ev : (x A.b).toNatClampNeg = v := by rw [hx, nI_clamp (by omega)]
    rcases hC.2.2.2.2.2.2 v hv with ⟨e1, e2⟩ | ⟨b, b1, b2, b3, b4, b5, b6, p, b7, b8, b9⟩
    · rw [y_6 (n := v) (v := 0) hp m2 (by omega) (by rw [q2]; exact hx) hv m4 (by omega) (fun z => absurd z (by rw [q4, e2]; decide)) (by decide) (by rw [q1]; exact ho), if_neg (show ¬ 0 ≤ xa 32 v by rw [q4, e2]; decide)]
      exact KF 6 _ _ (as_6n ho hs (by rw [ev, e2]; decide)) (by decide) ⟨r1, r2, r3, r4, r5, r6⟩ (Fr_i (by decide) Fr_r) rfl
    · have n0 : 0 ≤ sa (x A.b).toNatClampNeg := by rw [ev, b3]; exact nI_pos' (by omega)
      have n0' : 0 ≤ xa 32 v := by rw [q4, b3]; exact nI_pos' (by omega)
      rw [y_6 (n := v) (v := p) hp m2 (by omega) (by rw [q2]; exact hx) hv m4 (by omega) (fun _ => by rw [q5]; exact b9) b7 (by rw [q1]; exact ho), if_pos n0']
      by_cases h4 : A.fr.length = 4
      · rw [if_pos (show c = 4 by omega)]
        exact KF 7 _ _ (as_6f ho hs n0 h4) (by decide) ⟨r1, r2, r3, r4, r5, r6⟩ (Fr_i (by decide) Fr_r) rfl
      · rw [if_neg (show ¬ c = 4 by omega)]
        have e1 : (sa (x A.b).toNatClampNeg).toNatClampNeg = b := by rw [ev, b3, nI_clamp (by omega)]
        have e2 : (pa (x A.b).toNatClampNeg).toNatClampNeg = p := by rw [ev, b9, nI_clamp (by omega)]
        have as := as_6 (o := o) (x := x) (y := y) (sa := sa) (pa := pa) (fu := fu) ho hs n0 h4
        rw [e1, e2] at as
        have e3 : xa 32 v = nI b := by rw [q4, b3]
        rw [e3]
        refine K0 _ _ _ as ⟨?_, r2, r3, r4, r5, r6⟩ ⟨⟨k, rfl, k3, fun z => absurd z (show tau o b ≠ 1000 by omega)⟩, ⟨c + 1, rfl, ?_⟩⟩ (Fr_a (by decide) (Fr_a (by decide) (Fr_a (by decide) (Fr_a (by decide) (Fr_a (by decide) (Fr_a (by decide) (Fr_a (by decide) (Fr_i (by decide) (Fr_i (by decide) Fr_r))))))))) rfl
        · show ∀ u, u < 26 → upd (xa 24) p (xa 37 k) u = _ ∧ upd (xa 25) p (xa 38 k) u = _
          rw [k2, k2']
          exact uv_24 r1
        · refine ⟨c, rfl, ?_, ?_, ?_, ?_, ?_, fR_up (Nat.le_refl _) m5⟩
          · show upd (xa 39) c (nI (A.b + 1)) c = nI (A.b + 1)
            exact upd_eq
          · show upd (xa 40) c (nI k) c = nI l.length
            rw [upd_eq, kl]
          · show upd (xa 41) c (nI p) c = nI p
            exact upd_eq
          · show upd (xa 42) c (xa 24 p) c = zI (A.vr p).1
            rw [upd_eq, (r1 p b7).1]
          · show upd (xa 43) c (xa 25 p) c = nI (A.vr p).2
            rw [upd_eq, (r1 p b7).2]
  · intro m w l k0 _ ho hf hrl hx hs h2
    have t1 := tn_7 (o := o) ho
    have lt := len (by rw [h2]; decide)
    rw [hs] at m3
    obtain ⟨k', k1, k2, k2', k, k3, k4, k4', k5⟩ := m3
    subst k3
    rw [k1] at m2
    obtain ⟨s1, s2⟩ := nmst hs
    have s3 := s2 w (List.mem_cons_self ..)
    rw [y_7 hp m2 (by omega) k2 k2' k4 k4' s3 s1 (by rw [q1]; exact ho)]
    refine K0 _ _ _ (as_7 ho hs) ⟨r1, r2, r3, r4, r5, r6⟩ ⟨⟨k, rfl, sR_u1 (Nat.le_refl _) k5, fun _ => ?_⟩, ⟨c, m4, m5⟩⟩ (Fr_a (by decide) (Fr_i (by decide) Fr_r)) rfl
    show upd (xa 37) k _ k = _
    rw [upd_eq, q2]
    rfl
  · intro m l v _ ho hf hg hx hv hs h2
    have t1 := tn_8 (o := o) ho
    rw [h2] at t1
    have lt := len (by rw [h2]; decide)
    rw [hs] at m3
    obtain ⟨k, k1, k2, k2', k3⟩ := m3
    rw [k1] at m2
    rw [y_8 (v := v) hp m2 (by omega) (by rw [q2]; exact hx) hv (by rw [q1]; exact ho)]
    have ev : (x A.b).toNatClampNeg = v := by rw [hx, nI_clamp (by omega)]
    have as := as_8 (o := o) (x := x) (y := y) (sa := sa) (pa := pa) (fu := fu) ho hs
    rw [ev] at as
    refine K0 _ _ _ as ⟨?_, r2, r3, r4, r5, r6⟩ ⟨⟨k, rfl, k3, fun z => absurd z (show tau o (A.b + 1) ≠ 1000 by rw [t1]; decide)⟩, ⟨c, m4, m5⟩⟩ (Fr_a (by decide) (Fr_a (by decide) (Fr_i (by decide) Fr_r))) rfl
    show ∀ u, u < 26 → upd (xa 24) v (xa 37 k) u = _ ∧ upd (xa 25) v (xa 38 k) u = _
    rw [k2, k2']
    exact uv_24 r1
  · intro m l _ ho hf hs h2
    have t1 := tn_9 (o := o) ho
    rw [h2] at t1
    have lt := len (by rw [h2]; decide)
    rw [hs] at m3
    obtain ⟨k, k1, k2, k2', k3⟩ := m3
    rw [k1] at m2
    rw [y_9 hp m2 (by omega) k2 k2' (nmst hs).1 (by rw [q1]; exact ho)]
    cases hr : r_who m.1 m.2 0 4 with
    | inl z =>
      have zf := who_f hr
      refine KF z _ _ (as_9f ho hs hr) (by omega) ⟨r1, r2, r3, r4, r5, r6⟩ (Fr_i (by decide) (Fr_i (by decide) Fr_r)) ?_
      rw [if_neg (show ¬ z = 100 by omega)]
      rfl
    | inr z =>
      have zb := whob4 hr
      refine K0 _ _ _ (as_9 ho hs hr) ⟨r1, ?_, r3, r4, r5, r6⟩ ⟨⟨k, rfl, k3, fun z => absurd z (show tau o (A.b + 1) ≠ 1000 by rw [t1]; decide)⟩, ⟨c, m4, m5⟩⟩ (Fr_i (by decide) (Fr_i (by decide) Fr_r)) rfl
      show zI z = nI z.toNat
      rw [nI_z', show ((z.toNat : Nat) : Int) = z by omega]
  · intro m l _ ho hf hs h2
    have t1 := tn_10 (o := o) ho
    rw [h2] at t1
    have lt := len (by rw [h2]; decide)
    rw [hs] at m3
    obtain ⟨k, k1, k2, k2', k3⟩ := m3
    rw [k1] at m2
    rw [y_10 hp m2 (by omega) k2 k2' (nmst hs).1 r5 i5 (by rw [q1]; exact ho)]
    by_cases hr : A.z + wl m.1 m.2 (max (m.2 + 1) (dgn m.1.natAbs)) ≤ 300
    · rw [if_pos hr]
      refine K0 _ _ _ (as_10 ho hs hr) ⟨r1, r2, r3, r4, rfl, ?_⟩ ⟨⟨k, rfl, k3, fun z => absurd z (show tau o (A.b + 1) ≠ 1000 by rw [t1]; decide)⟩, ⟨c, m4, m5⟩⟩ (Fr_a (by decide) (Fr_i (by decide) (Fr_i (by decide) Fr_r))) rfl
      intro q hq
      show (if A.z ≤ q ∧ q + 0 < A.z + wl m.1 m.2 (max (m.2 + 1) (dgn m.1.natAbs)) then _ else xa 44 q) = (if A.z + wl m.1 m.2 (max (m.2 + 1) (dgn m.1.natAbs)) ≤ q + wl m.1 m.2 (max (m.2 + 1) (dgn m.1.natAbs)) ∧ q < A.z + wl m.1 m.2 (max (m.2 + 1) (dgn m.1.natAbs)) then _ else A.ot q)
      have hq' : q < A.z + wl m.1 m.2 (max (m.2 + 1) (dgn m.1.natAbs)) := hq
      by_cases hz : A.z ≤ q
      · rw [if_pos (by omega), if_pos (by omega)]
      · rw [if_neg (by omega), if_neg (by omega)]
        exact r6 q (by omega)
    · rw [if_neg hr]
      exact KF 8 _ _ (as_10f ho hs hr) (by decide) ⟨r1, r2, r3, r4, r5, r6⟩ (Fr_i (by decide) (Fr_i (by decide) Fr_r)) rfl
  · intro m l F L' _ ho hf hs hF hl h2
    have lt := len (by rw [h2]; decide)
    rw [hs] at m3
    obtain ⟨k, k1, k2, k2', k3⟩ := m3
    rw [k1] at m2
    have kl := sR_len k3
    rw [hF] at m5 i7 i8 hl
    obtain ⟨u, u1, u2, u3, u4, u5, u6, u7⟩ := m5
    obtain ⟨f1, f2, f3, f4, f5, f6, f7, f8⟩ := i7
    rw [u1] at m4
    rw [List.length_cons] at i8
    have ul := fR_len u7
    have hk2 : l.length = F.2.2.2.2 := hl
    have e40 : xa 40 u = nI k := by rw [u3, ← hk2, ← kl]
    rw [y_11 (n := k) (c := u) (v := F.2.1) (k := k) hp m2 (by omega) m4 (by omega) u4 f2 e40 (by omega) (by rw [q1]; exact ho), u2]
    have sub : A.st = m :: l := hs
    refine K0 _ _ _ (as_11 ho hF) ⟨?_, r2, r3, r4, r5, r6⟩ ⟨⟨k + 1, rfl, ?_, fun z => absurd z (show tau o F.1 ≠ 1000 by omega)⟩, ⟨u, rfl, u7⟩⟩ (Fr_a (by decide) (Fr_a (by decide) (Fr_a (by decide) (Fr_a (by decide) (Fr_i (by decide) (Fr_i (by decide) (Fr_i (by decide) Fr_r))))))) rfl
    · show ∀ w, w < 26 → upd (xa 24) F.2.1 (xa 42 u) w = _ ∧ upd (xa 25) F.2.1 (xa 43 u) w = _
      rw [u5, u6]
      exact uv_24 (m := (F.2.2.1, F.2.2.2.1)) r1
    · show sR (upd (xa 37) k (xa 37 k)) (upd (xa 38) k (xa 38 k)) (k + 1) A.st
      rw [sub, k2, k2']
      exact sR_pu k3
  · intro u _ ho hf hx hg hu h1000 hbt ht0 hrt
    have t1 := tn_12 (o := o) ho
    have lt := len (by rw [h1000]; decide)
    have et : (x A.b).toNatClampNeg = u := by rw [hx, nI_clamp (by omega)]
    have as := as_12 (o := o) (x := x) (y := y) (sa := sa) (pa := pa) (fu := fu) ho
    rw [et] at as
    rw [y_12 hp m2 (by omega) (by omega) (by rw [q1]; exact ho), mf h1000]
    have e1 : (if (if A.fl = true then (1 : Int32) else 0) = 1 then nI (A.b + 1) else xa 30 A.b) = nI (if A.fl = true then A.b + 1 else u) := by
      by_cases hfl : A.fl = true
      · rw [if_pos hfl, if_pos hfl, if_pos rfl]
      · rw [if_neg hfl, if_neg hfl, if_neg (by decide), q2, hx]
    rw [e1]
    refine K0 _ _ _ as ⟨r1, r2, r3, r4, r5, r6⟩ ⟨⟨t, m2, m3, fun z => ?_⟩, ⟨c, m4, m5⟩⟩ Fr_r rfl
    have n9 : tau o (if A.fl = true then A.b + 1 else u) ≠ 1000 := by
      split
      · rw [t1]; decide
      · rw [ht0]; decide
    exact absurd z n9
  · intro u _ ho hf hx hg hu hb0 ht0 hrt hd
    have lt := len (by rw [ht_0 hb0]; omega)
    have et : (x A.b).toNatClampNeg = u := by rw [hx, nI_clamp (by omega)]
    have as := as_13 (o := o) (x := x) (y := y) (sa := sa) (pa := pa) (fu := fu) ho
    rw [et] at as
    rw [y_13 hp m2 (by omega) (by rw [q1]; exact ho), q2, hx]
    exact K0 _ _ _ as ⟨r1, r2, r3, r4, r5, r6⟩ ⟨⟨t, m2, m3, fun z => absurd z (show tau o u ≠ 1000 from fun z => by rw [z] at ht0; exact absurd ht0 (by decide))⟩, ⟨c, m4, m5⟩⟩ Fr_r rfl
  · intro _ ho hf hb0
    have lt := len (by rw [ht_0 hb0]; omega)
    have t1 := tn_14 (o := o) ho
    rw [y_14 hp m2 (by omega) r3 r4 (by omega) (by omega) (by rw [q1]; exact ho)]
    by_cases hk : A.k < fu
    · rw [if_neg (show ¬ A.k = fu by omega)]
      exact K0 _ _ _ (as_14 ho hk) ⟨r1, r2, rfl, r4, r5, r6⟩ ⟨⟨t, m2, m3, fun z => absurd z (show tau o (A.b + 1) ≠ 1000 by rw [t1]; decide)⟩, ⟨c, m4, m5⟩⟩ (Fr_i (by decide) Fr_r) rfl
    · rw [if_pos (show A.k = fu by omega)]
      exact KF 4 _ _ (as_14f ho hk) (by decide) ⟨r1, r2, r3, r4, r5, r6⟩ (Fr_i (by decide) Fr_r) rfl
  · intro F L' _ ho hf _ _ hF ht0 _
    have lt := len (by rw [ht0]; decide)
    rw [hF] at m5 i7 i8 i9
    obtain ⟨u, u1, u2, u3, u4, u5, u6, u7⟩ := m5
    obtain ⟨f1, f2, f3, f4, f5, f6, f7, f8⟩ := i7
    rw [u1] at m4
    rw [List.length_cons] at i8
    have ul := fR_len u7
    have hk2 : A.st.length = F.2.2.2.2 := by rw [i9, ht0]; rfl
    have e40 : xa 40 u = nI t := by rw [u3, ← hk2, ← tl]
    rw [y_15 (c := u) (v := F.2.1) (k := t) hp m2 (by omega) m4 (by omega) u4 f2 e40 (by omega) (by rw [q1]; exact ho), u2]
    refine K0 _ _ _ (as_15 ho hF) ⟨?_, r2, r3, r4, r5, r6⟩ ⟨⟨t + 1, rfl, ?_, fun z => absurd z (show tau o F.1 ≠ 1000 by omega)⟩, ⟨u, rfl, u7⟩⟩ (Fr_a (by decide) (Fr_a (by decide) (Fr_a (by decide) (Fr_a (by decide) (Fr_i (by decide) (Fr_i (by decide) (Fr_i (by decide) Fr_r))))))) rfl
    · show ∀ w, w < 26 → upd (xa 24) F.2.1 (xa 42 u) w = _ ∧ upd (xa 25) F.2.1 (xa 43 u) w = _
      rw [u5, u6]
      exact uv_24 (m := (F.2.2.1, F.2.2.2.1)) r1
    · exact sR_pu (m := (0, 0)) m3
  · intro hbn ho hF ht0
    have lt := len (by rw [ht0]; decide)
    rw [hF] at m5
    have c0 : c = 0 := m5
    rw [c0] at m4
    rw [y_16 hp m2 (by omega) m4 (by rw [q1]; exact ho)]
    exact KF 100 _ _ (as_16 ho hF) (by decide) ⟨r1, r2, r3, r4, r5, r6⟩ Fr_r rfl
end RO
