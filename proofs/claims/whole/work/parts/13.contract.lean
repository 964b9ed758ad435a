/-! A method's contract out of a run of the small machine. -/
section DXQ
variable {l : Launch} {D : va_G} {cl : List vw_C} {ql : Nat → Option vw_C} {tc : Nat → ClassId} {kd : Nat → Option Nat} {Z : dx_Z} {G : (Nat → Prop) → State → Prop} {WS : List Cond} {Y : Nat → MethodName} {Bt : Nat → ByteArray}
theorem dx_stat {ws : va_W} {H : Heap} (hP : va_P D cl ws H) : ∀ q : Nat, va_A ws H.size q → ∀ cell, H[q]? = some cell → cell.vm.isStatics = false := by
  intro q hq cell hc
  rcases hq with ⟨k, x, h⟩ | h
  · have h1 := hP k _ h
    cases x with
    | inl a =>
      have h2 : H[q]? = some (vp_cell a.1 a.2) := h1
      cases hc.symm.trans h2
      obtain ⟨cA, n, f | f | f | f | f⟩ := a <;> rfl
    | inr o =>
      obtain ⟨r, -, cell2, h2, -, h3, -⟩ := h1
      cases hc.symm.trans h2
      rw [h3]
      rfl
  · have := (Array.getElem?_eq_some_iff.mp hc).1
    omega
theorem dx_lg_len (kd : Nat → Option Nat) (ad : Nat → Nat) (av : List Value) : (lg_sl (av.map (dx_v kd ad))).length = dx_ct av := by
  induction av with
  | nil => rfl
  | cons v av ih =>
    have e1 : lg_sl ((v :: av).map (dx_v kd ad)) = (if (dx_v kd ad v).category = 2 then [Slot.val (dx_v kd ad v), .second] else [.val (dx_v kd ad v)]) ++ lg_sl (av.map (dx_v kd ad)) := rfl
    have e2 : dx_ct (v :: av) = v.category + dx_ct av := rfl
    rw [e1, e2, List.length_append, ih, dx_v_cat]
    rcases lv_cat v with h | h <;> simp [h]
set_option maxHeartbeats 8000000 in
theorem dx_V_ct (htr : l.stackTraces = false) (hws : ∀ w ∈ WS, dx_wk w) (hGok : dx_Gok G) (hGK : ∀ A s, G A s → va_K D cl (dx_tys tc) s ∧ dx_C ql Z.2.1 kd A s)
    (hgd : ∀ M pc x, Z.1 M pc = some x → dx_gd cl ql kd Z G WS Y Bt M pc x) (hgm : ∀ M pc x, Z.1 M pc = some x → dx_kd x = 5 → dx_gm WS Y Bt Z x.2.1) (hKK : dx_kK Z.2.1) (hdv : ∀ k, ∀ v ∈ Z.2.2.2.1 k, dx_kv 0 v) :
    ∀ (d M : Nat) (av : List Value) (σ : dx_S) (o : dx_O) (σ' : dx_S), dx_V Z d M av σ o σ' → dx_ks σ.length σ → dx_kt σ.length av → dx_gm WS Y Bt Z M → dx_Lf Z σ o σ' ∧ dx_Ct l D cl tc kd Z G WS (Y M) d av σ o σ' := by
  intro d
  induction d with
  | zero => intro M av σ o σ' h; exact h.elim
  | succ d ih =>
    intro M av σ o σ' h hs ht hm
    have hv := fun M pc x hx => (hgd M pc x hx).2.1
    have hLf := dx_V_lf hKK hdv hv (d + 1) M av σ o σ' h hs ht
    refine ⟨hLf, ?_⟩
    obtain ⟨hct, n, hX⟩ := h
    obtain ⟨m1, m2, m3, m4, m5⟩ := hm
    intro ad sz
    refine MetFree.of_bodySF (code := Bt M) (maxLocals := Z.2.2.1 M) (ret := Z.2.2.2.2.2 M) m1 ?_ ?_
    · intro args s m h hn
      obtain ⟨meth, c, h1, h2, h3, h4, h5, h6, -, -⟩ := Cond.code_spec hn (atoms_spec (ws := WS) h _ m2)
      exact ⟨meth, c, h1, h2, h3, h4, h5, h6⟩
    · intro p e s m args below meth c s₁ B hml hPc _
      obtain ⟨rfl, rfl, hG, hP, hD0⟩ := hPc
      have hts := atoms_spec (ws := WS) B.pre
      have hD := hD0.self (sz := s.heap.size)
      obtain ⟨meth', c', h1, h2, -, -, -, -, hempty, -⟩ := Cond.code_spec B.named (hts _ m2)
      cases B.method.symm.trans h1
      have hcc : c' = c := by
        have h3 := B.here.code
        have h4 : s₁.code? m = some c' := by
          rw [State.code?_eq, B.state]
          show (s.vm.method? m).bind _ = _
          rw [h1]
          exact h2
        exact Option.some.inj (h4.symm.trans h3)
      subst hcc
      have hlocks := B.notSynchronized
      have key := dx_X_snd (p := p) (l := l) (e := e) (R := (headSpec WS (dx_rm (d + 1) (σ'.length - σ.length) (dx_sl Z σ' - dx_sl Z σ))).room) (s := s) (m := m) (args := (av.map (dx_v kd ad)).toArray) (below := below) (meth := meth) (c := c') (Q := fun t => ∃ oc, t.status = .running ∧ Ended t below oc ∧ dx_Qc D cl tc kd σ o σ' ad s.heap.size (av.map (dx_v kd ad)).toArray s oc t ∧ ∃ L, dt_F s t L (σ'.length - σ.length) (dx_sl Z σ' - dx_sl Z σ) ∧ ∀ q ∈ L, va_A (dx_w tc kd ad σ) s.heap.size q.base)
        (D := D) (cl := cl) (ql := ql) (tc := tc) (kd := kd) (Z := Z) (A := va_A (dx_w tc kd ad σ) s.heap.size) (G := G) (WS := WS) (Y := Y) (Bt := Bt) (call := dx_V Z d) (M := M) (d := d) (n0 := σ.length) (k0 := σ.length) (l0 := dx_sl Z σ) (ad0 := ad) (o := o) (σ' := σ')
        B.exec B.bytes hml (findClass_of_methodNamed B.named) (name_of_methodNamed B.named B.method).1 hlocks hempty htr hts hws hGok hG hGK (hgd M) (hgm M) hKK hdv (fun q h => Or.inr h) (dx_stat hP)
        (fun M' av σ o σ' h hs ht hm => ih M' av σ o σ' h hs ht hm) (fun M' av σ o σ' h hs ht => dx_V_lf hKK hdv hv d M' av σ o σ' h hs ht)
        (by show d + 9 ≤ d + 1 + 8; omega) (by show 64 * (d + 1) + 200 ≤ 64 * (d + 1) + 200; omega) (by show _ ≤ σ.length + (σ'.length - σ.length); omega) (by show _ ≤ dx_sl Z σ + (dx_sl Z σ' - dx_sl Z σ); omega)
        (fun pc x len st v ad1 H locs ls hd hn hr ho k1 k2 k3 k4 => by
          have fin : ∀ (vv : Option Value), vv = v.map (dx_v kd ad1) → ∀ t : State, t.heap = H → s.WarmedH t.vm → dx_Qc D cl tc kd σ o σ' ad s.heap.size (av.map (dx_v kd ad)).toArray s (.returned vv) t := fun vv hvv t ht _ =>
            ⟨ad1, k4, by rw [ho, hvv]; rfl, by rw [ht]; exact k1, k2, k3.F ht⟩
          have wk : ∀ t, MQ below (dx_Qc D cl tc kd σ o σ' ad s.heap.size) (av.map (dx_v kd ad)).toArray s (σ'.length - σ.length) (dx_sl Z σ' - dx_sl Z σ) (va_A (dx_w tc kd ad σ) s.heap.size) t → ∃ oc, t.status = .running ∧ Ended t below oc ∧ dx_Qc D cl tc kd σ o σ' ad s.heap.size (av.map (dx_v kd ad)).toArray s oc t ∧ ∃ L, dt_F s t L (σ'.length - σ.length) (dx_sl Z σ' - dx_sl Z σ) ∧ ∀ q ∈ L, va_A (dx_w tc kd ad σ) s.heap.size q.base := by
            rintro t ⟨oc, q1, q2, q3, L, q4, q5⟩
            exact ⟨oc, q1, q2, q3, L, ⟨q4.2.1, q4.2.2⟩, q5⟩
          rcases dx_rt_e hr with ⟨hi, y, ty, rfl, rfl, hty, hnar⟩ | ⟨hi, y, rfl, rfl, hty⟩ | ⟨hi, rfl, rfl, hty⟩
          · rw [hi] at hd hn
            have hlen : len = 1 := dx_ln hn (by decide)
            subst hlen
            exact dt_mono (W.zret B.exec B.bytes (B.returns.trans hty) hnar (fin _ rfl) k3.2.2 hd hlocks) wk
          · rw [hi] at hd hn
            have hlen : len = 1 := dx_ln hn (by decide)
            subst hlen
            exact dt_mono (W.lret B.exec B.bytes (B.returns.trans hty) (fin _ rfl) k3.2.2 hd hlocks) wk
          · rw [hi] at hd hn
            have hlen : len = 1 := dx_ln hn (by decide)
            subst hlen
            exact dt_mono (W.vret B.exec B.bytes (B.returns.trans hty) (fin _ rfl) k3.2.2 hd hlocks) wk)
        (fun t y ad1 locs ho q1 q2 q3 q4 k1 k2 k3 k4 => ⟨_, q1, q2, ⟨ad1, k4, by rw [ho]; rfl, k1, k2, k3.1, k3.2.1⟩, locs, ⟨q3, q4⟩, k3.2.2⟩)
        n 0 (lv_args 0 av) [] σ ad s.heap [] _ hX (by rw [← dx_vl_args]; exact lv_entry (av.map (dx_v kd ad)) (n := Z.2.2.1 M) (by rw [dx_lg_len]; exact hct)) hP hD va_S.rf hs (dx_kl_args _ _ ht) (fun v hv => by cases hv) (fun _ _ => rfl) (Nat.le_refl _) (Nat.le_refl _) (Nat.le_refl _)
      have hh0 : s₁.heap = s.heap := by rw [B.state]; rfl
      rw [Nat.sub_self, Nat.sub_self] at key
      obtain ⟨t, a1, oc, b1, b2, b3⟩ := key s₁ hh0 (Stand.of_body B)
      refine ⟨t, oc, ?_, b1, b2, b3⟩
      rw [lg_entry_eq]
      exact a1
end DXQ
