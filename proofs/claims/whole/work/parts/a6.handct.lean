/-! A method with handlers: its contract out of a run of the small machine and, where it catches, of its handler. -/
section DXH
variable {l : Launch} {D : va_G} {cl : List vw_C} {ql : Nat → Option vw_C} {tc : Nat → ClassId} {kd : Nat → Option Nat} {Z : dx_Z} {G : (Nat → Prop) → State → Prop} {WS : List Cond} {Y : Nat → MethodName} {Bt : Nat → ByteArray}
set_option maxHeartbeats 8000000 in
theorem dx_H_ct {call : Nat → List Value → dx_S → dx_O → dx_S → Prop} {M d n : Nat} {hds : List (Nat × Nat × Nat × Nat)} {av : List Value} {σ σ' : dx_S} {o o1 : dx_O} (hws : ∀ w ∈ WS, dx_wk w) (hGok : dx_Gok G) (hGK : ∀ A s, G A s → va_K D cl (dx_tys tc) s ∧ dx_C ql Z.2.1 kd A s)
    (hgd : ∀ pc x, Z.1 M pc = some x → dx_gd cl ql kd Z G WS Y Bt M pc x) (hgm : ∀ pc x, Z.1 M pc = some x → dx_kd x = 5 → dx_gm WS Y Bt Z x.2.1 ∨ ∃ hs, dx_gs WS Y Bt Z x hs) (h7 : ∀ pc x, Z.1 M pc = some x → dx_kd x < 7) (hKK : dx_kK Z.2.1) (hdv : ∀ k, ∀ v ∈ Z.2.2.2.1 k, dx_kv 0 v)
    (hcall : ∀ M' av σ o σ', call M' av σ o σ' → dx_ks σ.length σ → dx_kt σ.length av → dx_Lf Z σ o σ' ∧ dx_Ct l D cl tc kd Z G WS (Y M') d av σ o σ')
    (m1 : plainFor (Y M) = true) (hcw : Cond.codeWith (Y M) (Bt M) (Z.2.2.1 M) (Z.2.2.2.2.2 M) hds ∈ WS) (hct : dx_ct av ≤ Z.2.2.1 M)
    (hX : dx_X Z call M n 0 (lv_args 0 av) [] σ o1 σ') (hs : dx_ks σ.length σ) (ht : dx_kt σ.length av) (ho : ∃ v, o = .inl v) (ho1 : ∀ v, o1 = .inl v → o1 = o) (hko : dx_ko σ'.length o)
    (hcat : ∀ (p : Program) (e : Env) (R : Room) (s : State) (m : MethodId) (args : Array Value) (below : List Frame) (meth : Method) (c : Code) (A : Nat → Prop) (pc : Nat) (x : dx_I) (ls : Array Slot) (rest : List Value) (y : Nat) (ad : Nat → Nat) (U : State) (locs : List Loc) (cells slots : Nat), Z.1 M pc = some x → dx_kd x = 5 → o1 = .inr y → (∀ w ∈ WS, w.before args s = true) → G A s → s.vm.findClass (Y M).cls = some m.cls → c.exceptionTable.toList.map (fun h => (h.startPc, h.endPc, h.handlerPc, h.catchType)) = hds → Stand p l e R s m args below meth c U locs cells slots → va_P D cl (dx_w tc kd ad σ') U.heap → ∃ (pc2 n2 : Nat) (vm' : Vm), dx_X Z call M n2 pc2 [] [.ref y] σ' o σ' ∧ Stand p l e R s m args below meth c (U.setVm vm') locs cells slots ∧ ∀ target, Steps p.tables e below ((U.setVm vm').setTop (F0 m pc2 ls [.ref (ad y)])) target → Steps p.tables e below ((U.setTop (F0 m pc ls rest)).pushFrame (.throwing (ad y))) target) :
    dx_Lf Z σ o σ' ∧ dx_Ct l D cl tc kd Z G WS (Y M) (d + 1) av σ o σ' := by
  have hcl : ∀ M' av σ o σ', call M' av σ o σ' → dx_ks σ.length σ → dx_kt σ.length av → dx_Lf Z σ o σ' := fun M' av σ o σ' h h1 h2 => (hcall M' av σ o σ' h h1 h2).1
  have hv := fun pc x hx => (hgd pc x hx).2.1
  have hLf1 := dx_X_lf hKK hdv hv hcl _ _ _ _ _ _ _ hX hs (dx_kl_args _ _ ht) (fun v hv => by cases hv)
  obtain ⟨l1, l2, l3, l4⟩ := hLf1
  refine ⟨⟨l1, l2, l3, hko⟩, ?_⟩
  intro ad sz
  refine MetFree.of_bodySF (code := Bt M) (maxLocals := Z.2.2.1 M) (ret := Z.2.2.2.2.2 M) m1 ?_ ?_
  · intro args s m h hn
    obtain ⟨m', meth, c, h0, h1, h2, h3, h4, -, h5, h6, -⟩ := Cond.codeWith_spec (atoms_spec (ws := WS) h _ hcw)
    cases hn.symm.trans h0
    exact ⟨meth, c, h1, h2, h3, h4, h5, h6⟩
  · intro p e s m args below meth c s₁ B hml hPc _
    obtain ⟨rfl, rfl, hG, hP, hD0⟩ := hPc
    have hts := atoms_spec (ws := WS) B.pre
    have hD := hD0.self (sz := s.heap.size)
    obtain ⟨m', meth', c', h0, h1, h2, -, -, htab, -, -, -⟩ := Cond.codeWith_spec (hts _ hcw)
    cases B.named.symm.trans h0
    cases B.method.symm.trans h1
    have hcc : c' = c := by
      have h3 := B.here.code
      have h4 : s₁.code? m = some c' := by
        rw [State.code?_eq, B.state]
        show (s.vm.method? m).bind _ = _
        rw [h1]
        exact h2
      exact Option.some.inj (h4.symm.trans h3)
    subst hcc
    have hlocks := B.notSynchronized
    have hRo : ∀ (pc : Nat) (x : dx_I) (len : Nat) (st : List Value) (v : Option Value) (ad1 : Nat → Nat) (H : Heap) (locs : List Loc) (ls : Array Slot), decode (Bt M) pc = .ok (x.1, len) → (dx_len x.1 = 0 ∨ len = dx_len x.1) → dx_rt (Z.2.2.2.2.2 M) x.1 st = some v → o = .inl v → va_P D cl (dx_w tc kd ad1 σ') H → va_D (va_A (dx_w tc kd ad σ) s.heap.size) (dx_w tc kd ad1 σ') → va_S (va_A (dx_w tc kd ad σ) s.heap.size) s.heap H locs → (∀ i, i < σ.length → ad1 i = ad i) → W p l e (headSpec WS (dx_rm (d + 1) (σ'.length - σ.length) (dx_sl Z σ' - dx_sl Z σ))).room s m (av.map (dx_v kd ad)).toArray below meth c' H locs (σ'.length - σ.length) (dx_sl Z σ' - dx_sl Z σ) (fun t => ∃ oc, t.status = .running ∧ Ended t below oc ∧ dx_Qc D cl tc kd σ o σ' ad s.heap.size (av.map (dx_v kd ad)).toArray s oc t ∧ ∃ L, dt_F s t L (σ'.length - σ.length) (dx_sl Z σ' - dx_sl Z σ) ∧ ∀ q ∈ L, va_A (dx_w tc kd ad σ) s.heap.size q.base) (F0 m pc ls (st.map (dx_v kd ad1))) := fun pc x len st v ad1 H locs ls hd hn hr ho k1 k2 k3 k4 => by
      have fin : ∀ (vv : Option Value), vv = v.map (dx_v kd ad1) → ∀ t : State, t.heap = H → s.WarmedH t.vm → dx_Qc D cl tc kd σ o σ' ad s.heap.size (av.map (dx_v kd ad)).toArray s (.returned vv) t := fun vv hvv t ht _ =>
        ⟨ad1, k4, by rw [ho, hvv]; rfl, by rw [ht]; exact k1, k2, k3.F ht⟩
      have wk : ∀ t, MQ below (dx_Qc D cl tc kd σ o σ' ad s.heap.size) (av.map (dx_v kd ad)).toArray s (σ'.length - σ.length) (dx_sl Z σ' - dx_sl Z σ) (va_A (dx_w tc kd ad σ) s.heap.size) t → ∃ oc, t.status = .running ∧ Ended t below oc ∧ dx_Qc D cl tc kd σ o σ' ad s.heap.size (av.map (dx_v kd ad)).toArray s oc t ∧ ∃ L, dt_F s t L (σ'.length - σ.length) (dx_sl Z σ' - dx_sl Z σ) ∧ ∀ q ∈ L, va_A (dx_w tc kd ad σ) s.heap.size q.base := by
        rintro t ⟨oc, q1, q2, q3, L, q4, q5⟩
        exact ⟨oc, q1, q2, q3, L, ⟨q4.2.1, q4.2.2⟩, q5⟩
      rcases dx_rt_e hr with ⟨hi, y, ty, rfl, rfl, hty, hnar⟩ | ⟨hi, y, rfl, rfl, hty⟩ | ⟨hi, rfl, rfl, hty⟩
      · rw [hi] at hd hn
        have hlen : len = 1 := dx_ln hn (by decide)
        subst hlen
        exact dt_mono (W.zret B.exec B.bytes (B.returns.trans hty) hnar (fin _ rfl) k3.2.2 hd hlocks) wk
      · rw [hi] at hd hn
        have hlen : len = 1 := dx_ln hn (by decide)
        subst hlen
        exact dt_mono (W.lret B.exec B.bytes (B.returns.trans hty) (fin _ rfl) k3.2.2 hd hlocks) wk
      · rw [hi] at hd hn
        have hlen : len = 1 := dx_ln hn (by decide)
        subst hlen
        exact dt_mono (W.vret B.exec B.bytes (B.returns.trans hty) (fin _ rfl) k3.2.2 hd hlocks) wk
    have key := fun (o2 : dx_O) hR hTT => dx_X_sndG (p := p) (l := l) (e := e) (R := (headSpec WS (dx_rm (d + 1) (σ'.length - σ.length) (dx_sl Z σ' - dx_sl Z σ))).room) (s := s) (m := m) (args := (av.map (dx_v kd ad)).toArray) (below := below) (meth := meth) (c := c') (Q := fun t => ∃ oc, t.status = .running ∧ Ended t below oc ∧ dx_Qc D cl tc kd σ o σ' ad s.heap.size (av.map (dx_v kd ad)).toArray s oc t ∧ ∃ L, dt_F s t L (σ'.length - σ.length) (dx_sl Z σ' - dx_sl Z σ) ∧ ∀ q ∈ L, va_A (dx_w tc kd ad σ) s.heap.size q.base)
      (D := D) (cl := cl) (ql := ql) (tc := tc) (kd := kd) (Z := Z) (A := va_A (dx_w tc kd ad σ) s.heap.size) (G := G) (WS := WS) (Y := Y) (Bt := Bt) (call := call) (M := M) (d := d) (n0 := σ.length) (k0 := σ.length) (l0 := dx_sl Z σ) (ad0 := ad) (o := o2) (σ' := σ')
      B.exec B.bytes hml (findClass_of_methodNamed B.named) (name_of_methodNamed B.named B.method).1 hts hws hGok hG hGK hgd hgm h7 hKK hdv (fun q h => Or.inr h) (dx_stat hP)
      hcall hcl
      (by show d + 9 ≤ d + 1 + 8; omega) (by show 64 * (d + 1) + 200 ≤ 64 * (d + 1) + 200; omega) (by show _ ≤ σ.length + (σ'.length - σ.length); omega) (by show _ ≤ dx_sl Z σ + (dx_sl Z σ' - dx_sl Z σ); omega) hR hTT
    have kin := key o hRo (fun pc x ls rest y ad1 U locs _ _ _ hy => by
      obtain ⟨v, rfl⟩ := ho
      cases hy)
    have kout := key o1 (fun pc x len st v ad1 H locs ls hd hn hr ho2 k1 k2 k3 k4 => hRo pc x len st v ad1 H locs ls hd hn hr ((ho1 v ho2).symm.trans ho2) k1 k2 k3 k4) (fun pc x ls rest y ad1 U locs hx1 hk5 hsz hy X hP1 hD1 hS1 had1 => by
      obtain ⟨pc2, n2, vm', hX2, X2, hst⟩ := hcat p e _ s m _ below meth c' _ pc x ls rest y ad1 U locs _ _ hx1 hk5 hy hts hG (findClass_of_methodNamed B.named) htab X hP1
      have hyl : y < σ'.length := by
        rw [hy] at l4
        exact l4
      obtain ⟨tf, z1, z2⟩ := kin n2 pc2 [] [.ref y] σ' ad1 U.heap locs ls hX2 hsz hP1 hD1 hS1 l3 (fun q hq => by cases hq) (fun v hv => by cases List.mem_singleton.mp hv; exact hyl) had1 l1 l1 l2 (U.setVm vm') rfl X2
      exact ⟨tf, hst _ z1, z2⟩)
    have fin := kout n 0 (lv_args 0 av) [] σ ad s.heap [] _ hX (by rw [← dx_vl_args]; exact lv_entry (av.map (dx_v kd ad)) (n := Z.2.2.1 M) (by rw [dx_lg_len]; exact hct)) hP hD va_S.rf hs (dx_kl_args _ _ ht) (fun v hv => by cases hv) (fun _ _ => rfl) (Nat.le_refl _) (Nat.le_refl _) (Nat.le_refl _)
    have hh0 : s₁.heap = s.heap := by rw [B.state]; rfl
    rw [Nat.sub_self, Nat.sub_self] at fin
    obtain ⟨t, a1, oc, b1, b2, b3⟩ := fin s₁ hh0 (Stand.of_body B)
    refine ⟨t, oc, ?_, b1, b2, b3⟩
    rw [lg_entry_eq]
    exact a1
end DXH
