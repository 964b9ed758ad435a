/-! The real machine follows the small one: calls of methods with handlers, exceptions that are caught. -/
section DT2
variable {p : Program} {l : Launch} {e : Env} {R : Room} {s : State} {m : MethodId} {args : Array Value} {below : List Frame} {meth : Method} {c : Code} {H : Heap} {locs : List Loc} {cells slots : Nat} {Q : State → Prop}
theorem dt_back2 {y : MethodName} {ws : List Cond} {rm : Room} {Pc : Array Value → State → Prop} {Qc : Array Value → State → Outcome → State → Prop} {mc ms : Nat} {free : Addr → Prop} {maxL : Nat} {len W : Nat} {U : State} {Ls : List Loc} {c0 s0 : Nat} {g : JFrame} {ig : Instr} {mk : MethodId} {a : Array Value}
    (hM : dt_Met l y ws rm Pc Qc mc ms free) (hframes : rm.frames + 1 ≤ R.frames) (hlocals : W + (maxL + 11) + rm.locals ≤ R.locals)
    (X : Stand p l e R s m args below meth c U Ls c0 s0) (hg : g.method = m) (hsize : g.locals.size = c.maxLocals) (hdg : decode c.code g.pc = .ok (ig, len))
    (hW : 2 * g.monitorRoom + (g.stack.map fun v => v.category).sum ≤ W) (hn : U.methodNamed? y = some mk)
    (h1 : (allAtoms ws).before a U = true) (h2 : ∃ methY cY, U.vm.method? mk = some methY ∧ methY.code = some cY ∧ cY.maxLocals = maxL) (h3 : (Cond.initialized y.cls).before a U = true)
    (h4 : c0 + rm.cells ≤ R.cells) (h5 : s0 + rm.slots ≤ R.slots) (hP : Pc a (U.calling g mk a)) :
    ∃ (t U' : State) (L : List Loc), U'.heap = t.heap ∧ U'.vm = t.vm ∧ (∀ q ∈ L, free q.base) ∧ Stand p l e R s m args below meth c U' (Ls ++ L) (c0 + mc) (s0 + ms) ∧
      ((∃ v, Qc a (U.calling g mk a) (.returned v) t ∧ Steps p.tables e below (doInvoke e (U.setTop g) [] mk a).1 (U'.setTop { g with pc := g.pc + len, stack := v.toList ++ g.stack })) ∨
       (∃ x, Qc a (U.calling g mk a) (.threw x) t ∧ Steps p.tables e below (doInvoke e (U.setTop g) [] mk a).1 ((U'.setTop g).pushFrame (.throwing x)))) := by
  obtain ⟨methY, cY, hmY, hcY, hlY⟩ := h2
  obtain ⟨kY, hkY, -⟩ := className_of_methodNamed hn
  have hinitY : kY.init = .initialized := Cond.initialized_spec (findClass_of_methodNamed hn) hkY h3
  have h : At U g.method c below := by rw [hg]; exact X.here
  have happ : (headSpec ws rm).appliesLoose y e.platform (U.calling g mk a) = true :=
    Spec.appliesLoose_calling (g := g) h hdg hn hkY hinitY (X.room_calling (g := g) (R' := (headSpec ws rm).room) hsize hmY hcY hframes (by rw [hlY]; show _ + rm.locals ≤ _; omega) h4 h5) h1
  obtain ⟨mid, hmid⟩ := h.above
  have hfr : (U.setTop g).frames = (.java g :: mid) ++ below := by rw [State.frames_setTop' g h.top, hmid]; rfl
  obtain ⟨o, s₂, hsteps, -, hend, hq⟩ := Steps.callFree hM p X.admits X.cas X.clock (acts := []) hfr happ hP trivial
  rw [State.frames_setTop' g h.top] at hend
  have hq' : Qc a (U.calling g mk a) o s₂ ∧ ∃ L, dt_F (U.calling g mk a) s₂ L mc ms ∧ ∀ q ∈ L, free q.base := hq
  obtain ⟨hQ, L, ⟨hW₂, e2, q2, q3, q4, q5, q6⟩, hL⟩ := hq'
  have e3 : s₂ = ({ (U.calling g mk a).setFrames s₂.frames with heap := s₂.heap, slotsUsed := s₂.slotsUsed } : State).setVm s₂.vm := by
    have : s₂ = ({ s₂ with vm := (U.calling g mk a).vm } : State).setVm s₂.vm := rfl
    rw [e2] at this
    exact this
  have hW' : U.WarmedH s₂.vm := hW₂
  obtain ⟨g₀, hg0⟩ := Option.isSome_iff_exists.mp h.top
  obtain ⟨r, hr⟩ := State.topJava?_eq_some.mp hg0
  have hsame : U.sameButNew ({ U with heap := s₂.heap, slotsUsed := s₂.slotsUsed } : State) L mc ms := by
    refine ⟨?_, q2, q3, q4, q5, q6⟩
    obtain ⟨t, ht, -⟩ := State.frames_cons hr
    show ({ U with heap := s₂.heap, slotsUsed := s₂.slotsUsed } : State) = { U.setFrames U.frames with heap := s₂.heap, slotsUsed := s₂.slotsUsed }
    rw [State.setFrames_self ht]
  have hr' : (({ U with heap := s₂.heap, slotsUsed := s₂.slotsUsed } : State).setVm s₂.vm).frames = .java g₀ :: r := hr
  refine ⟨s₂, (({ U with heap := s₂.heap, slotsUsed := s₂.slotsUsed } : State).setVm s₂.vm), L, rfl, rfl, hL,
    ⟨X.admits, X.cas, X.clock, X.frames, X.room, X.hears, X.method, X.code, (X.here.setHeapUsed s₂.heap s₂.slotsUsed).setVm hW'.alike, X.tail, State.WarmedH.trans X.warmed hW', X.limits, X.bytes, X.same.trans (hsame.setVm s.vm)⟩, ?_⟩
  cases o with
  | returned v =>
    refine Or.inl ⟨v, hQ, ?_⟩
    obtain ⟨c₂, i₂, len₂, hc₂, hd₂, hf₂⟩ := hend
    have hcc : c₂ = c := by
      have h1 : s₂.code? g.method = U.code? g.method := by
        rw [State.code?_eq, State.code?_eq, hW'.alike.method?]
      exact Option.some.inj (hc₂.symm.trans (h1.trans h.code))
    subst hcc
    have hlen : len₂ = len := by rw [hdg] at hd₂; cases hd₂; rfl
    subst hlen
    have hs₂ : s₂ = (({ U with heap := s₂.heap, slotsUsed := s₂.slotsUsed } : State).setVm s₂.vm).setTop { g with pc := g.pc + len₂, stack := v.toList ++ g.stack } := by
      refine e3.trans ?_
      rw [hf₂, State.calling_eq h.top, State.setFrames_setFrames, State.setTop_of_frames _ hr', hr]
      rfl
    rw [← hs₂]
    exact hsteps
  | threw x =>
    refine Or.inr ⟨x, hQ, ?_⟩
    have hf₂ : s₂.frames = .throwing x :: .java g :: U.frames.tail := hend
    have hs₂ : s₂ = ((({ U with heap := s₂.heap, slotsUsed := s₂.slotsUsed } : State).setVm s₂.vm).setTop g).pushFrame (.throwing x) := by
      refine e3.trans ?_
      rw [State.pushFrame, State.frames_setTop _ hr', State.setTop_of_frames _ hr', State.setFrames_setFrames, hf₂, State.calling_eq h.top, State.setFrames_setFrames, hr]
      rfl
    rw [← hs₂]
    exact hsteps
theorem dt_invS2 {T : State} (X : Stand p l e R s m args below meth c T locs cells slots) (hexec : p.tables.exec = Jvm.exec) {own : String} {index : Nat} {y : MethodName} {bytes : ByteArray} {maxL : Nat} {ret : Option FieldType}
    (hown : s.vm.findClass own = some m.cls) (hlink : (Cond.methodLink own index y).before args s = true) (hstat : (Cond.static y).before args s = true) (hinit : (Cond.initialized y.cls).before args s = true)
    {hs : List (Nat × Nat × Nat × Nat)} (hcode : (Cond.codeWith y bytes maxL ret hs).before args s = true) (hy : y.cls ≠ "java/lang/invoke/MethodHandle" ∧ y.cls ≠ "java/lang/invoke/VarHandle")
    {g : JFrame} (hg : g.method = m) {argsL rest : List Value} (hlen : ∀ sig, parseMethodDescriptor y.desc = some sig → argsL.length = sig.parameters.length)
    (hstack : g.stack = argsL.reverse ++ rest) (hdg : decode c.code g.pc = .ok (.invokestatic index, 3)) : dt_Inv p l e R s m args below meth c T locs cells slots g rest y argsL := by
  obtain ⟨mk, methM, cM, hnamed, hmethM, -, -, -, -, -, -, hsigM⟩ := Cond.codeWith_spec hcode
  have hstatic : methM.isStatic = true := Cond.static_spec hnamed hmethM hstat
  obtain ⟨kP, hkP, -⟩ := className_of_methodNamed hnamed
  have hinitP : kP.init = .initialized := Cond.initialized_spec (findClass_of_methodNamed hnamed) hkP hinit
  obtain ⟨vm₁, X₁, hstep₁⟩ := X.invokestatic hexec hown hlink hnamed hmethM hstatic hkP hinitP hy (g := g) hg (argsL := argsL) (rest := rest) (hlen _ hsigM) hstack hdg
  exact ⟨mk, vm₁, X₁, X₁.named hnamed, fun target h => hstep₁ _ fun acts => by rw [doInvoke_state] at h ⊢; exact h⟩
theorem dt_invSN2 {T : State} (X : Stand p l e R s m args below meth c T locs cells slots) (hexec : p.tables.exec = Jvm.exec) {own host : String} {index : Nat} {y : MethodName} {bytes : ByteArray} {maxL : Nat} {ret : Option FieldType}
    (hown : s.vm.findClass own = some m.cls) (hlink : (Cond.methodLinkNest own index y host).before args s = true) (hstat : (Cond.static y).before args s = true) (hinit : (Cond.initialized y.cls).before args s = true)
    {hs : List (Nat × Nat × Nat × Nat)} (hcode : (Cond.codeWith y bytes maxL ret hs).before args s = true) (hy : y.cls ≠ "java/lang/invoke/MethodHandle" ∧ y.cls ≠ "java/lang/invoke/VarHandle")
    {g : JFrame} (hg : g.method = m) {argsL rest : List Value} (hlen : ∀ sig, parseMethodDescriptor y.desc = some sig → argsL.length = sig.parameters.length)
    (hstack : g.stack = argsL.reverse ++ rest) (hdg : decode c.code g.pc = .ok (.invokestatic index, 3)) : dt_Inv p l e R s m args below meth c T locs cells slots g rest y argsL := by
  obtain ⟨mk, methM, cM, hnamed, hmethM, -, -, -, -, -, -, hsigM⟩ := Cond.codeWith_spec hcode
  have hstatic : methM.isStatic = true := Cond.static_spec hnamed hmethM hstat
  obtain ⟨kP, hkP, -⟩ := className_of_methodNamed hnamed
  have hinitP : kP.init = .initialized := Cond.initialized_spec (findClass_of_methodNamed hnamed) hkP hinit
  obtain ⟨vm₁, X₁, hstep₁⟩ := X.invokestaticNest hexec hown hlink hnamed hmethM hstatic hkP hinitP hy (g := g) hg (argsL := argsL) (rest := rest) (hlen _ hsigM) hstack hdg
  exact ⟨mk, vm₁, X₁, X₁.named hnamed, fun target h => hstep₁ _ fun acts => by rw [doInvoke_state] at h ⊢; exact h⟩
end DT2
/-- what is known of a static method with handlers that an instruction invokes -/
def dx_gs (WS : List Cond) (Y : Nat → MethodName) (Bt : Nat → ByteArray) (Z : dx_Z) (x : dx_I) (hs : List (Nat × Nat × Nat × Nat)) : Prop :=
  (∃ k, x.1 = .invokestatic k) ∧ Cond.codeWith (Y x.2.1) (Bt x.2.1) (Z.2.2.1 x.2.1) (Z.2.2.2.2.2 x.2.1) hs ∈ WS ∧ Cond.initialized (Y x.2.1).cls ∈ WS ∧ ((Y x.2.1).cls ≠ "java/lang/invoke/MethodHandle" ∧ (Y x.2.1).cls ≠ "java/lang/invoke/VarHandle") ∧ Z.2.2.1 x.2.1 ≤ 45
section DXG
variable {p : Program} {l : Launch} {e : Env} {R : Room} {s : State} {m : MethodId} {args : Array Value} {below : List Frame} {meth : Method} {c : Code} {Q : State → Prop}
variable {D : va_G} {cl : List vw_C} {ql : Nat → Option vw_C} {tc : Nat → ClassId} {kd : Nat → Option Nat} {Z : dx_Z} {A : Nat → Prop} {G : (Nat → Prop) → State → Prop} {WS : List Cond} {Y : Nat → MethodName} {Bt : Nat → ByteArray}
set_option maxHeartbeats 8000000 in
theorem dx_X_sndG {call : Nat → List Value → dx_S → dx_O → dx_S → Prop} {M d n0 k0 l0 : Nat} {ad0 : Nat → Nat} {o : dx_O} {σ' : dx_S}
    (hx : p.tables.exec = Jvm.exec) (hb : c.code = Bt M) (hml : c.maxLocals = Z.2.2.1 M) (hown : s.vm.findClass (Y M).cls = some m.cls) (hnm : meth.name = (Y M).name)
    (hts : ∀ w ∈ WS, w.before args s = true) (hws : ∀ w ∈ WS, dx_wk w) (hGok : dx_Gok G) (hGA : G A s) (hGK : ∀ A s, G A s → va_K D cl (dx_tys tc) s ∧ dx_C ql Z.2.1 kd A s)
    (hgd : ∀ pc x, Z.1 M pc = some x → dx_gd cl ql kd Z G WS Y Bt M pc x) (hgm : ∀ pc x, Z.1 M pc = some x → dx_kd x = 5 → dx_gm WS Y Bt Z x.2.1 ∨ ∃ hs, dx_gs WS Y Bt Z x hs) (h7 : ∀ pc x, Z.1 M pc = some x → dx_kd x < 7) (hKK : dx_kK Z.2.1) (hdv : ∀ k, ∀ v ∈ Z.2.2.2.1 k, dx_kv 0 v)
    (hA : ∀ q, s.heap.size ≤ q → A q) (hst : ∀ q : Nat, A q → ∀ cell, s.heap[q]? = some cell → cell.vm.isStatics = false)
    (hcall : ∀ M' av σ o σ', call M' av σ o σ' → dx_ks σ.length σ → dx_kt σ.length av → dx_Lf Z σ o σ' ∧ dx_Ct l D cl tc kd Z G WS (Y M') d av σ o σ')
    (hcl : ∀ M' av σ o σ', call M' av σ o σ' → dx_ks σ.length σ → dx_kt σ.length av → dx_Lf Z σ o σ')
    (hRf : d + 9 ≤ R.frames) (hRl : 64 * (d + 1) + 200 ≤ R.locals) (hRc : σ'.length ≤ k0 + R.cells) (hRs : dx_sl Z σ' ≤ l0 + R.slots)
    (hR : ∀ (pc : Nat) (x : dx_I) (len : Nat) (st : List Value) (v : Option Value) (ad : Nat → Nat) (H : Heap) (locs : List Loc) (ls : Array Slot), decode (Bt M) pc = .ok (x.1, len) → (dx_len x.1 = 0 ∨ len = dx_len x.1) → dx_rt (Z.2.2.2.2.2 M) x.1 st = some v → o = .inl v → va_P D cl (dx_w tc kd ad σ') H → va_D A (dx_w tc kd ad σ') → va_S A s.heap H locs → (∀ i, i < n0 → ad i = ad0 i) → W p l e R s m args below meth c H locs (σ'.length - k0) (dx_sl Z σ' - l0) Q (F0 m pc ls (st.map (dx_v kd ad))))
    (hTT : ∀ (pc : Nat) (x : dx_I) (ls : Array Slot) (rest : List Value) (y : Nat) (ad : Nat → Nat) (U : State) (locs : List Loc), Z.1 M pc = some x → dx_kd x = 5 → lv_has ls (Z.2.2.1 M) [] → o = .inr y → Stand p l e R s m args below meth c U locs (σ'.length - k0) (dx_sl Z σ' - l0) → va_P D cl (dx_w tc kd ad σ') U.heap → va_D A (dx_w tc kd ad σ') → va_S A s.heap U.heap locs → (∀ i, i < n0 → ad i = ad0 i) → ∃ tf, Steps p.tables e below ((U.setTop (F0 m pc ls rest)).pushFrame (.throwing (ad y))) tf ∧ Q tf) :
    ∀ (n pc : Nat) (lv : dx_L) (st : List Value) (σ : dx_S) (ad : Nat → Nat) (H : Heap) (locs : List Loc) (ls : Array Slot), dx_X Z call M n pc lv st σ o σ' → lv_has ls (Z.2.2.1 M) (dx_vl kd ad lv) → va_P D cl (dx_w tc kd ad σ) H → va_D A (dx_w tc kd ad σ) → va_S A s.heap H locs → dx_ks σ.length σ → dx_kl σ.length lv → dx_kt σ.length st → (∀ i, i < n0 → ad i = ad0 i) → n0 ≤ σ.length → k0 ≤ σ.length → l0 ≤ dx_sl Z σ →
      W p l e R s m args below meth c H locs (σ.length - k0) (dx_sl Z σ - l0) Q (F0 m pc ls (st.map (dx_v kd ad))) := by
  obtain ⟨hK, hC⟩ := hGK A s hGA
  intro n
  induction n with
  | zero => intro pc lv st σ ad H locs ls h; exact h.elim
  | succ n ih =>
    intro pc lv st σ ad H locs ls h hl hP hD hS hs hkl hkt had hn0 hk0 hl0
    have hLf : dx_Lf Z σ o σ' := dx_X_lf hKK hdv (fun pc x hx => (hgd pc x hx).2.1) hcl _ _ _ _ _ _ _ h hs hkl hkt
    obtain ⟨x, hx1, g⟩ := h
    obtain ⟨⟨len, hd, hn⟩, hv0, hfacts⟩ := hgd pc x hx1
    obtain ⟨fB, fC, fN, fI, fT⟩ := hfacts A s args hts hGA
    generalize hk : dx_kd x = k at g
    match k, g with
    | 0, ⟨r, e1, g1⟩ =>
      obtain ⟨a1, a2⟩ := dx_a_ok e1 hkl hkt
      exact dx_a_snd hx hb hd hn hl e1 (fun ls' hl' => ih _ _ _ _ _ _ _ _ g1 hl' hP hD hS hs a1 a2 had hn0 hk0 hl0)
    | 1, ⟨r, e1, g1⟩ =>
      obtain ⟨a1, a2⟩ := dx_b_ok e1 hKK hv0 hs hkt
      exact dx_b_snd hx hb hd hn hown hK hP hS hC fB e1 (fun el => ih _ _ _ _ _ _ _ _ g1 (by rw [el]; exact hl) hP hD hS hs (by rw [el]; exact hkl) a2 had hn0 hk0 hl0)
    | 2, ⟨r, e1, g1⟩ =>
      obtain ⟨a1, a2, a3, a4⟩ := dx_c_ok (r := r.1) (σ' := r.2) e1 hs hkt
      have a5 := dx_c_sl (Z := Z) (r := r.1) (σ' := r.2) e1
      refine dx_c_snd (r := r.1) (σ' := r.2) hx hb hd hn hown hK hP hD hS (by rw [hnm]; exact fC) e1 (fun H1 locs1 el k1 k2 k3 => ?_)
      rw [← a4, ← a5]
      exact ih _ _ _ _ _ _ _ _ g1 (by rw [el]; exact hl) k1 k2 k3 (by rw [a4]; exact a3) (by rw [el, a4]; exact hkl) (by rw [a4]; exact a2) had (by omega) (by omega) (by omega)
    | 3, ⟨r, e1, g1⟩ =>
      obtain ⟨a1, a2, a3⟩ := dx_n_ok e1 (hdv _) hkt
      have e2 : (σ ++ [r.2]).length = σ.length + 1 := by simp
      have e3 := dx_sl_app Z σ r.2
      have hs1 : dx_ks (σ ++ [r.2]).length (σ ++ [r.2]) := by
        rw [e2]
        intro y hy
        rcases List.mem_append.mp hy with hy | hy
        · exact dx_ks_le (Nat.le_succ _) hs y hy
        · cases List.mem_singleton.mp hy
          exact dx_ks_le (Nat.le_succ _) (σ := [r.2]) (fun z hz => by cases List.mem_singleton.mp hz; exact a3) _ (List.mem_singleton.mpr rfl)
      have hl1 : dx_kl (σ ++ [r.2]).length r.1.2.1 := by rw [e2, a1]; exact dx_kl_le (Nat.le_succ _) hkl
      have ht1 : dx_kt (σ ++ [r.2]).length r.1.2.2 := by rw [e2]; exact a2
      obtain ⟨b1, b2, -, -⟩ := dx_X_lf hKK hdv (fun pc x hx => (hgd pc x hx).2.1) hcl _ _ _ _ _ _ _ g1 hs1 hl1 ht1
      refine dx_n_snd hx hb hd hn hown hK hP hD hS hA fN hk hs hkt e1 (by omega) (by omega) (fun q H1 el k1 k2 k3 => ?_)
      rw [show σ.length - k0 + 1 = (σ ++ [r.2]).length - k0 by omega, show dx_sl Z σ - l0 + dx_sz Z r.2 = dx_sl Z (σ ++ [r.2]) - l0 by omega]
      refine ih _ _ _ _ _ _ _ _ g1 ?_ k1 k2 k3 hs1 hl1 ht1 (fun i hi => ?_) (by omega) (by omega) (by omega)
      · rw [el, dx_vl_eq (fun i hi => dx_ad_lt hi) hkl]
        exact hl
      · rw [dx_ad_lt (by omega)]
        exact had i hi
    | 4, ⟨v, e1, e2, e3⟩ =>
      subst e3
      exact hR pc x len st v ad H locs ls hd hn e1 e2 hP hD hS had
    | 5, ⟨q, e1, o1, σ1, e2, g1⟩ =>
      obtain ⟨rfl, f2, f3, f4⟩ := dx_sp_e e1
      have hl3 : dx_len x.1 = 3 := dx_len5 (Or.inl hk)
      have hn3 : len = 3 := by rw [hl3] at hn; exact hn.resolve_left (by decide)
      subst hn3
      have hkt2 := hkt
      rw [dx_kt_app, dx_kt_rev] at hkt2
      have hgm1 := hgm pc x hx1 hk
      obtain ⟨⟨b1, b2, b3, b4⟩, hM⟩ := hcall _ _ _ _ _ e2 hs hkt2.1
      have m35 : Cond.initialized (Y x.2.1).cls ∈ WS ∧ Z.2.2.1 x.2.1 ≤ 45 := by
        rcases hgm1 with ⟨-, -, m3, -, m5⟩ | ⟨hs', -, -, m3, -, m5⟩
        · exact ⟨m3, m5⟩
        · exact ⟨m3, m5⟩
      obtain ⟨m3, m5⟩ := m35
      have hbound : σ1.length ≤ σ'.length ∧ dx_sl Z σ1 ≤ dx_sl Z σ' := by
        cases o1 with
        | inl v =>
          have g2 : dx_X Z call M n (pc + 3) lv (v.toList ++ q.2) σ1 o σ' := g1
          obtain ⟨d1, d2, -, -⟩ := dx_X_lf hKK hdv (fun pc x hx => (hgd pc x hx).2.1) hcl _ _ _ _ _ _ _ g2 b3 (dx_kl_le b1 hkl) (by
            rw [dx_kt_app]
            refine ⟨?_, dx_kt_le b1 hkt2.2⟩
            cases v with
            | none => exact fun v hv => by cases hv
            | some v => exact fun w hw => by cases List.mem_singleton.mp hw; exact b4)
          exact ⟨d1, d2⟩
        | inr y =>
          obtain ⟨-, rfl⟩ := g1
          exact ⟨Nat.le_refl _, Nat.le_refl _⟩
      have est : (q.1.reverse ++ q.2).map (dx_v kd ad) = (q.1.map (dx_v kd ad)).reverse ++ q.2.map (dx_v kd ad) := by
        rw [List.map_append, List.map_reverse]
      rw [est]
      intro T hTH X
      have hPT : va_P D cl (dx_w tc kd ad σ) T.heap := by rw [hTH]; exact hP
      have hST : va_S A s.heap T.heap locs := by rw [hTH]; exact hS
      have hinv : dt_Inv p l e R s m args below meth c T locs (σ.length - k0) (dx_sl Z σ - l0) (F0 m pc ls ((q.1.map (dx_v kd ad)).reverse ++ q.2.map (dx_v kd ad))) (q.2.map (dx_v kd ad)) (Y x.2.1) (q.1.map (dx_v kd ad)) := by
        rcases hgm1 with ⟨-, m2, -, m4, -⟩ | ⟨hs', ⟨kk, hkk⟩, m2, -, m4, -⟩
        · exact dx_inv (rest := q.2.map (dx_v kd ad)) (ls := ls) X hx hb hd hown hK hPT hST hC hk fI (hts _ m2) (hts _ m3) m4 f4 f2
        · clear hbound est
          obtain ⟨xi, xa, xb, xf, xv⟩ := x
          have hkk' : xi = .invokestatic kk := hkk
          subst hkk'
          obtain ⟨i3, i4, i5⟩ := fI
          have hl' : ∀ sig, parseMethodDescriptor (Y xa).desc = some sig → (q.1.map (dx_v kd ad)).length = sig.parameters.length := fun sig hs => by
            rw [List.length_map, f2]
            exact i5 sig hs
          rcases i4 with i4 | ⟨host, i4⟩
          · exact dt_invS2 X hx hown i4 i3 (hts _ m3) (hts _ m2) m4 rfl hl' rfl (by rw [hb]; exact hd)
          · exact dt_invSN2 X hx hown i4 i3 (hts _ m3) (hts _ m2) m4 rfl hl' rfl (by rw [hb]; exact hd)
      obtain ⟨mk, vm₁, X₁, hnamed, hstep⟩ := hinv
      have hspc : ∃ methY cY, (T.setVm vm₁).vm.method? mk = some methY ∧ methY.code = some cY ∧ cY.maxLocals = Z.2.2.1 x.2.1 := by
        rcases hgm1 with ⟨-, m2, -, -, -⟩ | ⟨hs', -, m2, -, -, -⟩
        · obtain ⟨methY, cY, y1, y2, -, y3, -⟩ := Cond.code_spec hnamed (hws _ m2 args args _ _ X₁.warmed (hts _ m2))
          exact ⟨methY, cY, y1, y2, y3⟩
        · obtain ⟨mk', methY, cY, y0, y1, y2, -, y3, -⟩ := Cond.codeWith_spec (hws _ m2 args args _ _ X₁.warmed (hts _ m2))
          cases hnamed.symm.trans y0
          exact ⟨methY, cY, y1, y2, y3⟩
      have hA' : ∀ z, va_A (dx_w tc kd ad σ) T.heap.size z → A z := fun z hz => by
        rcases hz with ⟨k1, e3, h1⟩ | h1
        · exact hD.2 k1 _ h1
        · exact hA z (Nat.le_trans hST.1 h1)
      have hPc : dx_Pc D cl tc kd G q.1 σ ad T.heap.size (q.1.map (dx_v kd ad)).toArray ((T.setVm vm₁).calling { (F0 m pc ls ((q.1.map (dx_v kd ad)).reverse ++ q.2.map (dx_v kd ad))) with stack := q.2.map (dx_v kd ad) } mk (q.1.map (dx_v kd ad)).toArray) :=
        ⟨rfl, rfl, hGok A _ s _ hGA hST.1 hST.2.1 X₁.warmed hA', hPT, hD.weaken (fun _ _ _ _ => trivial)⟩
      obtain ⟨t, U', L, u1, u2, u3, X', u4⟩ := dt_back2 (W := 8) (maxL := Z.2.2.1 x.2.1) (hM ad T.heap.size) (by show d + 8 + 1 ≤ R.frames; omega) (by show 8 + (Z.2.2.1 x.2.1 + 11) + (64 * d + 200) ≤ R.locals; omega)
        X₁ (g := { (F0 m pc ls ((q.1.map (dx_v kd ad)).reverse ++ q.2.map (dx_v kd ad))) with stack := q.2.map (dx_v kd ad) }) rfl (by rw [hml]; exact hl.1) (by rw [hb]; exact hd) (by
          show 2 * 0 + ((q.2.map (dx_v kd ad)).map fun v => v.category).sum ≤ 8
          rw [dx_ct_v]
          omega) hnamed (atoms_intro fun w hw => hws w hw _ _ _ _ X₁.warmed (hts w hw)) hspc (hws _ m3 _ _ _ _ X₁.warmed (hts _ m3)) (by show _ + (σ1.length - σ.length) ≤ _; omega) (by show _ + (dx_sl Z σ1 - dx_sl Z σ) ≤ _; omega) hPc
      rw [show σ.length - k0 + (σ1.length - σ.length) = σ1.length - k0 by omega, show dx_sl Z σ - l0 + (dx_sl Z σ1 - dx_sl Z σ) = dx_sl Z σ1 - l0 by omega] at X'
      have hS1 : ∀ st0 : State, st0.heap = T.heap → va_F (va_A (dx_w tc kd ad σ) T.heap.size) st0 t → va_S A s.heap t.heap (locs ++ L) := fun st0 h0 hF => by
        refine ⟨Nat.le_trans hST.1 (by rw [← h0]; exact hF.1), fun z h1 h2 => ?_, fun z hz => ?_⟩
        · rw [hF.2 z (by rw [h0]; exact Nat.lt_of_lt_of_le h1 hST.1) (fun h3 => h2 (hA' z h3)), h0]
          exact hST.2.1 z h1 h2
        · rcases List.mem_append.mp hz with hz | hz
          · exact hST.2.2 z hz
          · exact hA' _ (u3 z hz)
      rcases u4 with ⟨v, ⟨ad1, w1, w2, w3, w4, w5⟩, w6⟩ | ⟨y, ⟨ad1, w1, w2, w3, w4, w5⟩, w6⟩
      · cases o1 with
        | inr y => cases w2
        | inl v1 =>
          have g2 : dx_X Z call M n (pc + 3) lv (v1.toList ++ q.2) σ1 o σ' := g1
          have hv1 : v = v1.map (dx_v kd ad1) := Outcome.returned.inj w2
          subst hv1
          have hkt1 : dx_kt σ1.length (v1.toList ++ q.2) := by
            rw [dx_kt_app]
            refine ⟨?_, dx_kt_le b1 hkt2.2⟩
            cases v1 with
            | none => exact fun v hv => by cases hv
            | some v => exact fun w hw => by cases List.mem_singleton.mp hw; exact b4
          have kq := ih (pc + 3) lv (v1.toList ++ q.2) σ1 ad1 t.heap (locs ++ L) ls g2 (by rw [dx_vl_eq w1 hkl]; exact hl) w3 (w4.weaken fun _ _ _ hz => hA' _ hz) (hS1 _ rfl w5) b3 (dx_kl_le b1 hkl) hkt1 (fun i hi => (w1 i (by omega)).trans (had i hi)) (by omega) (by omega) (by omega)
          obtain ⟨tf, z1, z2⟩ := kq U' u1 X'
          refine ⟨tf, hstep _ (w6.trans ?_), z2⟩
          have est2 : (v1.toList ++ q.2).map (dx_v kd ad1) = (v1.map (dx_v kd ad1)).toList ++ q.2.map (dx_v kd ad) := by
            rw [List.map_append, dx_vt_eq w1 hkt2.2]
            cases v1 <;> rfl
          rw [est2] at z1
          exact z1
      · cases o1 with
        | inl v => cases w2
        | inr y1 =>
          obtain ⟨rfl, rfl⟩ := g1
          have hy1 : y = ad1 y1 := Outcome.threw.inj w2
          subst hy1
          obtain ⟨tf, z1, z2⟩ := hTT pc x ls (q.2.map (dx_v kd ad)) y1 ad1 U' (locs ++ L) hx1 hk ⟨hl.1, hl.2.1, fun q hq => by cases hq⟩ rfl X' (by rw [u1]; exact w3) (w4.weaken fun _ _ _ hz => hA' _ hz) (by rw [u1]; exact hS1 _ rfl w5) (fun i hi => (w1 i (by omega)).trans (had i hi))
          exact ⟨tf, hstep _ (w6.trans z1), z2⟩
    | 6, ⟨a, r, e1, e2, g1⟩ =>
      subst e1
      have hl3 : dx_len x.1 = 3 := dx_len5 (Or.inr hk)
      have hn3 : len = 3 := by rw [hl3] at hn; exact hn.resolve_left (by decide)
      subst hn3
      have kq := ih _ _ _ _ _ _ _ _ g1 hl hP hD hS hs hkl (dx_kt_cons.mp hkt).2 had hn0 hk0 hl0
      obtain ⟨i, xa, xb, xf, xv⟩ := x
      cases i with
      | invokespecial kk =>
        have h0 : ¬ xf = 0 := by
          intro z
          simp [dx_kd, z] at hk
        have fI2 : if xf = 0 then _ else _ := fI
        rw [if_neg h0] at fI2
        obtain ⟨i1, i2, i3⟩ := fI2
        refine W.objInit hx hb hown i1 i2 i3 rfl (by rw [hml]; exact hl.1) rfl hd (by omega) ?_ kq
        show 2 * 0 + ((r.map (dx_v kd ad)).map fun v => v.category).sum + 12 ≤ _
        rw [dx_ct_v]
        omega
      | new kk => unfold dx_kd at hk; dsimp only at hk; split at hk <;> cases hk
      | _ => cases hk
    | k + 7, ⟨e1, e2, e3⟩ =>
      have := h7 pc x hx1
      omega
end DXG
