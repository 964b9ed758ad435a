/-! The law's helper: what it catches, its contract. -/
section XE
variable {Q : Handler → Pre} {E : CtlPost} {e : Env} {f : JFrame} {a : Addr}
/-- one entry of the table that covers the pc, its class perhaps not yet resolved: it takes the object, or the search goes on -/
theorem go_one {d : Bool} {acts : List Action} {s : State} {x : ExceptionTableEntry} {t : List ExceptionTableEntry} {c : ClassId} {cell : Cell} (hx : covers x f.pc = true) (h0 : x.catchType ≠ 0)
    (hl : s.vm.ClassLinks e.platform f.method.cls x.catchType c) (hcell : s.heap[a]? = some cell) (hobj : ∀ k, cell.vm ≠ .statics k)
    (hk : ∃ k, s.vm.classes[cell.cls]? = some k) (hc : ∃ k, s.vm.classes[c]? = some k) :
    (s.vm.assignable cell.cls c = true → (wp (findHandler.go f a (x :: t)) Q E e d acts s ↔ Q (.found x.handlerPc) d acts (s.setVm (s.vm.noted f.method.cls x.catchType (.cls c))))) ∧
    (s.vm.assignable cell.cls c = false → (wp (findHandler.go f a (x :: t)) Q E e d acts s ↔ wp (findHandler.go f a t) Q E e d acts (s.setVm (s.vm.noted f.method.cls x.catchType (.cls c))))) := by
  simp only [covers] at hx
  obtain ⟨ha, ht⟩ := (resolveClass_links e.toSetting hl).op (op := VmOp.resolveClass f.method.cls x.catchType) rfl
  have hal : s.vm.Alike (s.vm.noted f.method.cls x.catchType (.cls c)) := (Vm.Alike.refl s.vm).noted _ _ _
  obtain ⟨k1, hk1⟩ := hk
  obtain ⟨k2, hk2⟩ := hc
  obtain ⟨k1', hk1', -⟩ := hal.2.2 _ _ hk1
  obtain ⟨k2', hk2', -⟩ := hal.2.2 _ _ hk2
  have e1 : (s.vm.noted f.method.cls x.catchType (.cls c)).assignable cell.cls c = s.vm.assignable cell.cls c := by rw [hal.assignable]
  refine ⟨fun hfit => ?_, fun hfit => ?_⟩
  · rw [hfit] at e1
    simp [findHandler.go, hx, h0, ha, ht, hcell, hobj, hk1', hk2', e1, VmOp.dirties, VmOp.acts]
  · rw [hfit] at e1
    simp [findHandler.go, hx, h0, ha, ht, hcell, hobj, hk1', hk2', e1, VmOp.dirties, VmOp.acts]
theorem go_chain {s : State} {cell : Cell} {x : ExceptionTableEntry} {rest : List ExceptionTableEntry} {cT : ClassId} (hobj : ∀ k, cell.vm ≠ .statics k) (hk : ∃ k, s.vm.classes[cell.cls]? = some k)
    (hx : covers x f.pc = true) (h0 : x.catchType ≠ 0) (hl : s.vm.ClassLinks e.platform f.method.cls x.catchType cT) (hfit : s.vm.assignable cell.cls cT = true) :
    ∀ (pre : List (ExceptionTableEntry × ClassId)) (S : State), s.WarmedH S.vm → S.heap[a]? = some cell → (∀ q ∈ pre, covers q.1 f.pc = true ∧ q.1.catchType ≠ 0 ∧ s.vm.ClassLinks e.platform f.method.cls q.1.catchType q.2 ∧ s.vm.assignable cell.cls q.2 = false) →
      ∃ vm', s.WarmedH vm' ∧ ∀ (Q : Handler → Pre) (E : CtlPost) (d : Bool) (acts : List Action), wp (findHandler.go f a (pre.map (fun q => q.1) ++ x :: rest)) Q E e d acts S ↔ Q (.found x.handlerPc) d acts (S.setVm vm') := by
  have nt : ∀ (S : State) (y : ExceptionTableEntry) (c : ClassId), s.WarmedH S.vm → s.vm.ClassLinks e.platform f.method.cls y.catchType c → s.WarmedH (S.vm.noted f.method.cls y.catchType (.cls c)) ∧ S.vm.ClassLinks e.platform f.method.cls y.catchType c ∧ (∃ k, S.vm.classes[cell.cls]? = some k) ∧ (∃ k, S.vm.classes[c]? = some k) := by
    intro S y c hW hcl
    obtain ⟨dk, _, _, kt, hd, _, _, _, _, hkt, _, hopen⟩ := hcl.here
    obtain ⟨k1, hk1⟩ := hk
    obtain ⟨k1', hk1', -⟩ := hW.alike.2.2 _ _ hk1
    obtain ⟨kt', hkt', -⟩ := hW.alike.2.2 _ _ hkt
    exact ⟨hW.noted hd hopen (State.rightAt_cls hcl), hW.classLinks hcl, ⟨k1', hk1'⟩, ⟨kt', hkt'⟩⟩
  intro pre
  induction pre with
  | nil =>
    intro S hW hcell _
    obtain ⟨n1, n2, n3, n4⟩ := nt S x cT hW hl
    exact ⟨_, n1, fun Q E d acts => (go_one hx h0 n2 hcell hobj n3 n4).1 (by rw [hW.alike.assignable]; exact hfit)⟩
  | cons q pre ih =>
    intro S hW hcell hq
    obtain ⟨q1, q2, q3, q4⟩ := hq q List.mem_cons_self
    obtain ⟨n1, n2, n3, n4⟩ := nt S q.1 q.2 hW q3
    obtain ⟨vm', g1, g2⟩ := ih (S.setVm (S.vm.noted f.method.cls q.1.catchType (.cls q.2))) n1 hcell (fun z hz => hq z (List.mem_cons_of_mem _ hz))
    refine ⟨vm', g1, fun Q E d acts => ?_⟩
    show wp (findHandler.go f a (q.1 :: (pre.map (fun q => q.1) ++ x :: rest))) Q E e d acts S ↔ _
    rw [(go_one q1 q2 n2 hcell hobj n3 n4).2 (by rw [hW.alike.assignable]; exact q4), g2]
    rfl
end XE
section XF
variable {p : Program} {l : Launch} {e : Env} {R : Room} {s : State} {m : MethodId} {args : Array Value} {below : List Frame} {meth : Method} {c : Code} {U : State} {locs : List Loc} {cells slots : Nat}
/-- from a thrown object to the handler that the search finds, whatever it has noted in the tables on its way -/
theorem to_handler {tb : Tables} {S target : State} {g : JFrame} {a : Addr} (h : At S g.method c below) {pc : Nat} {vm' : Vm}
    (hf : ∀ (Q : Handler → Pre) (E : CtlPost) (d : Bool) (acts : List Action), wp (findHandler g a) Q E e d acts ((S.setTop g).pushFrame (.throwing a)) ↔ Q (.found pc) d acts (((S.setTop g).pushFrame (.throwing a)).setVm vm'))
    (hrest : Steps tb e below ((S.setVm vm').setTop { g with pc := pc, stack := [.ref a] }) target) : Steps tb e below ((S.setTop g).pushFrame (.throwing a)) target := by
  obtain ⟨hgo, hw⟩ := h.throwing a
  obtain ⟨g₀, hg⟩ := Option.isSome_iff_exists.mp h.top
  obtain ⟨r, hr⟩ := State.topJava?_eq_some.mp hg
  have hr' : (S.setVm vm').frames = .java g₀ :: r := hr
  have hset : ∀ (u : State) (F K : List Frame), ((u.setFrames F).setVm vm').setFrames K = (u.setVm vm').setFrames K := fun u F K => by
    rw [show (u.setFrames F).setVm vm' = (u.setVm vm').setFrames F from rfl, State.setFrames_setFrames]
  have one : ∀ (U : State) (R : List Frame), (∀ (Q : Handler → Pre) (E : CtlPost) (d : Bool) (acts : List Action), wp (findHandler g a) Q E e d acts U ↔ Q (.found pc) d acts (U.setVm vm')) → (stepThrowing e U a (.java g :: R)).Is ((U.setVm vm').setFrames (.java { g with pc := pc, stack := [.ref a] } :: R)) [] := by
    intro U R hU
    simp only [stepThrowing, searchFrame, vmDo]
    generalize hres : Sem.go _ e false [] U = res
    obtain ⟨as, rfl, ha⟩ := Sem.eq_ok_of hres (a := Handler.found pc) (s' := U.setVm vm') (acts' := []) (by simp [hU _ _ _ _])
    exact ⟨rfl, ha⟩
  refine Steps.head hgo hw ?_
  rw [State.setTop_of_frames _ hr'] at hrest
  rw [stepThread_throwing (frames_entered h.top _), (one _ _ hf).1, hr, List.tail_cons, State.pushFrame, hset, State.setTop_of_frames _ hr, hset]
  exact hrest
/-- an exception caught by an entry behind others that name other classes -/
theorem catch_at (X : Stand p l e R s m args below meth c U locs cells slots) (a : Addr) {g : JFrame} (hg : g.method = m) {own : String} (hown : s.vm.findClass own = some m.cls)
    (pre : List (ExceptionTableEntry × ClassId)) (x : ExceptionTableEntry) (rest : List ExceptionTableEntry) (hsplit : c.exceptionTable.toList = pre.map (fun q => q.1) ++ x :: rest) {cell : Cell} (hcell : U.heap[a]? = some cell) (hobj : cell.vm.isStatics = false)
    (hpre : ∀ q ∈ pre, covers q.1 g.pc = true ∧ q.1.catchType ≠ 0 ∧ (∃ name, (Cond.classLink own q.1.catchType name).before args s = true ∧ s.vm.findClass name = some q.2) ∧ s.vm.assignable cell.cls q.2 = false)
    (hx : covers x g.pc = true) (h0 : x.catchType ≠ 0) {name : String} (hlink : (Cond.classLink own x.catchType name).before args s = true) (hcT : s.vm.findClass name = some cell.cls) :
    ∃ vm', Stand p l e R s m args below meth c (U.setVm vm') locs cells slots ∧
      ∀ target, Steps p.tables e below ((U.setVm vm').setTop { g with pc := x.handlerPc, stack := [.ref a] }) target → Steps p.tables e below ((U.setTop g).pushFrame (.throwing a)) target := by
  have hpl : e.platform.magicAccessors = ({} : Platform).magicAccessors := by rw [X.admits.platform]
  have lk : ∀ (k : Nat) (nm : String) (cc : ClassId), (Cond.classLink own k nm).before args s = true → s.vm.findClass nm = some cc → s.vm.ClassLinks e.platform m.cls k cc := by
    intro k nm cc h1 h2
    obtain ⟨c', hc', hcl⟩ := Cond.classLink_spec hown h1 e.platform hpl
    cases h2.symm.trans hc'
    exact hcl
  obtain ⟨kk, hkk⟩ := Vm.classAt_of_findClass hcT
  have hfit : s.vm.assignable cell.cls cell.cls = true := by
    show s.vm.assignableAux (255 + 1) cell.cls cell.cls = true
    rw [Vm.assignableAux]
    simp
  subst hg
  obtain ⟨vm', g1, g2⟩ := go_chain (e := e) (f := g) (a := a) (s := s) (cell := cell) (x := x) (rest := rest) (cT := cell.cls) (VmData.ne_statics_of hobj) ⟨kk, hkk⟩ hx h0 (lk _ _ _ hlink hcT) hfit pre ((U.setTop g).pushFrame (.throwing a)) (by rw [Stand.throwing_vm]; exact X.warmed) (by rw [Stand.throwing_heap]; exact hcell) (fun q hq => by
    obtain ⟨q1, q2, ⟨nm, q3, q4⟩, q5⟩ := hpre q hq
    exact ⟨q1, q2, lk _ _ _ q3 q4, q5⟩)
  refine ⟨vm', X.noted g1, fun target hrest => ?_⟩
  refine to_handler X.here (pc := x.handlerPc) (vm' := vm') (fun Q E d acts => ?_) hrest
  rw [W.findHandler_eq (s := (U.setTop g).pushFrame (.throwing a)) (meth := meth) (code := c) (by rw [Stand.throwing_vm]; exact X.method') X.code, hsplit]
  exact g2 Q E d acts
end XF
/-- the three exceptions are of three kinds -/
def NC (D : va_G) (s : State) : Prop := s.vm.assignable (D.1 11) (D.1 10) = false ∧ s.vm.assignable (D.1 12) (D.1 10) = false ∧ s.vm.assignable (D.1 12) (D.1 11) = false
def G1 (kd : Nat → Option Nat) (D : va_G) (tc : Nat → ClassId) (L : Nat) (xs : Nat → Int32) (A : Nat → Prop) (s : State) : Prop := G0 kd D tc L xs A s ∧ NC D s
section XG
variable {kd : Nat → Option Nat} {D : va_G} {tc : Nat → ClassId} {L : Nat} {xs : Nat → Int32}
theorem g1_ok : dx_Gok (G1 kd D tc L xs) := by
  intro A A' s U h hz hq hW hA
  refine ⟨g0_ok A A' s U h.1 hz hq hW hA, ?_⟩
  obtain ⟨n1, n2, n3⟩ := h.2
  refine ⟨?_, ?_, ?_⟩
  · rw [hW.alike.assignable]
    exact n1
  · rw [hW.alike.assignable]
    exact n2
  · rw [hW.alike.assignable]
    exact n3
theorem ct_G1 {l : Launch} {Z : dx_Z} {y : MethodName} {d : Nat} {av : List Value} {σ σ' : dx_S} {o : dx_O} (h : dx_Ct l D nm_cl tc kd Z (G0 kd D tc L xs) lw_ws y d av σ o σ') : dx_Ct l D nm_cl tc kd Z (G1 kd D tc L xs) lw_ws y d av σ o σ' := by
  intro ad sz p e ha hc hk s m args below hf happ hP hK
  exact h ad sz p e ha hc hk s m args below hf happ ⟨hP.1, hP.2.1, hP.2.2.1.1, hP.2.2.2⟩ hK
theorem gd_G1 {M pc : Nat} {x : dx_I} {Z : dx_Z} (h : dx_gd nm_cl nm_ql kd Z (G0 kd D tc L xs) lw_ws tb_Y tb_B M pc x) : dx_gd nm_cl nm_ql kd Z (G1 kd D tc L xs) lw_ws tb_Y tb_B M pc x := ⟨h.1, h.2.1, fun A s args h1 h2 => h.2.2 A s args h1 h2.1⟩
theorem ck4_163 : tb_m163x.all (fun q => !(dx_kd q.2 == 5) || decide (q.1 = 4)) = true := by decide +kernel
theorem no_code {d M : Nat} {av : List Value} {σ σ' : dx_S} {o : dx_O} (hM : ¬ M < 163) : ¬ dx_V (tb_Z L xs) d M av σ o σ' := by
  intro h
  cases d with
  | zero => exact h
  | succ d =>
    obtain ⟨-, n, hX⟩ := h
    cases n with
    | zero => exact hX
    | succ n =>
      obtain ⟨x, hx, -⟩ := hX
      have h1 : dx_at (tb_L M) 0 = some x := hx
      have e : tb_L M = [] := by
        unfold tb_L
        rw [List.getD_eq_getElem?_getD, List.getElem?_eq_none (by rw [show tb_LL.length = 163 by decide +kernel]; omega)]
        rfl
      rw [e] at h1
      cases h1
theorem ct_call {l : Launch} (htr : l.stackTraces = false) {d M : Nat} {av : List Value} {σ σ' : dx_S} {o : dx_O} (h : dx_V (tb_Z L xs) d M av σ o σ') (hs : dx_ks σ.length σ) (ht : dx_kt σ.length av) :
    dx_Lf (tb_Zl L xs) σ o σ' ∧ dx_Ct l D nm_cl tc kd (tb_Zl L xs) (G1 kd D tc L xs) lw_ws (tb_Y M) d av σ o σ' := by
  by_cases hM : M < 163
  · have h1 := ct_Z (kd := kd) (D := D) (tc := tc) htr hM h hs ht
    exact ⟨lf_Z2 (c1 := (tb_Z L xs).1) (c2 := (tb_Zl L xs).1) (r := (tb_Z L xs).2) h1.1, ct_G1 (ct_Z2 (c1 := (tb_Z L xs).1) (c2 := (tb_Zl L xs).1) (r := (tb_Z L xs).2) h1.2)⟩
  · exact absurd h (no_code hM)
theorem ob_cls {D : va_G} {ad : Nat → Nat} {σ : dx_S} {y c : Nat} {H : Heap} (hy : σ[y]? = some (.inr (c, []))) (hP : va_P D nm_cl (dx_w tc kd ad σ) H) : ∃ cell : Cell, H[ad y]? = some cell ∧ cell.cls = D.1 c ∧ cell.vm.isStatics = false := by
  have h1 := hP y _ (dx_w_at hy)
  obtain ⟨r, -, cell, h2, h3, h4, -⟩ := h1
  exact ⟨cell, h2, h3, by rw [h4]; rfl⟩
theorem nm_at {A : Nat → Prop} {s : State} (hG : G0 kd D tc L xs A s) : s.vm.findClass "java/lang/IllegalArgumentException" = some (D.1 10) ∧ s.vm.findClass "java/lang/ArithmeticException" = some (D.1 11) ∧ s.vm.findClass "java/lang/IllegalStateException" = some (D.1 12) := ⟨(hG.1.1 10 _ rfl).2.1, (hG.1.1 11 _ rfl).2.1, (hG.1.1 12 _ rfl).2.1⟩
set_option maxHeartbeats 8000000 in
theorem ct_163 {l : Launch} (htr : l.stackTraces = false) {d : Nat} {av : List Value} {σ σ' : dx_S} {o : dx_O} (h : LR L xs d av σ o σ') (hs : dx_ks σ.length σ) (ht : dx_kt σ.length av) :
    dx_Lf (tb_Zl L xs) σ o σ' ∧ dx_Ct l D nm_cl tc kd (tb_Zl L xs) (G1 kd D tc L xs) lw_ws (tb_Y 163) (d + 1) av σ o σ' := by
  obtain ⟨w, rfl, hci, h⟩ := h
  have run : ∀ (o1 : dx_O) (σ1 : dx_S), dx_V (tb_Z L xs) d 13 [.ref 0, .int w] σ o1 σ1 → ∀ Q, lx_K (tb_Zl L xs) (dx_V (tb_Z L xs) d) 163 7 (lv_args 0 [.ref 0, .int w, .ref 45]) [.int 0, .ref 45] Q o1 σ1 → lx_W (tb_Zl L xs) (dx_V (tb_Z L xs) d) 163 0 (lv_args 0 [.ref 0, .int w, .ref 45]) [] σ Q := by
    intro o1 σ1 hV Q hQ
    refine w_163_0.mpr (wR_go (y := 45) rfl ?_)
    refine w_163_1.mpr ?_
    refine w_163_2.mpr (wR_go (y := 0) rfl ?_)
    refine w_163_3.mpr ?_
    show lx_W (tb_Zl L xs) _ 163 4 (lv_args 0 [.ref 0, .int w, .ref 45]) [.int w, .ref 0, .int 0, .ref 45] σ Q
    exact w_163_4.mpr ⟨⟨Nat.le_of_ble_eq_true rfl, hci⟩, o1, σ1, hV, hQ⟩
  have gen : ∀ (o1 : dx_O) (n : Nat), dx_X (tb_Zl L xs) (dx_V (tb_Z L xs) d) 163 n 0 (lv_args 0 [.ref 0, .int w, .ref 45]) [] σ o1 σ' → (∃ v, o = .inl v) → (∀ v, o1 = .inl v → o1 = o) → dx_ko σ'.length o → (∀ y, o1 = .inr y → ∃ c, σ'[y]? = some (.inr (c, [])) ∧ (c = 10 ∨ c = 11 ∨ c = 12) ∧ o = .inl (some (.int (nI (c - 9))))) → dx_Lf (tb_Zl L xs) σ o σ' ∧ dx_Ct l D nm_cl tc kd (tb_Zl L xs) (G1 kd D tc L xs) lw_ws (tb_Y 163) (d + 1) [.ref 0, .int w, .ref 45] σ o σ' := by
    intro o1 n hX ho ho1 hko hth
    refine dx_H_ct (ql := nm_ql) (Y := tb_Y) (Bt := tb_B) (M := 163) (hds := hd_163) lw_wk g1_ok (fun A s h => ⟨h.1.1, h.1.2.1⟩) (fun pc x hx => gd_G1 (gdl_163 pc x hx)) gml_163 k7_163 kk_ok dv_ok (fun M' av σ o σ' h hs ht => ct_call htr h hs ht) (by decide +kernel) cw_163 (Nat.le_of_ble_eq_true rfl) hX hs ht ho ho1 hko ?_
    intro p e R s m args below meth c A pc x ls rest y ad U locs cells slots hx1 hk5 hy hts hG hown htab X hP
    obtain ⟨cc, hyc, hcc, ho2⟩ := hth y hy
    obtain ⟨cell, hcell, hcls, hobj⟩ := ob_cls hyc hP
    obtain ⟨f1, f2, f3⟩ := nm_at hG.1
    obtain ⟨n1, n2, n3⟩ := hG.2
    have hpc : pc = 4 := by
      have h1 := List.all_eq_true.mp ck4_163 _ (zl_163 hx1)
      simp only [Bool.or_eq_true, Bool.not_eq_true', beq_eq_false_iff_ne, decide_eq_true_eq] at h1
      exact h1.resolve_left (fun z => z hk5)
    subst hpc
    have htl : ∃ x1 x2 x3 : ExceptionTableEntry, c.exceptionTable.toList = [x1, x2, x3] ∧ (x1.startPc, x1.endPc, x1.handlerPc, x1.catchType) = (0, 9, 12, 13) ∧ (x2.startPc, x2.endPc, x2.handlerPc, x2.catchType) = (0, 9, 15, 15) ∧ (x3.startPc, x3.endPc, x3.handlerPc, x3.catchType) = (0, 9, 18, 17) := by
      unfold hd_163 at htab
      generalize c.exceptionTable.toList = tl at htab
      rcases tl with _ | ⟨x1, _ | ⟨x2, _ | ⟨x3, _ | ⟨x4, tl⟩⟩⟩⟩
      · simp at htab
      · simp at htab
      · simp at htab
      · simp only [List.map_cons, List.map_nil, List.cons.injEq, and_true] at htab
        exact ⟨x1, x2, x3, rfl, htab.1, htab.2.1, htab.2.2⟩
      · simp at htab
    obtain ⟨x1, x2, x3, hl, e1, e2, e3⟩ := htl
    simp only [Prod.mk.injEq] at e1 e2 e3
    have cv : ∀ z : ExceptionTableEntry, z.startPc = 0 → z.endPc = 9 → covers z 4 = true := by
      intro z h1 h2
      unfold covers
      rw [h1, h2]
      decide
    have hnd : ∀ (pc2 : Nat) (k : Int32), o = .inl (some (.int k)) → (∀ Q : dx_O → dx_S → Prop, Q (.inl (some (.int k))) σ' → lx_W (tb_Zl L xs) (dx_V (tb_Z L xs) d) 163 pc2 [] [.ref y] σ' Q) → ∃ n2, dx_X (tb_Zl L xs) (dx_V (tb_Z L xs) d) 163 n2 pc2 [] [.ref y] σ' o σ' := by
      intro pc2 k hok hw
      obtain ⟨n2, o2, s2, g1, g2, g3⟩ := hw (fun o' s' => o' = o ∧ s' = σ') ⟨hok.symm, rfl⟩
      subst g2 g3
      exact ⟨n2, g1⟩
    rcases hcc with rfl | rfl | rfl
    · obtain ⟨vm', g1, g2⟩ := catch_at X (ad y) (g := F0 m 4 ls rest) rfl hown [] x1 [x2, x3] hl hcell hobj (fun q hq => by cases hq) (cv _ e1.1 e1.2.1) (by rw [e1.2.2.2]; decide) (by rw [e1.2.2.2]; exact hts _ cl_163.1) (by rw [hcls]; exact f1)
      obtain ⟨n2, hX2⟩ := hnd 12 _ ho2 (fun Q hQ => w_163_12.mpr (w_163_13.mpr (w_163_14.mpr hQ)))
      refine ⟨12, n2, vm', hX2, g1, fun target hst => g2 target ?_⟩
      rw [e1.2.2.1]
      exact hst
    · obtain ⟨vm', g1, g2⟩ := catch_at X (ad y) (g := F0 m 4 ls rest) rfl hown [(x1, D.1 10)] x2 [x3] hl hcell hobj (fun q hq => by
        cases List.mem_singleton.mp hq
        exact ⟨cv _ e1.1 e1.2.1, by rw [e1.2.2.2]; decide, ⟨_, by rw [e1.2.2.2]; exact hts _ cl_163.1, f1⟩, by rw [hcls]; exact n1⟩) (cv _ e2.1 e2.2.1) (by rw [e2.2.2.2]; decide) (by rw [e2.2.2.2]; exact hts _ cl_163.2.1) (by rw [hcls]; exact f2)
      obtain ⟨n2, hX2⟩ := hnd 15 _ ho2 (fun Q hQ => w_163_15.mpr (w_163_16.mpr (w_163_17.mpr hQ)))
      refine ⟨15, n2, vm', hX2, g1, fun target hst => g2 target ?_⟩
      rw [e2.2.2.1]
      exact hst
    · obtain ⟨vm', g1, g2⟩ := catch_at X (ad y) (g := F0 m 4 ls rest) rfl hown [(x1, D.1 10), (x2, D.1 11)] x3 [] hl hcell hobj (fun q hq => by
        rcases List.mem_cons.mp hq with rfl | hq
        · exact ⟨cv _ e1.1 e1.2.1, by rw [e1.2.2.2]; decide, ⟨_, by rw [e1.2.2.2]; exact hts _ cl_163.1, f1⟩, by rw [hcls]; exact n2⟩
        · cases List.mem_singleton.mp hq
          exact ⟨cv _ e2.1 e2.2.1, by rw [e2.2.2.2]; decide, ⟨_, by rw [e2.2.2.2]; exact hts _ cl_163.2.1, f2⟩, by rw [hcls]; exact n3⟩) (cv _ e3.1 e3.2.1) (by rw [e3.2.2.2]; decide) (by rw [e3.2.2.2]; exact hts _ cl_163.2.2) (by rw [hcls]; exact f3)
      obtain ⟨n2, hX2⟩ := hnd 18 _ ho2 (fun Q hQ => w_163_18.mpr (w_163_19.mpr (w_163_20.mpr hQ)))
      refine ⟨18, n2, vm', hX2, g1, fun target hst => g2 target ?_⟩
      rw [e3.2.2.1]
      exact hst
  rcases h with ⟨k, σ1, hV, hpl, rfl⟩ | ⟨y, c, hV, hy, hc, rfl⟩
  · have hW := run _ _ hV (fun o' s' => o' = .inl (some (.int 0)) ∧ s' = σ') (by
      show lx_W (tb_Zl L xs) _ 163 7 _ [.int k, .int 0, .ref 45] σ1 _
      refine w_163_7.mpr ?_
      refine w_163_8.mpr (wO_go hpl ?_)
      refine w_163_9.mpr ?_
      refine w_163_21.mpr ?_
      exact w_163_22.mpr ⟨rfl, rfl⟩)
    obtain ⟨n, o2, s2, g1, g2, g3⟩ := hW
    subst g2 g3
    exact gen _ n g1 ⟨_, rfl⟩ (fun _ _ => rfl) trivial (fun y hy => by cases hy)
  · have hW := run _ _ hV (fun o' s' => o' = .inr y ∧ s' = σ') ⟨rfl, rfl⟩
    obtain ⟨n, o2, s2, g1, g2, g3⟩ := hW
    subst g2 g3
    exact gen _ n g1 ⟨_, rfl⟩ (fun v hv => by cases hv) trivial (fun y' hy' => by cases hy'; exact ⟨c, hy, hc, rfl⟩)
end XG
