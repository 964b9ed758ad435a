/-! THE CLAIM OUT OF ONE WALK OF THE LAW'S BODY. Your part is whole_start (and what it stands on); all else here is the same for every law, but numbers. -/
def R_law : String := "DecimalRunLaw"
def lw_P (b : Addr) (xs : List Int32) (args : Array Value) (s : State) : Prop := args = #[.ref b] ∧ s.IntsAt b xs ∧ xs.length ≤ 1024 ∧ (Jvm.Cond.and given_1 narrow_1).before args s = true
def lw_Q (_ : Array Value) (s : State) (o : Outcome) (t : State) : Prop := o = .returned (some (.int 1)) ∧ Framed s o t [] 601024 7293034
def lw_Z (below : List Frame) (a : Array Value) (s : State) : State → Prop := fun t => ∃ o, t.status = .running ∧ Ended t below o ∧ lw_Q a s o t
/-- the law's own end, with 1 on the stack, nothing written that was there before, its room as the claim has it -/
theorem lw_ret {p : Program} {l : Launch} {e : Env} {s : State} {m : MethodId} {below : List Frame} {meth : Method} {c : Code} {b : Nat} (hx : p.tables.exec = Jvm.exec) (hb : c.code = code) (hr : meth.sig.returnType = ret) (hlocks : meth.locks = false) {pc : Nat} {H : Heap} {ls : Array Slot} (hdg : decode code pc = .ok (.ireturn, 1)) : W p l e room_1 s m #[Value.ref b] below meth c H [] 601024 7293034 (lw_Z below #[Value.ref b] s) (F0 m pc ls [.int 1]) := by
  intro T hT X
  obtain ⟨fs, hret, hrun, hended, hW, hframe⟩ := X.leave (v := some (.int 1)) (hlocks := hlocks) (fun h => by rw [hr] at h; cases h)
  have hmeth' : T.vm.method? m = some meth := X.method'
  refine ⟨T.setFrames fs, ?_, .returned (some (.int 1)), hrun, hended, rfl, ⟨_, rfl⟩, hW, hframe⟩
  jvm_step X.here [X.here.top, hx, hb, hdg, hmeth', hr, ret, narrow_b1]
  (try refine ⟨rfl, ?_⟩); (try refine ⟨rfl, ?_⟩)
  first | (intro acts; rw [hret _ acts rfl rfl rfl]) | rw [hret _ _ rfl rfl rfl]
  exact Steps.refl _
theorem drop_locs {s s' : State} {locs : List Loc} {k n k' n' : Nat} (h : s.sameButNew s' locs k n) (hl : ∀ q ∈ locs, s.heap.size ≤ q.base) (hk : k ≤ k') (hn : n ≤ n') : s.sameButNew s' [] k' n' := by
  obtain ⟨h1, h2, h3, h4, h5, h6⟩ := h
  refine ⟨h1, h2, by omega, h4, by omega, fun a c hc => ?_⟩
  obtain ⟨c', g1, g2, g3, g4⟩ := h6 a c hc
  refine ⟨c', g1, g2, g3, fun i _ => g4 i (fun hi => ?_)⟩
  have := hl _ hi
  have ha := (Array.getElem?_eq_some_iff.mp hc).1
  have hb : s.heap.size ≤ a := this
  omega
theorem sl_j {Z : dx_Z} (hz : Z.2.2.2.2.1 = tb_s) : ∀ j : dx_S, JO j → dx_sl Z j ≤ 6 * j.length
  | [], _ => Nat.zero_le _
  | x :: j, h => by
    obtain ⟨k, rfl⟩ := h x List.mem_cons_self
    have ih := sl_j hz j (fun y hy => h y (List.mem_cons_of_mem _ hy))
    have e : dx_sl Z (.inr (exc k, []) :: j) = Z.2.2.2.2.1 (exc k) + dx_sl Z j := rfl
    have e6 : tb_s (exc k) = 6 := by
      unfold exc
      split
      · decide
      · split <;> decide
    rw [e, hz, e6, List.length_cons]
    omega
theorem tzs {L : Nat} {xs : Nat → Int32} : (tb_Zl L xs).2.2.2.2.1 = tb_s := rfl
theorem mk_ap {xi : Nat → Int32} {xa : Nat → Nat → Int32} {xl : Nat → Nat → Int64} {j : dx_S} : mk xi xa xl j = mk xi xa xl [] ++ j := rfl
theorem sl_0 {xi : Nat → Int32} {xa : Nat → Nat → Int32} {xl : Nat → Nat → Int64} {L : Nat} {xs : Nat → Int32} : (mk xi xa xl []).map (dx_sz (tb_Zl L xs)) = [7, 2, 200, 2, 26, 5, 300, 5, 600, 600, 26, 26, 5, 201, 201, 5, 11, 140, 4, 4, 4, 2, 40, 200, 26, 26, 210, 210, 210, 1200, 1200, 1200, 26, 26, 600, 600, 600, 300, 300, 5, 5, 5, 5, 5, 300, 1] := rfl
theorem sl_mk {xi : Nat → Int32} {xa : Nat → Nat → Int32} {xl : Nat → Nat → Int64} {j : dx_S} {L : Nat} {xs : Nat → Int32} (h : JO j) : dx_sl (tb_Zl L xs) (mk xi xa xl j) ≤ 20000 + 6 * j.length := by
  have h1 : dx_sl (tb_Zl L xs) j ≤ 6 * j.length := sl_j tzs j h
  have e : dx_sl (tb_Zl L xs) (mk xi xa xl j) = 9676 + dx_sl (tb_Zl L xs) j := by
    unfold dx_sl
    rw [mk_ap, List.map_append, List.sum_append, sl_0]
    rfl
  omega
set_option maxHeartbeats 8000000 in
/-- from the entry, for every script of at most 1024 ints, the law comes to its end with true -/
theorem whole_start {p : Program} {e : Env} {s : State} {m : MethodId} {below : List Frame} {meth : Method} {c : Code} (l : Launch) (htr : l.stackTraces = false) {b L : Nat} {xs : Nat → Int32} (hL : L ≤ 1024) (hnm : meth.name = "law") (hx : p.tables.exec = Jvm.exec) (hb : c.code = code) (hr : meth.sig.returnType = ret) (hml : c.maxLocals = 7) (hown : s.vm.findClass R_law = some m.cls) (hts : ∀ w ∈ lw_tbl, w.before #[Value.ref b] s = true) (hX : va_X b L xs s s.heap) (hbl : b < s.heap.size) (hlocks : meth.locks = false) (hgv : (Jvm.Cond.and given_1 narrow_1).before #[Value.ref b] s = true) : W p l e room_1 s m #[Value.ref b] below meth c s.heap [] 0 0 (lw_Z below #[Value.ref b] s) (entryFrame m ([Value.ref b] : List Value).toArray 7) := by
  obtain ⟨D, tc, kd, h14, hG⟩ := st_G (ad := fun _ => 0) hts hX hbl hgv
  have run := law_all (L := L) (xs := xs) (d := 0) (by omega)
  obtain ⟨n, o, σ', hXr, ho, xi, xa, xl, j, hσ, hJ, hj⟩ := run
  subst ho hσ
  have hlen : (mk xi xa xl j).length = 46 + j.length := by
    rw [Nat.add_comm]
    rfl
  have hsl := sl_mk (xi := xi) (xa := xa) (xl := xl) (L := L) (xs := xs) hJ
  have hws : ∀ w ∈ lw_ws, w.before #[Value.ref b] s = true := fun w hw => hts w (List.mem_filter.mp hw).1
  have hcall : ∀ M' av σ o σ', cal L xs 127 M' av σ o σ' → dx_ks σ.length σ → dx_kt σ.length av → dx_Lf (tb_Zl L xs) σ o σ' ∧ dx_Ct l D nm_cl tc kd (tb_Zl L xs) (G1 kd D tc L xs) lw_ws (tb_Y M') 128 av σ o σ' := by
    intro M' av σ o σ' h h1 h2
    unfold cal at h
    by_cases hM : M' = 163
    · rw [if_pos hM] at h
      subst hM
      exact ct_163 htr h h1 h2
    · rw [if_neg hM] at h
      exact ct_call htr h h1 h2
  have hP0 : va_P D nm_cl (dx_w tc kd (fun _ => 0) []) s.heap := fun k q hq => by cases hq
  have key := dx_X_sndG (p := p) (l := l) (e := e) (R := room_1) (s := s) (m := m) (args := #[Value.ref b]) (below := below) (meth := meth) (c := c) (Q := lw_Z below #[Value.ref b] s) (D := D) (cl := nm_cl) (ql := nm_ql) (tc := tc) (kd := kd) (Z := tb_Zl L xs) (A := va_A (dx_w tc kd (fun _ => 0) []) s.heap.size) (G := G1 kd D tc L xs) (WS := lw_ws) (Y := tb_Y) (Bt := tb_B) (call := cal L xs 127) (M := 164) (d := 128) (n0 := 0) (k0 := 0) (l0 := 0) (ad0 := fun _ => 0) (o := .inl (some (.int 1))) (σ' := mk xi xa xl j)
    hx hb hml hown hnm hws lw_wk g1_ok hG (fun A s h => ⟨h.1.1, h.1.2.1⟩) (fun pc x hx => gd_G1 (gdl_164 pc x hx)) gml_164 k7_164 kk_ok dv_ok (fun q h => Or.inr h) (dx_stat hP0) hcall (fun M' av σ o σ' h h1 h2 => (hcall M' av σ o σ' h h1 h2).1)
    (by show 128 + 9 ≤ 2048; decide) (by show 64 * (128 + 1) + 200 ≤ 84000; decide) (by rw [hlen]; show 46 + j.length ≤ 0 + 601024; omega) (by show _ ≤ 0 + 7293034; omega)
    (fun pc x len st v ad1 H locs ls hd hn hrt ho k1 k2 k3 k4 => by
      rcases dx_rt_e hrt with ⟨hi, y, ty, hst, hv, hty, hnar⟩ | ⟨hi, y, hst, hv, hty⟩ | ⟨hi, hst, hv, hty⟩
      · rw [hi] at hd hn
        have hlen1 : len = 1 := dx_ln hn (by decide)
        subst hlen1
        subst hst hv
        cases ho
        intro T hT X
        have X' : Stand p l e room_1 s m #[Value.ref b] below meth c T [] 601024 7293034 := ⟨X.admits, X.cas, X.clock, X.frames, X.room, X.hears, X.method, X.code, X.here, X.tail, X.warmed, X.limits, X.bytes, drop_locs X.same (fun q hq => by
          rcases k3.2.2 q hq with ⟨k, e, h⟩ | h
          · cases h
          · exact h) (by rw [hlen]; omega) (by omega)⟩
        exact lw_ret hx hb hr hlocks hd T hT X'
      · cases ho.trans (by rw [hv])
      · cases ho.trans (by rw [hv]))
    (fun pc x ls rest y ad1 U locs _ _ _ hy => by cases hy)
    n 0 [(0, .retAddr 14)] [] [] (fun _ => 0) s.heap []
  have e14 : ([Value.retAddr 14] : List Value).map (dx_v kd (fun _ => 0)) = [Value.ref b] := by
    show [va_rf (kd 14)] = [Value.ref b]
    rw [h14]
    rfl
  have fin := key _ hXr (by
    rw [show ([(0, Value.retAddr 14)] : dx_L) = lv_args 0 [Value.retAddr 14] from rfl, ← dx_vl_args]
    exact lv_entry (([Value.retAddr 14] : List Value).map (dx_v kd (fun _ => 0))) (n := 7) (by rw [dx_lg_len]; decide)) hP0 ⟨fun i j p q h => (by cases h), fun k q h => (by cases h)⟩ va_S.rf (fun x hx => by cases hx) (fun q hq => by cases List.mem_singleton.mp hq; exact trivial) (fun v hv => by cases hv) (fun _ _ => rfl) (Nat.le_refl _) (Nat.le_refl _) (Nat.zero_le _)
  rw [e14] at fin
  rw [lg_entry_eq]
  exact fin
set_option maxHeartbeats 4000000 in
theorem lw_walk (l : Launch) (htr : l.stackTraces = false) (b : Addr) (xs : List Int32) : MetFree l x (headSpec (Jvm.Cond.code x code maxLocals ret :: tables_1) room_1) (lw_P b xs) (fun _ _ _ _ _ => True) lw_Q := by
  refine MetFree.of_bodyS (code := code) (maxLocals := maxLocals) (ret := ret) (by decide) ?_ ?_
  · intro args s m h hn
    obtain ⟨meth, c, h1, h2, h3, h4, h5, h6, -, -⟩ := Cond.code_spec hn (atoms_spec (ws := Jvm.Cond.code x code maxLocals ret :: tables_1) h _ List.mem_cons_self)
    exact ⟨meth, c, h1, h2, h3, h4, h5, h6⟩
  · intro p e s m args below meth c s₁ B hml0 hP _
    obtain ⟨rfl, hx, hbd, hgv⟩ := hP
    obtain ⟨scr, harrAt, hlist, hof, hsmall⟩ := hx
    obtain ⟨hcb, hkn, -, -⟩ := State.arrayAt?_spec harrAt
    have hown : s.vm.findClass R_law = some m.cls := findClass_of_methodNamed B.named
    have hts0 : ∀ c ∈ (Jvm.Cond.code x code maxLocals ret :: tables_1), c.before #[Value.ref b] s = true := atoms_spec (ws := Jvm.Cond.code x code maxLocals ret :: tables_1) B.pre
    have hts : ∀ w ∈ lw_tbl, w.before #[Value.ref b] s = true := k2_hts_sels lw_privs (fun w hw => hts0 w (List.mem_cons_of_mem _ hw)) lw_privs_ok
    have hml : c.maxLocals = 7 := B.maxLocals_eq (hts0 _ List.mem_cons_self)
    have X₀ : Stand p l e room_1 s m #[Value.ref b] below meth c s₁ [] 0 0 := Stand.of_body B
    have hh0 : s₁.heap = s.heap := by rw [B.state]; rfl
    have hsz : scr.slots.size = xs.length := by rw [← Array.length_toList, hlist, List.length_map]
    have hval : ∀ j : Nat, j < xs.length → scr.slots[j]? = some (.int (xs.getD j 0)) := fun j hj => by
      rw [← Array.getElem?_toList, hlist]
      simp [hj]
    have hbl : b < s.heap.size := (Array.getElem?_eq_some_iff.mp hcb).1
    have hX : va_X b xs.length (fun j => xs.getD j 0) s s.heap := ⟨scr, hcb, hof, hkn, hsz, hval⟩
    have K : W p l e room_1 s m #[Value.ref b] below meth c s₁.heap [] 0 0 (lw_Z below #[Value.ref b] s) (entryFrame m ([Value.ref b] : List Value).toArray 7) := by
      rw [hh0]
      exact whole_start l htr hbd (name_of_methodNamed B.named B.method).1 B.exec B.bytes B.returns hml hown hts hX hbl B.notSynchronized hgv
    obtain ⟨t, a1, o, b1, b2, b3⟩ := K s₁ rfl X₀
    exact ⟨t, o, a1, b1, b2, b3⟩
theorem lw_pre_spec {args : Array Value} {s : State} (h : (Jvm.Cond.and given_1 narrow_1).before args s = true) (hr : rest_1_c.before args s = true) : ∃ (b : Addr) (xs : List Int32), lw_P b xs args s := by
  have hs := flat_of_before _ h
  have hq := flat_of_before _ hr
  have hc : (Cond.count 1).before args s = true := hs _ (by decide +kernel)
  have harr : (Cond.arrayOf (.arg 0) .int).before args s = true := hs _ (by decide +kernel)
  have hle : (Cond.le (.length (.arg 0)) (.int 1024)).before args s = true := hs _ (by decide +kernel)
  have hlen : (Cond.isInt (.length (.arg 0))).before args s = true := hq _ (by decide +kernel)
  have hall : (Cond.all (.arg 0) (.isInt (.elem (.arg 0) (.index 0)))).before args s = true := hq _ (by decide +kernel)
  obtain ⟨b, xs, hb, hx⟩ := State.ints_of_pre rfl harr hlen hall
  have hsm : xs.length < 2 ^ 31 := hx.choose_spec.2.2.2
  have hev : (Term.length (.arg 0)).eval args s none [] s = some (.int xs.length.toInt32) := hx.length_eval hb
  have hv := Cond.le_ints hev (show (Term.int 1024).eval args s none [] s = some (.int 1024) from rfl)
  have hd : xs.length.toInt32 ≤ 1024 := by
    simpa [Cond.before, Cond.holds, hv] using hle
  have hN : xs.length ≤ 1024 := (Int32.ofNat_le_ofNat hsm (by decide)).mp (show Int32.ofNat xs.length ≤ Int32.ofNat 1024 from hd)
  exact ⟨b, xs, Cond.one_arg hc (show args[0]? = some (.ref b) from hb), hx, hN, h⟩
theorem lw_comes (l : Launch) (htr : l.stackTraces = false) : Comes l x (Jvm.Cond.code x code maxLocals ret :: tables_1) room_1 (fun tb e args s => Calls_1 tb e args s ∧ rest_1 tb e args s ∧ Pre_1 tb e args s)
    (fun _ _ args s o t => lw_Q args s o t) := by
  intro p e ha hc hk s m args below hf hfit hheap happ hpre
  obtain ⟨b, xs, hP⟩ := lw_pre_spec hpre.2.2 hpre.2.1
  obtain ⟨k, o, h1, h2, h3, hQ⟩   := lw_walk l htr b xs p e ha hc hk s m args below hf ((Spec.applies_iff_loose hf).mp happ).1 hP trivial
  exact ⟨k, o, h1, h2, h3, hQ⟩
theorem lw_frame {s t : State} {o : Outcome} {args : Array Value} (h : Framed s o t [] 601024 7293034) :
    Framed s o t (fieldLocs frame_1_writes args s ++ arrayLocs frame_1_arrays args s ++ staticLocs frame_1_statics s) 601024 7293034 := h
theorem lw_limb (L : Cond) (hL : ∀ (args : Array Value) (s t : State), L.after args s (.returned (some (.int 1))) t = true) :
    ArmFor flags0 classFile x code maxLocals ret World_1 tables_1 room_1 Calls_1 rest_1 Pre_1
      (fun tb e a s o t => postC L tb e a s o t ∧ Framed s o t (fieldLocs frame_1_writes a s ++ arrayLocs frame_1_arrays a s ++ staticLocs frame_1_statics s) 601024 7293034) := by
  intro l hfl _ _ p e ha hc hk s m args below hf hfit hheap happ hpre
  have htr : l.stackTraces = false := by
    unfold Launch.stackTraces
    rw [hfl]
    unfold flags0
    simp
  obtain ⟨k, o, h1, h2, h3, rfl, hF⟩ := lw_comes l htr p e ha hc hk s m args below hf hfit hheap happ hpre
  exact ⟨k, _, h1, h2, h3, hL args s _, lw_frame hF⟩
theorem i_vc : Claimed_1_1 ∧ Claimed_1_2 := ⟨lw_limb limb_1_1 (fun args s t => by simp [limb_1_1, Cond.after, Cond.holds, Cond.value]), lw_limb limb_1_2 (fun args s t => Cond.after_iff.mpr (by
  first | (rw [show limb_1_2 = Cond.eq .result (.int 1) from rfl, Cond.eq_ints (x := 1) (y := 1) rfl rfl]; simp; done) | (simp [limb_1_2, Cond.value, Term.eval]; done)))⟩
