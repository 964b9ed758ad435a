/-! The real machine follows a run of the small one; contracts. -/
section DXZ
variable {p : Program} {l : Launch} {e : Env} {R : Room} {s : State} {m : MethodId} {args : Array Value} {below : List Frame} {meth : Method} {c : Code} {Q : State → Prop}
variable {D : va_G} {cl : List vw_C} {ql : Nat → Option vw_C} {tc : Nat → ClassId} {kd : Nat → Option Nat} {Z : dx_Z} {A : Nat → Prop} {G : (Nat → Prop) → State → Prop} {WS : List Cond} {Y : Nat → MethodName} {Bt : Nat → ByteArray}
theorem dx_len5 {x : dx_I} (h : dx_kd x = 5 ∨ dx_kd x = 6) : dx_len x.1 = 3 := by
  obtain ⟨i, xa, xb, xf, xv⟩ := x
  cases i <;> first
    | rfl
    | (rcases h with h | h <;> (first | (cases h; done) | (unfold dx_kd at h; dsimp only at h; split at h <;> cases h)))
set_option maxHeartbeats 8000000 in
theorem dx_X_snd {call : Nat → List Value → dx_S → dx_O → dx_S → Prop} {M d n0 k0 l0 : Nat} {ad0 : Nat → Nat} {o : dx_O} {σ' : dx_S}
    (hx : p.tables.exec = Jvm.exec) (hb : c.code = Bt M) (hml : c.maxLocals = Z.2.2.1 M) (hown : s.vm.findClass (Y M).cls = some m.cls) (hnm : meth.name = (Y M).name) (hlocks : meth.locks = false) (hout : c.exceptionTable.isEmpty = true) (htr : l.stackTraces = false)
    (hts : ∀ w ∈ WS, w.before args s = true) (hws : ∀ w ∈ WS, dx_wk w) (hGok : dx_Gok G) (hGA : G A s) (hGK : ∀ A s, G A s → va_K D cl (dx_tys tc) s ∧ dx_C ql Z.2.1 kd A s)
    (hgd : ∀ pc x, Z.1 M pc = some x → dx_gd cl ql kd Z G WS Y Bt M pc x) (hgm : ∀ pc x, Z.1 M pc = some x → dx_kd x = 5 → dx_gm WS Y Bt Z x.2.1) (hKK : dx_kK Z.2.1) (hdv : ∀ k, ∀ v ∈ Z.2.2.2.1 k, dx_kv 0 v)
    (hA : ∀ q, s.heap.size ≤ q → A q) (hst : ∀ q : Nat, A q → ∀ cell, s.heap[q]? = some cell → cell.vm.isStatics = false)
    (hcall : ∀ M' av σ o σ', call M' av σ o σ' → dx_ks σ.length σ → dx_kt σ.length av → dx_gm WS Y Bt Z M' → dx_Lf Z σ o σ' ∧ dx_Ct l D cl tc kd Z G WS (Y M') d av σ o σ')
    (hcl : ∀ M' av σ o σ', call M' av σ o σ' → dx_ks σ.length σ → dx_kt σ.length av → dx_Lf Z σ o σ')
    (hRf : d + 9 ≤ R.frames) (hRl : 64 * (d + 1) + 200 ≤ R.locals) (hRc : σ'.length ≤ k0 + R.cells) (hRs : dx_sl Z σ' ≤ l0 + R.slots)
    (hR : ∀ (pc : Nat) (x : dx_I) (len : Nat) (st : List Value) (v : Option Value) (ad : Nat → Nat) (H : Heap) (locs : List Loc) (ls : Array Slot), decode (Bt M) pc = .ok (x.1, len) → (dx_len x.1 = 0 ∨ len = dx_len x.1) → dx_rt (Z.2.2.2.2.2 M) x.1 st = some v → o = .inl v → va_P D cl (dx_w tc kd ad σ') H → va_D A (dx_w tc kd ad σ') → va_S A s.heap H locs → (∀ i, i < n0 → ad i = ad0 i) → W p l e R s m args below meth c H locs (σ'.length - k0) (dx_sl Z σ' - l0) Q (F0 m pc ls (st.map (dx_v kd ad))))
    (hT : ∀ (t : State) (y : Nat) (ad : Nat → Nat) (locs : List Loc), o = .inr y → t.status = .running → Ended t below (.threw (ad y)) → s.WarmedH t.vm → s.sameButNew ({ t with vm := s.vm } : State) locs (σ'.length - k0) (dx_sl Z σ' - l0) → va_P D cl (dx_w tc kd ad σ') t.heap → va_D A (dx_w tc kd ad σ') → va_S A s.heap t.heap locs → (∀ i, i < n0 → ad i = ad0 i) → Q t) :
    ∀ (n pc : Nat) (lv : dx_L) (st : List Value) (σ : dx_S) (ad : Nat → Nat) (H : Heap) (locs : List Loc) (ls : Array Slot), dx_X Z call M n pc lv st σ o σ' → lv_has ls (Z.2.2.1 M) (dx_vl kd ad lv) → va_P D cl (dx_w tc kd ad σ) H → va_D A (dx_w tc kd ad σ) → va_S A s.heap H locs → dx_ks σ.length σ → dx_kl σ.length lv → dx_kt σ.length st → (∀ i, i < n0 → ad i = ad0 i) → n0 ≤ σ.length → k0 ≤ σ.length → l0 ≤ dx_sl Z σ →
      W p l e R s m args below meth c H locs (σ.length - k0) (dx_sl Z σ - l0) Q (F0 m pc ls (st.map (dx_v kd ad))) := by
  obtain ⟨hK, hC⟩ := hGK A s hGA
  intro n
  induction n with
  | zero => intro pc lv st σ ad H locs ls h; exact h.elim
  | succ n ih =>
    intro pc lv st σ ad H locs ls h hl hP hD hS hs hkl hkt had hn0 hk0 hl0
    have hLf : dx_Lf Z σ o σ' := dx_X_lf hKK hdv (fun pc x hx => (hgd pc x hx).2.1) hcl _ _ _ _ _ _ _ h hs hkl hkt
    obtain ⟨x, hx1, g⟩ := h
    obtain ⟨⟨len, hd, hn⟩, hv0, hfacts⟩ := hgd pc x hx1
    obtain ⟨fB, fC, fN, fI, fT⟩ := hfacts A s args hts hGA
    generalize hk : dx_kd x = k at g
    match k, g with
    | 0, ⟨r, e1, g1⟩ =>
      obtain ⟨a1, a2⟩ := dx_a_ok e1 hkl hkt
      exact dx_a_snd hx hb hd hn hl e1 (fun ls' hl' => ih _ _ _ _ _ _ _ _ g1 hl' hP hD hS hs a1 a2 had hn0 hk0 hl0)
    | 1, ⟨r, e1, g1⟩ =>
      obtain ⟨a1, a2⟩ := dx_b_ok e1 hKK hv0 hs hkt
      exact dx_b_snd hx hb hd hn hown hK hP hS hC fB e1 (fun el => ih _ _ _ _ _ _ _ _ g1 (by rw [el]; exact hl) hP hD hS hs (by rw [el]; exact hkl) a2 had hn0 hk0 hl0)
    | 2, ⟨r, e1, g1⟩ =>
      obtain ⟨a1, a2, a3, a4⟩ := dx_c_ok (r := r.1) (σ' := r.2) e1 hs hkt
      have a5 := dx_c_sl (Z := Z) (r := r.1) (σ' := r.2) e1
      refine dx_c_snd (r := r.1) (σ' := r.2) hx hb hd hn hown hK hP hD hS (by rw [hnm]; exact fC) e1 (fun H1 locs1 el k1 k2 k3 => ?_)
      rw [← a4, ← a5]
      exact ih _ _ _ _ _ _ _ _ g1 (by rw [el]; exact hl) k1 k2 k3 (by rw [a4]; exact a3) (by rw [el, a4]; exact hkl) (by rw [a4]; exact a2) had (by omega) (by omega) (by omega)
    | 3, ⟨r, e1, g1⟩ =>
      obtain ⟨a1, a2, a3⟩ := dx_n_ok e1 (hdv _) hkt
      have e2 : (σ ++ [r.2]).length = σ.length + 1 := by simp
      have e3 := dx_sl_app Z σ r.2
      have hs1 : dx_ks (σ ++ [r.2]).length (σ ++ [r.2]) := by
        rw [e2]
        intro y hy
        rcases List.mem_append.mp hy with hy | hy
        · exact dx_ks_le (Nat.le_succ _) hs y hy
        · cases List.mem_singleton.mp hy
          exact dx_ks_le (Nat.le_succ _) (σ := [r.2]) (fun z hz => by cases List.mem_singleton.mp hz; exact a3) _ (List.mem_singleton.mpr rfl)
      have hl1 : dx_kl (σ ++ [r.2]).length r.1.2.1 := by rw [e2, a1]; exact dx_kl_le (Nat.le_succ _) hkl
      have ht1 : dx_kt (σ ++ [r.2]).length r.1.2.2 := by rw [e2]; exact a2
      obtain ⟨b1, b2, -, -⟩ := dx_X_lf hKK hdv (fun pc x hx => (hgd pc x hx).2.1) hcl _ _ _ _ _ _ _ g1 hs1 hl1 ht1
      refine dx_n_snd hx hb hd hn hown hK hP hD hS hA fN hk hs hkt e1 (by omega) (by omega) (fun q H1 el k1 k2 k3 => ?_)
      rw [show σ.length - k0 + 1 = (σ ++ [r.2]).length - k0 by omega, show dx_sl Z σ - l0 + dx_sz Z r.2 = dx_sl Z (σ ++ [r.2]) - l0 by omega]
      refine ih _ _ _ _ _ _ _ _ g1 ?_ k1 k2 k3 hs1 hl1 ht1 (fun i hi => ?_) (by omega) (by omega) (by omega)
      · rw [el, dx_vl_eq (fun i hi => dx_ad_lt hi) hkl]
        exact hl
      · rw [dx_ad_lt (by omega)]
        exact had i hi
    | 4, ⟨v, e1, e2, e3⟩ =>
      subst e3
      exact hR pc x len st v ad H locs ls hd hn e1 e2 hP hD hS had
    | 5, ⟨q, e1, o1, σ1, e2, g1⟩ =>
      obtain ⟨rfl, f2, f3, f4⟩ := dx_sp_e e1
      have hl3 : dx_len x.1 = 3 := dx_len5 (Or.inl hk)
      have hn3 : len = 3 := by rw [hl3] at hn; exact hn.resolve_left (by decide)
      subst hn3
      have hkt2 := hkt
      rw [dx_kt_app, dx_kt_rev] at hkt2
      have hgm1 := hgm pc x hx1 hk
      obtain ⟨⟨b1, b2, b3, b4⟩, hM⟩ := hcall _ _ _ _ _ e2 hs hkt2.1 hgm1
      obtain ⟨m1, m2, m3, m4, m5⟩ := hgm1
      have hbound : σ1.length ≤ σ'.length ∧ dx_sl Z σ1 ≤ dx_sl Z σ' := by
        cases o1 with
        | inl v =>
          have g2 : dx_X Z call M n (pc + 3) lv (v.toList ++ q.2) σ1 o σ' := g1
          obtain ⟨d1, d2, -, -⟩ := dx_X_lf hKK hdv (fun pc x hx => (hgd pc x hx).2.1) hcl _ _ _ _ _ _ _ g2 b3 (dx_kl_le b1 hkl) (by
            rw [dx_kt_app]
            refine ⟨?_, dx_kt_le b1 hkt2.2⟩
            cases v with
            | none => exact fun v hv => by cases hv
            | some v => exact fun w hw => by cases List.mem_singleton.mp hw; exact b4)
          exact ⟨d1, d2⟩
        | inr y =>
          obtain ⟨-, rfl⟩ := g1
          exact ⟨Nat.le_refl _, Nat.le_refl _⟩
      have est : (q.1.reverse ++ q.2).map (dx_v kd ad) = (q.1.map (dx_v kd ad)).reverse ++ q.2.map (dx_v kd ad) := by
        rw [List.map_append, List.map_reverse]
      rw [est]
      intro T hTH X
      have hPT : va_P D cl (dx_w tc kd ad σ) T.heap := by rw [hTH]; exact hP
      have hST : va_S A s.heap T.heap locs := by rw [hTH]; exact hS
      obtain ⟨mk, vm₁, X₁, hnamed, hstep⟩ := dx_inv (rest := q.2.map (dx_v kd ad)) (ls := ls) X hx hb hd hown hK hPT hST hC hk fI (hts _ m2) (hts _ m3) m4 f4 f2
      have hA' : ∀ z, va_A (dx_w tc kd ad σ) T.heap.size z → A z := fun z hz => by
        rcases hz with ⟨k1, e3, h1⟩ | h1
        · exact hD.2 k1 _ h1
        · exact hA z (Nat.le_trans hST.1 h1)
      have hPc : dx_Pc D cl tc kd G q.1 σ ad T.heap.size (q.1.map (dx_v kd ad)).toArray ((T.setVm vm₁).calling { (F0 m pc ls ((q.1.map (dx_v kd ad)).reverse ++ q.2.map (dx_v kd ad))) with stack := q.2.map (dx_v kd ad) } mk (q.1.map (dx_v kd ad)).toArray) :=
        ⟨rfl, rfl, hGok A _ s _ hGA hST.1 hST.2.1 X₁.warmed hA', hPT, hD.weaken (fun _ _ _ _ => trivial)⟩
      obtain ⟨t, U', L, u1, u2, u3, X', u4⟩ := dt_back (W := 8) (bytes := Bt x.2.1) (maxL := Z.2.2.1 x.2.1) (ret := Z.2.2.2.2.2 x.2.1) (hM ad T.heap.size) (by show d + 8 + 1 ≤ R.frames; omega) (by show 8 + (Z.2.2.1 x.2.1 + 11) + (64 * d + 200) ≤ R.locals; omega)
        X₁ (g := { (F0 m pc ls ((q.1.map (dx_v kd ad)).reverse ++ q.2.map (dx_v kd ad))) with stack := q.2.map (dx_v kd ad) }) rfl (by rw [hml]; exact hl.1) (by rw [hb]; exact hd) (by
          show 2 * 0 + ((q.2.map (dx_v kd ad)).map fun v => v.category).sum ≤ 8
          rw [dx_ct_v]
          omega) hnamed (atoms_intro fun w hw => hws w hw _ _ _ _ X₁.warmed (hts w hw)) (hws _ m2 _ _ _ _ X₁.warmed (hts _ m2)) (hws _ m3 _ _ _ _ X₁.warmed (hts _ m3)) (by show _ + (σ1.length - σ.length) ≤ _; omega) (by show _ + (dx_sl Z σ1 - dx_sl Z σ) ≤ _; omega) hPc
      rw [show σ.length - k0 + (σ1.length - σ.length) = σ1.length - k0 by omega, show dx_sl Z σ - l0 + (dx_sl Z σ1 - dx_sl Z σ) = dx_sl Z σ1 - l0 by omega] at X'
      have hS1 : ∀ st0 : State, st0.heap = T.heap → va_F (va_A (dx_w tc kd ad σ) T.heap.size) st0 t → va_S A s.heap t.heap (locs ++ L) := fun st0 h0 hF => by
        refine ⟨Nat.le_trans hST.1 (by rw [← h0]; exact hF.1), fun z h1 h2 => ?_, fun z hz => ?_⟩
        · rw [hF.2 z (by rw [h0]; exact Nat.lt_of_lt_of_le h1 hST.1) (fun h3 => h2 (hA' z h3)), h0]
          exact hST.2.1 z h1 h2
        · rcases List.mem_append.mp hz with hz | hz
          · exact hST.2.2 z hz
          · exact hA' _ (u3 z hz)
      rcases u4 with ⟨v, ⟨ad1, w1, w2, w3, w4, w5⟩, w6⟩ | ⟨y, ⟨ad1, w1, w2, w3, w4, w5⟩, w6⟩
      · cases o1 with
        | inr y => cases w2
        | inl v1 =>
          have g2 : dx_X Z call M n (pc + 3) lv (v1.toList ++ q.2) σ1 o σ' := g1
          have hv1 : v = v1.map (dx_v kd ad1) := Outcome.returned.inj w2
          subst hv1
          have hkt1 : dx_kt σ1.length (v1.toList ++ q.2) := by
            rw [dx_kt_app]
            refine ⟨?_, dx_kt_le b1 hkt2.2⟩
            cases v1 with
            | none => exact fun v hv => by cases hv
            | some v => exact fun w hw => by cases List.mem_singleton.mp hw; exact b4
          have kq := ih (pc + 3) lv (v1.toList ++ q.2) σ1 ad1 t.heap (locs ++ L) ls g2 (by rw [dx_vl_eq w1 hkl]; exact hl) w3 (w4.weaken fun _ _ _ hz => hA' _ hz) (hS1 _ rfl w5) b3 (dx_kl_le b1 hkl) hkt1 (fun i hi => (w1 i (by omega)).trans (had i hi)) (by omega) (by omega) (by omega)
          obtain ⟨tf, z1, z2⟩ := kq U' u1 X'
          refine ⟨tf, hstep _ (w6.trans ?_), z2⟩
          have est2 : (v1.toList ++ q.2).map (dx_v kd ad1) = (v1.map (dx_v kd ad1)).toList ++ q.2.map (dx_v kd ad) := by
            rw [List.map_append, dx_vt_eq w1 hkt2.2]
            cases v1 <;> rfl
          rw [est2] at z1
          exact z1
      · cases o1 with
        | inl v => cases w2
        | inr y1 =>
          obtain ⟨rfl, rfl⟩ := g1
          have hy1 : y = ad1 y1 := Outcome.threw.inj w2
          subst hy1
          obtain ⟨z1, z2, z3, z4, z5⟩ := X'.leaveThrown (ad1 y1) (g := { (F0 m pc ls ((q.1.map (dx_v kd ad)).reverse ++ q.2.map (dx_v kd ad))) with stack := q.2.map (dx_v kd ad) }) rfl rfl rfl (covers_of_empty hout _) hlocks
          refine ⟨_, hstep _ (w6.trans z1), hT _ y1 ad1 (locs ++ L) rfl z2 z3 z4 z5 ?_ (w4.weaken fun _ _ _ hz => hA' _ hz) ?_ (fun i hi => (w1 i (by omega)).trans (had i hi))⟩
          · show va_P D cl _ U'.heap
            rw [u1]
            exact w3
          · show va_S A s.heap U'.heap _
            rw [u1]
            exact hS1 _ rfl w5
    | 6, ⟨a, r, e1, e2, g1⟩ =>
      subst e1
      have hl3 : dx_len x.1 = 3 := dx_len5 (Or.inr hk)
      have hn3 : len = 3 := by rw [hl3] at hn; exact hn.resolve_left (by decide)
      subst hn3
      have kq := ih _ _ _ _ _ _ _ _ g1 hl hP hD hS hs hkl (dx_kt_cons.mp hkt).2 had hn0 hk0 hl0
      obtain ⟨i, xa, xb, xf, xv⟩ := x
      cases i with
      | invokespecial kk =>
        have h0 : ¬ xf = 0 := by
          intro z
          simp [dx_kd, z] at hk
        have fI2 : if xf = 0 then _ else _ := fI
        rw [if_neg h0] at fI2
        obtain ⟨i1, i2, i3⟩ := fI2
        refine W.objInit hx hb hown i1 i2 i3 rfl (by rw [hml]; exact hl.1) rfl hd (by omega) ?_ kq
        show 2 * 0 + ((r.map (dx_v kd ad)).map fun v => v.category).sum + 12 ≤ _
        rw [dx_ct_v]
        omega
      | new kk => unfold dx_kd at hk; dsimp only at hk; split at hk <;> cases hk
      | _ => cases hk
    | k + 7, ⟨e1, e2, e3⟩ =>
      have hk7 : dx_kd x = 7 := by
        obtain ⟨i, xa, xb, xf, xv⟩ := x
        cases i <;> first
          | (cases hk; done)
          | (unfold dx_kd at hk ⊢; dsimp only at hk ⊢; split at hk <;> first | (cases hk; done) | (rename_i hh; rw [if_neg hh]))
      subst e2
      subst e3
      have e4 : (σ ++ [Sum.inr (x.2.1, [])] : dx_S).length = σ.length + 1 := by simp
      have e5 := dx_sl_app Z σ (.inr (x.2.1, []))
      have e6 : dx_sz Z (.inr (x.2.1, [])) = 6 := by
        obtain ⟨i, xa, xb, xf, xv⟩ := x
        cases i with
        | new kk =>
          have h0 : ¬ xf = 0 := by
            intro z
            simp [dx_kd, z] at hk7
          obtain ⟨C, T, ic, names, h1, h2, -⟩ := fT h0
          exact h2
        | invokespecial kk => unfold dx_kd at hk7; dsimp only at hk7; split at hk7 <;> cases hk7
        | _ => cases hk7
      refine dx_t_snd hx hb (by rw [hml]; exact hl.1.symm) hd hn hown htr hlocks hout hK hP hD hS hA hst fT hk7 hs e1 (by omega) (by omega) (by omega) (by omega) (fun U z1 z2 z3 z4 z5 z6 z7 => ?_)
      refine hT U σ.length (dx_ad ad σ.length H.size) locs rfl z1 (by rw [show dx_ad ad σ.length H.size σ.length = H.size from if_pos rfl]; exact z2) z3 ?_ z5 z6 z7 (fun i hi => ?_)
      · rw [show (σ ++ [Sum.inr (x.2.1, [])] : dx_S).length - k0 = σ.length - k0 + 1 by omega, show dx_sl Z (σ ++ [Sum.inr (x.2.1, [])]) - l0 = dx_sl Z σ - l0 + 6 by omega]
        exact z4
      · rw [dx_ad_lt (by omega)]
        exact had i hi
end DXZ
