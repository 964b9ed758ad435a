/-! Cells that are made, and throw new X(), on the real machine. -/
section DXN
variable {p : Program} {l : Launch} {e : Env} {R : Room} {s : State} {m : MethodId} {args : Array Value} {below : List Frame} {meth : Method} {c : Code} {H : Heap} {locs : List Loc} {cells slots : Nat} {Q : State → Prop}
variable {D : va_G} {cl : List vw_C} {tc : Nat → ClassId} {kd : Nat → Option Nat} {ad : Nat → Nat} {Z : dx_Z} {σ : dx_S} {A : Nat → Prop} {own : String}
theorem dx_cA {U : State} {t : Nat} {cA : ClassId} (h4 : t < 4) (hK : va_K D cl (dx_tys tc) U) (h : va_K D cl (dx_tys tc ++ [(cA, dx_ty t)]) U) : cA = tc t := by
  have h1 := (hK.2 t _ (dx_tys_at h4)).2
  have h2 := (h.2 4 (cA, dx_ty t) rfl).2
  match t, h4, h1, h2 with
  | 0, _, h1, h2 => exact Option.some.inj (h2.symm.trans h1)
  | 1, _, h1, h2 => exact Option.some.inj (h2.symm.trans h1)
  | 2, _, h1, h2 => exact Option.some.inj (h2.symm.trans h1)
  | 3, _, h1, h2 => exact Option.some.inj (h2.symm.trans h1)
/-- the addresses with one more -/
def dx_ad (ad : Nat → Nat) (n q : Nat) : Nat → Nat := fun i => if i = n then q else ad i
theorem dx_ad_lt {ad : Nat → Nat} {n q i : Nat} (h : i < n) : dx_ad ad n q i = ad i := if_neg (by omega)
theorem dx_ad_st {q : Nat} {st : List Value} (h : dx_kt σ.length st) : (Value.ref σ.length :: st).map (dx_v kd (dx_ad ad σ.length q)) = .ref q :: st.map (dx_v kd ad) := by
  rw [List.map_cons, dx_vt_eq (fun i hi => dx_ad_lt hi) h]
  congr 1
  show Value.ref (dx_ad ad σ.length q σ.length) = Value.ref q
  rw [show dx_ad ad σ.length q σ.length = q from if_pos rfl]
theorem dx_w_ad {q : Nat} {x : dx_E} (hs : dx_ks σ.length σ) (hx : dx_ke σ.length x) : dx_w tc kd ad σ ++ [(q, dx_e tc kd ad x)] = dx_w tc kd (dx_ad ad σ.length q) (σ ++ [x]) := dx_w_push hs hx
set_option maxHeartbeats 4000000 in
theorem dx_n_snd {cc : ByteArray} {x : dx_I} {pc len : Nat} {lv : dx_L} {st : List Value} {r : dx_R × dx_E} {ls : Array Slot} (hx : p.tables.exec = Jvm.exec) (hb : c.code = cc) (hd : decode cc pc = .ok (x.1, len)) (hn : dx_len x.1 = 0 ∨ len = dx_len x.1) (hown : s.vm.findClass own = some m.cls)
    (hK : va_K D cl (dx_tys tc) s) (hP : va_P D cl (dx_w tc kd ad σ) H) (hD : va_D A (dx_w tc kd ad σ)) (hS : va_S A s.heap H locs) (hA : ∀ q, s.heap.size ≤ q → A q) (hN : dx_kN cl Z s args own x) (hk : dx_kd x = 3) (hs : dx_ks σ.length σ) (ht : dx_kt σ.length st) (h : dx_n Z x pc lv st σ = some r)
    (hc : cells + 1 ≤ R.cells) (hsl : slots + dx_sz Z r.2 ≤ R.slots)
    (kk : ∀ (q : Nat) (H1 : Heap), r.1.2.1 = lv → va_P D cl (dx_w tc kd (dx_ad ad σ.length q) (σ ++ [r.2])) H1 → va_D A (dx_w tc kd (dx_ad ad σ.length q) (σ ++ [r.2])) → va_S A s.heap H1 locs → W p l e R s m args below meth c H1 locs (cells + 1) (slots + dx_sz Z r.2) Q (F0 m r.1.1 ls (r.1.2.2.map (dx_v kd (dx_ad ad σ.length q))))) :
    W p l e R s m args below meth c H locs cells slots Q (F0 m pc ls (st.map (dx_v kd ad))) := by
  obtain ⟨i, xa, xb, xf, xv⟩ := x
  dsimp only at hd hn
  cases i with
  | new k =>
    have hn := dx_ln hn (by simp [dx_len])
    subst hn
    have h0 : xf = 0 := by
      apply Classical.byContradiction
      intro z
      simp [dx_kd, z] at hk
    subst h0
    obtain ⟨C, T, N, ty, h1, h2, h3, h4, h5, h6, h7, h8, h9⟩ := hN rfl
    dsimp only at h1 h7 h8 h9
    cases h
    have e1 : (Z.2.2.2.1 xa).map (dx_v kd ad) = Z.2.2.2.1 xa := by
      have : (Z.2.2.2.1 xa).map (dx_v kd ad) = (Z.2.2.2.1 xa).map id := List.map_congr_left fun v hv => by
        rcases h8 v hv with rfl | rfl | rfl <;> rfl
      rw [this, List.map_id]
    have e2 : dx_e tc kd ad (.inr (xa, Z.2.2.2.1 xa)) = .inr (xa, Z.2.2.2.1 xa) := by
      show (Sum.inr (xa, (Z.2.2.2.1 xa).map (dx_v kd ad)) : va_E) = _
      rw [e1]
    have hke : dx_ke σ.length (.inr (xa, Z.2.2.2.1 xa)) := fun v hv => by
      rcases h8 v hv with rfl | rfl | rfl <;> exact trivial
    have e3 : dx_sz Z (.inr (xa, Z.2.2.2.1 xa)) = N := h9
    rw [e3] at hsl
    refine va_new (ci := xa) (fs := Z.2.2.2.1 xa) hx hb h2 (fun _ z => z) ty h3 hown h4 h5 h6 hK hP hD hS hA h1 h7 hc hsl hd (fun q H1 k1 k2 k3 => ?_)
    have kq := kk q H1 rfl (by rw [← dx_w_ad hs hke, e2]; exact k1) (by rw [← dx_w_ad hs hke, e2]; exact k2) k3
    rw [e3] at kq
    dsimp only at kq
    rw [dx_ad_st ht] at kq
    exact kq
  | newarray t =>
    have hn := dx_ln hn (by simp [dx_len])
    subst hn
    replace h := dx_i1_e h
    obtain ⟨n, q0, rfl, h⟩ := h
    split at h
    case isTrue => cases h
    rename_i hb0
    replace h := dx_ob_e h
    obtain ⟨y, hy, h⟩ := h
    cases h
    have hn0 : ¬ n < 0 := fun z => hb0 (Or.inl z)
    have hn1 : n.toNatClampNeg ≤ 1000000 := by
      apply Classical.byContradiction
      intro z
      exact hb0 (Or.inr (by omega))
    have ht2 := (dx_kt_cons.mp ht).2
    have go : ∀ (t0 : Nat) (a0 : vp_A), t0 < 4 → newarray.typeOf t = dx_ty t0 → y = .inl (t0, a0) → (∀ cA : ClassId, vp_cell cA a0 = arrV cA n.toNatClampNeg (fun _ => defaultValue (dx_ty t0))) → componentBytes (dx_ty t0) ≤ 8 → a0.1 = n.toNatClampNeg → W p l e R s m args below meth c H locs cells slots Q (F0 m pc ls ((Value.int n :: q0).map (dx_v kd ad))) := by
      intro t0 a0 f1 f2 f3 f4 f5 f6
      subst f3
      have e3 : dx_sz Z (.inl (t0, a0)) = n.toNatClampNeg := f6
      dsimp only at hsl
      rw [e3] at hsl
      refine va_newa hx hb hN f2 hK hP hD hS hA (a0 := a0) f4 hn0 rfl (Nat.le_trans (Nat.mul_le_mul hn1 f5) (by decide)) hc hsl hd (fun q cA H1 k0 k1 k2 k3 => ?_)
      have ecA := dx_cA f1 hK k0
      subst ecA
      have hke : dx_ke σ.length (.inl (t0, a0)) := trivial
      have kq := kk q H1 rfl (by rw [← dx_w_ad hs hke]; exact k1) (by rw [← dx_w_ad hs hke]; exact k2) k3
      dsimp only at kq
      rw [e3, dx_ad_st ht2] at kq
      exact kq
    cases t with
    | int => cases hy; exact go 0 _ (by decide) rfl rfl (fun _ => rfl) (by decide) rfl
    | long => cases hy; exact go 1 _ (by decide) rfl rfl (fun _ => rfl) (by decide) rfl
    | char => cases hy; exact go 2 _ (by decide) rfl rfl (fun _ => rfl) (by decide) rfl
    | byte => cases hy; exact go 3 _ (by decide) rfl rfl (fun _ => rfl) (by decide) rfl
    | _ => cases hy
  | _ => cases h
set_option maxHeartbeats 4000000 in
/-- throw new X(): the invocation ends there, one cell more -/
theorem dx_t_snd {cc : ByteArray} {x : dx_I} {pc len : Nat} {st : List Value} {ls : Array Slot} (hx : p.tables.exec = Jvm.exec) (hb : c.code = cc) (hml : c.maxLocals = ls.size) (hd : decode cc pc = .ok (x.1, len)) (hn : dx_len x.1 = 0 ∨ len = dx_len x.1) (hown : s.vm.findClass own = some m.cls) (htr : l.stackTraces = false) (hlocks : meth.locks = false) (hout : c.exceptionTable.isEmpty = true)
    (hK : va_K D cl (dx_tys tc) s) (hP : va_P D cl (dx_w tc kd ad σ) H) (hD : va_D A (dx_w tc kd ad σ)) (hS : va_S A s.heap H locs) (hA : ∀ q, s.heap.size ≤ q → A q) (hst : ∀ q : Nat, A q → ∀ cell, s.heap[q]? = some cell → cell.vm.isStatics = false) (hT : dx_kT cl Z s args own cc pc x) (hk : dx_kd x = 7) (hs : dx_ks σ.length σ) (ht : dx_ct st ≤ 8)
    (hc : cells + 1 ≤ R.cells) (hsl : slots + 6 ≤ R.slots) (hRf : 6 ≤ R.frames) (hRl : 200 ≤ R.locals)
    (kk : ∀ (U : State), U.status = .running → Ended U below (.threw H.size) → s.WarmedH U.vm → s.sameButNew ({ U with vm := s.vm } : State) locs (cells + 1) (slots + 6) → va_P D cl (dx_w tc kd (dx_ad ad σ.length H.size) (σ ++ [.inr (x.2.1, [])])) U.heap → va_D A (dx_w tc kd (dx_ad ad σ.length H.size) (σ ++ [.inr (x.2.1, [])])) → va_S A s.heap U.heap locs → Q U) :
    W p l e R s m args below meth c H locs cells slots Q (F0 m pc ls (st.map (dx_v kd ad))) := by
  obtain ⟨i, xa, xb, xf, xv⟩ := x
  dsimp only at hd hn
  cases i with
  | new k =>
    have hn := dx_ln hn (by simp [dx_len])
    subst hn
    have h0 : xf ≠ 0 := by
      intro z
      simp [dx_kd, z] at hk
    obtain ⟨C, T, ic, names, h1, h2, h3, h4, h5, h6, h7, h8, h9, h10, h11, h12⟩ := hT h0
    dsimp only at h1 h2
    refine W.newc hx hb hown h6 h7 h8 rfl hd hc hsl (fun cC kC f1 f2 f3 f4 => ?_)
    refine lv_dup hx hb h3 rfl ?_
    intro T1 hT1 X
    have hcell : T1.heap[H.size]? = some (freshCell cC kC) := by
      rw [hT1]
      simp [freshCell]
    obtain ⟨U, ce, g1, g2, g3, g4, g5, g6, g7, g8⟩ := dt_ctor X hx (by rw [Jvm.Example.NoTraceControls.admits_follows X.admits]; exact htr) hown h9 h10 h12 (fun y hy cell hcl => hst _ (hS.2.2 y hy) cell hcl) f1 f2 hcell hS.1 (g := F0 m (pc + 4) ls (.ref H.size :: .ref H.size :: st.map (dx_v kd ad))) rfl hml.symm rfl rfl rfl (by rw [hb]; exact h4) (by rw [hb]; exact h5) (covers_of_empty hout _) (by omega) (by
      show 2 * 0 + ((Value.ref H.size :: st.map (dx_v kd ad)).map fun v => v.category).sum + _ ≤ _
      rw [List.map_cons, List.sum_cons, dx_ct_v]
      have : (Value.ref H.size).category = 1 := rfl
      omega) hlocks
    refine ⟨U, g1, kk U g2 g3 g4 g5 ?_ ?_ ?_⟩
    all_goals
      have hke : dx_ke σ.length (.inr (xa, [])) := fun v hv => by cases hv
      have e2 : dx_e tc kd ad (.inr (xa, [])) = .inr (xa, []) := rfl
      have hH : ∀ q : Nat, q ≠ H.size → U.heap[q]? = (H.push { cls := cC, slots := kC.instanceTypes.map defaultValue, vm := .none })[q]? := fun q hq => by
        rw [g6, hT1, Array.getElem?_setIfInBounds_ne (fun z => hq z.symm)]
      have hHo : ∀ q : Nat, q < H.size → U.heap[q]? = H[q]? := fun q hq => by
        rw [hH q (by omega), Array.getElem?_push, if_neg (by omega)]
      have hHn : U.heap[H.size]? = some ce := by
        rw [g6, hT1]
        simp
    · rw [← dx_w_ad hs hke, e2]
      refine va_P.app (hP.kept fun k q hq => hHo _ (hP k q hq).lt) ?_
      intro k q hq
      have hk0 : k = 0 := by
        have := (List.getElem?_eq_some_iff.mp hq).1
        simpa using this
      subst hk0
      cases hq
      exact ⟨_, h1, ce, hHn, by
        rw [g7]
        have := (hK.1 xa _ h1).2.1
        exact Option.some.inj (f1.symm.trans this), g8, fun k hk => absurd hk (Nat.not_lt_zero k)⟩
    · rw [← dx_w_ad hs hke, e2]
      exact va_D.push hD hP rfl (hA _ hS.1)
    · refine ⟨?_, fun q h1 h2 => ?_, hS.2.2⟩
      · rw [g6, hT1, Array.size_setIfInBounds, Array.size_push]
        have := hS.1
        omega
      · rw [hHo q (Nat.lt_of_lt_of_le h1 hS.1)]
        exact hS.2.1 q h1 h2
  | invokespecial k =>
    unfold dx_kd at hk
    dsimp only at hk
    split at hk <;> cases hk
  | _ => cases hk
end DXN
