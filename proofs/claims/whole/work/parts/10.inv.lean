/-! The invoking instructions of the small machine on the real one; what runs leave. -/
theorem dx_rt_e {ty : Option FieldType} {i : Instr} {st : List Value} {v : Option Value} (h : dx_rt ty i st = some v) : (i = .ireturn ∧ ∃ x t, st = [.int x] ∧ v = some (.int x) ∧ ty = some t ∧ narrow t (.int x) = .int x) ∨ (i = .lreturn ∧ ∃ x, st = [.long x] ∧ v = some (.long x) ∧ ty = some .long) ∨ (i = .return_ ∧ st = [] ∧ v = none ∧ ty = none) := by
  unfold dx_rt at h
  split at h
  · split at h
    · split at h
      · split at h
        · rename_i h1
          cases h
          exact Or.inl ⟨rfl, _, _, rfl, rfl, rfl, h1⟩
        · cases h
      · cases h
    · cases h
  · split at h
    · split at h
      · rename_i h1
        cases h
        exact Or.inr (Or.inl ⟨rfl, _, rfl, rfl, h1⟩)
      · cases h
    · cases h
  · split at h
    · split at h
      · rename_i h1
        cases h
        exact Or.inr (Or.inr ⟨rfl, rfl, rfl, h1⟩)
      · cases h
    · cases h
  · cases h
theorem dx_sp_e {K σ : dx_S} {x : dx_I} {st : List Value} {q : List Value × List Value} (h : dx_sp K σ x st = some q) : st = q.1.reverse ++ q.2 ∧ q.1.length = x.2.2.1 ∧ dx_ct q.2 ≤ 8 ∧ dx_rv K σ x q.1 = true := by
  unfold dx_sp at h
  split at h
  · rename_i h1
    cases h
    refine ⟨by simp, ?_, h1.2.1, h1.2.2⟩
    simp only [List.length_reverse, List.length_take]
    omega
  · cases h
theorem dx_kt_app {n : Nat} {a b : List Value} : dx_kt n (a ++ b) ↔ dx_kt n a ∧ dx_kt n b := by
  unfold dx_kt
  constructor
  · intro h
    exact ⟨fun v hv => h v (List.mem_append_left _ hv), fun v hv => h v (List.mem_append_right _ hv)⟩
  · rintro ⟨h1, h2⟩ v hv
    rcases List.mem_append.mp hv with h | h
    · exact h1 v h
    · exact h2 v h
theorem dx_kt_rev {n : Nat} {a : List Value} : dx_kt n a.reverse ↔ dx_kt n a := by
  unfold dx_kt
  constructor <;> intro h v hv
  · exact h v (List.mem_reverse.mpr hv)
  · exact h v (List.mem_reverse.mp hv)
theorem dx_kl_args {n : Nat} : ∀ (av : List Value) (i : Nat), dx_kt n av → dx_kl n (lv_args i av)
  | [], _, _ => fun q hq => by cases hq
  | v :: av, i, h => fun q hq => by
    rcases List.mem_cons.mp hq with rfl | hq
    · exact h v List.mem_cons_self
    · exact dx_kl_args av _ (fun w hw => h w (List.mem_cons_of_mem _ hw)) q hq
theorem dx_vl_args (kd : Nat → Option Nat) (ad : Nat → Nat) : ∀ (av : List Value) (i : Nat), lv_args i (av.map (dx_v kd ad)) = dx_vl kd ad (lv_args i av)
  | [], _ => rfl
  | v :: av, i => by
    show (i, dx_v kd ad v) :: lv_args (if (dx_v kd ad v).category = 2 then i + 2 else i + 1) (av.map (dx_v kd ad)) = (i, dx_v kd ad v) :: dx_vl kd ad (lv_args (if v.category = 2 then i + 2 else i + 1) av)
    rw [dx_v_cat, dx_vl_args]
theorem dx_ct_v (kd : Nat → Option Nat) (ad : Nat → Nat) (st : List Value) : ((st.map (dx_v kd ad)).map fun v => v.category).sum = dx_ct st := by
  unfold dx_ct
  congr 1
  rw [List.map_map]
  exact List.map_congr_left fun v _ => dx_v_cat kd ad v
section DXL
variable {Z : dx_Z} {call : Nat → List Value → dx_S → dx_O → dx_S → Prop} {M : Nat}
theorem dx_X_lf (hK : dx_kK Z.2.1) (hdv : ∀ k, ∀ v ∈ Z.2.2.2.1 k, dx_kv 0 v) (hv : ∀ pc x, Z.1 M pc = some x → dx_kv 0 x.2.2.2.2)
    (hcall : ∀ M' av σ o σ', call M' av σ o σ' → dx_ks σ.length σ → dx_kt σ.length av → dx_Lf Z σ o σ') :
    ∀ (n pc : Nat) (lv : dx_L) (st : List Value) (σ : dx_S) (o : dx_O) (σ' : dx_S), dx_X Z call M n pc lv st σ o σ' → dx_ks σ.length σ → dx_kl σ.length lv → dx_kt σ.length st → dx_Lf Z σ o σ' := by
  intro n
  induction n with
  | zero => intro pc lv st σ o σ' h; exact h.elim
  | succ n ih =>
    intro pc lv st σ o σ' h hs hl ht
    obtain ⟨x, hx, g⟩ := h
    generalize hk : dx_kd x = k at g
    match k, g with
    | 0, ⟨r, e1, g⟩ =>
      obtain ⟨a1, a2⟩ := dx_a_ok e1 hl ht
      exact ih _ _ _ _ _ _ g hs a1 a2
    | 1, ⟨r, e1, g⟩ =>
      obtain ⟨a1, a2⟩ := dx_b_ok e1 hK (hv pc x hx) hs ht
      exact ih _ _ _ _ _ _ g hs (by rw [a1]; exact hl) a2
    | 2, ⟨r, e1, g⟩ =>
      obtain ⟨a1, a2, a3, a4⟩ := dx_c_ok (r := r.1) (σ' := r.2) e1 hs ht
      have b := ih _ _ _ _ _ _ g (by rw [a4]; exact a3) (by rw [a1, a4]; exact hl) (by rw [a4]; exact a2)
      obtain ⟨b1, b2, b3, b4⟩ := b
      exact ⟨by omega, by rw [← dx_c_sl (Z := Z) (r := r.1) (σ' := r.2) e1]; exact b2, b3, b4⟩
    | 3, ⟨r, e1, g⟩ =>
      obtain ⟨a1, a2, a3⟩ := dx_n_ok e1 (hdv _) ht
      have e2 : (σ ++ [r.2]).length = σ.length + 1 := by simp
      have b := ih _ _ _ _ _ _ g (by
          rw [e2]
          intro y hy
          rcases List.mem_append.mp hy with hy | hy
          · exact dx_ks_le (Nat.le_succ _) hs y hy
          · cases List.mem_singleton.mp hy
            exact dx_ks_le (Nat.le_succ _) (σ := [r.2]) (fun z hz => by cases List.mem_singleton.mp hz; exact a3) _ (List.mem_singleton.mpr rfl)) (by rw [e2, a1]; exact dx_kl_le (Nat.le_succ _) hl) (by rw [e2]; exact a2)
      obtain ⟨b1, b2, b3, b4⟩ := b
      rw [e2] at b1
      rw [dx_sl_app] at b2
      exact ⟨by omega, by omega, b3, b4⟩
    | 4, ⟨v, e1, e2, e3⟩ =>
      subst e2
      subst e3
      refine ⟨Nat.le_refl _, Nat.le_refl _, hs, ?_⟩
      rcases dx_rt_e e1 with ⟨-, x1, t, -, rfl, -⟩ | ⟨-, x1, -, rfl, -⟩ | ⟨-, -, rfl, -⟩ <;> exact trivial
    | 5, ⟨q, e1, o1, σ1, e2, g⟩ =>
      obtain ⟨rfl, f2, f3, f4⟩ := dx_sp_e e1
      rw [dx_kt_app, dx_kt_rev] at ht
      obtain ⟨b1, b2, b3, b4⟩ := hcall _ _ _ _ _ e2 hs ht.1
      cases o1 with
      | inl v =>
        have g : dx_X Z call M n (pc + 3) lv (v.toList ++ q.2) σ1 o σ' := g
        obtain ⟨d1, d2, d3, d4⟩ := ih _ _ _ _ _ _ g b3 (dx_kl_le b1 hl) (by
          rw [dx_kt_app]
          refine ⟨?_, dx_kt_le b1 ht.2⟩
          cases v with
          | none => exact fun v hv => by cases hv
          | some v => exact fun w hw => by cases List.mem_singleton.mp hw; exact b4)
        exact ⟨by omega, by omega, d3, d4⟩
      | inr y =>
        obtain ⟨rfl, rfl⟩ := g
        exact ⟨b1, b2, b3, b4⟩
    | 6, ⟨a, r, e1, e2, g1⟩ =>
      subst e1
      exact ih _ _ _ _ _ _ g1 hs hl (dx_kt_cons.mp ht).2
    | k + 7, ⟨e1, e2, e3⟩ =>
      subst e2
      subst e3
      refine ⟨by simp, by rw [dx_sl_app]; omega, ?_, ?_⟩
      · intro y hy
        rcases List.mem_append.mp hy with hy | hy
        · exact dx_ks_le (by simp) hs y hy
        · cases List.mem_singleton.mp hy
          exact fun v hv => by cases hv
      · show σ.length < (σ ++ [_]).length
        simp
end DXL
theorem dx_V_lf {Z : dx_Z} (hK : dx_kK Z.2.1) (hdv : ∀ k, ∀ v ∈ Z.2.2.2.1 k, dx_kv 0 v) (hv : ∀ M pc x, Z.1 M pc = some x → dx_kv 0 x.2.2.2.2) : ∀ (d M : Nat) (av : List Value) (σ : dx_S) (o : dx_O) (σ' : dx_S), dx_V Z d M av σ o σ' → dx_ks σ.length σ → dx_kt σ.length av → dx_Lf Z σ o σ' := by
  intro d
  induction d with
  | zero => intro M av σ o σ' h; exact h.elim
  | succ d ih =>
    intro M av σ o σ' h hs ht
    obtain ⟨-, n, h⟩ := h
    exact dx_X_lf hK hdv (hv M) (fun M' av σ o σ' h hs ht => ih M' av σ o σ' h hs ht) n _ _ _ _ _ _ h hs (dx_kl_args _ _ ht) (fun v hv => by cases hv)
section DXI
variable {p : Program} {l : Launch} {e : Env} {R : Room} {s : State} {m : MethodId} {args : Array Value} {below : List Frame} {meth : Method} {c : Code} {T : State} {locs : List Loc} {cells slots : Nat}
variable {D : va_G} {cl : List vw_C} {ql : Nat → Option vw_C} {tc : Nat → ClassId} {kd : Nat → Option Nat} {ad : Nat → Nat} {K σ : dx_S} {A : Nat → Prop} {own : String}
/-- the receiver's cell on the real machine -/
theorem dx_recv {H : Heap} (hK : va_K D cl (dx_tys tc) s) (hP : va_P D cl (dx_w tc kd ad σ) H) (hS : va_S A s.heap H locs) (hC : dx_C ql K kd A s) {v : Value} {ci : Nat} {q : vw_C} (hc : (cl[ci]? = some q ∧ ql ci = none) ∨ (cl[ci]? = none ∧ ql ci = some q)) (h : dx_ci K σ v = some ci) : ∃ (b : Nat) (cell : Cell), dx_v kd ad v = .ref b ∧ H[b]? = some cell ∧ cell.vm.isStatics = false ∧ s.vm.findClass q.1 = some cell.cls := by
  unfold dx_ci at h
  split at h
  · split at h
    · rename_i a _ y h1
      cases h
      rcases hc with ⟨hc, -⟩ | ⟨hc, -⟩
      · obtain ⟨cell, h2⟩ := va_recv hK hP hc (dx_w_at h1)
        exact ⟨_, cell, rfl, h2⟩
      · obtain ⟨q2, h2, -⟩ := hP a _ (dx_w_at h1)
        cases hc.symm.trans h2
    · cases h
  · split at h
    · rename_i a _ y h1
      split at h
      · cases h
      · rename_i h3
        cases h
        obtain ⟨b, r, r0, r1, r2, -⟩ := hC a _ h1 h3
        rcases hc with ⟨-, hc⟩ | ⟨-, hc⟩ <;> cases hc.symm.trans r1
        obtain ⟨cell, g1, g2, g3, -⟩ := r2.kept hS.2.1
        exact ⟨b, cell, by show va_rf (kd a) = _; rw [r0]; rfl, g1, g2, g3⟩
    · cases h
  · cases h
set_option maxHeartbeats 4000000 in
theorem dx_inv {cc : ByteArray} {x : dx_I} {pc : Nat} {ls : Array Slot} {av rest : List Value} {y : MethodName} {bytes : ByteArray} {maxL : Nat} {ret : Option FieldType} (X : Stand p l e R s m args below meth c T locs cells slots) (hx : p.tables.exec = Jvm.exec) (hb : c.code = cc) (hd : decode cc pc = .ok (x.1, 3)) (hown : s.vm.findClass own = some m.cls)
    (hK : va_K D cl (dx_tys tc) s) (hP : va_P D cl (dx_w tc kd ad σ) T.heap) (hS : va_S A s.heap T.heap locs) (hC : dx_C ql K kd A s) (hk : dx_kd x = 5) (hI : dx_kI cl ql s args own y ret x) (hcode : (Cond.code y bytes maxL ret).before args s = true) (hini : (Cond.initialized y.cls).before args s = true)
    (hy : y.cls ≠ "java/lang/invoke/MethodHandle" ∧ y.cls ≠ "java/lang/invoke/VarHandle") (hrv : dx_rv K σ x av = true) (hn : av.length = x.2.2.1) :
    dt_Inv p l e R s m args below meth c T locs cells slots (F0 m pc ls ((av.map (dx_v kd ad)).reverse ++ rest)) rest y (av.map (dx_v kd ad)) := by
  obtain ⟨i, xa, xb, xf, xv⟩ := x
  dsimp only at hd hn
  subst hb
  cases i with
  | invokevirtual k =>
    obtain ⟨⟨q, h1, h2⟩, h3, h4, h5⟩ := hI
    cases av with
    | nil => cases hrv
    | cons v av =>
      have h6 : dx_ci K σ v = some xf := of_decide_eq_true hrv
      obtain ⟨b, cell, g1, g2, g3, g4⟩ := dx_recv hK hP hS hC h1 h6
      have e1 : (v :: av).map (dx_v kd ad) = .ref b :: av.map (dx_v kd ad) := by rw [List.map_cons, g1]
      rw [e1]
      have hl : ∀ sig, parseMethodDescriptor y.desc = some sig → (av.map (dx_v kd ad)).length = sig.parameters.length := fun sig hs => by
        have := h5 sig hs
        simp only [List.length_cons] at hn
        rw [List.length_map]
        dsimp only at this
        omega
      rcases h4 with h4 | ⟨host, h4⟩
      · exact dt_invV X hx hown h4 h3 h2 hcode hy g2 g3 g4 rfl hl (by simp) hd
      · exact dt_invVN X hx hown h4 h3 h2 hcode hy g2 g3 g4 rfl hl (by simp) hd
  | invokestatic k =>
    obtain ⟨h3, h4, h5⟩ := hI
    have hl : ∀ sig, parseMethodDescriptor y.desc = some sig → (av.map (dx_v kd ad)).length = sig.parameters.length := fun sig hs => by
      rw [List.length_map, hn]
      exact h5 sig hs
    rcases h4 with h4 | ⟨host, h4⟩
    · exact dt_invS X hx hown h4 h3 hini hcode hy rfl hl rfl hd
    · exact dt_invSN X hx hown h4 h3 hini hcode hy rfl hl rfl hd
  | invokespecial k =>
    have h0 : xf = 0 := by
      apply Classical.byContradiction
      intro z
      simp [dx_kd, z] at hk
    subst h0
    obtain ⟨h2, rfl, h3, h4, h5⟩ := (hI : if (0 : Nat) = 0 then _ else _)
    cases av with
    | nil => cases hrv
    | cons v av =>
      cases v with
      | ref a =>
        have hl : ∀ sig, parseMethodDescriptor y.desc = some sig → (av.map (dx_v kd ad)).length = sig.parameters.length := fun sig hs => by
          have := h5 sig hs
          simp only [List.length_cons] at hn
          rw [List.length_map]
          dsimp only at this
          omega
        have e1 : (Value.ref a :: av).map (dx_v kd ad) = .ref (ad a) :: av.map (dx_v kd ad) := rfl
        rw [e1]
        rcases h4 with h4 | ⟨host, h4⟩
        · exact dt_invI X hx hown h2 h4 h3 hcode hy rfl hl (by simp) hd
        · exact dt_invIN X hx hown h2 h4 h3 hcode hy rfl hl (by simp) hd
      | _ => cases hrv
  | _ => cases hrv
end DXI
