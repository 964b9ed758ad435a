/-! What is known at a start stays known in what is called. -/
section GOK
variable {kd : Nat → Option Nat} {D : va_G} {tc : Nat → ClassId} {L : Nat} {xs : Nat → Int32}
theorem dx_C_moved {ql : Nat → Option vw_C} {K : dx_S} {A A' : Nat → Prop} {s U : State} (h : dx_C ql K kd A s) (hq : ∀ q : Nat, q < s.heap.size → ¬ A q → U.heap[q]? = s.heap[q]?) (hW : s.WarmedH U.vm) (hA : ∀ q, A' q → A q) : dx_C ql K kd A' U := by
  intro i x hx
  have h1 := h i x hx
  match x, h1 with
  | .inl (t, n, .inl f), ⟨a, ha, hT⟩ => exact ⟨a, ha, ((hT.kept hq).moved hW.alike).narrow hA⟩
  | .inl (t, n, .inr (.inl f)), ⟨a, ha, hT⟩ => exact ⟨a, ha, ((hT.kept hq).moved hW.alike).narrow hA⟩
  | .inl (t, n, .inr (.inr f)), h1 => exact h1.elim
  | .inr y, h1 =>
    intro hy
    obtain ⟨a, r, r0, r1, r2, r3⟩ := h1 hy
    exact ⟨a, r, r0, r1, ((r2.kept hq).moved hW.alike).narrow hA, fun k v hv ad => (((r3 k v hv ad).kept hq).moved hW.alike).narrow hA⟩
theorem g0_ok : dx_Gok (G0 kd D tc L xs) := by
  intro A A' s U h hz hq hW hA
  obtain ⟨h1, h2, h3, h4, h5, ⟨a1, k1, r1⟩, ⟨a2, k2, r2⟩, ⟨a3, k3, r3⟩, ⟨a4, k4, r4⟩, ⟨a5, k5, r5⟩, ⟨a6, k6, r6⟩, z1, z2⟩ := h
  exact ⟨va_K.moved hW.alike h1, dx_C_moved h2 hq hW hA, ((h3.kept hq).moved hW.alike).narrow hA, ((h4.kept hq).moved hW.alike).narrow hA, ((h5.kept hq).moved hW.alike).narrow hA,
    ⟨a1, k1, r1.warm hW⟩, ⟨a2, k2, r2.warm hW⟩, ⟨a3, k3, r3.warm hW⟩, ⟨a4, k4, r4.warm hW⟩, ⟨a5, k5, r5.warm hW⟩, ⟨a6, k6, r6.warm hW⟩, dx_SZ_narrow (dx_SZ_moved hW.alike (dx_SZ_kept z1 hq)) hA, dx_SZ_narrow (dx_SZ_moved hW.alike (dx_SZ_kept z2 hq)) hA⟩
theorem kk_ok : dx_kK (tb_K L xs) := by
  intro x hx
  simp only [tb_K, List.mem_cons, List.not_mem_nil, or_false] at hx
  rcases hx with rfl | rfl | rfl | rfl | rfl | rfl | rfl | rfl | rfl | rfl | rfl | rfl | rfl | rfl | rfl <;> first
    | exact trivial
    | exact fun v hv => absurd hv List.not_mem_nil
    | (intro v hv
       rcases List.mem_cons.mp hv with rfl | hv
       · exact trivial
       · rcases List.mem_cons.mp hv with rfl | hv
         · exact trivial
         · cases hv)
theorem dv_ok : ∀ k, ∀ v ∈ (tb_Z L xs).2.2.2.1 k, dx_kv 0 v := by
  intro k v hv
  have h1 : v = .int 0 ∨ v = .long 0 ∨ v = .null := by
    have hl : ∀ l ∈ tb_dL, ∀ v ∈ l, v = .int 0 ∨ v = .long 0 ∨ v = .null := by decide +kernel
    have hv : v ∈ tb_dL.getD k [] := hv
    rw [List.getD_eq_getElem?_getD] at hv
    cases hk : tb_dL[k]? with
    | none => rw [hk] at hv; cases hv
    | some l => rw [hk] at hv; exact hl l (List.mem_of_getElem? hk) v hv
  rcases h1 with rfl | rfl | rfl <;> exact trivial
/-- a run of the small machine is a contract of the real one's method -/
theorem ct_Z {l : Launch} (htr : l.stackTraces = false) {d M : Nat} {av : List Value} {σ σ' : dx_S} {o : dx_O} (hM : M < 163) (h : dx_V (tb_Z L xs) d M av σ o σ') (hs : dx_ks σ.length σ) (ht : dx_kt σ.length av) :
    dx_Lf (tb_Z L xs) σ o σ' ∧ dx_Ct l D nm_cl tc kd (tb_Z L xs) (G0 kd D tc L xs) lw_ws (tb_Y M) d av σ o σ' :=
  dx_V_ct htr lw_wk g0_ok (fun A s h => ⟨h.1, h.2.1⟩) gd_Z gm_Z kk_ok dv_ok d M av σ o σ' h hs ht (gm_all M hM)
end GOK
