/-! What holds between two calls. -/
/-- both hold the same text, the same variables, the same outcome -/
def INV (T : Nat → Nat) (n fu : Nat) (A : AM) (fa : Nat) (xi : Nat → Int32) (xa : Nat → Nat → Int32) (xl : Nat → Nat → Int64) : Prop := tx xi xa T n ∧ txR xi xa T n ∧ RC0 fu A xi xa xl ∧ xi 322 = nI fa ∧ RR0 fu A xi xa ∧ xi 1442 = nI fa ∧ (∀ v, v < 26 → nm (A.vr v).1 (A.vr v).2) ∧ A.sc ≤ 4 ∧ A.z ≤ 300 ∧ HC xa xl ∧ HR (0, xa 26, xa 27, xa 28)
section WH
variable {T : Nat → Nat} {n fu fa : Nat} {A : AM} {xi : Nat → Int32} {xa : Nat → Nat → Int32} {xl : Nat → Nat → Int64} {w : Int32}
theorem apd_T (h : ∀ i, i < n → xa 2 i = nI (T i) ∧ 0 < T i ∧ T i < 256) {f : Nat → Int32} (hf : ∀ i, i < n → f i = nI (T i)) : ∀ i, i < n + pk w → apd f n w (pk w) i = nI (if i < n then T i else by8 w (i - n)) ∧ 0 < (if i < n then T i else by8 w (i - n)) ∧ (if i < n then T i else by8 w (i - n)) < 256 := by
  intro i hi
  unfold apd
  by_cases hn : i < n
  · rw [if_neg (show ¬ (n ≤ i ∧ i < n + pk w) by omega), if_pos hn]
    exact ⟨hf i hn, (h i hn).2⟩
  · rw [if_pos (show n ≤ i ∧ i < n + pk w by omega), if_neg hn]
    have := pkf_nz (w := w) 4 0 (i - n) (Nat.zero_le _) (show i - n < pk w by omega)
    exact ⟨rfl, by omega, by8_lt⟩
theorem inv_feed (h : INV T n fu A fa xi xa xl) (h2 : n + pk w ≤ 200) : INV (fun i => if i < n then T i else by8 w (i - n)) (n + pk w) fu A fa (ui (ui xi 65 (nI (n + pk w))) 1409 (nI (n + pk w))) (ua (ua xa 2 (apd (xa 2) n w (pk w))) 23 (apd (xa 23) n w (pk w))) xl := by
  obtain ⟨h1, h3, h4⟩ := h
  refine ⟨⟨rfl, h2, apd_T h1.2.2 (fun i hi => (h1.2.2 i hi).1)⟩, ⟨rfl, h2, apd_T h1.2.2 (fun i hi => (h3.2.2 i hi).1)⟩, h4⟩
theorem inv_clear (h : INV T n fu A fa xi xa xl) : INV T 0 fu A fa (ui (ui xi 65 0) 1409 0) xa xl := by
  obtain ⟨h1, h3, h4⟩ := h
  exact ⟨⟨rfl, Nat.zero_le _, fun i hi => absurd hi (Nat.not_lt_zero _)⟩, ⟨rfl, Nat.zero_le _, fun i hi => absurd hi (Nat.not_lt_zero _)⟩, h4⟩
theorem inv_reset (h : INV T n fu A fa xi xa xl) : INV T n fu (amk A.b A.st A.fl A.fr (fun _ => (0, 0)) 0 A.k A.z A.ot) fa (ui (ui xi 193 0) 1412 0) (ua (ua xa 24 (fl (xa 24) 26 0)) 25 (fl (xa 25) 26 0)) (ul xl 4 (flL (xl 4) 26 0)) := by
  obtain ⟨h1, h3, h4, h5, h6, h7, h8, h9, h10, h11, h12⟩ := h
  refine ⟨h1, h3, ⟨fun v hv => ?_, rfl, h4.2.2.1, h4.2.2.2.1, h4.2.2.2.2.1, h4.2.2.2.2.2⟩, h5, ⟨fun v hv => ⟨?_, ?_⟩, rfl, h6.2.2.1, h6.2.2.2.1, h6.2.2.2.2.1, h6.2.2.2.2.2⟩, h7, fun v _ => (⟨by decide, by decide, by decide⟩ : nm 0 0), Nat.zero_le _, h10, h11, h12⟩
  · show flL (xl 4) 26 0 v = pn 0 0
    exact (if_pos hv).trans (by decide)
  · show fl (xa 24) 26 0 v = zI 0
    exact (if_pos hv).trans (by decide)
  · show fl (xa 25) 26 0 v = nI 0
    exact (if_pos hv).trans (by decide)
/-- after both runs -/
theorem inv_run {xi1 xi2 : Nat → Int32} {xa1 xa2 : Nat → Nat → Int32} {xl1 : Nat → Nat → Int64} {A2 : AM} {fu2 fa2 : Nat} {x : Nat → Int64} (h : INV T n fu A fa xi xa xl) (c0 : RC0 fu2 A2 xi1 xa1 xl1) (cf : FC xi xa xi1 xa1) (ck : HC xa1 xl1) (e1 : xi1 322 = nI fa2) (r0 : RR0 fu2 A2 xi2 xa2) (rf : FR xi1 xa1 xi2 xa2) (rk : HR (0, xa2 26, xa2 27, xa2 28)) (e2 : xi2 1442 = nI fa2) (hn : ∀ v, v < 26 → nm (A2.vr v).1 (A2.vr v).2) (h4 : A2.sc ≤ 4) (hz : A2.z ≤ 300) : INV T n fu2 A2 fa2 xi2 xa2 (ul xl1 45 x) := by
  obtain ⟨f1, f2, f3, f4⟩ := cf
  obtain ⟨g1, g2, g3, g4⟩ := rf
  refine ⟨⟨?_, h.1.2.1, fun i hi => ?_⟩, ⟨?_, h.1.2.1, fun i hi => ?_⟩, ⟨c0.1, ?_, ?_, ?_, ?_, fun q hq => ?_⟩, ?_, r0, e2, hn, h4, hz, fun i hi => ?_, rk⟩
  · rw [g1 65 (by decide), f3]
    exact h.1.1
  · rw [g2 2 (by decide), f4]
    exact h.1.2.2 i hi
  · rw [g3, f1 1409 (by decide)]
    exact h.2.1.1
  · rw [g4, f2 23 (by decide)]
    exact h.2.1.2.2 i hi
  · rw [g1 193 (by decide)]
    exact c0.2.1
  · rw [g1 323 (by decide)]
    exact c0.2.2.1
  · rw [g1 324 (by decide)]
    exact c0.2.2.2.1
  · rw [g1 321 (by decide)]
    exact c0.2.2.2.2.1
  · rw [g2 6 (by decide)]
    exact c0.2.2.2.2.2 q hq
  · rw [g1 322 (by decide)]
    exact e1
  · rw [g2 13 (by decide)] at hi
    exact ck i hi
end WH
