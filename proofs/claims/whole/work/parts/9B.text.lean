/-! The text: what both make of it. -/
section WB
variable {tr vl pl : Nat → Int32} {q : Nat} {G : PS → RS → Prop} {r : PR} {S : PS}
/-- the parser of the reference ends in one state -/
theorem ok_fix (hr : r = .inr S) : ∀ N R, OK tr vl pl q G r N R → ∃ R', G S R' ∧ OK tr vl pl q (fun S R => G S R ∧ R = R') r N R
  | 0, R, h => absurd h (fun y => y)
  | N + 1, R, h => by
    unfold OK at h
    by_cases hf : R.fa = 0
    · rw [if_pos hf] at h
      by_cases hc : R.pc = 0
      · rw [if_pos hc] at h
        obtain ⟨S1, e1, g1⟩ := h
        have e2 : S1 = S := Sum.inr.inj (e1.symm.trans hr)
        rw [e2] at g1
        refine ⟨R, g1, ?_⟩
        unfold OK
        rw [if_pos hf, if_pos hc]
        exact ⟨S, hr, g1, rfl⟩
      · rw [if_neg hc] at h
        obtain ⟨R', g1, o1⟩ := ok_fix hr N _ h.2
        refine ⟨R', g1, ?_⟩
        unfold OK
        rw [if_pos hf, if_neg hc]
        exact ⟨h.1, o1⟩
    · rw [if_neg hf] at h
      obtain ⟨S1, e1⟩ := h
      exact absurd (e1.symm.trans hr) (fun y => by cases y)
end WB
/-- what the scanner of the project leaves to its parser -/
def pTx (s : SQ) (P : PS) : PR := pAll (upd s.2.1 s.1 0) s.2.2 s.1 P
/-- what the scanner of the reference leaves to its parser -/
def oTx (s : SR) (G : PS → RS → Prop) (r : PR) (R : RS) : Prop := OK (upd (upd s.2.1 s.1 0) (s.1 + 1) 0) s.2.2.1 s.2.2.2 s.1 G r 20000 R
section WC
variable {T : Nat → Nat} {z : Nat} {xa : Nat → Nat → Int32} {xl : Nat → Nat → Int64} {R : RS}
theorem TI_0 {q : Nat} : TI q (pS0 xa xl) (rPu 1 0 0 (rR0 xa)) := by
  refine ⟨⟨rfl, Nat.zero_le _, rfl, rfl, rfl⟩, fun b _ hb => absurd hb (Nat.not_lt_zero _), rfl, rfl, rfl, Nat.le_refl _, fun v hv => Or.inl ⟨?_, ?_⟩⟩
  · show fl (xa 10) 26 (-1) v = -1
    exact if_pos hv
  · show fl (xa 32) 26 (-1) v = -1
    exact if_pos hv
/-- a text that neither takes -/
def TXb (T : Nat → Nat) (z : Nat) (xa : Nat → Nat → Int32) (xl : Nat → Nat → Int64) : Prop := (∀ s', scl (tA T z) z 200 0 (0, xa 13, xl 14) = .inr s' → ∃ S, pTx s' (pS0 xa xl) = .inl S) ∧ (∀ r', srl (tA T z) z 200 0 (0, xa 26, xa 27, xa 28) = some r' → r'.1 ≤ 200 ∧ ∃ G S, oTx r' G (.inl S) (rPu 1 0 0 (rR0 xa)))
/-- a text that both take -/
def TXg (T : Nat → Nat) (z : Nat) (xa : Nat → Nat → Int32) (xl : Nat → Nat → Int64) (q : Nat) (S : PS) (R' : RS) : Prop := (∃ s', scl (tA T z) z 200 0 (0, xa 13, xl 14) = .inr s' ∧ pTx s' (pS0 xa xl) = .inr S) ∧ (∃ r', srl (tA T z) z 200 0 (0, xa 26, xa 27, xa 28) = some r' ∧ r'.1 ≤ 200 ∧ oTx r' (fun _ R => R = R') (.inr S) (rPu 1 0 0 (rR0 xa))) ∧ TI q S R'
theorem ok_mono {tr vl pl : Nat → Int32} {q : Nat} {G G' : PS → RS → Prop} {r : PR} (hG : ∀ S R, G S R → G' S R) : ∀ N R, OK tr vl pl q G r N R → OK tr vl pl q G' r N R
  | 0, R, h => h
  | N + 1, R, h => by
    unfold OK at h ⊢
    by_cases hf : R.fa = 0
    · rw [if_pos hf] at h ⊢
      by_cases hc : R.pc = 0
      · rw [if_pos hc] at h ⊢
        obtain ⟨S1, e1, g1⟩ := h
        exact ⟨S1, e1, hG _ _ g1⟩
      · rw [if_neg hc] at h ⊢
        exact ⟨h.1, ok_mono hG N _ h.2⟩
    · rw [if_neg hf] at h ⊢
      exact h
theorem txt (hz : z ≤ 200) (hc : ∀ i, tA T z i < 256) (hk : ∀ i, xa 13 i = 257 → ∃ q : Nat, q < 26 ∧ xl 14 i = zL q) : TXb T z xa xl ∨ ∃ q S R', TXg T z xa xl q S R' := by
  have k0 : SK (0, xa 13, xl 14) := ⟨fun i hi => absurd hi (Nat.not_lt_zero _), hk⟩
  cases hs : srl (tA T z) z 200 0 (0, xa 26, xa 27, xa 28) with
  | none =>
    refine Or.inl ⟨fun s' e => ?_, fun r' e => ?_⟩
    · have b := sc_bad hz hc 200 0 (0, xa 13, xl 14) _ (by omega) hs s' e
      have sk := (sk_scl (z := z) hc 200 0 (0, xa 13, xl 14) k0).2 s' e
      have cn := sc_cnt 200 0 (0, xa 13, xl 14) s' e (Nat.zero_le _) (Nat.zero_le _)
      cases hp : pTx s' (pS0 xa xl) with
      | inl S => exact ⟨S, rfl⟩
      | inr S =>
        have na := all_pairs (by omega) upd_eq (fun i hi => by rw [upd_ne (by omega)]; exact sk.1 i hi) (show (pS0 xa xl).p = 0 from rfl) hp
        obtain ⟨i, h1, h2, h3⟩ := b
        exact absurd ⟨(upd_ne (by omega)).trans h2, (upd_ne (by omega)).trans h3⟩ (na i (Nat.zero_le _) h1)
    · rw [hs] at e
      cases e
  | some r' =>
    obtain ⟨s', e, rt⟩ := sc_same hz hc 200 0 (0, xa 13, xl 14) (0, xa 26, xa 27, xa 28) r' ⟨rfl, fun i hi => absurd hi (Nat.not_lt_zero _)⟩ hs
    have cn := sc_cnt 200 0 (0, xa 13, xl 14) s' e (Nat.zero_le _) (Nat.zero_le _)
    have tc := TC_of rt (by omega)
    have ok := s_all tc (TI_0 (xa := xa) (xl := xl)) rfl (Stk_pu (l := []) rfl) rfl (N := 20000) (by decide)
    rw [show s'.1 = r'.1 from rt.1] at ok
    have ok' : oTx r' (TI r'.1) (pTx s' (pS0 xa xl)) (rPu 1 0 0 (rR0 xa)) := by
      unfold pTx oTx
      rw [show s'.1 = r'.1 from rt.1]
      exact ok
    cases hp : pTx s' (pS0 xa xl) with
    | inl S =>
      rw [hp] at ok'
      refine Or.inl ⟨fun s2 e2 => ?_, fun r2 e2 => ?_⟩
      · rw [e] at e2
        cases e2
        exact ⟨S, hp⟩
      · rw [hs] at e2
        cases e2
        exact ⟨by have := rt.1; omega, _, S, ok'⟩
    | inr S =>
      rw [hp] at ok'
      obtain ⟨R', g1, o1⟩ := ok_fix rfl 20000 _ ok'
      exact Or.inr ⟨r'.1, S, R', ⟨s', e, hp⟩, ⟨r', hs, by have := rt.1; omega, ok_mono (fun _ _ h => h.2) _ _ o1⟩, g1⟩
end WC
