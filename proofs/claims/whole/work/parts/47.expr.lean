section SM
variable {tk : Nat → Int32} {tv : Nat → Int64} {tr vl pl : Nat → Int32} {q : Nat} {G : PS → RS → Prop} {d : Nat}
theorem s_exp (hT : TC tk tv tr vl pl q) (hd6 : d ≤ 6) {E U : PS → PR} (hE : d < 6 → SimE tr vl pl q G 3 (4 + 3 * d) (120 + 20 * d) 7 (d + 1) E) (hE6 : ¬ d < 6 → ∀ S, E S = .inl S) (hU : d < 6 → SimE tr vl pl q G 7 (6 + 3 * d) (128 + 20 * d) 11 (d + 1) U) (hU6 : ¬ d < 6 → ∀ S, U S = .inl S) : SimE tr vl pl q G 3 (1 + 3 * d) (100 + 20 * d) 7 d (pExp tk tv q E U) := by
  have hq := hT.1
  refine mkE (by omega) (by decide) ?_
  intro S R M rest c hj hd hs1 hl hB hH hN K
  rw [i_7]
  unfold pExp
  rw [pB_B]
  have un := s_term (G := G) hT hd6 hE hE6 hU hU6
  have hp := hj.2.1
  refine un S (rPu 9 0 0 (rPu 8 0 0 R)) M ((8, 0, 0) :: rest) _ (Eqc_J hj rfl (q_pu (q_pu q_r))) (d_pu (d_pu hd)) (Stk_pu (Stk_pu hs1)) (by rw [List.length_cons]; omega) hB (by rw [t_q (q_pu (q_pu q_r))]; omega) (by omega) ?_
  intro S' R' N' ec st' dp' hN'
  have ec1 := EC_pre (Sm_R (q_pu (q_pu q_r))) ec
  have e5 := ec1.2.2.2.2.1
  have e7 := ec1.1.2.1
  refine s_loop (H := 1 + 3 * d) (Lr := 100 + 20 * d) hT isSg (by decide) (fun k h => by rcases h with h | h <;> rw [h] <;> decide) sg_kp (fun P => i_8) (by omega) (show 5 ≤ 9 by decide) (fun S R N rest c a1 a2 a3 a4 a5 a6 a7 a8 => un S R N rest c a1 a2 a3 (by omega) a5 (by omega) a7 a8) (by omega) hB hH hl 200 S' R' N' ec1 st' dp' (by omega) (by omega) ?_
  intro S2 R2 N2 ec2 st2 dp2 hle hN2
  have g7 := ec2.1.2.1
  exact K S2 R2 N2 ec2 st2 dp2 (by omega)
theorem s_EU (hT : TC tk tv tr vl pl q) : ∀ k d, d + k = 6 → SimE tr vl pl q G 3 (1 + 3 * d) (100 + 20 * d) 7 d (pEU tk tv q (k + 1)).1 ∧ SimE tr vl pl q G 7 (3 + 3 * d) (108 + 20 * d) 11 d (pEU tk tv q (k + 1)).2 := by
  intro k
  induction k with
  | zero =>
    intro d hd
    exact ⟨s_exp hT (by omega) (by omega) (fun _ _ => rfl) (by omega) (fun _ _ => rfl), s_un hT (by omega) (by omega) (fun _ _ => rfl) (by omega) (fun _ _ => rfl)⟩
  | succ k ih =>
    intro d hd
    obtain ⟨h1, h2⟩ := ih (d + 1) (by omega)
    rw [show 1 + 3 * (d + 1) = 4 + 3 * d by omega, show 100 + 20 * (d + 1) = 120 + 20 * d by omega] at h1
    rw [show 3 + 3 * (d + 1) = 6 + 3 * d by omega, show 108 + 20 * (d + 1) = 128 + 20 * d by omega] at h2
    exact ⟨s_exp hT (by omega) (fun _ => h1) (by omega) (fun _ => h2) (by omega), s_un hT (by omega) (fun _ => h1) (by omega) (fun _ => h2) (by omega)⟩
end SM
