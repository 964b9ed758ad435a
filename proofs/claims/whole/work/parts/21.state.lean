/-! Printed by program: the cells of class, reference and the law's own row, as three functions; what reads and writes do to them. -/
def mk (xi : Nat → Int32) (xa : Nat → Nat → Int32) (xl : Nat → Nat → Int64) (j : dx_S) : dx_S :=
  .inr (0, [.ref 1, .ref 3, .ref 5, .ref 7, .ref 12, .ref 15, .ref 16]) ::
  .inr (1, [.ref 2, .int (xi 65)]) ::
  .inl (2, 200, .inl (xa 2)) ::
  .inr (2, [.ref 4, .int (xi 193)]) ::
  .inl (1, 26, .inr (.inl (xl 4))) ::
  .inr (3, [.ref 6, .int (xi 321), .int (xi 322), .int (xi 323), .int (xi 324)]) ::
  .inl (2, 300, .inl (xa 6)) ::
  .inr (4, [.ref 8, .ref 9, .ref 10, .ref 11, .int (xi 452)]) ::
  .inl (0, 600, .inl (xa 8)) ::
  .inl (1, 600, .inr (.inl (xl 9))) ::
  .inl (0, 26, .inl (xa 10)) ::
  .inl (0, 26, .inl (xa 11)) ::
  .inr (5, [.ref 1, .ref 5, .ref 13, .ref 14, .int (xi 772)]) ::
  .inl (0, 201, .inl (xa 13)) ::
  .inl (1, 201, .inr (.inl (xl 14))) ::
  .inr (6, [.ref 12, .ref 7, .ref 5, .int (xi 963), .int (xi 964)]) ::
  .inr (7, [.ref 7, .ref 3, .ref 5, .ref 21, .ref 17, .int (xi 1029), .int (xi 1030), .ref 18, .ref 19, .ref 20, .int (xi 1034)]) ::
  .inl (1, 140, .inr (.inl (xl 17))) ::
  .inl (0, 4, .inl (xa 18)) ::
  .inl (0, 4, .inl (xa 19)) ::
  .inl (1, 4, .inr (.inl (xl 20))) ::
  .inr (8, [.ref 3, .ref 5]) ::
  .inr (9, [.ref 23, .int (xi 1409), .ref 24, .ref 25, .int (xi 1412), .ref 26, .ref 27, .ref 28, .int (xi 1416), .int (xi 1417), .int (xi 1418), .ref 29, .ref 30, .ref 31, .int (xi 1422), .ref 32, .ref 33, .ref 34, .ref 35, .ref 36, .int (xi 1428), .int (xi 1429), .int (xi 1430), .ref 37, .ref 38, .ref 39, .ref 40, .ref 41, .ref 42, .ref 43, .int (xi 1438), .int (xi 1439), .int (xi 1440), .int (xi 1441), .int (xi 1442), .int (xi 1443), .ref 44, .int (xi 1445), .int (xi 1446), .int (xi 1447)]) ::
  .inl (0, 200, .inl (xa 23)) ::
  .inl (0, 26, .inl (xa 24)) ::
  .inl (0, 26, .inl (xa 25)) ::
  .inl (0, 210, .inl (xa 26)) ::
  .inl (0, 210, .inl (xa 27)) ::
  .inl (0, 210, .inl (xa 28)) ::
  .inl (0, 1200, .inl (xa 29)) ::
  .inl (0, 1200, .inl (xa 30)) ::
  .inl (0, 1200, .inl (xa 31)) ::
  .inl (0, 26, .inl (xa 32)) ::
  .inl (0, 26, .inl (xa 33)) ::
  .inl (0, 600, .inl (xa 34)) ::
  .inl (0, 600, .inl (xa 35)) ::
  .inl (0, 600, .inl (xa 36)) ::
  .inl (0, 300, .inl (xa 37)) ::
  .inl (0, 300, .inl (xa 38)) ::
  .inl (0, 5, .inl (xa 39)) ::
  .inl (0, 5, .inl (xa 40)) ::
  .inl (0, 5, .inl (xa 41)) ::
  .inl (0, 5, .inl (xa 42)) ::
  .inl (0, 5, .inl (xa 43)) ::
  .inl (0, 300, .inl (xa 44)) ::
  .inl (1, 1, .inr (.inl (xl 45))) :: j
def ui (f : Nat → Int32) (k : Nat) (x : Int32) : Nat → Int32 := fun i => if i = k then x else f i
def ua (f : Nat → Nat → Int32) (k : Nat) (x : Nat → Int32) : Nat → Nat → Int32 := fun i => if i = k then x else f i
def ul (f : Nat → Nat → Int64) (k : Nat) (x : Nat → Int64) : Nat → Nat → Int64 := fun i => if i = k then x else f i
theorem ui_at {f : Nat → Int32} {k i : Nat} {x : Int32} : ui f k x i = bif i == k then x else f i := by
  show (if i = k then x else f i) = _
  by_cases h : i = k
  · rw [if_pos h, show (i == k) = true from beq_iff_eq.mpr h]; rfl
  · rw [if_neg h, show (i == k) = false from beq_eq_false_iff_ne.mpr h]; rfl
theorem ua_at {f : Nat → Nat → Int32} {k i : Nat} {x : Nat → Int32} : ua f k x i = bif i == k then x else f i := by
  show (if i = k then x else f i) = _
  by_cases h : i = k
  · rw [if_pos h, show (i == k) = true from beq_iff_eq.mpr h]; rfl
  · rw [if_neg h, show (i == k) = false from beq_eq_false_iff_ne.mpr h]; rfl
theorem ul_at {f : Nat → Nat → Int64} {k i : Nat} {x : Nat → Int64} : ul f k x i = bif i == k then x else f i := by
  show (if i = k then x else f i) = _
  by_cases h : i = k
  · rw [if_pos h, show (i == k) = true from beq_iff_eq.mpr h]; rfl
  · rw [if_neg h, show (i == k) = false from beq_eq_false_iff_ne.mpr h]; rfl
section MK
variable {K : dx_S} {xi : Nat → Int32} {xa : Nat → Nat → Int32} {xl : Nat → Nat → Int64} {j : dx_S}
theorem mk_len : (mk xi xa xl j).length = 46 + j.length := by simp only [mk, List.length_cons]; omega
theorem ci_0 : dx_ci K (mk xi xa xl j) (.ref 0) = some 0 := rfl
theorem gf_0_0 : dx_gf K (mk xi xa xl j) (.ref 0) 0 0 = some (.ref 1) := rfl
theorem gf_0_1 : dx_gf K (mk xi xa xl j) (.ref 0) 0 1 = some (.ref 3) := rfl
theorem gf_0_2 : dx_gf K (mk xi xa xl j) (.ref 0) 0 2 = some (.ref 5) := rfl
theorem gf_0_3 : dx_gf K (mk xi xa xl j) (.ref 0) 0 3 = some (.ref 7) := rfl
theorem gf_0_4 : dx_gf K (mk xi xa xl j) (.ref 0) 0 4 = some (.ref 12) := rfl
theorem gf_0_5 : dx_gf K (mk xi xa xl j) (.ref 0) 0 5 = some (.ref 15) := rfl
theorem gf_0_6 : dx_gf K (mk xi xa xl j) (.ref 0) 0 6 = some (.ref 16) := rfl
theorem ci_1 : dx_ci K (mk xi xa xl j) (.ref 1) = some 1 := rfl
theorem gf_1_0 : dx_gf K (mk xi xa xl j) (.ref 1) 1 0 = some (.ref 2) := rfl
theorem gf_1_1 : dx_gf K (mk xi xa xl j) (.ref 1) 1 1 = some (.int (xi 65)) := rfl
theorem sf_1_1 {v : Int32} : dx_pf (mk xi xa xl j) (.ref 1) 1 1 0 (.int v) = some (mk (ui xi 65 v) xa xl j) := rfl
theorem an_2 : dx_in K (mk xi xa xl j) (.ref 2) = some 200 := rfl
theorem ga_2 {i : Int32} (hi : vp_in i 200) : dx_ei K (mk xi xa xl j) 2 (.ref 2) i = some (xa 2 i.toNatClampNeg) := if_pos ⟨rfl, hi⟩
theorem sa_2 {i v : Int32} (hi : vp_in i 200) : dx_pi (mk xi xa xl j) 2 (.ref 2) i v = some (mk xi (ua xa 2 (upd (xa 2) i.toNatClampNeg v)) xl j) := (if_pos ⟨rfl, hi⟩).trans rfl
theorem ci_3 : dx_ci K (mk xi xa xl j) (.ref 3) = some 2 := rfl
theorem gf_3_0 : dx_gf K (mk xi xa xl j) (.ref 3) 2 0 = some (.ref 4) := rfl
theorem gf_3_1 : dx_gf K (mk xi xa xl j) (.ref 3) 2 1 = some (.int (xi 193)) := rfl
theorem sf_3_1 {v : Int32} : dx_pf (mk xi xa xl j) (.ref 3) 2 1 0 (.int v) = some (mk (ui xi 193 v) xa xl j) := rfl
theorem an_4 : dx_in K (mk xi xa xl j) (.ref 4) = some 26 := rfl
theorem ga_4 {i : Int32} (hi : vp_in i 26) : dx_el K (mk xi xa xl j) (.ref 4) i = some (xl 4 i.toNatClampNeg) := if_pos ⟨rfl, hi⟩
theorem sa_4 {i : Int32} {v : Int64} (hi : vp_in i 26) : dx_pl (mk xi xa xl j) (.ref 4) i v = some (mk xi xa (ul xl 4 (vp_updL (xl 4) i.toNatClampNeg v)) j) := (if_pos ⟨rfl, hi⟩).trans rfl
theorem ci_5 : dx_ci K (mk xi xa xl j) (.ref 5) = some 3 := rfl
theorem gf_5_0 : dx_gf K (mk xi xa xl j) (.ref 5) 3 0 = some (.ref 6) := rfl
theorem gf_5_1 : dx_gf K (mk xi xa xl j) (.ref 5) 3 1 = some (.int (xi 321)) := rfl
theorem sf_5_1 {v : Int32} : dx_pf (mk xi xa xl j) (.ref 5) 3 1 0 (.int v) = some (mk (ui xi 321 v) xa xl j) := rfl
theorem gf_5_2 : dx_gf K (mk xi xa xl j) (.ref 5) 3 2 = some (.int (xi 322)) := rfl
theorem sf_5_2 {v : Int32} : dx_pf (mk xi xa xl j) (.ref 5) 3 2 0 (.int v) = some (mk (ui xi 322 v) xa xl j) := rfl
theorem gf_5_3 : dx_gf K (mk xi xa xl j) (.ref 5) 3 3 = some (.int (xi 323)) := rfl
theorem sf_5_3 {v : Int32} : dx_pf (mk xi xa xl j) (.ref 5) 3 3 0 (.int v) = some (mk (ui xi 323 v) xa xl j) := rfl
theorem gf_5_4 : dx_gf K (mk xi xa xl j) (.ref 5) 3 4 = some (.int (xi 324)) := rfl
theorem sf_5_4 {v : Int32} : dx_pf (mk xi xa xl j) (.ref 5) 3 4 0 (.int v) = some (mk (ui xi 324 v) xa xl j) := rfl
theorem an_6 : dx_in K (mk xi xa xl j) (.ref 6) = some 300 := rfl
theorem ga_6 {i : Int32} (hi : vp_in i 300) : dx_ei K (mk xi xa xl j) 2 (.ref 6) i = some (xa 6 i.toNatClampNeg) := if_pos ⟨rfl, hi⟩
theorem sa_6 {i v : Int32} (hi : vp_in i 300) : dx_pi (mk xi xa xl j) 2 (.ref 6) i v = some (mk xi (ua xa 6 (upd (xa 6) i.toNatClampNeg v)) xl j) := (if_pos ⟨rfl, hi⟩).trans rfl
theorem ci_7 : dx_ci K (mk xi xa xl j) (.ref 7) = some 4 := rfl
theorem gf_7_0 : dx_gf K (mk xi xa xl j) (.ref 7) 4 0 = some (.ref 8) := rfl
theorem gf_7_1 : dx_gf K (mk xi xa xl j) (.ref 7) 4 1 = some (.ref 9) := rfl
theorem gf_7_2 : dx_gf K (mk xi xa xl j) (.ref 7) 4 2 = some (.ref 10) := rfl
theorem gf_7_3 : dx_gf K (mk xi xa xl j) (.ref 7) 4 3 = some (.ref 11) := rfl
theorem gf_7_4 : dx_gf K (mk xi xa xl j) (.ref 7) 4 4 = some (.int (xi 452)) := rfl
theorem sf_7_4 {v : Int32} : dx_pf (mk xi xa xl j) (.ref 7) 4 4 0 (.int v) = some (mk (ui xi 452 v) xa xl j) := rfl
theorem an_8 : dx_in K (mk xi xa xl j) (.ref 8) = some 600 := rfl
theorem ga_8 {i : Int32} (hi : vp_in i 600) : dx_ei K (mk xi xa xl j) 0 (.ref 8) i = some (xa 8 i.toNatClampNeg) := if_pos ⟨rfl, hi⟩
theorem sa_8 {i v : Int32} (hi : vp_in i 600) : dx_pi (mk xi xa xl j) 0 (.ref 8) i v = some (mk xi (ua xa 8 (upd (xa 8) i.toNatClampNeg v)) xl j) := (if_pos ⟨rfl, hi⟩).trans rfl
theorem an_9 : dx_in K (mk xi xa xl j) (.ref 9) = some 600 := rfl
theorem ga_9 {i : Int32} (hi : vp_in i 600) : dx_el K (mk xi xa xl j) (.ref 9) i = some (xl 9 i.toNatClampNeg) := if_pos ⟨rfl, hi⟩
theorem sa_9 {i : Int32} {v : Int64} (hi : vp_in i 600) : dx_pl (mk xi xa xl j) (.ref 9) i v = some (mk xi xa (ul xl 9 (vp_updL (xl 9) i.toNatClampNeg v)) j) := (if_pos ⟨rfl, hi⟩).trans rfl
theorem an_10 : dx_in K (mk xi xa xl j) (.ref 10) = some 26 := rfl
theorem ga_10 {i : Int32} (hi : vp_in i 26) : dx_ei K (mk xi xa xl j) 0 (.ref 10) i = some (xa 10 i.toNatClampNeg) := if_pos ⟨rfl, hi⟩
theorem sa_10 {i v : Int32} (hi : vp_in i 26) : dx_pi (mk xi xa xl j) 0 (.ref 10) i v = some (mk xi (ua xa 10 (upd (xa 10) i.toNatClampNeg v)) xl j) := (if_pos ⟨rfl, hi⟩).trans rfl
theorem an_11 : dx_in K (mk xi xa xl j) (.ref 11) = some 26 := rfl
theorem ga_11 {i : Int32} (hi : vp_in i 26) : dx_ei K (mk xi xa xl j) 0 (.ref 11) i = some (xa 11 i.toNatClampNeg) := if_pos ⟨rfl, hi⟩
theorem sa_11 {i v : Int32} (hi : vp_in i 26) : dx_pi (mk xi xa xl j) 0 (.ref 11) i v = some (mk xi (ua xa 11 (upd (xa 11) i.toNatClampNeg v)) xl j) := (if_pos ⟨rfl, hi⟩).trans rfl
theorem ci_12 : dx_ci K (mk xi xa xl j) (.ref 12) = some 5 := rfl
theorem gf_12_0 : dx_gf K (mk xi xa xl j) (.ref 12) 5 0 = some (.ref 1) := rfl
theorem gf_12_1 : dx_gf K (mk xi xa xl j) (.ref 12) 5 1 = some (.ref 5) := rfl
theorem gf_12_2 : dx_gf K (mk xi xa xl j) (.ref 12) 5 2 = some (.ref 13) := rfl
theorem gf_12_3 : dx_gf K (mk xi xa xl j) (.ref 12) 5 3 = some (.ref 14) := rfl
theorem gf_12_4 : dx_gf K (mk xi xa xl j) (.ref 12) 5 4 = some (.int (xi 772)) := rfl
theorem sf_12_4 {v : Int32} : dx_pf (mk xi xa xl j) (.ref 12) 5 4 0 (.int v) = some (mk (ui xi 772 v) xa xl j) := rfl
theorem an_13 : dx_in K (mk xi xa xl j) (.ref 13) = some 201 := rfl
theorem ga_13 {i : Int32} (hi : vp_in i 201) : dx_ei K (mk xi xa xl j) 0 (.ref 13) i = some (xa 13 i.toNatClampNeg) := if_pos ⟨rfl, hi⟩
theorem sa_13 {i v : Int32} (hi : vp_in i 201) : dx_pi (mk xi xa xl j) 0 (.ref 13) i v = some (mk xi (ua xa 13 (upd (xa 13) i.toNatClampNeg v)) xl j) := (if_pos ⟨rfl, hi⟩).trans rfl
theorem an_14 : dx_in K (mk xi xa xl j) (.ref 14) = some 201 := rfl
theorem ga_14 {i : Int32} (hi : vp_in i 201) : dx_el K (mk xi xa xl j) (.ref 14) i = some (xl 14 i.toNatClampNeg) := if_pos ⟨rfl, hi⟩
theorem sa_14 {i : Int32} {v : Int64} (hi : vp_in i 201) : dx_pl (mk xi xa xl j) (.ref 14) i v = some (mk xi xa (ul xl 14 (vp_updL (xl 14) i.toNatClampNeg v)) j) := (if_pos ⟨rfl, hi⟩).trans rfl
theorem ci_15 : dx_ci K (mk xi xa xl j) (.ref 15) = some 6 := rfl
theorem gf_15_0 : dx_gf K (mk xi xa xl j) (.ref 15) 6 0 = some (.ref 12) := rfl
theorem gf_15_1 : dx_gf K (mk xi xa xl j) (.ref 15) 6 1 = some (.ref 7) := rfl
theorem gf_15_2 : dx_gf K (mk xi xa xl j) (.ref 15) 6 2 = some (.ref 5) := rfl
theorem gf_15_3 : dx_gf K (mk xi xa xl j) (.ref 15) 6 3 = some (.int (xi 963)) := rfl
theorem sf_15_3 {v : Int32} : dx_pf (mk xi xa xl j) (.ref 15) 6 3 0 (.int v) = some (mk (ui xi 963 v) xa xl j) := rfl
theorem gf_15_4 : dx_gf K (mk xi xa xl j) (.ref 15) 6 4 = some (.int (xi 964)) := rfl
theorem sf_15_4_0 : dx_pf (mk xi xa xl j) (.ref 15) 6 4 2 (.int 0) = some (mk (ui xi 964 0) xa xl j) := rfl
theorem sf_15_4_1 : dx_pf (mk xi xa xl j) (.ref 15) 6 4 2 (.int 1) = some (mk (ui xi 964 1) xa xl j) := rfl
theorem sf_15_4_v {v : Int32} (hv : v = 0 ∨ v = 1) : dx_pf (mk xi xa xl j) (.ref 15) 6 4 2 (.int v) = some (mk (ui xi 964 v) xa xl j) := by rcases hv with rfl | rfl <;> rfl
theorem ci_16 : dx_ci K (mk xi xa xl j) (.ref 16) = some 7 := rfl
theorem gf_16_0 : dx_gf K (mk xi xa xl j) (.ref 16) 7 0 = some (.ref 7) := rfl
theorem gf_16_1 : dx_gf K (mk xi xa xl j) (.ref 16) 7 1 = some (.ref 3) := rfl
theorem gf_16_2 : dx_gf K (mk xi xa xl j) (.ref 16) 7 2 = some (.ref 5) := rfl
theorem gf_16_3 : dx_gf K (mk xi xa xl j) (.ref 16) 7 3 = some (.ref 21) := rfl
theorem gf_16_4 : dx_gf K (mk xi xa xl j) (.ref 16) 7 4 = some (.ref 17) := rfl
theorem gf_16_5 : dx_gf K (mk xi xa xl j) (.ref 16) 7 5 = some (.int (xi 1029)) := rfl
theorem sf_16_5 {v : Int32} : dx_pf (mk xi xa xl j) (.ref 16) 7 5 0 (.int v) = some (mk (ui xi 1029 v) xa xl j) := rfl
theorem gf_16_6 : dx_gf K (mk xi xa xl j) (.ref 16) 7 6 = some (.int (xi 1030)) := rfl
theorem sf_16_6 {v : Int32} : dx_pf (mk xi xa xl j) (.ref 16) 7 6 0 (.int v) = some (mk (ui xi 1030 v) xa xl j) := rfl
theorem gf_16_7 : dx_gf K (mk xi xa xl j) (.ref 16) 7 7 = some (.ref 18) := rfl
theorem gf_16_8 : dx_gf K (mk xi xa xl j) (.ref 16) 7 8 = some (.ref 19) := rfl
theorem gf_16_9 : dx_gf K (mk xi xa xl j) (.ref 16) 7 9 = some (.ref 20) := rfl
theorem gf_16_10 : dx_gf K (mk xi xa xl j) (.ref 16) 7 10 = some (.int (xi 1034)) := rfl
theorem sf_16_10 {v : Int32} : dx_pf (mk xi xa xl j) (.ref 16) 7 10 0 (.int v) = some (mk (ui xi 1034 v) xa xl j) := rfl
theorem an_17 : dx_in K (mk xi xa xl j) (.ref 17) = some 140 := rfl
theorem ga_17 {i : Int32} (hi : vp_in i 140) : dx_el K (mk xi xa xl j) (.ref 17) i = some (xl 17 i.toNatClampNeg) := if_pos ⟨rfl, hi⟩
theorem sa_17 {i : Int32} {v : Int64} (hi : vp_in i 140) : dx_pl (mk xi xa xl j) (.ref 17) i v = some (mk xi xa (ul xl 17 (vp_updL (xl 17) i.toNatClampNeg v)) j) := (if_pos ⟨rfl, hi⟩).trans rfl
theorem an_18 : dx_in K (mk xi xa xl j) (.ref 18) = some 4 := rfl
theorem ga_18 {i : Int32} (hi : vp_in i 4) : dx_ei K (mk xi xa xl j) 0 (.ref 18) i = some (xa 18 i.toNatClampNeg) := if_pos ⟨rfl, hi⟩
theorem sa_18 {i v : Int32} (hi : vp_in i 4) : dx_pi (mk xi xa xl j) 0 (.ref 18) i v = some (mk xi (ua xa 18 (upd (xa 18) i.toNatClampNeg v)) xl j) := (if_pos ⟨rfl, hi⟩).trans rfl
theorem an_19 : dx_in K (mk xi xa xl j) (.ref 19) = some 4 := rfl
theorem ga_19 {i : Int32} (hi : vp_in i 4) : dx_ei K (mk xi xa xl j) 0 (.ref 19) i = some (xa 19 i.toNatClampNeg) := if_pos ⟨rfl, hi⟩
theorem sa_19 {i v : Int32} (hi : vp_in i 4) : dx_pi (mk xi xa xl j) 0 (.ref 19) i v = some (mk xi (ua xa 19 (upd (xa 19) i.toNatClampNeg v)) xl j) := (if_pos ⟨rfl, hi⟩).trans rfl
theorem an_20 : dx_in K (mk xi xa xl j) (.ref 20) = some 4 := rfl
theorem ga_20 {i : Int32} (hi : vp_in i 4) : dx_el K (mk xi xa xl j) (.ref 20) i = some (xl 20 i.toNatClampNeg) := if_pos ⟨rfl, hi⟩
theorem sa_20 {i : Int32} {v : Int64} (hi : vp_in i 4) : dx_pl (mk xi xa xl j) (.ref 20) i v = some (mk xi xa (ul xl 20 (vp_updL (xl 20) i.toNatClampNeg v)) j) := (if_pos ⟨rfl, hi⟩).trans rfl
theorem ci_21 : dx_ci K (mk xi xa xl j) (.ref 21) = some 8 := rfl
theorem gf_21_0 : dx_gf K (mk xi xa xl j) (.ref 21) 8 0 = some (.ref 3) := rfl
theorem gf_21_1 : dx_gf K (mk xi xa xl j) (.ref 21) 8 1 = some (.ref 5) := rfl
theorem ci_22 : dx_ci K (mk xi xa xl j) (.ref 22) = some 9 := rfl
theorem gf_22_0 : dx_gf K (mk xi xa xl j) (.ref 22) 9 0 = some (.ref 23) := rfl
theorem gf_22_1 : dx_gf K (mk xi xa xl j) (.ref 22) 9 1 = some (.int (xi 1409)) := rfl
theorem sf_22_1 {v : Int32} : dx_pf (mk xi xa xl j) (.ref 22) 9 1 0 (.int v) = some (mk (ui xi 1409 v) xa xl j) := rfl
theorem gf_22_2 : dx_gf K (mk xi xa xl j) (.ref 22) 9 2 = some (.ref 24) := rfl
theorem gf_22_3 : dx_gf K (mk xi xa xl j) (.ref 22) 9 3 = some (.ref 25) := rfl
theorem gf_22_4 : dx_gf K (mk xi xa xl j) (.ref 22) 9 4 = some (.int (xi 1412)) := rfl
theorem sf_22_4 {v : Int32} : dx_pf (mk xi xa xl j) (.ref 22) 9 4 0 (.int v) = some (mk (ui xi 1412 v) xa xl j) := rfl
theorem gf_22_5 : dx_gf K (mk xi xa xl j) (.ref 22) 9 5 = some (.ref 26) := rfl
theorem gf_22_6 : dx_gf K (mk xi xa xl j) (.ref 22) 9 6 = some (.ref 27) := rfl
theorem gf_22_7 : dx_gf K (mk xi xa xl j) (.ref 22) 9 7 = some (.ref 28) := rfl
theorem gf_22_8 : dx_gf K (mk xi xa xl j) (.ref 22) 9 8 = some (.int (xi 1416)) := rfl
theorem sf_22_8 {v : Int32} : dx_pf (mk xi xa xl j) (.ref 22) 9 8 0 (.int v) = some (mk (ui xi 1416 v) xa xl j) := rfl
theorem gf_22_9 : dx_gf K (mk xi xa xl j) (.ref 22) 9 9 = some (.int (xi 1417)) := rfl
theorem sf_22_9 {v : Int32} : dx_pf (mk xi xa xl j) (.ref 22) 9 9 0 (.int v) = some (mk (ui xi 1417 v) xa xl j) := rfl
theorem gf_22_10 : dx_gf K (mk xi xa xl j) (.ref 22) 9 10 = some (.int (xi 1418)) := rfl
theorem sf_22_10_0 : dx_pf (mk xi xa xl j) (.ref 22) 9 10 2 (.int 0) = some (mk (ui xi 1418 0) xa xl j) := rfl
theorem sf_22_10_1 : dx_pf (mk xi xa xl j) (.ref 22) 9 10 2 (.int 1) = some (mk (ui xi 1418 1) xa xl j) := rfl
theorem sf_22_10_v {v : Int32} (hv : v = 0 ∨ v = 1) : dx_pf (mk xi xa xl j) (.ref 22) 9 10 2 (.int v) = some (mk (ui xi 1418 v) xa xl j) := by rcases hv with rfl | rfl <;> rfl
theorem gf_22_11 : dx_gf K (mk xi xa xl j) (.ref 22) 9 11 = some (.ref 29) := rfl
theorem gf_22_12 : dx_gf K (mk xi xa xl j) (.ref 22) 9 12 = some (.ref 30) := rfl
theorem gf_22_13 : dx_gf K (mk xi xa xl j) (.ref 22) 9 13 = some (.ref 31) := rfl
theorem gf_22_14 : dx_gf K (mk xi xa xl j) (.ref 22) 9 14 = some (.int (xi 1422)) := rfl
theorem sf_22_14 {v : Int32} : dx_pf (mk xi xa xl j) (.ref 22) 9 14 0 (.int v) = some (mk (ui xi 1422 v) xa xl j) := rfl
theorem gf_22_15 : dx_gf K (mk xi xa xl j) (.ref 22) 9 15 = some (.ref 32) := rfl
theorem gf_22_16 : dx_gf K (mk xi xa xl j) (.ref 22) 9 16 = some (.ref 33) := rfl
theorem gf_22_17 : dx_gf K (mk xi xa xl j) (.ref 22) 9 17 = some (.ref 34) := rfl
theorem gf_22_18 : dx_gf K (mk xi xa xl j) (.ref 22) 9 18 = some (.ref 35) := rfl
theorem gf_22_19 : dx_gf K (mk xi xa xl j) (.ref 22) 9 19 = some (.ref 36) := rfl
theorem gf_22_20 : dx_gf K (mk xi xa xl j) (.ref 22) 9 20 = some (.int (xi 1428)) := rfl
theorem sf_22_20 {v : Int32} : dx_pf (mk xi xa xl j) (.ref 22) 9 20 0 (.int v) = some (mk (ui xi 1428 v) xa xl j) := rfl
theorem gf_22_21 : dx_gf K (mk xi xa xl j) (.ref 22) 9 21 = some (.int (xi 1429)) := rfl
theorem sf_22_21 {v : Int32} : dx_pf (mk xi xa xl j) (.ref 22) 9 21 0 (.int v) = some (mk (ui xi 1429 v) xa xl j) := rfl
theorem gf_22_22 : dx_gf K (mk xi xa xl j) (.ref 22) 9 22 = some (.int (xi 1430)) := rfl
theorem sf_22_22_0 : dx_pf (mk xi xa xl j) (.ref 22) 9 22 2 (.int 0) = some (mk (ui xi 1430 0) xa xl j) := rfl
theorem sf_22_22_1 : dx_pf (mk xi xa xl j) (.ref 22) 9 22 2 (.int 1) = some (mk (ui xi 1430 1) xa xl j) := rfl
theorem sf_22_22_v {v : Int32} (hv : v = 0 ∨ v = 1) : dx_pf (mk xi xa xl j) (.ref 22) 9 22 2 (.int v) = some (mk (ui xi 1430 v) xa xl j) := by rcases hv with rfl | rfl <;> rfl
theorem gf_22_23 : dx_gf K (mk xi xa xl j) (.ref 22) 9 23 = some (.ref 37) := rfl
theorem gf_22_24 : dx_gf K (mk xi xa xl j) (.ref 22) 9 24 = some (.ref 38) := rfl
theorem gf_22_25 : dx_gf K (mk xi xa xl j) (.ref 22) 9 25 = some (.ref 39) := rfl
theorem gf_22_26 : dx_gf K (mk xi xa xl j) (.ref 22) 9 26 = some (.ref 40) := rfl
theorem gf_22_27 : dx_gf K (mk xi xa xl j) (.ref 22) 9 27 = some (.ref 41) := rfl
theorem gf_22_28 : dx_gf K (mk xi xa xl j) (.ref 22) 9 28 = some (.ref 42) := rfl
theorem gf_22_29 : dx_gf K (mk xi xa xl j) (.ref 22) 9 29 = some (.ref 43) := rfl
theorem gf_22_30 : dx_gf K (mk xi xa xl j) (.ref 22) 9 30 = some (.int (xi 1438)) := rfl
theorem sf_22_30 {v : Int32} : dx_pf (mk xi xa xl j) (.ref 22) 9 30 0 (.int v) = some (mk (ui xi 1438 v) xa xl j) := rfl
theorem gf_22_31 : dx_gf K (mk xi xa xl j) (.ref 22) 9 31 = some (.int (xi 1439)) := rfl
theorem sf_22_31 {v : Int32} : dx_pf (mk xi xa xl j) (.ref 22) 9 31 0 (.int v) = some (mk (ui xi 1439 v) xa xl j) := rfl
theorem gf_22_32 : dx_gf K (mk xi xa xl j) (.ref 22) 9 32 = some (.int (xi 1440)) := rfl
theorem sf_22_32 {v : Int32} : dx_pf (mk xi xa xl j) (.ref 22) 9 32 0 (.int v) = some (mk (ui xi 1440 v) xa xl j) := rfl
theorem gf_22_33 : dx_gf K (mk xi xa xl j) (.ref 22) 9 33 = some (.int (xi 1441)) := rfl
theorem sf_22_33 {v : Int32} : dx_pf (mk xi xa xl j) (.ref 22) 9 33 0 (.int v) = some (mk (ui xi 1441 v) xa xl j) := rfl
theorem gf_22_34 : dx_gf K (mk xi xa xl j) (.ref 22) 9 34 = some (.int (xi 1442)) := rfl
theorem sf_22_34 {v : Int32} : dx_pf (mk xi xa xl j) (.ref 22) 9 34 0 (.int v) = some (mk (ui xi 1442 v) xa xl j) := rfl
theorem gf_22_35 : dx_gf K (mk xi xa xl j) (.ref 22) 9 35 = some (.int (xi 1443)) := rfl
theorem sf_22_35 {v : Int32} : dx_pf (mk xi xa xl j) (.ref 22) 9 35 0 (.int v) = some (mk (ui xi 1443 v) xa xl j) := rfl
theorem gf_22_36 : dx_gf K (mk xi xa xl j) (.ref 22) 9 36 = some (.ref 44) := rfl
theorem gf_22_37 : dx_gf K (mk xi xa xl j) (.ref 22) 9 37 = some (.int (xi 1445)) := rfl
theorem sf_22_37 {v : Int32} : dx_pf (mk xi xa xl j) (.ref 22) 9 37 0 (.int v) = some (mk (ui xi 1445 v) xa xl j) := rfl
theorem gf_22_38 : dx_gf K (mk xi xa xl j) (.ref 22) 9 38 = some (.int (xi 1446)) := rfl
theorem sf_22_38 {v : Int32} : dx_pf (mk xi xa xl j) (.ref 22) 9 38 0 (.int v) = some (mk (ui xi 1446 v) xa xl j) := rfl
theorem gf_22_39 : dx_gf K (mk xi xa xl j) (.ref 22) 9 39 = some (.int (xi 1447)) := rfl
theorem sf_22_39 {v : Int32} : dx_pf (mk xi xa xl j) (.ref 22) 9 39 0 (.int v) = some (mk (ui xi 1447 v) xa xl j) := rfl
theorem an_23 : dx_in K (mk xi xa xl j) (.ref 23) = some 200 := rfl
theorem ga_23 {i : Int32} (hi : vp_in i 200) : dx_ei K (mk xi xa xl j) 0 (.ref 23) i = some (xa 23 i.toNatClampNeg) := if_pos ⟨rfl, hi⟩
theorem sa_23 {i v : Int32} (hi : vp_in i 200) : dx_pi (mk xi xa xl j) 0 (.ref 23) i v = some (mk xi (ua xa 23 (upd (xa 23) i.toNatClampNeg v)) xl j) := (if_pos ⟨rfl, hi⟩).trans rfl
theorem an_24 : dx_in K (mk xi xa xl j) (.ref 24) = some 26 := rfl
theorem ga_24 {i : Int32} (hi : vp_in i 26) : dx_ei K (mk xi xa xl j) 0 (.ref 24) i = some (xa 24 i.toNatClampNeg) := if_pos ⟨rfl, hi⟩
theorem sa_24 {i v : Int32} (hi : vp_in i 26) : dx_pi (mk xi xa xl j) 0 (.ref 24) i v = some (mk xi (ua xa 24 (upd (xa 24) i.toNatClampNeg v)) xl j) := (if_pos ⟨rfl, hi⟩).trans rfl
theorem an_25 : dx_in K (mk xi xa xl j) (.ref 25) = some 26 := rfl
theorem ga_25 {i : Int32} (hi : vp_in i 26) : dx_ei K (mk xi xa xl j) 0 (.ref 25) i = some (xa 25 i.toNatClampNeg) := if_pos ⟨rfl, hi⟩
theorem sa_25 {i v : Int32} (hi : vp_in i 26) : dx_pi (mk xi xa xl j) 0 (.ref 25) i v = some (mk xi (ua xa 25 (upd (xa 25) i.toNatClampNeg v)) xl j) := (if_pos ⟨rfl, hi⟩).trans rfl
theorem an_26 : dx_in K (mk xi xa xl j) (.ref 26) = some 210 := rfl
theorem ga_26 {i : Int32} (hi : vp_in i 210) : dx_ei K (mk xi xa xl j) 0 (.ref 26) i = some (xa 26 i.toNatClampNeg) := if_pos ⟨rfl, hi⟩
theorem sa_26 {i v : Int32} (hi : vp_in i 210) : dx_pi (mk xi xa xl j) 0 (.ref 26) i v = some (mk xi (ua xa 26 (upd (xa 26) i.toNatClampNeg v)) xl j) := (if_pos ⟨rfl, hi⟩).trans rfl
theorem an_27 : dx_in K (mk xi xa xl j) (.ref 27) = some 210 := rfl
theorem ga_27 {i : Int32} (hi : vp_in i 210) : dx_ei K (mk xi xa xl j) 0 (.ref 27) i = some (xa 27 i.toNatClampNeg) := if_pos ⟨rfl, hi⟩
theorem sa_27 {i v : Int32} (hi : vp_in i 210) : dx_pi (mk xi xa xl j) 0 (.ref 27) i v = some (mk xi (ua xa 27 (upd (xa 27) i.toNatClampNeg v)) xl j) := (if_pos ⟨rfl, hi⟩).trans rfl
theorem an_28 : dx_in K (mk xi xa xl j) (.ref 28) = some 210 := rfl
theorem ga_28 {i : Int32} (hi : vp_in i 210) : dx_ei K (mk xi xa xl j) 0 (.ref 28) i = some (xa 28 i.toNatClampNeg) := if_pos ⟨rfl, hi⟩
theorem sa_28 {i v : Int32} (hi : vp_in i 210) : dx_pi (mk xi xa xl j) 0 (.ref 28) i v = some (mk xi (ua xa 28 (upd (xa 28) i.toNatClampNeg v)) xl j) := (if_pos ⟨rfl, hi⟩).trans rfl
theorem an_29 : dx_in K (mk xi xa xl j) (.ref 29) = some 1200 := rfl
theorem ga_29 {i : Int32} (hi : vp_in i 1200) : dx_ei K (mk xi xa xl j) 0 (.ref 29) i = some (xa 29 i.toNatClampNeg) := if_pos ⟨rfl, hi⟩
theorem sa_29 {i v : Int32} (hi : vp_in i 1200) : dx_pi (mk xi xa xl j) 0 (.ref 29) i v = some (mk xi (ua xa 29 (upd (xa 29) i.toNatClampNeg v)) xl j) := (if_pos ⟨rfl, hi⟩).trans rfl
theorem an_30 : dx_in K (mk xi xa xl j) (.ref 30) = some 1200 := rfl
theorem ga_30 {i : Int32} (hi : vp_in i 1200) : dx_ei K (mk xi xa xl j) 0 (.ref 30) i = some (xa 30 i.toNatClampNeg) := if_pos ⟨rfl, hi⟩
theorem sa_30 {i v : Int32} (hi : vp_in i 1200) : dx_pi (mk xi xa xl j) 0 (.ref 30) i v = some (mk xi (ua xa 30 (upd (xa 30) i.toNatClampNeg v)) xl j) := (if_pos ⟨rfl, hi⟩).trans rfl
theorem an_31 : dx_in K (mk xi xa xl j) (.ref 31) = some 1200 := rfl
theorem ga_31 {i : Int32} (hi : vp_in i 1200) : dx_ei K (mk xi xa xl j) 0 (.ref 31) i = some (xa 31 i.toNatClampNeg) := if_pos ⟨rfl, hi⟩
theorem sa_31 {i v : Int32} (hi : vp_in i 1200) : dx_pi (mk xi xa xl j) 0 (.ref 31) i v = some (mk xi (ua xa 31 (upd (xa 31) i.toNatClampNeg v)) xl j) := (if_pos ⟨rfl, hi⟩).trans rfl
theorem an_32 : dx_in K (mk xi xa xl j) (.ref 32) = some 26 := rfl
theorem ga_32 {i : Int32} (hi : vp_in i 26) : dx_ei K (mk xi xa xl j) 0 (.ref 32) i = some (xa 32 i.toNatClampNeg) := if_pos ⟨rfl, hi⟩
theorem sa_32 {i v : Int32} (hi : vp_in i 26) : dx_pi (mk xi xa xl j) 0 (.ref 32) i v = some (mk xi (ua xa 32 (upd (xa 32) i.toNatClampNeg v)) xl j) := (if_pos ⟨rfl, hi⟩).trans rfl
theorem an_33 : dx_in K (mk xi xa xl j) (.ref 33) = some 26 := rfl
theorem ga_33 {i : Int32} (hi : vp_in i 26) : dx_ei K (mk xi xa xl j) 0 (.ref 33) i = some (xa 33 i.toNatClampNeg) := if_pos ⟨rfl, hi⟩
theorem sa_33 {i v : Int32} (hi : vp_in i 26) : dx_pi (mk xi xa xl j) 0 (.ref 33) i v = some (mk xi (ua xa 33 (upd (xa 33) i.toNatClampNeg v)) xl j) := (if_pos ⟨rfl, hi⟩).trans rfl
theorem an_34 : dx_in K (mk xi xa xl j) (.ref 34) = some 600 := rfl
theorem ga_34 {i : Int32} (hi : vp_in i 600) : dx_ei K (mk xi xa xl j) 0 (.ref 34) i = some (xa 34 i.toNatClampNeg) := if_pos ⟨rfl, hi⟩
theorem sa_34 {i v : Int32} (hi : vp_in i 600) : dx_pi (mk xi xa xl j) 0 (.ref 34) i v = some (mk xi (ua xa 34 (upd (xa 34) i.toNatClampNeg v)) xl j) := (if_pos ⟨rfl, hi⟩).trans rfl
theorem an_35 : dx_in K (mk xi xa xl j) (.ref 35) = some 600 := rfl
theorem ga_35 {i : Int32} (hi : vp_in i 600) : dx_ei K (mk xi xa xl j) 0 (.ref 35) i = some (xa 35 i.toNatClampNeg) := if_pos ⟨rfl, hi⟩
theorem sa_35 {i v : Int32} (hi : vp_in i 600) : dx_pi (mk xi xa xl j) 0 (.ref 35) i v = some (mk xi (ua xa 35 (upd (xa 35) i.toNatClampNeg v)) xl j) := (if_pos ⟨rfl, hi⟩).trans rfl
theorem an_36 : dx_in K (mk xi xa xl j) (.ref 36) = some 600 := rfl
theorem ga_36 {i : Int32} (hi : vp_in i 600) : dx_ei K (mk xi xa xl j) 0 (.ref 36) i = some (xa 36 i.toNatClampNeg) := if_pos ⟨rfl, hi⟩
theorem sa_36 {i v : Int32} (hi : vp_in i 600) : dx_pi (mk xi xa xl j) 0 (.ref 36) i v = some (mk xi (ua xa 36 (upd (xa 36) i.toNatClampNeg v)) xl j) := (if_pos ⟨rfl, hi⟩).trans rfl
theorem an_37 : dx_in K (mk xi xa xl j) (.ref 37) = some 300 := rfl
theorem ga_37 {i : Int32} (hi : vp_in i 300) : dx_ei K (mk xi xa xl j) 0 (.ref 37) i = some (xa 37 i.toNatClampNeg) := if_pos ⟨rfl, hi⟩
theorem sa_37 {i v : Int32} (hi : vp_in i 300) : dx_pi (mk xi xa xl j) 0 (.ref 37) i v = some (mk xi (ua xa 37 (upd (xa 37) i.toNatClampNeg v)) xl j) := (if_pos ⟨rfl, hi⟩).trans rfl
theorem an_38 : dx_in K (mk xi xa xl j) (.ref 38) = some 300 := rfl
theorem ga_38 {i : Int32} (hi : vp_in i 300) : dx_ei K (mk xi xa xl j) 0 (.ref 38) i = some (xa 38 i.toNatClampNeg) := if_pos ⟨rfl, hi⟩
theorem sa_38 {i v : Int32} (hi : vp_in i 300) : dx_pi (mk xi xa xl j) 0 (.ref 38) i v = some (mk xi (ua xa 38 (upd (xa 38) i.toNatClampNeg v)) xl j) := (if_pos ⟨rfl, hi⟩).trans rfl
theorem an_39 : dx_in K (mk xi xa xl j) (.ref 39) = some 5 := rfl
theorem ga_39 {i : Int32} (hi : vp_in i 5) : dx_ei K (mk xi xa xl j) 0 (.ref 39) i = some (xa 39 i.toNatClampNeg) := if_pos ⟨rfl, hi⟩
theorem sa_39 {i v : Int32} (hi : vp_in i 5) : dx_pi (mk xi xa xl j) 0 (.ref 39) i v = some (mk xi (ua xa 39 (upd (xa 39) i.toNatClampNeg v)) xl j) := (if_pos ⟨rfl, hi⟩).trans rfl
theorem an_40 : dx_in K (mk xi xa xl j) (.ref 40) = some 5 := rfl
theorem ga_40 {i : Int32} (hi : vp_in i 5) : dx_ei K (mk xi xa xl j) 0 (.ref 40) i = some (xa 40 i.toNatClampNeg) := if_pos ⟨rfl, hi⟩
theorem sa_40 {i v : Int32} (hi : vp_in i 5) : dx_pi (mk xi xa xl j) 0 (.ref 40) i v = some (mk xi (ua xa 40 (upd (xa 40) i.toNatClampNeg v)) xl j) := (if_pos ⟨rfl, hi⟩).trans rfl
theorem an_41 : dx_in K (mk xi xa xl j) (.ref 41) = some 5 := rfl
theorem ga_41 {i : Int32} (hi : vp_in i 5) : dx_ei K (mk xi xa xl j) 0 (.ref 41) i = some (xa 41 i.toNatClampNeg) := if_pos ⟨rfl, hi⟩
theorem sa_41 {i v : Int32} (hi : vp_in i 5) : dx_pi (mk xi xa xl j) 0 (.ref 41) i v = some (mk xi (ua xa 41 (upd (xa 41) i.toNatClampNeg v)) xl j) := (if_pos ⟨rfl, hi⟩).trans rfl
theorem an_42 : dx_in K (mk xi xa xl j) (.ref 42) = some 5 := rfl
theorem ga_42 {i : Int32} (hi : vp_in i 5) : dx_ei K (mk xi xa xl j) 0 (.ref 42) i = some (xa 42 i.toNatClampNeg) := if_pos ⟨rfl, hi⟩
theorem sa_42 {i v : Int32} (hi : vp_in i 5) : dx_pi (mk xi xa xl j) 0 (.ref 42) i v = some (mk xi (ua xa 42 (upd (xa 42) i.toNatClampNeg v)) xl j) := (if_pos ⟨rfl, hi⟩).trans rfl
theorem an_43 : dx_in K (mk xi xa xl j) (.ref 43) = some 5 := rfl
theorem ga_43 {i : Int32} (hi : vp_in i 5) : dx_ei K (mk xi xa xl j) 0 (.ref 43) i = some (xa 43 i.toNatClampNeg) := if_pos ⟨rfl, hi⟩
theorem sa_43 {i v : Int32} (hi : vp_in i 5) : dx_pi (mk xi xa xl j) 0 (.ref 43) i v = some (mk xi (ua xa 43 (upd (xa 43) i.toNatClampNeg v)) xl j) := (if_pos ⟨rfl, hi⟩).trans rfl
theorem an_44 : dx_in K (mk xi xa xl j) (.ref 44) = some 300 := rfl
theorem ga_44 {i : Int32} (hi : vp_in i 300) : dx_ei K (mk xi xa xl j) 0 (.ref 44) i = some (xa 44 i.toNatClampNeg) := if_pos ⟨rfl, hi⟩
theorem sa_44 {i v : Int32} (hi : vp_in i 300) : dx_pi (mk xi xa xl j) 0 (.ref 44) i v = some (mk xi (ua xa 44 (upd (xa 44) i.toNatClampNeg v)) xl j) := (if_pos ⟨rfl, hi⟩).trans rfl
theorem an_45 : dx_in K (mk xi xa xl j) (.ref 45) = some 1 := rfl
theorem ga_45 {i : Int32} (hi : vp_in i 1) : dx_el K (mk xi xa xl j) (.ref 45) i = some (xl 45 i.toNatClampNeg) := if_pos ⟨rfl, hi⟩
theorem sa_45 {i : Int32} {v : Int64} (hi : vp_in i 1) : dx_pl (mk xi xa xl j) (.ref 45) i v = some (mk xi xa (ul xl 45 (vp_updL (xl 45) i.toNatClampNeg v)) j) := (if_pos ⟨rfl, hi⟩).trans rfl
end MK
