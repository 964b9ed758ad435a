section WS
variable {Z : dx_Z} {M pc d : Nat} {a b f : Nat} {v0 : Value} {lv : dx_L} {st : List Value} {σ : dx_S} {Q : dx_O → dx_S → Prop}
theorem r_look {dd : Int} {ps : Array (Int × Int)} {x : Int32} {t : Nat} (h : Z.1 M pc = some (.lookupswitch dd ps, a, b, f, v0)) (ha : (ps.toList.zip (ps.toList.drop 1)).all (fun (a, next) => a.1 < next.1) = true) (ho : (pc : Int) + Op.lookupswitch.offset ps.toList dd x.toInt = (t : Int)) : dx_W Z d M pc lv (.int x :: st) σ Q ↔ dx_W Z d M t lv st σ Q := by
  refine r_sw h rfl ?_
  show (if (ps.toList.zip (ps.toList.drop 1)).all (fun (a, next) => a.1 < next.1) = true then dx_jp pc (Op.lookupswitch.offset ps.toList dd x.toInt) (fun t => some (t, lv, st)) else none) = some (t, lv, st)
  rw [if_pos ha, dx_jp, if_pos (by omega), show ((pc : Int) + Op.lookupswitch.offset ps.toList dd x.toInt).toNat = t by omega]
theorem r_table {dd lo hi : Int} {offs : Array Int} {x : Int32} {t : Nat} (h : Z.1 M pc = some (.tableswitch dd lo hi offs, a, b, f, v0)) (ha : offs.size = (hi - lo + 1).toNat ∧ lo ≤ hi) (hx : x.toInt < lo ∨ hi < x.toInt) (ho : (pc : Int) + dd = (t : Int)) : dx_W Z d M pc lv (.int x :: st) σ Q ↔ dx_W Z d M t lv st σ Q := by
  refine r_sw h rfl ?_
  show (if offs.size = (hi - lo + 1).toNat ∧ lo ≤ hi then dx_jp pc (if x.toInt < lo ∨ hi < x.toInt then dd else (offs[(x.toInt - lo).toNat]?).getD dd) (fun t => some (t, lv, st)) else none) = some (t, lv, st)
  rw [if_pos ha, if_pos hx, dx_jp, if_pos (by omega), show ((pc : Int) + dd).toNat = t by omega]
end WS
/-! Printed by program: the rules of every instruction of DecimalRun$Scanner. -/
section W5
variable {L : Nat} {xs : Nat → Int32} {d : Nat} {lv : dx_L} {st : List Value} {σ : dx_S} {Q : dx_O → dx_S → Prop}
theorem hz_32 {pc : Nat} : (tb_Z L xs).1 32 pc = dx_at tb_m32 pc := rfl
theorem w_32_0 : dx_W (tb_Z L xs) d 32 0 lv st σ Q ↔ wR (dx_lk lv 0) (fun y => dx_W (tb_Z L xs) d 32 1 lv (y :: st) σ Q) := r_aload_n (k := 0) (hz_32.trans rfl)
theorem w_32_1 {w : Nat} : dx_W (tb_Z L xs) d 32 1 lv (.ref w :: st) σ Q ↔ dx_ct st ≤ 8 ∧ dx_W (tb_Z L xs) d 32 4 lv st σ Q := c_objinit (hz_32.trans rfl)
theorem w_32_4 : dx_W (tb_Z L xs) d 32 4 lv st σ Q ↔ wR (dx_lk lv 0) (fun y => dx_W (tb_Z L xs) d 32 5 lv (y :: st) σ Q) := r_aload_n (k := 0) (hz_32.trans rfl)
theorem w_32_5 : dx_W (tb_Z L xs) d 32 5 lv st σ Q ↔ dx_W (tb_Z L xs) d 32 8 lv (.int 201 :: st) σ Q := r_sipush (n := 201) (hz_32.trans rfl)
theorem w_32_8 {n : Int32} {y : dx_E} (hn : ¬ (n < 0 ∨ 1000000 < n.toNatClampNeg)) (hy : dx_na .int n.toNatClampNeg = some y) : dx_W (tb_Z L xs) d 32 8 lv (.int n :: st) σ Q ↔ dx_W (tb_Z L xs) d 32 10 lv (.ref σ.length :: st) (σ ++ [y]) Q := r_newarray (hz_32.trans rfl) hn hy
theorem w_32_10 {u w : Value} : dx_W (tb_Z L xs) d 32 10 lv (u :: w :: st) σ Q ↔ wO (dx_pf σ w 5 2 3 u) (fun σ1 => dx_W (tb_Z L xs) d 32 13 lv st σ1 Q) := r_putfield (f := 3) (hz_32.trans rfl)
theorem w_32_13 : dx_W (tb_Z L xs) d 32 13 lv st σ Q ↔ wR (dx_lk lv 0) (fun y => dx_W (tb_Z L xs) d 32 14 lv (y :: st) σ Q) := r_aload_n (k := 0) (hz_32.trans rfl)
theorem w_32_14 : dx_W (tb_Z L xs) d 32 14 lv st σ Q ↔ dx_W (tb_Z L xs) d 32 17 lv (.int 201 :: st) σ Q := r_sipush (n := 201) (hz_32.trans rfl)
theorem w_32_17 {n : Int32} {y : dx_E} (hn : ¬ (n < 0 ∨ 1000000 < n.toNatClampNeg)) (hy : dx_na .long n.toNatClampNeg = some y) : dx_W (tb_Z L xs) d 32 17 lv (.int n :: st) σ Q ↔ dx_W (tb_Z L xs) d 32 19 lv (.ref σ.length :: st) (σ ++ [y]) Q := r_newarray (hz_32.trans rfl) hn hy
theorem w_32_19 {u w : Value} : dx_W (tb_Z L xs) d 32 19 lv (u :: w :: st) σ Q ↔ wO (dx_pf σ w 5 3 3 u) (fun σ1 => dx_W (tb_Z L xs) d 32 22 lv st σ1 Q) := r_putfield (f := 3) (hz_32.trans rfl)
theorem w_32_22 : dx_W (tb_Z L xs) d 32 22 lv st σ Q ↔ wR (dx_lk lv 0) (fun y => dx_W (tb_Z L xs) d 32 23 lv (y :: st) σ Q) := r_aload_n (k := 0) (hz_32.trans rfl)
theorem w_32_23 : dx_W (tb_Z L xs) d 32 23 lv st σ Q ↔ wR (dx_lk lv 1) (fun y => dx_W (tb_Z L xs) d 32 24 lv (y :: st) σ Q) := r_aload_n (k := 1) (hz_32.trans rfl)
theorem w_32_24 {u w : Value} : dx_W (tb_Z L xs) d 32 24 lv (u :: w :: st) σ Q ↔ wO (dx_pf σ w 5 0 3 u) (fun σ1 => dx_W (tb_Z L xs) d 32 27 lv st σ1 Q) := r_putfield (f := 3) (hz_32.trans rfl)
theorem w_32_27 : dx_W (tb_Z L xs) d 32 27 lv st σ Q ↔ wR (dx_lk lv 0) (fun y => dx_W (tb_Z L xs) d 32 28 lv (y :: st) σ Q) := r_aload_n (k := 0) (hz_32.trans rfl)
theorem w_32_28 : dx_W (tb_Z L xs) d 32 28 lv st σ Q ↔ wR (dx_lk lv 2) (fun y => dx_W (tb_Z L xs) d 32 29 lv (y :: st) σ Q) := r_aload_n (k := 2) (hz_32.trans rfl)
theorem w_32_29 {u w : Value} : dx_W (tb_Z L xs) d 32 29 lv (u :: w :: st) σ Q ↔ wO (dx_pf σ w 5 1 3 u) (fun σ1 => dx_W (tb_Z L xs) d 32 32 lv st σ1 Q) := r_putfield (f := 3) (hz_32.trans rfl)
theorem w_32_32 : dx_W (tb_Z L xs) d 32 32 lv [] σ Q ↔ Q (.inl none) σ := r_return (hz_32.trans rfl) rfl
theorem hz_33 {pc : Nat} : (tb_Z L xs).1 33 pc = dx_at tb_m33 pc := rfl
theorem w_33_0 : dx_W (tb_Z L xs) d 33 0 lv st σ Q ↔ wR (dx_lk lv 0) (fun y => dx_W (tb_Z L xs) d 33 1 lv (y :: st) σ Q) := r_aload_n (k := 0) (hz_33.trans rfl)
theorem w_33_1 : dx_W (tb_Z L xs) d 33 1 lv st σ Q ↔ dx_W (tb_Z L xs) d 33 2 lv (.int 0 :: st) σ Q := r_iconst (n := 0) (hz_33.trans rfl)
theorem w_33_2 {u w : Value} : dx_W (tb_Z L xs) d 33 2 lv (u :: w :: st) σ Q ↔ wO (dx_pf σ w 5 4 0 u) (fun σ1 => dx_W (tb_Z L xs) d 33 5 lv st σ1 Q) := r_putfield (f := 0) (hz_33.trans rfl)
theorem w_33_5 : dx_W (tb_Z L xs) d 33 5 lv st σ Q ↔ dx_W (tb_Z L xs) d 33 6 lv (.int 0 :: st) σ Q := r_iconst (n := 0) (hz_33.trans rfl)
theorem w_33_6 {x : Int32} : dx_W (tb_Z L xs) d 33 6 lv (.int x :: st) σ Q ↔ dx_W (tb_Z L xs) d 33 7 (dx_s1 lv 1 (.int x)) st σ Q := r_istore_n (k := 1) (hz_33.trans rfl) (show 1 < tb_l 33 by decide)
theorem w_33_7 : dx_W (tb_Z L xs) d 33 7 lv st σ Q ↔ wI (dx_lk lv 1) (fun y => dx_W (tb_Z L xs) d 33 8 lv (.int y :: st) σ Q) := r_iload_n (k := 1) (hz_33.trans rfl)
theorem w_33_8 : dx_W (tb_Z L xs) d 33 8 lv st σ Q ↔ wR (dx_lk lv 0) (fun y => dx_W (tb_Z L xs) d 33 9 lv (y :: st) σ Q) := r_aload_n (k := 0) (hz_33.trans rfl)
theorem w_33_9 {w : Value} : dx_W (tb_Z L xs) d 33 9 lv (w :: st) σ Q ↔ wO (dx_gf (tb_K L xs) σ w 5 0) (fun y => dx_W (tb_Z L xs) d 33 12 lv (y :: st) σ Q) := r_getfield (hz_33.trans rfl)
theorem w_33_12 {w : Value} : dx_W (tb_Z L xs) d 33 12 lv (w :: st) σ Q ↔ wO (dx_gf (tb_K L xs) σ w 1 1) (fun y => dx_W (tb_Z L xs) d 33 15 lv (y :: st) σ Q) := r_getfield (hz_33.trans rfl)
theorem w_33_15 {x y : Int32} : dx_W (tb_Z L xs) d 33 15 lv (.int y :: .int x :: st) σ Q ↔ (if y ≤ x then dx_W (tb_Z L xs) d 33 33 lv st σ Q else dx_W (tb_Z L xs) d 33 18 lv st σ Q) := r_ic_ge (off := 18) (t := 33) (hz_33.trans rfl) (by decide)
theorem w_33_18 : dx_W (tb_Z L xs) d 33 18 lv st σ Q ↔ wI (dx_lk lv 1) (fun y => dx_W (tb_Z L xs) d 33 19 lv (.int y :: st) σ Q) := r_iload_n (k := 1) (hz_33.trans rfl)
theorem w_33_19 : dx_W (tb_Z L xs) d 33 19 lv st σ Q ↔ dx_W (tb_Z L xs) d 33 20 lv (.int 1 :: st) σ Q := r_iconst (n := 1) (hz_33.trans rfl)
theorem w_33_20 : dx_W (tb_Z L xs) d 33 20 lv st σ Q ↔ wR (dx_lk lv 0) (fun y => dx_W (tb_Z L xs) d 33 21 lv (y :: st) σ Q) := r_aload_n (k := 0) (hz_33.trans rfl)
theorem w_33_21 : dx_W (tb_Z L xs) d 33 21 lv st σ Q ↔ wI (dx_lk lv 1) (fun y => dx_W (tb_Z L xs) d 33 22 lv (.int y :: st) σ Q) := r_iload_n (k := 1) (hz_33.trans rfl)
theorem w_33_22 {v0 v1 : Value}  : dx_W (tb_Z L xs) d 33 22 lv (v1 :: v0 :: st) σ Q ↔ (dx_ct st ≤ 8 ∧ dx_ci (tb_K L xs) σ v0 = some 5) ∧ dx_M (tb_Z L xs) d 34 [v0, v1] σ (wK (tb_Z L xs) d 33 25 lv st Q) := c_callv (av := [v1]) (hz_33.trans rfl)
theorem w_33_25 {v0 v1 : Value}  : dx_W (tb_Z L xs) d 33 25 lv (v1 :: v0 :: st) σ Q ↔ dx_ct st ≤ 8 ∧ dx_M (tb_Z L xs) d 145 [v0, v1] σ (wK (tb_Z L xs) d 33 28 lv st Q) := c_calls (av := [v0, v1]) (hz_33.trans rfl)
theorem w_33_28 {x y : Int32} : dx_W (tb_Z L xs) d 33 28 lv (.int y :: .int x :: st) σ Q ↔ dx_W (tb_Z L xs) d 33 29 lv (.int (x + y) :: st) σ Q := r_iadd (hz_33.trans rfl)
theorem w_33_29 {x : Int32} : dx_W (tb_Z L xs) d 33 29 lv (.int x :: st) σ Q ↔ dx_W (tb_Z L xs) d 33 30 (dx_s1 lv 1 (.int x)) st σ Q := r_istore_n (k := 1) (hz_33.trans rfl) (show 1 < tb_l 33 by decide)
theorem w_33_30 : dx_W (tb_Z L xs) d 33 30 lv st σ Q ↔ dx_W (tb_Z L xs) d 33 7 lv st σ Q := r_goto (off := (-23)) (t := 7) (hz_33.trans rfl) (by decide)
theorem w_33_33 : dx_W (tb_Z L xs) d 33 33 lv st σ Q ↔ wR (dx_lk lv 0) (fun y => dx_W (tb_Z L xs) d 33 34 lv (y :: st) σ Q) := r_aload_n (k := 0) (hz_33.trans rfl)
theorem w_33_34 {w : Value} : dx_W (tb_Z L xs) d 33 34 lv (w :: st) σ Q ↔ wO (dx_gf (tb_K L xs) σ w 5 2) (fun y => dx_W (tb_Z L xs) d 33 37 lv (y :: st) σ Q) := r_getfield (hz_33.trans rfl)
theorem w_33_37 : dx_W (tb_Z L xs) d 33 37 lv st σ Q ↔ wR (dx_lk lv 0) (fun y => dx_W (tb_Z L xs) d 33 38 lv (y :: st) σ Q) := r_aload_n (k := 0) (hz_33.trans rfl)
theorem w_33_38 {w : Value} : dx_W (tb_Z L xs) d 33 38 lv (w :: st) σ Q ↔ wO (dx_gf (tb_K L xs) σ w 5 4) (fun y => dx_W (tb_Z L xs) d 33 41 lv (y :: st) σ Q) := r_getfield (hz_33.trans rfl)
theorem w_33_41 : dx_W (tb_Z L xs) d 33 41 lv st σ Q ↔ dx_W (tb_Z L xs) d 33 42 lv (.int 0 :: st) σ Q := r_iconst (n := 0) (hz_33.trans rfl)
theorem w_33_42 {w : Value} {y : Int32} {u : Int32} : dx_W (tb_Z L xs) d 33 42 lv (.int u :: .int y :: w :: st) σ Q ↔ wO (dx_pi σ 0 w y u) (fun σ1 => dx_W (tb_Z L xs) d 33 43 lv st σ1 Q) := r_iastore (hz_33.trans rfl)
theorem w_33_43 : dx_W (tb_Z L xs) d 33 43 lv [] σ Q ↔ Q (.inl none) σ := r_return (hz_33.trans rfl) rfl
theorem hz_34 {pc : Nat} : (tb_Z L xs).1 34 pc = dx_at tb_m34 pc := rfl
theorem w_34_0 : dx_W (tb_Z L xs) d 34 0 lv st σ Q ↔ wR (dx_lk lv 0) (fun y => dx_W (tb_Z L xs) d 34 1 lv (y :: st) σ Q) := r_aload_n (k := 0) (hz_34.trans rfl)
theorem w_34_1 {w : Value} : dx_W (tb_Z L xs) d 34 1 lv (w :: st) σ Q ↔ wO (dx_gf (tb_K L xs) σ w 5 0) (fun y => dx_W (tb_Z L xs) d 34 4 lv (y :: st) σ Q) := r_getfield (hz_34.trans rfl)
theorem w_34_4 : dx_W (tb_Z L xs) d 34 4 lv st σ Q ↔ wI (dx_lk lv 1) (fun y => dx_W (tb_Z L xs) d 34 5 lv (.int y :: st) σ Q) := r_iload_n (k := 1) (hz_34.trans rfl)
theorem w_34_5 {v0 v1 : Value}  : dx_W (tb_Z L xs) d 34 5 lv (v1 :: v0 :: st) σ Q ↔ (dx_ct st ≤ 8 ∧ dx_ci (tb_K L xs) σ v0 = some 1) ∧ dx_M (tb_Z L xs) d 17 [v0, v1] σ (wK (tb_Z L xs) d 34 8 lv st Q) := c_callv (av := [v1]) (hz_34.trans rfl)
theorem w_34_8 {x : Int32} : dx_W (tb_Z L xs) d 34 8 lv (.int x :: st) σ Q ↔ dx_W (tb_Z L xs) d 34 9 (dx_s1 lv 2 (.int x)) st σ Q := r_istore_n (k := 2) (hz_34.trans rfl) (show 2 < tb_l 34 by decide)
theorem w_34_9 : dx_W (tb_Z L xs) d 34 9 lv st σ Q ↔ wI (dx_lk lv 2) (fun y => dx_W (tb_Z L xs) d 34 10 lv (.int y :: st) σ Q) := r_iload_n (k := 2) (hz_34.trans rfl)
theorem w_34_10 : dx_W (tb_Z L xs) d 34 10 lv st σ Q ↔ dx_W (tb_Z L xs) d 34 12 lv (.int 32 :: st) σ Q := r_bipush (n := 32) (hz_34.trans rfl)
theorem w_34_12 {x y : Int32} : dx_W (tb_Z L xs) d 34 12 lv (.int y :: .int x :: st) σ Q ↔ (if ¬ x = y then dx_W (tb_Z L xs) d 34 17 lv st σ Q else dx_W (tb_Z L xs) d 34 15 lv st σ Q) := r_ic_ne (off := 5) (t := 17) (hz_34.trans rfl) (by decide)
theorem w_34_15 : dx_W (tb_Z L xs) d 34 15 lv st σ Q ↔ dx_W (tb_Z L xs) d 34 16 lv (.int 1 :: st) σ Q := r_iconst (n := 1) (hz_34.trans rfl)
theorem w_34_16 {x : Int32} : dx_W (tb_Z L xs) d 34 16 lv [.int x] σ Q ↔ Q (.inl (some (.int x))) σ := r_ireturn (hz_34.trans rfl) rfl rfl
theorem w_34_17 : dx_W (tb_Z L xs) d 34 17 lv st σ Q ↔ wI (dx_lk lv 2) (fun y => dx_W (tb_Z L xs) d 34 18 lv (.int y :: st) σ Q) := r_iload_n (k := 2) (hz_34.trans rfl)
theorem w_34_18 {v0 : Value}  : dx_W (tb_Z L xs) d 34 18 lv (v0 :: st) σ Q ↔ dx_ct st ≤ 8 ∧ dx_M (tb_Z L xs) d 35 [v0] σ (wK (tb_Z L xs) d 34 21 lv st Q) := c_calls (av := [v0]) (hz_34.trans rfl)
theorem w_34_21 {x : Int32} : dx_W (tb_Z L xs) d 34 21 lv (.int x :: st) σ Q ↔ (if x = 0 then dx_W (tb_Z L xs) d 34 30 lv st σ Q else dx_W (tb_Z L xs) d 34 24 lv st σ Q) := r_if_eq (off := 9) (t := 30) (hz_34.trans rfl) (by decide)
theorem w_34_24 : dx_W (tb_Z L xs) d 34 24 lv st σ Q ↔ wR (dx_lk lv 0) (fun y => dx_W (tb_Z L xs) d 34 25 lv (y :: st) σ Q) := r_aload_n (k := 0) (hz_34.trans rfl)
theorem w_34_25 : dx_W (tb_Z L xs) d 34 25 lv st σ Q ↔ wI (dx_lk lv 1) (fun y => dx_W (tb_Z L xs) d 34 26 lv (.int y :: st) σ Q) := r_iload_n (k := 1) (hz_34.trans rfl)
theorem w_34_26 {v0 v1 : Value}  : dx_W (tb_Z L xs) d 34 26 lv (v1 :: v0 :: st) σ Q ↔ (dx_ct st ≤ 8 ∧ dx_ci (tb_K L xs) σ v0 = some 5) ∧ dx_M (tb_Z L xs) d 36 [v0, v1] σ (wK (tb_Z L xs) d 34 29 lv st Q) := c_callv (av := [v1]) (hz_34.trans rfl)
theorem w_34_29 {x : Int32} : dx_W (tb_Z L xs) d 34 29 lv [.int x] σ Q ↔ Q (.inl (some (.int x))) σ := r_ireturn (hz_34.trans rfl) rfl rfl
theorem w_34_30 : dx_W (tb_Z L xs) d 34 30 lv st σ Q ↔ wI (dx_lk lv 2) (fun y => dx_W (tb_Z L xs) d 34 31 lv (.int y :: st) σ Q) := r_iload_n (k := 2) (hz_34.trans rfl)
theorem w_34_31 {v0 : Value}  : dx_W (tb_Z L xs) d 34 31 lv (v0 :: st) σ Q ↔ dx_ct st ≤ 8 ∧ dx_M (tb_Z L xs) d 39 [v0] σ (wK (tb_Z L xs) d 34 34 lv st Q) := c_calls (av := [v0]) (hz_34.trans rfl)
theorem w_34_34 {x : Int32} : dx_W (tb_Z L xs) d 34 34 lv (.int x :: st) σ Q ↔ (if x = 0 then dx_W (tb_Z L xs) d 34 45 lv st σ Q else dx_W (tb_Z L xs) d 34 37 lv st σ Q) := r_if_eq (off := 11) (t := 45) (hz_34.trans rfl) (by decide)
theorem w_34_37 : dx_W (tb_Z L xs) d 34 37 lv st σ Q ↔ wR (dx_lk lv 0) (fun y => dx_W (tb_Z L xs) d 34 38 lv (y :: st) σ Q) := r_aload_n (k := 0) (hz_34.trans rfl)
theorem w_34_38 : dx_W (tb_Z L xs) d 34 38 lv st σ Q ↔ wI (dx_lk lv 1) (fun y => dx_W (tb_Z L xs) d 34 39 lv (.int y :: st) σ Q) := r_iload_n (k := 1) (hz_34.trans rfl)
theorem w_34_39 {v0 v1 : Value}  : dx_W (tb_Z L xs) d 34 39 lv (v1 :: v0 :: st) σ Q ↔ (dx_ct st ≤ 8 ∧ dx_ci (tb_K L xs) σ v0 = some 5) ∧ dx_M (tb_Z L xs) d 40 [v0, v1] σ (wK (tb_Z L xs) d 34 42 lv st Q) := c_callv (av := [v1]) (hz_34.trans rfl)
theorem w_34_42 : dx_W (tb_Z L xs) d 34 42 lv st σ Q ↔ dx_W (tb_Z L xs) d 34 50 lv st σ Q := r_goto (off := 8) (t := 50) (hz_34.trans rfl) (by decide)
theorem w_34_45 : dx_W (tb_Z L xs) d 34 45 lv st σ Q ↔ wR (dx_lk lv 0) (fun y => dx_W (tb_Z L xs) d 34 46 lv (y :: st) σ Q) := r_aload_n (k := 0) (hz_34.trans rfl)
theorem w_34_46 : dx_W (tb_Z L xs) d 34 46 lv st σ Q ↔ wI (dx_lk lv 1) (fun y => dx_W (tb_Z L xs) d 34 47 lv (.int y :: st) σ Q) := r_iload_n (k := 1) (hz_34.trans rfl)
theorem w_34_47 {v0 v1 : Value}  : dx_W (tb_Z L xs) d 34 47 lv (v1 :: v0 :: st) σ Q ↔ (dx_ct st ≤ 8 ∧ dx_ci (tb_K L xs) σ v0 = some 5) ∧ dx_M (tb_Z L xs) d 43 [v0, v1] σ (wK (tb_Z L xs) d 34 50 lv st Q) := c_callv (av := [v1]) (hz_34.trans rfl)
theorem w_34_50 {x : Int32} : dx_W (tb_Z L xs) d 34 50 lv [.int x] σ Q ↔ Q (.inl (some (.int x))) σ := r_ireturn (hz_34.trans rfl) rfl rfl
theorem hz_35 {pc : Nat} : (tb_Z L xs).1 35 pc = dx_at tb_m35 pc := rfl
theorem w_35_0 : dx_W (tb_Z L xs) d 35 0 lv st σ Q ↔ wI (dx_lk lv 0) (fun y => dx_W (tb_Z L xs) d 35 1 lv (.int y :: st) σ Q) := r_iload_n (k := 0) (hz_35.trans rfl)
theorem w_35_1 : dx_W (tb_Z L xs) d 35 1 lv st σ Q ↔ dx_W (tb_Z L xs) d 35 3 lv (.int 48 :: st) σ Q := r_bipush (n := 48) (hz_35.trans rfl)
theorem w_35_3 {x y : Int32} : dx_W (tb_Z L xs) d 35 3 lv (.int y :: .int x :: st) σ Q ↔ (if x < y then dx_W (tb_Z L xs) d 35 16 lv st σ Q else dx_W (tb_Z L xs) d 35 6 lv st σ Q) := r_ic_lt (off := 13) (t := 16) (hz_35.trans rfl) (by decide)
theorem w_35_6 : dx_W (tb_Z L xs) d 35 6 lv st σ Q ↔ wI (dx_lk lv 0) (fun y => dx_W (tb_Z L xs) d 35 7 lv (.int y :: st) σ Q) := r_iload_n (k := 0) (hz_35.trans rfl)
theorem w_35_7 : dx_W (tb_Z L xs) d 35 7 lv st σ Q ↔ dx_W (tb_Z L xs) d 35 9 lv (.int 57 :: st) σ Q := r_bipush (n := 57) (hz_35.trans rfl)
theorem w_35_9 {x y : Int32} : dx_W (tb_Z L xs) d 35 9 lv (.int y :: .int x :: st) σ Q ↔ (if y < x then dx_W (tb_Z L xs) d 35 16 lv st σ Q else dx_W (tb_Z L xs) d 35 12 lv st σ Q) := r_ic_gt (off := 7) (t := 16) (hz_35.trans rfl) (by decide)
theorem w_35_12 : dx_W (tb_Z L xs) d 35 12 lv st σ Q ↔ dx_W (tb_Z L xs) d 35 13 lv (.int 1 :: st) σ Q := r_iconst (n := 1) (hz_35.trans rfl)
theorem w_35_13 : dx_W (tb_Z L xs) d 35 13 lv st σ Q ↔ dx_W (tb_Z L xs) d 35 17 lv st σ Q := r_goto (off := 4) (t := 17) (hz_35.trans rfl) (by decide)
theorem w_35_16 : dx_W (tb_Z L xs) d 35 16 lv st σ Q ↔ dx_W (tb_Z L xs) d 35 17 lv (.int 0 :: st) σ Q := r_iconst (n := 0) (hz_35.trans rfl)
theorem w_35_17 {x : Int32} : dx_W (tb_Z L xs) d 35 17 lv [.int x] σ Q ↔ narrow .boolean (.int x) = .int x ∧ Q (.inl (some (.int x))) σ := c_ireturn (hz_35.trans rfl) rfl
theorem hz_36 {pc : Nat} : (tb_Z L xs).1 36 pc = dx_at tb_m36 pc := rfl
theorem w_36_0 : dx_W (tb_Z L xs) d 36 0 lv st σ Q ↔ wR (dx_lk lv 0) (fun y => dx_W (tb_Z L xs) d 36 1 lv (y :: st) σ Q) := r_aload_n (k := 0) (hz_36.trans rfl)
theorem w_36_1 : dx_W (tb_Z L xs) d 36 1 lv st σ Q ↔ wI (dx_lk lv 1) (fun y => dx_W (tb_Z L xs) d 36 2 lv (.int y :: st) σ Q) := r_iload_n (k := 1) (hz_36.trans rfl)
theorem w_36_2 : dx_W (tb_Z L xs) d 36 2 lv st σ Q ↔ dx_W (tb_Z L xs) d 36 4 lv (.int 9 :: st) σ Q := r_bipush (n := 9) (hz_36.trans rfl)
theorem w_36_4 {v0 v1 v2 : Value}  : dx_W (tb_Z L xs) d 36 4 lv (v2 :: v1 :: v0 :: st) σ Q ↔ (dx_ct st ≤ 8 ∧ dx_ci (tb_K L xs) σ v0 = some 5) ∧ dx_M (tb_Z L xs) d 37 [v0, v1, v2] σ (wK (tb_Z L xs) d 36 7 lv st Q) := c_callv (av := [v1, v2]) (hz_36.trans rfl)
theorem w_36_7 {x : Int32} : dx_W (tb_Z L xs) d 36 7 lv (.int x :: st) σ Q ↔ dx_W (tb_Z L xs) d 36 8 (dx_s1 lv 2 (.int x)) st σ Q := r_istore_n (k := 2) (hz_36.trans rfl) (show 2 < tb_l 36 by decide)
theorem w_36_8 : dx_W (tb_Z L xs) d 36 8 lv st σ Q ↔ dx_W (tb_Z L xs) d 36 9 lv (.int 0 :: st) σ Q := r_iconst (n := 0) (hz_36.trans rfl)
theorem w_36_9 {x : Int32} : dx_W (tb_Z L xs) d 36 9 lv (.int x :: st) σ Q ↔ dx_W (tb_Z L xs) d 36 10 (dx_s1 lv 3 (.int x)) st σ Q := r_istore_n (k := 3) (hz_36.trans rfl) (show 3 < tb_l 36 by decide)
theorem w_36_10 : dx_W (tb_Z L xs) d 36 10 lv st σ Q ↔ wR (dx_lk lv 0) (fun y => dx_W (tb_Z L xs) d 36 11 lv (y :: st) σ Q) := r_aload_n (k := 0) (hz_36.trans rfl)
theorem w_36_11 {w : Value} : dx_W (tb_Z L xs) d 36 11 lv (w :: st) σ Q ↔ wO (dx_gf (tb_K L xs) σ w 5 0) (fun y => dx_W (tb_Z L xs) d 36 14 lv (y :: st) σ Q) := r_getfield (hz_36.trans rfl)
theorem w_36_14 : dx_W (tb_Z L xs) d 36 14 lv st σ Q ↔ wI (dx_lk lv 1) (fun y => dx_W (tb_Z L xs) d 36 15 lv (.int y :: st) σ Q) := r_iload_n (k := 1) (hz_36.trans rfl)
theorem w_36_15 : dx_W (tb_Z L xs) d 36 15 lv st σ Q ↔ wI (dx_lk lv 2) (fun y => dx_W (tb_Z L xs) d 36 16 lv (.int y :: st) σ Q) := r_iload_n (k := 2) (hz_36.trans rfl)
theorem w_36_16 {x y : Int32} : dx_W (tb_Z L xs) d 36 16 lv (.int y :: .int x :: st) σ Q ↔ dx_W (tb_Z L xs) d 36 17 lv (.int (x + y) :: st) σ Q := r_iadd (hz_36.trans rfl)
theorem w_36_17 {v0 v1 : Value}  : dx_W (tb_Z L xs) d 36 17 lv (v1 :: v0 :: st) σ Q ↔ (dx_ct st ≤ 8 ∧ dx_ci (tb_K L xs) σ v0 = some 1) ∧ dx_M (tb_Z L xs) d 17 [v0, v1] σ (wK (tb_Z L xs) d 36 20 lv st Q) := c_callv (av := [v1]) (hz_36.trans rfl)
theorem w_36_20 : dx_W (tb_Z L xs) d 36 20 lv st σ Q ↔ dx_W (tb_Z L xs) d 36 22 lv (.int 46 :: st) σ Q := r_bipush (n := 46) (hz_36.trans rfl)
theorem w_36_22 {x y : Int32} : dx_W (tb_Z L xs) d 36 22 lv (.int y :: .int x :: st) σ Q ↔ (if ¬ x = y then dx_W (tb_Z L xs) d 36 43 lv st σ Q else dx_W (tb_Z L xs) d 36 25 lv st σ Q) := r_ic_ne (off := 21) (t := 43) (hz_36.trans rfl) (by decide)
theorem w_36_25 : dx_W (tb_Z L xs) d 36 25 lv st σ Q ↔ wR (dx_lk lv 0) (fun y => dx_W (tb_Z L xs) d 36 26 lv (y :: st) σ Q) := r_aload_n (k := 0) (hz_36.trans rfl)
theorem w_36_26 : dx_W (tb_Z L xs) d 36 26 lv st σ Q ↔ wI (dx_lk lv 1) (fun y => dx_W (tb_Z L xs) d 36 27 lv (.int y :: st) σ Q) := r_iload_n (k := 1) (hz_36.trans rfl)
theorem w_36_27 : dx_W (tb_Z L xs) d 36 27 lv st σ Q ↔ wI (dx_lk lv 2) (fun y => dx_W (tb_Z L xs) d 36 28 lv (.int y :: st) σ Q) := r_iload_n (k := 2) (hz_36.trans rfl)
theorem w_36_28 {x y : Int32} : dx_W (tb_Z L xs) d 36 28 lv (.int y :: .int x :: st) σ Q ↔ dx_W (tb_Z L xs) d 36 29 lv (.int (x + y) :: st) σ Q := r_iadd (hz_36.trans rfl)
theorem w_36_29 : dx_W (tb_Z L xs) d 36 29 lv st σ Q ↔ dx_W (tb_Z L xs) d 36 30 lv (.int 1 :: st) σ Q := r_iconst (n := 1) (hz_36.trans rfl)
theorem w_36_30 {x y : Int32} : dx_W (tb_Z L xs) d 36 30 lv (.int y :: .int x :: st) σ Q ↔ dx_W (tb_Z L xs) d 36 31 lv (.int (x + y) :: st) σ Q := r_iadd (hz_36.trans rfl)
theorem w_36_31 : dx_W (tb_Z L xs) d 36 31 lv st σ Q ↔ dx_W (tb_Z L xs) d 36 32 lv (.int 4 :: st) σ Q := r_iconst (n := 4) (hz_36.trans rfl)
theorem w_36_32 : dx_W (tb_Z L xs) d 36 32 lv st σ Q ↔ dx_W (tb_Z L xs) d 36 34 lv (.int 9 :: st) σ Q := r_bipush (n := 9) (hz_36.trans rfl)
theorem w_36_34 : dx_W (tb_Z L xs) d 36 34 lv st σ Q ↔ wI (dx_lk lv 2) (fun y => dx_W (tb_Z L xs) d 36 35 lv (.int y :: st) σ Q) := r_iload_n (k := 2) (hz_36.trans rfl)
theorem w_36_35 {x y : Int32} : dx_W (tb_Z L xs) d 36 35 lv (.int y :: .int x :: st) σ Q ↔ dx_W (tb_Z L xs) d 36 36 lv (.int (x - y) :: st) σ Q := r_isub (hz_36.trans rfl)
theorem w_36_36 {v0 v1 : Value}  : dx_W (tb_Z L xs) d 36 36 lv (v1 :: v0 :: st) σ Q ↔ dx_ct st ≤ 8 ∧ dx_M (tb_Z L xs) d 144 [v0, v1] σ (wK (tb_Z L xs) d 36 39 lv st Q) := c_calls (av := [v0, v1]) (hz_36.trans rfl)
theorem w_36_39 {v0 v1 v2 : Value}  : dx_W (tb_Z L xs) d 36 39 lv (v2 :: v1 :: v0 :: st) σ Q ↔ (dx_ct st ≤ 8 ∧ dx_ci (tb_K L xs) σ v0 = some 5) ∧ dx_M (tb_Z L xs) d 37 [v0, v1, v2] σ (wK (tb_Z L xs) d 36 42 lv st Q) := c_callv (av := [v1, v2]) (hz_36.trans rfl)
theorem w_36_42 {x : Int32} : dx_W (tb_Z L xs) d 36 42 lv (.int x :: st) σ Q ↔ dx_W (tb_Z L xs) d 36 43 (dx_s1 lv 3 (.int x)) st σ Q := r_istore_n (k := 3) (hz_36.trans rfl) (show 3 < tb_l 36 by decide)
theorem w_36_43 : dx_W (tb_Z L xs) d 36 43 lv st σ Q ↔ wI (dx_lk lv 3) (fun y => dx_W (tb_Z L xs) d 36 44 lv (.int y :: st) σ Q) := r_iload_n (k := 3) (hz_36.trans rfl)
theorem w_36_44 {x : Int32} : dx_W (tb_Z L xs) d 36 44 lv (.int x :: st) σ Q ↔ (if ¬ x = 0 then dx_W (tb_Z L xs) d 36 51 lv st σ Q else dx_W (tb_Z L xs) d 36 47 lv st σ Q) := r_if_ne (off := 7) (t := 51) (hz_36.trans rfl) (by decide)
theorem w_36_47 : dx_W (tb_Z L xs) d 36 47 lv st σ Q ↔ wI (dx_lk lv 2) (fun y => dx_W (tb_Z L xs) d 36 48 lv (.int y :: st) σ Q) := r_iload_n (k := 2) (hz_36.trans rfl)
theorem w_36_48 : dx_W (tb_Z L xs) d 36 48 lv st σ Q ↔ dx_W (tb_Z L xs) d 36 56 lv st σ Q := r_goto (off := 8) (t := 56) (hz_36.trans rfl) (by decide)
theorem w_36_51 : dx_W (tb_Z L xs) d 36 51 lv st σ Q ↔ wI (dx_lk lv 2) (fun y => dx_W (tb_Z L xs) d 36 52 lv (.int y :: st) σ Q) := r_iload_n (k := 2) (hz_36.trans rfl)
theorem w_36_52 : dx_W (tb_Z L xs) d 36 52 lv st σ Q ↔ dx_W (tb_Z L xs) d 36 53 lv (.int 1 :: st) σ Q := r_iconst (n := 1) (hz_36.trans rfl)
theorem w_36_53 {x y : Int32} : dx_W (tb_Z L xs) d 36 53 lv (.int y :: .int x :: st) σ Q ↔ dx_W (tb_Z L xs) d 36 54 lv (.int (x + y) :: st) σ Q := r_iadd (hz_36.trans rfl)
theorem w_36_54 : dx_W (tb_Z L xs) d 36 54 lv st σ Q ↔ wI (dx_lk lv 3) (fun y => dx_W (tb_Z L xs) d 36 55 lv (.int y :: st) σ Q) := r_iload_n (k := 3) (hz_36.trans rfl)
theorem w_36_55 {x y : Int32} : dx_W (tb_Z L xs) d 36 55 lv (.int y :: .int x :: st) σ Q ↔ dx_W (tb_Z L xs) d 36 56 lv (.int (x + y) :: st) σ Q := r_iadd (hz_36.trans rfl)
theorem w_36_56 {x : Int32} : dx_W (tb_Z L xs) d 36 56 lv (.int x :: st) σ Q ↔ dx_W (tb_Z L xs) d 36 58 (dx_s1 lv 4 (.int x)) st σ Q := r_istore (k := 4) (hz_36.trans rfl) (show 4 < tb_l 36 by decide)
theorem w_36_58 : dx_W (tb_Z L xs) d 36 58 lv st σ Q ↔ dx_W (tb_Z L xs) d 36 59 lv (.long 0 :: st) σ Q := r_lconst (n := 0) (hz_36.trans rfl)
theorem w_36_59 {x : Int64} : dx_W (tb_Z L xs) d 36 59 lv (.long x :: st) σ Q ↔ dx_W (tb_Z L xs) d 36 61 (dx_s2 lv 5 (.long x)) st σ Q := r_lstore (k := 5) (hz_36.trans rfl) (show 5 + 1 < tb_l 36 by decide)
theorem w_36_61 : dx_W (tb_Z L xs) d 36 61 lv st σ Q ↔ wI (dx_lk lv 1) (fun y => dx_W (tb_Z L xs) d 36 62 lv (.int y :: st) σ Q) := r_iload_n (k := 1) (hz_36.trans rfl)
theorem w_36_62 {x : Int32} : dx_W (tb_Z L xs) d 36 62 lv (.int x :: st) σ Q ↔ dx_W (tb_Z L xs) d 36 64 (dx_s1 lv 7 (.int x)) st σ Q := r_istore (k := 7) (hz_36.trans rfl) (show 7 < tb_l 36 by decide)
theorem w_36_64 : dx_W (tb_Z L xs) d 36 64 lv st σ Q ↔ wI (dx_lk lv 7) (fun y => dx_W (tb_Z L xs) d 36 66 lv (.int y :: st) σ Q) := r_iload (k := 7) (hz_36.trans rfl)
theorem w_36_66 : dx_W (tb_Z L xs) d 36 66 lv st σ Q ↔ wI (dx_lk lv 1) (fun y => dx_W (tb_Z L xs) d 36 67 lv (.int y :: st) σ Q) := r_iload_n (k := 1) (hz_36.trans rfl)
theorem w_36_67 : dx_W (tb_Z L xs) d 36 67 lv st σ Q ↔ wI (dx_lk lv 4) (fun y => dx_W (tb_Z L xs) d 36 69 lv (.int y :: st) σ Q) := r_iload (k := 4) (hz_36.trans rfl)
theorem w_36_69 {x y : Int32} : dx_W (tb_Z L xs) d 36 69 lv (.int y :: .int x :: st) σ Q ↔ dx_W (tb_Z L xs) d 36 70 lv (.int (x + y) :: st) σ Q := r_iadd (hz_36.trans rfl)
theorem w_36_70 {x y : Int32} : dx_W (tb_Z L xs) d 36 70 lv (.int y :: .int x :: st) σ Q ↔ (if y ≤ x then dx_W (tb_Z L xs) d 36 116 lv st σ Q else dx_W (tb_Z L xs) d 36 73 lv st σ Q) := r_ic_ge (off := 46) (t := 116) (hz_36.trans rfl) (by decide)
theorem w_36_73 : dx_W (tb_Z L xs) d 36 73 lv st σ Q ↔ wR (dx_lk lv 0) (fun y => dx_W (tb_Z L xs) d 36 74 lv (y :: st) σ Q) := r_aload_n (k := 0) (hz_36.trans rfl)
theorem w_36_74 {w : Value} : dx_W (tb_Z L xs) d 36 74 lv (w :: st) σ Q ↔ wO (dx_gf (tb_K L xs) σ w 5 0) (fun y => dx_W (tb_Z L xs) d 36 77 lv (y :: st) σ Q) := r_getfield (hz_36.trans rfl)
theorem w_36_77 : dx_W (tb_Z L xs) d 36 77 lv st σ Q ↔ wI (dx_lk lv 7) (fun y => dx_W (tb_Z L xs) d 36 79 lv (.int y :: st) σ Q) := r_iload (k := 7) (hz_36.trans rfl)
theorem w_36_79 {v0 v1 : Value}  : dx_W (tb_Z L xs) d 36 79 lv (v1 :: v0 :: st) σ Q ↔ (dx_ct st ≤ 8 ∧ dx_ci (tb_K L xs) σ v0 = some 1) ∧ dx_M (tb_Z L xs) d 17 [v0, v1] σ (wK (tb_Z L xs) d 36 82 lv st Q) := c_callv (av := [v1]) (hz_36.trans rfl)
theorem w_36_82 {v0 : Value}  : dx_W (tb_Z L xs) d 36 82 lv (v0 :: st) σ Q ↔ dx_ct st ≤ 8 ∧ dx_M (tb_Z L xs) d 35 [v0] σ (wK (tb_Z L xs) d 36 85 lv st Q) := c_calls (av := [v0]) (hz_36.trans rfl)
theorem w_36_85 {x : Int32} : dx_W (tb_Z L xs) d 36 85 lv (.int x :: st) σ Q ↔ (if x = 0 then dx_W (tb_Z L xs) d 36 110 lv st σ Q else dx_W (tb_Z L xs) d 36 88 lv st σ Q) := r_if_eq (off := 25) (t := 110) (hz_36.trans rfl) (by decide)
theorem w_36_88 : dx_W (tb_Z L xs) d 36 88 lv st σ Q ↔ wJ (dx_lk lv 5) (fun y => dx_W (tb_Z L xs) d 36 90 lv (.long y :: st) σ Q) := r_lload (k := 5) (hz_36.trans rfl)
theorem w_36_90 : dx_W (tb_Z L xs) d 36 90 lv st σ Q ↔ dx_W (tb_Z L xs) d 36 93 lv (.long 10 :: st) σ Q := r_ldc2_w (hz_36.trans rfl)
theorem w_36_93 {x y : Int64} : dx_W (tb_Z L xs) d 36 93 lv (.long y :: .long x :: st) σ Q ↔ dx_W (tb_Z L xs) d 36 94 lv (.long (x * y) :: st) σ Q := r_lmul (hz_36.trans rfl)
theorem w_36_94 : dx_W (tb_Z L xs) d 36 94 lv st σ Q ↔ wR (dx_lk lv 0) (fun y => dx_W (tb_Z L xs) d 36 95 lv (y :: st) σ Q) := r_aload_n (k := 0) (hz_36.trans rfl)
theorem w_36_95 {w : Value} : dx_W (tb_Z L xs) d 36 95 lv (w :: st) σ Q ↔ wO (dx_gf (tb_K L xs) σ w 5 0) (fun y => dx_W (tb_Z L xs) d 36 98 lv (y :: st) σ Q) := r_getfield (hz_36.trans rfl)
theorem w_36_98 : dx_W (tb_Z L xs) d 36 98 lv st σ Q ↔ wI (dx_lk lv 7) (fun y => dx_W (tb_Z L xs) d 36 100 lv (.int y :: st) σ Q) := r_iload (k := 7) (hz_36.trans rfl)
theorem w_36_100 {v0 v1 : Value}  : dx_W (tb_Z L xs) d 36 100 lv (v1 :: v0 :: st) σ Q ↔ (dx_ct st ≤ 8 ∧ dx_ci (tb_K L xs) σ v0 = some 1) ∧ dx_M (tb_Z L xs) d 17 [v0, v1] σ (wK (tb_Z L xs) d 36 103 lv st Q) := c_callv (av := [v1]) (hz_36.trans rfl)
theorem w_36_103 : dx_W (tb_Z L xs) d 36 103 lv st σ Q ↔ dx_W (tb_Z L xs) d 36 105 lv (.int 48 :: st) σ Q := r_bipush (n := 48) (hz_36.trans rfl)
theorem w_36_105 {x y : Int32} : dx_W (tb_Z L xs) d 36 105 lv (.int y :: .int x :: st) σ Q ↔ dx_W (tb_Z L xs) d 36 106 lv (.int (x - y) :: st) σ Q := r_isub (hz_36.trans rfl)
theorem w_36_106 {x : Int32} : dx_W (tb_Z L xs) d 36 106 lv (.int x :: st) σ Q ↔ dx_W (tb_Z L xs) d 36 107 lv (.long x.toInt64 :: st) σ Q := r_i2l (hz_36.trans rfl)
theorem w_36_107 {x y : Int64} : dx_W (tb_Z L xs) d 36 107 lv (.long y :: .long x :: st) σ Q ↔ dx_W (tb_Z L xs) d 36 108 lv (.long (x + y) :: st) σ Q := r_ladd (hz_36.trans rfl)
theorem w_36_108 {x : Int64} : dx_W (tb_Z L xs) d 36 108 lv (.long x :: st) σ Q ↔ dx_W (tb_Z L xs) d 36 110 (dx_s2 lv 5 (.long x)) st σ Q := r_lstore (k := 5) (hz_36.trans rfl) (show 5 + 1 < tb_l 36 by decide)
theorem w_36_110 : dx_W (tb_Z L xs) d 36 110 lv st σ Q ↔ wI (dx_lk lv 7) (fun y => dx_W (tb_Z L xs) d 36 113 (dx_s1 lv 7 (.int (y + 1))) st σ Q) := r_iincv (k := 7) (n := 1) (hz_36.trans rfl) (show 7 < tb_l 36 by decide) (by decide)
theorem w_36_113 : dx_W (tb_Z L xs) d 36 113 lv st σ Q ↔ dx_W (tb_Z L xs) d 36 64 lv st σ Q := r_goto (off := (-49)) (t := 64) (hz_36.trans rfl) (by decide)
theorem w_36_116 : dx_W (tb_Z L xs) d 36 116 lv st σ Q ↔ wR (dx_lk lv 0) (fun y => dx_W (tb_Z L xs) d 36 117 lv (y :: st) σ Q) := r_aload_n (k := 0) (hz_36.trans rfl)
theorem w_36_117 : dx_W (tb_Z L xs) d 36 117 lv st σ Q ↔ dx_W (tb_Z L xs) d 36 120 lv (.int 256 :: st) σ Q := r_sipush (n := 256) (hz_36.trans rfl)
theorem w_36_120 : dx_W (tb_Z L xs) d 36 120 lv st σ Q ↔ wJ (dx_lk lv 5) (fun y => dx_W (tb_Z L xs) d 36 122 lv (.long y :: st) σ Q) := r_lload (k := 5) (hz_36.trans rfl)
theorem w_36_122 : dx_W (tb_Z L xs) d 36 122 lv st σ Q ↔ wI (dx_lk lv 3) (fun y => dx_W (tb_Z L xs) d 36 123 lv (.int y :: st) σ Q) := r_iload_n (k := 3) (hz_36.trans rfl)
theorem w_36_123 {v0 v1 : Value}  : dx_W (tb_Z L xs) d 36 123 lv (v1 :: v0 :: st) σ Q ↔ dx_ct st ≤ 8 ∧ dx_M (tb_Z L xs) d 81 [v0, v1] σ (wK (tb_Z L xs) d 36 126 lv st Q) := c_calls (av := [v0, v1]) (hz_36.trans rfl)
theorem w_36_126 {v0 v1 v2 : Value}  : dx_W (tb_Z L xs) d 36 126 lv (v2 :: v1 :: v0 :: st) σ Q ↔ (dx_ct st ≤ 8 ∧ dx_ci (tb_K L xs) σ v0 = some 5) ∧ dx_M (tb_Z L xs) d 38 [v0, v1, v2] σ (wK (tb_Z L xs) d 36 129 lv st Q) := c_callv (av := [v1, v2]) (hz_36.trans rfl)
theorem w_36_129 : dx_W (tb_Z L xs) d 36 129 lv st σ Q ↔ wI (dx_lk lv 4) (fun y => dx_W (tb_Z L xs) d 36 131 lv (.int y :: st) σ Q) := r_iload (k := 4) (hz_36.trans rfl)
theorem w_36_131 {x : Int32} : dx_W (tb_Z L xs) d 36 131 lv [.int x] σ Q ↔ Q (.inl (some (.int x))) σ := r_ireturn (hz_36.trans rfl) rfl rfl
theorem hz_37 {pc : Nat} : (tb_Z L xs).1 37 pc = dx_at tb_m37 pc := rfl
theorem w_37_0 : dx_W (tb_Z L xs) d 37 0 lv st σ Q ↔ dx_W (tb_Z L xs) d 37 1 lv (.int 0 :: st) σ Q := r_iconst (n := 0) (hz_37.trans rfl)
theorem w_37_1 {x : Int32} : dx_W (tb_Z L xs) d 37 1 lv (.int x :: st) σ Q ↔ dx_W (tb_Z L xs) d 37 2 (dx_s1 lv 3 (.int x)) st σ Q := r_istore_n (k := 3) (hz_37.trans rfl) (show 3 < tb_l 37 by decide)
theorem w_37_2 : dx_W (tb_Z L xs) d 37 2 lv st σ Q ↔ wI (dx_lk lv 3) (fun y => dx_W (tb_Z L xs) d 37 3 lv (.int y :: st) σ Q) := r_iload_n (k := 3) (hz_37.trans rfl)
theorem w_37_3 : dx_W (tb_Z L xs) d 37 3 lv st σ Q ↔ wI (dx_lk lv 2) (fun y => dx_W (tb_Z L xs) d 37 4 lv (.int y :: st) σ Q) := r_iload_n (k := 2) (hz_37.trans rfl)
theorem w_37_4 {x y : Int32} : dx_W (tb_Z L xs) d 37 4 lv (.int y :: .int x :: st) σ Q ↔ (if y ≤ x then dx_W (tb_Z L xs) d 37 29 lv st σ Q else dx_W (tb_Z L xs) d 37 7 lv st σ Q) := r_ic_ge (off := 25) (t := 29) (hz_37.trans rfl) (by decide)
theorem w_37_7 : dx_W (tb_Z L xs) d 37 7 lv st σ Q ↔ wR (dx_lk lv 0) (fun y => dx_W (tb_Z L xs) d 37 8 lv (y :: st) σ Q) := r_aload_n (k := 0) (hz_37.trans rfl)
theorem w_37_8 {w : Value} : dx_W (tb_Z L xs) d 37 8 lv (w :: st) σ Q ↔ wO (dx_gf (tb_K L xs) σ w 5 0) (fun y => dx_W (tb_Z L xs) d 37 11 lv (y :: st) σ Q) := r_getfield (hz_37.trans rfl)
theorem w_37_11 : dx_W (tb_Z L xs) d 37 11 lv st σ Q ↔ wI (dx_lk lv 1) (fun y => dx_W (tb_Z L xs) d 37 12 lv (.int y :: st) σ Q) := r_iload_n (k := 1) (hz_37.trans rfl)
theorem w_37_12 : dx_W (tb_Z L xs) d 37 12 lv st σ Q ↔ wI (dx_lk lv 3) (fun y => dx_W (tb_Z L xs) d 37 13 lv (.int y :: st) σ Q) := r_iload_n (k := 3) (hz_37.trans rfl)
theorem w_37_13 {x y : Int32} : dx_W (tb_Z L xs) d 37 13 lv (.int y :: .int x :: st) σ Q ↔ dx_W (tb_Z L xs) d 37 14 lv (.int (x + y) :: st) σ Q := r_iadd (hz_37.trans rfl)
theorem w_37_14 {v0 v1 : Value}  : dx_W (tb_Z L xs) d 37 14 lv (v1 :: v0 :: st) σ Q ↔ (dx_ct st ≤ 8 ∧ dx_ci (tb_K L xs) σ v0 = some 1) ∧ dx_M (tb_Z L xs) d 17 [v0, v1] σ (wK (tb_Z L xs) d 37 17 lv st Q) := c_callv (av := [v1]) (hz_37.trans rfl)
theorem w_37_17 {v0 : Value}  : dx_W (tb_Z L xs) d 37 17 lv (v0 :: st) σ Q ↔ dx_ct st ≤ 8 ∧ dx_M (tb_Z L xs) d 35 [v0] σ (wK (tb_Z L xs) d 37 20 lv st Q) := c_calls (av := [v0]) (hz_37.trans rfl)
theorem w_37_20 {x : Int32} : dx_W (tb_Z L xs) d 37 20 lv (.int x :: st) σ Q ↔ (if x = 0 then dx_W (tb_Z L xs) d 37 29 lv st σ Q else dx_W (tb_Z L xs) d 37 23 lv st σ Q) := r_if_eq (off := 9) (t := 29) (hz_37.trans rfl) (by decide)
theorem w_37_23 : dx_W (tb_Z L xs) d 37 23 lv st σ Q ↔ wI (dx_lk lv 3) (fun y => dx_W (tb_Z L xs) d 37 26 (dx_s1 lv 3 (.int (y + 1))) st σ Q) := r_iincv (k := 3) (n := 1) (hz_37.trans rfl) (show 3 < tb_l 37 by decide) (by decide)
theorem w_37_26 : dx_W (tb_Z L xs) d 37 26 lv st σ Q ↔ dx_W (tb_Z L xs) d 37 2 lv st σ Q := r_goto (off := (-24)) (t := 2) (hz_37.trans rfl) (by decide)
theorem w_37_29 : dx_W (tb_Z L xs) d 37 29 lv st σ Q ↔ wI (dx_lk lv 3) (fun y => dx_W (tb_Z L xs) d 37 30 lv (.int y :: st) σ Q) := r_iload_n (k := 3) (hz_37.trans rfl)
theorem w_37_30 {x : Int32} : dx_W (tb_Z L xs) d 37 30 lv [.int x] σ Q ↔ Q (.inl (some (.int x))) σ := r_ireturn (hz_37.trans rfl) rfl rfl
theorem hz_38 {pc : Nat} : (tb_Z L xs).1 38 pc = dx_at tb_m38 pc := rfl
theorem w_38_0 : dx_W (tb_Z L xs) d 38 0 lv st σ Q ↔ wR (dx_lk lv 0) (fun y => dx_W (tb_Z L xs) d 38 1 lv (y :: st) σ Q) := r_aload_n (k := 0) (hz_38.trans rfl)
theorem w_38_1 {w : Value} : dx_W (tb_Z L xs) d 38 1 lv (w :: st) σ Q ↔ wO (dx_gf (tb_K L xs) σ w 5 4) (fun y => dx_W (tb_Z L xs) d 38 4 lv (y :: st) σ Q) := r_getfield (hz_38.trans rfl)
theorem w_38_4 : dx_W (tb_Z L xs) d 38 4 lv st σ Q ↔ dx_W (tb_Z L xs) d 38 7 lv (.int 200 :: st) σ Q := r_sipush (n := 200) (hz_38.trans rfl)
theorem w_38_7 {x y : Int32} : dx_W (tb_Z L xs) d 38 7 lv (.int y :: .int x :: st) σ Q ↔ (if y ≤ x then dx_W (tb_Z L xs) d 38 40 lv st σ Q else dx_W (tb_Z L xs) d 38 10 lv st σ Q) := r_ic_ge (off := 33) (t := 40) (hz_38.trans rfl) (by decide)
theorem w_38_10 : dx_W (tb_Z L xs) d 38 10 lv st σ Q ↔ wR (dx_lk lv 0) (fun y => dx_W (tb_Z L xs) d 38 11 lv (y :: st) σ Q) := r_aload_n (k := 0) (hz_38.trans rfl)
theorem w_38_11 {w : Value} : dx_W (tb_Z L xs) d 38 11 lv (w :: st) σ Q ↔ wO (dx_gf (tb_K L xs) σ w 5 2) (fun y => dx_W (tb_Z L xs) d 38 14 lv (y :: st) σ Q) := r_getfield (hz_38.trans rfl)
theorem w_38_14 : dx_W (tb_Z L xs) d 38 14 lv st σ Q ↔ wR (dx_lk lv 0) (fun y => dx_W (tb_Z L xs) d 38 15 lv (y :: st) σ Q) := r_aload_n (k := 0) (hz_38.trans rfl)
theorem w_38_15 {w : Value} : dx_W (tb_Z L xs) d 38 15 lv (w :: st) σ Q ↔ wO (dx_gf (tb_K L xs) σ w 5 4) (fun y => dx_W (tb_Z L xs) d 38 18 lv (y :: st) σ Q) := r_getfield (hz_38.trans rfl)
theorem w_38_18 : dx_W (tb_Z L xs) d 38 18 lv st σ Q ↔ wI (dx_lk lv 1) (fun y => dx_W (tb_Z L xs) d 38 19 lv (.int y :: st) σ Q) := r_iload_n (k := 1) (hz_38.trans rfl)
theorem w_38_19 {w : Value} {y : Int32} {u : Int32} : dx_W (tb_Z L xs) d 38 19 lv (.int u :: .int y :: w :: st) σ Q ↔ wO (dx_pi σ 0 w y u) (fun σ1 => dx_W (tb_Z L xs) d 38 20 lv st σ1 Q) := r_iastore (hz_38.trans rfl)
theorem w_38_20 : dx_W (tb_Z L xs) d 38 20 lv st σ Q ↔ wR (dx_lk lv 0) (fun y => dx_W (tb_Z L xs) d 38 21 lv (y :: st) σ Q) := r_aload_n (k := 0) (hz_38.trans rfl)
theorem w_38_21 {w : Value} : dx_W (tb_Z L xs) d 38 21 lv (w :: st) σ Q ↔ wO (dx_gf (tb_K L xs) σ w 5 3) (fun y => dx_W (tb_Z L xs) d 38 24 lv (y :: st) σ Q) := r_getfield (hz_38.trans rfl)
theorem w_38_24 : dx_W (tb_Z L xs) d 38 24 lv st σ Q ↔ wR (dx_lk lv 0) (fun y => dx_W (tb_Z L xs) d 38 25 lv (y :: st) σ Q) := r_aload_n (k := 0) (hz_38.trans rfl)
theorem w_38_25 {w : Value} : dx_W (tb_Z L xs) d 38 25 lv (w :: st) σ Q ↔ wO (dx_gf (tb_K L xs) σ w 5 4) (fun y => dx_W (tb_Z L xs) d 38 28 lv (y :: st) σ Q) := r_getfield (hz_38.trans rfl)
theorem w_38_28 : dx_W (tb_Z L xs) d 38 28 lv st σ Q ↔ wJ (dx_lk lv 2) (fun y => dx_W (tb_Z L xs) d 38 29 lv (.long y :: st) σ Q) := r_lload_n (k := 2) (hz_38.trans rfl)
theorem w_38_29 {w : Value} {y : Int32} {u : Int64} : dx_W (tb_Z L xs) d 38 29 lv (.long u :: .int y :: w :: st) σ Q ↔ wO (dx_pl σ w y u) (fun σ1 => dx_W (tb_Z L xs) d 38 30 lv st σ1 Q) := r_lastore (hz_38.trans rfl)
theorem w_38_30 : dx_W (tb_Z L xs) d 38 30 lv st σ Q ↔ wR (dx_lk lv 0) (fun y => dx_W (tb_Z L xs) d 38 31 lv (y :: st) σ Q) := r_aload_n (k := 0) (hz_38.trans rfl)
theorem w_38_31_int {x : Int32} : dx_W (tb_Z L xs) d 38 31 lv (.int x :: st) σ Q ↔ dx_W (tb_Z L xs) d 38 32 lv (.int x :: .int x :: st) σ Q := r_dup_int (hz_38.trans rfl)
theorem w_38_31_ref {x : Nat} : dx_W (tb_Z L xs) d 38 31 lv (.ref x :: st) σ Q ↔ dx_W (tb_Z L xs) d 38 32 lv (.ref x :: .ref x :: st) σ Q := r_dup_ref (hz_38.trans rfl)
theorem w_38_31_retAddr {x : Nat} : dx_W (tb_Z L xs) d 38 31 lv (.retAddr x :: st) σ Q ↔ dx_W (tb_Z L xs) d 38 32 lv (.retAddr x :: .retAddr x :: st) σ Q := r_dup_retAddr (hz_38.trans rfl)
theorem w_38_32 {w : Value} : dx_W (tb_Z L xs) d 38 32 lv (w :: st) σ Q ↔ wO (dx_gf (tb_K L xs) σ w 5 4) (fun y => dx_W (tb_Z L xs) d 38 35 lv (y :: st) σ Q) := r_getfield (hz_38.trans rfl)
theorem w_38_35 : dx_W (tb_Z L xs) d 38 35 lv st σ Q ↔ dx_W (tb_Z L xs) d 38 36 lv (.int 1 :: st) σ Q := r_iconst (n := 1) (hz_38.trans rfl)
theorem w_38_36 {x y : Int32} : dx_W (tb_Z L xs) d 38 36 lv (.int y :: .int x :: st) σ Q ↔ dx_W (tb_Z L xs) d 38 37 lv (.int (x + y) :: st) σ Q := r_iadd (hz_38.trans rfl)
theorem w_38_37 {u w : Value} : dx_W (tb_Z L xs) d 38 37 lv (u :: w :: st) σ Q ↔ wO (dx_pf σ w 5 4 0 u) (fun σ1 => dx_W (tb_Z L xs) d 38 40 lv st σ1 Q) := r_putfield (f := 0) (hz_38.trans rfl)
theorem w_38_40 : dx_W (tb_Z L xs) d 38 40 lv [] σ Q ↔ Q (.inl none) σ := r_return (hz_38.trans rfl) rfl
theorem hz_39 {pc : Nat} : (tb_Z L xs).1 39 pc = dx_at tb_m39 pc := rfl
theorem w_39_0 : dx_W (tb_Z L xs) d 39 0 lv st σ Q ↔ wI (dx_lk lv 0) (fun y => dx_W (tb_Z L xs) d 39 1 lv (.int y :: st) σ Q) := r_iload_n (k := 0) (hz_39.trans rfl)
theorem w_39_1 : dx_W (tb_Z L xs) d 39 1 lv st σ Q ↔ dx_W (tb_Z L xs) d 39 3 lv (.int 97 :: st) σ Q := r_bipush (n := 97) (hz_39.trans rfl)
theorem w_39_3 {x y : Int32} : dx_W (tb_Z L xs) d 39 3 lv (.int y :: .int x :: st) σ Q ↔ (if x < y then dx_W (tb_Z L xs) d 39 16 lv st σ Q else dx_W (tb_Z L xs) d 39 6 lv st σ Q) := r_ic_lt (off := 13) (t := 16) (hz_39.trans rfl) (by decide)
theorem w_39_6 : dx_W (tb_Z L xs) d 39 6 lv st σ Q ↔ wI (dx_lk lv 0) (fun y => dx_W (tb_Z L xs) d 39 7 lv (.int y :: st) σ Q) := r_iload_n (k := 0) (hz_39.trans rfl)
theorem w_39_7 : dx_W (tb_Z L xs) d 39 7 lv st σ Q ↔ dx_W (tb_Z L xs) d 39 9 lv (.int 122 :: st) σ Q := r_bipush (n := 122) (hz_39.trans rfl)
theorem w_39_9 {x y : Int32} : dx_W (tb_Z L xs) d 39 9 lv (.int y :: .int x :: st) σ Q ↔ (if y < x then dx_W (tb_Z L xs) d 39 16 lv st σ Q else dx_W (tb_Z L xs) d 39 12 lv st σ Q) := r_ic_gt (off := 7) (t := 16) (hz_39.trans rfl) (by decide)
theorem w_39_12 : dx_W (tb_Z L xs) d 39 12 lv st σ Q ↔ dx_W (tb_Z L xs) d 39 13 lv (.int 1 :: st) σ Q := r_iconst (n := 1) (hz_39.trans rfl)
theorem w_39_13 : dx_W (tb_Z L xs) d 39 13 lv st σ Q ↔ dx_W (tb_Z L xs) d 39 17 lv st σ Q := r_goto (off := 4) (t := 17) (hz_39.trans rfl) (by decide)
theorem w_39_16 : dx_W (tb_Z L xs) d 39 16 lv st σ Q ↔ dx_W (tb_Z L xs) d 39 17 lv (.int 0 :: st) σ Q := r_iconst (n := 0) (hz_39.trans rfl)
theorem w_39_17 {x : Int32} : dx_W (tb_Z L xs) d 39 17 lv [.int x] σ Q ↔ narrow .boolean (.int x) = .int x ∧ Q (.inl (some (.int x))) σ := c_ireturn (hz_39.trans rfl) rfl
theorem hz_40 {pc : Nat} : (tb_Z L xs).1 40 pc = dx_at tb_m40 pc := rfl
theorem w_40_0 : dx_W (tb_Z L xs) d 40 0 lv st σ Q ↔ dx_W (tb_Z L xs) d 40 1 lv (.int 1 :: st) σ Q := r_iconst (n := 1) (hz_40.trans rfl)
theorem w_40_1 {x : Int32} : dx_W (tb_Z L xs) d 40 1 lv (.int x :: st) σ Q ↔ dx_W (tb_Z L xs) d 40 2 (dx_s1 lv 2 (.int x)) st σ Q := r_istore_n (k := 2) (hz_40.trans rfl) (show 2 < tb_l 40 by decide)
theorem w_40_2 : dx_W (tb_Z L xs) d 40 2 lv st σ Q ↔ wI (dx_lk lv 2) (fun y => dx_W (tb_Z L xs) d 40 3 lv (.int y :: st) σ Q) := r_iload_n (k := 2) (hz_40.trans rfl)
theorem w_40_3 : dx_W (tb_Z L xs) d 40 3 lv st σ Q ↔ dx_W (tb_Z L xs) d 40 6 lv (.int 200 :: st) σ Q := r_sipush (n := 200) (hz_40.trans rfl)
theorem w_40_6 {x y : Int32} : dx_W (tb_Z L xs) d 40 6 lv (.int y :: .int x :: st) σ Q ↔ (if y ≤ x then dx_W (tb_Z L xs) d 40 31 lv st σ Q else dx_W (tb_Z L xs) d 40 9 lv st σ Q) := r_ic_ge (off := 25) (t := 31) (hz_40.trans rfl) (by decide)
theorem w_40_9 : dx_W (tb_Z L xs) d 40 9 lv st σ Q ↔ wR (dx_lk lv 0) (fun y => dx_W (tb_Z L xs) d 40 10 lv (y :: st) σ Q) := r_aload_n (k := 0) (hz_40.trans rfl)
theorem w_40_10 {w : Value} : dx_W (tb_Z L xs) d 40 10 lv (w :: st) σ Q ↔ wO (dx_gf (tb_K L xs) σ w 5 0) (fun y => dx_W (tb_Z L xs) d 40 13 lv (y :: st) σ Q) := r_getfield (hz_40.trans rfl)
theorem w_40_13 : dx_W (tb_Z L xs) d 40 13 lv st σ Q ↔ wI (dx_lk lv 1) (fun y => dx_W (tb_Z L xs) d 40 14 lv (.int y :: st) σ Q) := r_iload_n (k := 1) (hz_40.trans rfl)
theorem w_40_14 : dx_W (tb_Z L xs) d 40 14 lv st σ Q ↔ wI (dx_lk lv 2) (fun y => dx_W (tb_Z L xs) d 40 15 lv (.int y :: st) σ Q) := r_iload_n (k := 2) (hz_40.trans rfl)
theorem w_40_15 {x y : Int32} : dx_W (tb_Z L xs) d 40 15 lv (.int y :: .int x :: st) σ Q ↔ dx_W (tb_Z L xs) d 40 16 lv (.int (x + y) :: st) σ Q := r_iadd (hz_40.trans rfl)
theorem w_40_16 {v0 v1 : Value}  : dx_W (tb_Z L xs) d 40 16 lv (v1 :: v0 :: st) σ Q ↔ (dx_ct st ≤ 8 ∧ dx_ci (tb_K L xs) σ v0 = some 1) ∧ dx_M (tb_Z L xs) d 17 [v0, v1] σ (wK (tb_Z L xs) d 40 19 lv st Q) := c_callv (av := [v1]) (hz_40.trans rfl)
theorem w_40_19 {v0 : Value}  : dx_W (tb_Z L xs) d 40 19 lv (v0 :: st) σ Q ↔ dx_ct st ≤ 8 ∧ dx_M (tb_Z L xs) d 39 [v0] σ (wK (tb_Z L xs) d 40 22 lv st Q) := c_calls (av := [v0]) (hz_40.trans rfl)
theorem w_40_22 {x : Int32} : dx_W (tb_Z L xs) d 40 22 lv (.int x :: st) σ Q ↔ (if x = 0 then dx_W (tb_Z L xs) d 40 31 lv st σ Q else dx_W (tb_Z L xs) d 40 25 lv st σ Q) := r_if_eq (off := 9) (t := 31) (hz_40.trans rfl) (by decide)
theorem w_40_25 : dx_W (tb_Z L xs) d 40 25 lv st σ Q ↔ wI (dx_lk lv 2) (fun y => dx_W (tb_Z L xs) d 40 28 (dx_s1 lv 2 (.int (y + 1))) st σ Q) := r_iincv (k := 2) (n := 1) (hz_40.trans rfl) (show 2 < tb_l 40 by decide) (by decide)
theorem w_40_28 : dx_W (tb_Z L xs) d 40 28 lv st σ Q ↔ dx_W (tb_Z L xs) d 40 2 lv st σ Q := r_goto (off := (-26)) (t := 2) (hz_40.trans rfl) (by decide)
theorem w_40_31 : dx_W (tb_Z L xs) d 40 31 lv st σ Q ↔ wI (dx_lk lv 2) (fun y => dx_W (tb_Z L xs) d 40 32 lv (.int y :: st) σ Q) := r_iload_n (k := 2) (hz_40.trans rfl)
theorem w_40_32 : dx_W (tb_Z L xs) d 40 32 lv st σ Q ↔ dx_W (tb_Z L xs) d 40 33 lv (.int 1 :: st) σ Q := r_iconst (n := 1) (hz_40.trans rfl)
theorem w_40_33 {x y : Int32} : dx_W (tb_Z L xs) d 40 33 lv (.int y :: .int x :: st) σ Q ↔ (if ¬ x = y then dx_W (tb_Z L xs) d 40 58 lv st σ Q else dx_W (tb_Z L xs) d 40 36 lv st σ Q) := r_ic_ne (off := 25) (t := 58) (hz_40.trans rfl) (by decide)
theorem w_40_36 : dx_W (tb_Z L xs) d 40 36 lv st σ Q ↔ wR (dx_lk lv 0) (fun y => dx_W (tb_Z L xs) d 40 37 lv (y :: st) σ Q) := r_aload_n (k := 0) (hz_40.trans rfl)
theorem w_40_37 : dx_W (tb_Z L xs) d 40 37 lv st σ Q ↔ dx_W (tb_Z L xs) d 40 40 lv (.int 257 :: st) σ Q := r_sipush (n := 257) (hz_40.trans rfl)
theorem w_40_40 : dx_W (tb_Z L xs) d 40 40 lv st σ Q ↔ wR (dx_lk lv 0) (fun y => dx_W (tb_Z L xs) d 40 41 lv (y :: st) σ Q) := r_aload_n (k := 0) (hz_40.trans rfl)
theorem w_40_41 {w : Value} : dx_W (tb_Z L xs) d 40 41 lv (w :: st) σ Q ↔ wO (dx_gf (tb_K L xs) σ w 5 0) (fun y => dx_W (tb_Z L xs) d 40 44 lv (y :: st) σ Q) := r_getfield (hz_40.trans rfl)
theorem w_40_44 : dx_W (tb_Z L xs) d 40 44 lv st σ Q ↔ wI (dx_lk lv 1) (fun y => dx_W (tb_Z L xs) d 40 45 lv (.int y :: st) σ Q) := r_iload_n (k := 1) (hz_40.trans rfl)
theorem w_40_45 {v0 v1 : Value}  : dx_W (tb_Z L xs) d 40 45 lv (v1 :: v0 :: st) σ Q ↔ (dx_ct st ≤ 8 ∧ dx_ci (tb_K L xs) σ v0 = some 1) ∧ dx_M (tb_Z L xs) d 17 [v0, v1] σ (wK (tb_Z L xs) d 40 48 lv st Q) := c_callv (av := [v1]) (hz_40.trans rfl)
theorem w_40_48 : dx_W (tb_Z L xs) d 40 48 lv st σ Q ↔ dx_W (tb_Z L xs) d 40 50 lv (.int 97 :: st) σ Q := r_bipush (n := 97) (hz_40.trans rfl)
theorem w_40_50 {x y : Int32} : dx_W (tb_Z L xs) d 40 50 lv (.int y :: .int x :: st) σ Q ↔ dx_W (tb_Z L xs) d 40 51 lv (.int (x - y) :: st) σ Q := r_isub (hz_40.trans rfl)
theorem w_40_51 {x : Int32} : dx_W (tb_Z L xs) d 40 51 lv (.int x :: st) σ Q ↔ dx_W (tb_Z L xs) d 40 52 lv (.long x.toInt64 :: st) σ Q := r_i2l (hz_40.trans rfl)
theorem w_40_52 {v0 v1 v2 : Value}  : dx_W (tb_Z L xs) d 40 52 lv (v2 :: v1 :: v0 :: st) σ Q ↔ (dx_ct st ≤ 8 ∧ dx_ci (tb_K L xs) σ v0 = some 5) ∧ dx_M (tb_Z L xs) d 38 [v0, v1, v2] σ (wK (tb_Z L xs) d 40 55 lv st Q) := c_callv (av := [v1, v2]) (hz_40.trans rfl)
theorem w_40_55 : dx_W (tb_Z L xs) d 40 55 lv st σ Q ↔ dx_W (tb_Z L xs) d 40 69 lv st σ Q := r_goto (off := 14) (t := 69) (hz_40.trans rfl) (by decide)
theorem w_40_58 : dx_W (tb_Z L xs) d 40 58 lv st σ Q ↔ wR (dx_lk lv 0) (fun y => dx_W (tb_Z L xs) d 40 59 lv (y :: st) σ Q) := r_aload_n (k := 0) (hz_40.trans rfl)
theorem w_40_59 : dx_W (tb_Z L xs) d 40 59 lv st σ Q ↔ wR (dx_lk lv 0) (fun y => dx_W (tb_Z L xs) d 40 60 lv (y :: st) σ Q) := r_aload_n (k := 0) (hz_40.trans rfl)
theorem w_40_60 : dx_W (tb_Z L xs) d 40 60 lv st σ Q ↔ wI (dx_lk lv 1) (fun y => dx_W (tb_Z L xs) d 40 61 lv (.int y :: st) σ Q) := r_iload_n (k := 1) (hz_40.trans rfl)
theorem w_40_61 : dx_W (tb_Z L xs) d 40 61 lv st σ Q ↔ wI (dx_lk lv 2) (fun y => dx_W (tb_Z L xs) d 40 62 lv (.int y :: st) σ Q) := r_iload_n (k := 2) (hz_40.trans rfl)
theorem w_40_62 {v0 v1 v2 : Value}  : dx_W (tb_Z L xs) d 40 62 lv (v2 :: v1 :: v0 :: st) σ Q ↔ (dx_ct st ≤ 8 ∧ dx_ci (tb_K L xs) σ v0 = some 5) ∧ dx_M (tb_Z L xs) d 41 [v0, v1, v2] σ (wK (tb_Z L xs) d 40 65 lv st Q) := c_callv (av := [v1, v2]) (hz_40.trans rfl)
theorem w_40_65 : dx_W (tb_Z L xs) d 40 65 lv st σ Q ↔ dx_W (tb_Z L xs) d 40 66 lv (.long 0 :: st) σ Q := r_lconst (n := 0) (hz_40.trans rfl)
theorem w_40_66 {v0 v1 v2 : Value}  : dx_W (tb_Z L xs) d 40 66 lv (v2 :: v1 :: v0 :: st) σ Q ↔ (dx_ct st ≤ 8 ∧ dx_ci (tb_K L xs) σ v0 = some 5) ∧ dx_M (tb_Z L xs) d 38 [v0, v1, v2] σ (wK (tb_Z L xs) d 40 69 lv st Q) := c_callv (av := [v1, v2]) (hz_40.trans rfl)
theorem w_40_69 : dx_W (tb_Z L xs) d 40 69 lv st σ Q ↔ wI (dx_lk lv 2) (fun y => dx_W (tb_Z L xs) d 40 70 lv (.int y :: st) σ Q) := r_iload_n (k := 2) (hz_40.trans rfl)
theorem w_40_70 {x : Int32} : dx_W (tb_Z L xs) d 40 70 lv [.int x] σ Q ↔ Q (.inl (some (.int x))) σ := r_ireturn (hz_40.trans rfl) rfl rfl
theorem hz_41 {pc : Nat} : (tb_Z L xs).1 41 pc = dx_at tb_m41 pc := rfl
theorem w_41_0 : dx_W (tb_Z L xs) d 41 0 lv st σ Q ↔ wR (dx_lk lv 0) (fun y => dx_W (tb_Z L xs) d 41 1 lv (y :: st) σ Q) := r_aload_n (k := 0) (hz_41.trans rfl)
theorem w_41_1 : dx_W (tb_Z L xs) d 41 1 lv st σ Q ↔ dx_W (tb_Z L xs) d 41 3 lv (.retAddr 2 :: st) σ Q := r_ldc (hz_41.trans rfl)
theorem w_41_3 : dx_W (tb_Z L xs) d 41 3 lv st σ Q ↔ wI (dx_lk lv 1) (fun y => dx_W (tb_Z L xs) d 41 4 lv (.int y :: st) σ Q) := r_iload_n (k := 1) (hz_41.trans rfl)
theorem w_41_4 : dx_W (tb_Z L xs) d 41 4 lv st σ Q ↔ wI (dx_lk lv 2) (fun y => dx_W (tb_Z L xs) d 41 5 lv (.int y :: st) σ Q) := r_iload_n (k := 2) (hz_41.trans rfl)
theorem w_41_5 {v0 v1 v2 v3 : Value}  : dx_W (tb_Z L xs) d 41 5 lv (v3 :: v2 :: v1 :: v0 :: st) σ Q ↔ (dx_ct st ≤ 8 ∧ dx_ci (tb_K L xs) σ v0 = some 5) ∧ dx_M (tb_Z L xs) d 42 [v0, v1, v2, v3] σ (wK (tb_Z L xs) d 41 8 lv st Q) := c_callv (av := [v1, v2, v3]) (hz_41.trans rfl)
theorem w_41_8 {x : Int32} : dx_W (tb_Z L xs) d 41 8 lv (.int x :: st) σ Q ↔ (if x = 0 then dx_W (tb_Z L xs) d 41 15 lv st σ Q else dx_W (tb_Z L xs) d 41 11 lv st σ Q) := r_if_eq (off := 7) (t := 15) (hz_41.trans rfl) (by decide)
theorem w_41_11 : dx_W (tb_Z L xs) d 41 11 lv st σ Q ↔ dx_W (tb_Z L xs) d 41 14 lv (.int 258 :: st) σ Q := r_sipush (n := 258) (hz_41.trans rfl)
theorem w_41_14 {x : Int32} : dx_W (tb_Z L xs) d 41 14 lv [.int x] σ Q ↔ Q (.inl (some (.int x))) σ := r_ireturn (hz_41.trans rfl) rfl rfl
theorem w_41_15 : dx_W (tb_Z L xs) d 41 15 lv st σ Q ↔ wR (dx_lk lv 0) (fun y => dx_W (tb_Z L xs) d 41 16 lv (y :: st) σ Q) := r_aload_n (k := 0) (hz_41.trans rfl)
theorem w_41_16 : dx_W (tb_Z L xs) d 41 16 lv st σ Q ↔ dx_W (tb_Z L xs) d 41 18 lv (.retAddr 3 :: st) σ Q := r_ldc (hz_41.trans rfl)
theorem w_41_18 : dx_W (tb_Z L xs) d 41 18 lv st σ Q ↔ wI (dx_lk lv 1) (fun y => dx_W (tb_Z L xs) d 41 19 lv (.int y :: st) σ Q) := r_iload_n (k := 1) (hz_41.trans rfl)
theorem w_41_19 : dx_W (tb_Z L xs) d 41 19 lv st σ Q ↔ wI (dx_lk lv 2) (fun y => dx_W (tb_Z L xs) d 41 20 lv (.int y :: st) σ Q) := r_iload_n (k := 2) (hz_41.trans rfl)
theorem w_41_20 {v0 v1 v2 v3 : Value}  : dx_W (tb_Z L xs) d 41 20 lv (v3 :: v2 :: v1 :: v0 :: st) σ Q ↔ (dx_ct st ≤ 8 ∧ dx_ci (tb_K L xs) σ v0 = some 5) ∧ dx_M (tb_Z L xs) d 42 [v0, v1, v2, v3] σ (wK (tb_Z L xs) d 41 23 lv st Q) := c_callv (av := [v1, v2, v3]) (hz_41.trans rfl)
theorem w_41_23 {x : Int32} : dx_W (tb_Z L xs) d 41 23 lv (.int x :: st) σ Q ↔ (if x = 0 then dx_W (tb_Z L xs) d 41 30 lv st σ Q else dx_W (tb_Z L xs) d 41 26 lv st σ Q) := r_if_eq (off := 7) (t := 30) (hz_41.trans rfl) (by decide)
theorem w_41_26 : dx_W (tb_Z L xs) d 41 26 lv st σ Q ↔ dx_W (tb_Z L xs) d 41 29 lv (.int 259 :: st) σ Q := r_sipush (n := 259) (hz_41.trans rfl)
theorem w_41_29 {x : Int32} : dx_W (tb_Z L xs) d 41 29 lv [.int x] σ Q ↔ Q (.inl (some (.int x))) σ := r_ireturn (hz_41.trans rfl) rfl rfl
theorem w_41_30 : dx_W (tb_Z L xs) d 41 30 lv st σ Q ↔ wR (dx_lk lv 0) (fun y => dx_W (tb_Z L xs) d 41 31 lv (y :: st) σ Q) := r_aload_n (k := 0) (hz_41.trans rfl)
theorem w_41_31 : dx_W (tb_Z L xs) d 41 31 lv st σ Q ↔ dx_W (tb_Z L xs) d 41 33 lv (.retAddr 4 :: st) σ Q := r_ldc (hz_41.trans rfl)
theorem w_41_33 : dx_W (tb_Z L xs) d 41 33 lv st σ Q ↔ wI (dx_lk lv 1) (fun y => dx_W (tb_Z L xs) d 41 34 lv (.int y :: st) σ Q) := r_iload_n (k := 1) (hz_41.trans rfl)
theorem w_41_34 : dx_W (tb_Z L xs) d 41 34 lv st σ Q ↔ wI (dx_lk lv 2) (fun y => dx_W (tb_Z L xs) d 41 35 lv (.int y :: st) σ Q) := r_iload_n (k := 2) (hz_41.trans rfl)
theorem w_41_35 {v0 v1 v2 v3 : Value}  : dx_W (tb_Z L xs) d 41 35 lv (v3 :: v2 :: v1 :: v0 :: st) σ Q ↔ (dx_ct st ≤ 8 ∧ dx_ci (tb_K L xs) σ v0 = some 5) ∧ dx_M (tb_Z L xs) d 42 [v0, v1, v2, v3] σ (wK (tb_Z L xs) d 41 38 lv st Q) := c_callv (av := [v1, v2, v3]) (hz_41.trans rfl)
theorem w_41_38 {x : Int32} : dx_W (tb_Z L xs) d 41 38 lv (.int x :: st) σ Q ↔ (if x = 0 then dx_W (tb_Z L xs) d 41 45 lv st σ Q else dx_W (tb_Z L xs) d 41 41 lv st σ Q) := r_if_eq (off := 7) (t := 45) (hz_41.trans rfl) (by decide)
theorem w_41_41 : dx_W (tb_Z L xs) d 41 41 lv st σ Q ↔ dx_W (tb_Z L xs) d 41 44 lv (.int 260 :: st) σ Q := r_sipush (n := 260) (hz_41.trans rfl)
theorem w_41_44 {x : Int32} : dx_W (tb_Z L xs) d 41 44 lv [.int x] σ Q ↔ Q (.inl (some (.int x))) σ := r_ireturn (hz_41.trans rfl) rfl rfl
theorem w_41_45 : dx_W (tb_Z L xs) d 41 45 lv st σ Q ↔ wR (dx_lk lv 0) (fun y => dx_W (tb_Z L xs) d 41 46 lv (y :: st) σ Q) := r_aload_n (k := 0) (hz_41.trans rfl)
theorem w_41_46 : dx_W (tb_Z L xs) d 41 46 lv st σ Q ↔ dx_W (tb_Z L xs) d 41 48 lv (.retAddr 5 :: st) σ Q := r_ldc (hz_41.trans rfl)
theorem w_41_48 : dx_W (tb_Z L xs) d 41 48 lv st σ Q ↔ wI (dx_lk lv 1) (fun y => dx_W (tb_Z L xs) d 41 49 lv (.int y :: st) σ Q) := r_iload_n (k := 1) (hz_41.trans rfl)
theorem w_41_49 : dx_W (tb_Z L xs) d 41 49 lv st σ Q ↔ wI (dx_lk lv 2) (fun y => dx_W (tb_Z L xs) d 41 50 lv (.int y :: st) σ Q) := r_iload_n (k := 2) (hz_41.trans rfl)
theorem w_41_50 {v0 v1 v2 v3 : Value}  : dx_W (tb_Z L xs) d 41 50 lv (v3 :: v2 :: v1 :: v0 :: st) σ Q ↔ (dx_ct st ≤ 8 ∧ dx_ci (tb_K L xs) σ v0 = some 5) ∧ dx_M (tb_Z L xs) d 42 [v0, v1, v2, v3] σ (wK (tb_Z L xs) d 41 53 lv st Q) := c_callv (av := [v1, v2, v3]) (hz_41.trans rfl)
theorem w_41_53 {x : Int32} : dx_W (tb_Z L xs) d 41 53 lv (.int x :: st) σ Q ↔ (if x = 0 then dx_W (tb_Z L xs) d 41 60 lv st σ Q else dx_W (tb_Z L xs) d 41 56 lv st σ Q) := r_if_eq (off := 7) (t := 60) (hz_41.trans rfl) (by decide)
theorem w_41_56 : dx_W (tb_Z L xs) d 41 56 lv st σ Q ↔ dx_W (tb_Z L xs) d 41 59 lv (.int 261 :: st) σ Q := r_sipush (n := 261) (hz_41.trans rfl)
theorem w_41_59 {x : Int32} : dx_W (tb_Z L xs) d 41 59 lv [.int x] σ Q ↔ Q (.inl (some (.int x))) σ := r_ireturn (hz_41.trans rfl) rfl rfl
theorem w_41_60 : dx_W (tb_Z L xs) d 41 60 lv st σ Q ↔ wR (dx_lk lv 0) (fun y => dx_W (tb_Z L xs) d 41 61 lv (y :: st) σ Q) := r_aload_n (k := 0) (hz_41.trans rfl)
theorem w_41_61 : dx_W (tb_Z L xs) d 41 61 lv st σ Q ↔ dx_W (tb_Z L xs) d 41 63 lv (.retAddr 6 :: st) σ Q := r_ldc (hz_41.trans rfl)
theorem w_41_63 : dx_W (tb_Z L xs) d 41 63 lv st σ Q ↔ wI (dx_lk lv 1) (fun y => dx_W (tb_Z L xs) d 41 64 lv (.int y :: st) σ Q) := r_iload_n (k := 1) (hz_41.trans rfl)
theorem w_41_64 : dx_W (tb_Z L xs) d 41 64 lv st σ Q ↔ wI (dx_lk lv 2) (fun y => dx_W (tb_Z L xs) d 41 65 lv (.int y :: st) σ Q) := r_iload_n (k := 2) (hz_41.trans rfl)
theorem w_41_65 {v0 v1 v2 v3 : Value}  : dx_W (tb_Z L xs) d 41 65 lv (v3 :: v2 :: v1 :: v0 :: st) σ Q ↔ (dx_ct st ≤ 8 ∧ dx_ci (tb_K L xs) σ v0 = some 5) ∧ dx_M (tb_Z L xs) d 42 [v0, v1, v2, v3] σ (wK (tb_Z L xs) d 41 68 lv st Q) := c_callv (av := [v1, v2, v3]) (hz_41.trans rfl)
theorem w_41_68 {x : Int32} : dx_W (tb_Z L xs) d 41 68 lv (.int x :: st) σ Q ↔ (if ¬ x = 0 then dx_W (tb_Z L xs) d 41 79 lv st σ Q else dx_W (tb_Z L xs) d 41 71 lv st σ Q) := r_if_ne (off := 11) (t := 79) (hz_41.trans rfl) (by decide)
theorem w_41_71 : dx_W (tb_Z L xs) d 41 71 lv st σ Q ↔ wR (dx_lk lv 0) (fun y => dx_W (tb_Z L xs) d 41 72 lv (y :: st) σ Q) := r_aload_n (k := 0) (hz_41.trans rfl)
theorem w_41_72 {w : Value} : dx_W (tb_Z L xs) d 41 72 lv (w :: st) σ Q ↔ wO (dx_gf (tb_K L xs) σ w 5 1) (fun y => dx_W (tb_Z L xs) d 41 75 lv (y :: st) σ Q) := r_getfield (hz_41.trans rfl)
theorem w_41_75 : dx_W (tb_Z L xs) d 41 75 lv st σ Q ↔ dx_W (tb_Z L xs) d 41 76 lv (.int 1 :: st) σ Q := r_iconst (n := 1) (hz_41.trans rfl)
theorem w_41_76 {v0 v1 : Value}  : dx_W (tb_Z L xs) d 41 76 lv (v1 :: v0 :: st) σ Q ↔ (dx_ct st ≤ 8 ∧ dx_ci (tb_K L xs) σ v0 = some 3) ∧ dx_M (tb_Z L xs) d 22 [v0, v1] σ (wK (tb_Z L xs) d 41 79 lv st Q) := c_callv (av := [v1]) (hz_41.trans rfl)
theorem w_41_79 : dx_W (tb_Z L xs) d 41 79 lv st σ Q ↔ dx_W (tb_Z L xs) d 41 82 lv (.int 262 :: st) σ Q := r_sipush (n := 262) (hz_41.trans rfl)
theorem w_41_82 {x : Int32} : dx_W (tb_Z L xs) d 41 82 lv [.int x] σ Q ↔ Q (.inl (some (.int x))) σ := r_ireturn (hz_41.trans rfl) rfl rfl
theorem hz_42 {pc : Nat} : (tb_Z L xs).1 42 pc = dx_at tb_m42 pc := rfl
theorem w_42_0 : dx_W (tb_Z L xs) d 42 0 lv st σ Q ↔ wR (dx_lk lv 1) (fun y => dx_W (tb_Z L xs) d 42 1 lv (y :: st) σ Q) := r_aload_n (k := 1) (hz_42.trans rfl)
theorem w_42_1 {v0 : Value}  : dx_W (tb_Z L xs) d 42 1 lv (v0 :: st) σ Q ↔ (dx_ct st ≤ 8 ∧ dx_ci (tb_K L xs) σ v0 = some 14) ∧ dx_M (tb_Z L xs) d 151 [v0] σ (wK (tb_Z L xs) d 42 4 lv st Q) := c_callv (av := []) (hz_42.trans rfl)
theorem w_42_4 : dx_W (tb_Z L xs) d 42 4 lv st σ Q ↔ wI (dx_lk lv 3) (fun y => dx_W (tb_Z L xs) d 42 5 lv (.int y :: st) σ Q) := r_iload_n (k := 3) (hz_42.trans rfl)
theorem w_42_5 {x y : Int32} : dx_W (tb_Z L xs) d 42 5 lv (.int y :: .int x :: st) σ Q ↔ (if x = y then dx_W (tb_Z L xs) d 42 10 lv st σ Q else dx_W (tb_Z L xs) d 42 8 lv st σ Q) := r_ic_eq (off := 5) (t := 10) (hz_42.trans rfl) (by decide)
theorem w_42_8 : dx_W (tb_Z L xs) d 42 8 lv st σ Q ↔ dx_W (tb_Z L xs) d 42 9 lv (.int 0 :: st) σ Q := r_iconst (n := 0) (hz_42.trans rfl)
theorem w_42_9 {x : Int32} : dx_W (tb_Z L xs) d 42 9 lv [.int x] σ Q ↔ narrow .boolean (.int x) = .int x ∧ Q (.inl (some (.int x))) σ := c_ireturn (hz_42.trans rfl) rfl
theorem w_42_10 : dx_W (tb_Z L xs) d 42 10 lv st σ Q ↔ dx_W (tb_Z L xs) d 42 11 lv (.int 0 :: st) σ Q := r_iconst (n := 0) (hz_42.trans rfl)
theorem w_42_11 {x : Int32} : dx_W (tb_Z L xs) d 42 11 lv (.int x :: st) σ Q ↔ dx_W (tb_Z L xs) d 42 13 (dx_s1 lv 4 (.int x)) st σ Q := r_istore (k := 4) (hz_42.trans rfl) (show 4 < tb_l 42 by decide)
theorem w_42_13 : dx_W (tb_Z L xs) d 42 13 lv st σ Q ↔ wI (dx_lk lv 4) (fun y => dx_W (tb_Z L xs) d 42 15 lv (.int y :: st) σ Q) := r_iload (k := 4) (hz_42.trans rfl)
theorem w_42_15 : dx_W (tb_Z L xs) d 42 15 lv st σ Q ↔ wI (dx_lk lv 3) (fun y => dx_W (tb_Z L xs) d 42 16 lv (.int y :: st) σ Q) := r_iload_n (k := 3) (hz_42.trans rfl)
theorem w_42_16 {x y : Int32} : dx_W (tb_Z L xs) d 42 16 lv (.int y :: .int x :: st) σ Q ↔ (if y ≤ x then dx_W (tb_Z L xs) d 42 47 lv st σ Q else dx_W (tb_Z L xs) d 42 19 lv st σ Q) := r_ic_ge (off := 31) (t := 47) (hz_42.trans rfl) (by decide)
theorem w_42_19 : dx_W (tb_Z L xs) d 42 19 lv st σ Q ↔ wR (dx_lk lv 1) (fun y => dx_W (tb_Z L xs) d 42 20 lv (y :: st) σ Q) := r_aload_n (k := 1) (hz_42.trans rfl)
theorem w_42_20 : dx_W (tb_Z L xs) d 42 20 lv st σ Q ↔ wI (dx_lk lv 4) (fun y => dx_W (tb_Z L xs) d 42 22 lv (.int y :: st) σ Q) := r_iload (k := 4) (hz_42.trans rfl)
theorem w_42_22 {v0 v1 : Value}  : dx_W (tb_Z L xs) d 42 22 lv (v1 :: v0 :: st) σ Q ↔ (dx_ct st ≤ 8 ∧ dx_ci (tb_K L xs) σ v0 = some 14) ∧ dx_M (tb_Z L xs) d 153 [v0, v1] σ (wK (tb_Z L xs) d 42 25 lv st Q) := c_callv (av := [v1]) (hz_42.trans rfl)
theorem w_42_25 : dx_W (tb_Z L xs) d 42 25 lv st σ Q ↔ wR (dx_lk lv 0) (fun y => dx_W (tb_Z L xs) d 42 26 lv (y :: st) σ Q) := r_aload_n (k := 0) (hz_42.trans rfl)
theorem w_42_26 {w : Value} : dx_W (tb_Z L xs) d 42 26 lv (w :: st) σ Q ↔ wO (dx_gf (tb_K L xs) σ w 5 0) (fun y => dx_W (tb_Z L xs) d 42 29 lv (y :: st) σ Q) := r_getfield (hz_42.trans rfl)
theorem w_42_29 : dx_W (tb_Z L xs) d 42 29 lv st σ Q ↔ wI (dx_lk lv 2) (fun y => dx_W (tb_Z L xs) d 42 30 lv (.int y :: st) σ Q) := r_iload_n (k := 2) (hz_42.trans rfl)
theorem w_42_30 : dx_W (tb_Z L xs) d 42 30 lv st σ Q ↔ wI (dx_lk lv 4) (fun y => dx_W (tb_Z L xs) d 42 32 lv (.int y :: st) σ Q) := r_iload (k := 4) (hz_42.trans rfl)
theorem w_42_32 {x y : Int32} : dx_W (tb_Z L xs) d 42 32 lv (.int y :: .int x :: st) σ Q ↔ dx_W (tb_Z L xs) d 42 33 lv (.int (x + y) :: st) σ Q := r_iadd (hz_42.trans rfl)
theorem w_42_33 {v0 v1 : Value}  : dx_W (tb_Z L xs) d 42 33 lv (v1 :: v0 :: st) σ Q ↔ (dx_ct st ≤ 8 ∧ dx_ci (tb_K L xs) σ v0 = some 1) ∧ dx_M (tb_Z L xs) d 17 [v0, v1] σ (wK (tb_Z L xs) d 42 36 lv st Q) := c_callv (av := [v1]) (hz_42.trans rfl)
theorem w_42_36 {x y : Int32} : dx_W (tb_Z L xs) d 42 36 lv (.int y :: .int x :: st) σ Q ↔ (if x = y then dx_W (tb_Z L xs) d 42 41 lv st σ Q else dx_W (tb_Z L xs) d 42 39 lv st σ Q) := r_ic_eq (off := 5) (t := 41) (hz_42.trans rfl) (by decide)
theorem w_42_39 : dx_W (tb_Z L xs) d 42 39 lv st σ Q ↔ dx_W (tb_Z L xs) d 42 40 lv (.int 0 :: st) σ Q := r_iconst (n := 0) (hz_42.trans rfl)
theorem w_42_40 {x : Int32} : dx_W (tb_Z L xs) d 42 40 lv [.int x] σ Q ↔ narrow .boolean (.int x) = .int x ∧ Q (.inl (some (.int x))) σ := c_ireturn (hz_42.trans rfl) rfl
theorem w_42_41 : dx_W (tb_Z L xs) d 42 41 lv st σ Q ↔ wI (dx_lk lv 4) (fun y => dx_W (tb_Z L xs) d 42 44 (dx_s1 lv 4 (.int (y + 1))) st σ Q) := r_iincv (k := 4) (n := 1) (hz_42.trans rfl) (show 4 < tb_l 42 by decide) (by decide)
theorem w_42_44 : dx_W (tb_Z L xs) d 42 44 lv st σ Q ↔ dx_W (tb_Z L xs) d 42 13 lv st σ Q := r_goto (off := (-31)) (t := 13) (hz_42.trans rfl) (by decide)
theorem w_42_47 : dx_W (tb_Z L xs) d 42 47 lv st σ Q ↔ dx_W (tb_Z L xs) d 42 48 lv (.int 1 :: st) σ Q := r_iconst (n := 1) (hz_42.trans rfl)
theorem w_42_48 {x : Int32} : dx_W (tb_Z L xs) d 42 48 lv [.int x] σ Q ↔ narrow .boolean (.int x) = .int x ∧ Q (.inl (some (.int x))) σ := c_ireturn (hz_42.trans rfl) rfl
theorem hz_43 {pc : Nat} : (tb_Z L xs).1 43 pc = dx_at tb_m43 pc := rfl
theorem w_43_0 : dx_W (tb_Z L xs) d 43 0 lv st σ Q ↔ wR (dx_lk lv 0) (fun y => dx_W (tb_Z L xs) d 43 1 lv (y :: st) σ Q) := r_aload_n (k := 0) (hz_43.trans rfl)
theorem w_43_1 {w : Value} : dx_W (tb_Z L xs) d 43 1 lv (w :: st) σ Q ↔ wO (dx_gf (tb_K L xs) σ w 5 0) (fun y => dx_W (tb_Z L xs) d 43 4 lv (y :: st) σ Q) := r_getfield (hz_43.trans rfl)
theorem w_43_4 : dx_W (tb_Z L xs) d 43 4 lv st σ Q ↔ wI (dx_lk lv 1) (fun y => dx_W (tb_Z L xs) d 43 5 lv (.int y :: st) σ Q) := r_iload_n (k := 1) (hz_43.trans rfl)
theorem w_43_5 {v0 v1 : Value}  : dx_W (tb_Z L xs) d 43 5 lv (v1 :: v0 :: st) σ Q ↔ (dx_ct st ≤ 8 ∧ dx_ci (tb_K L xs) σ v0 = some 1) ∧ dx_M (tb_Z L xs) d 17 [v0, v1] σ (wK (tb_Z L xs) d 43 8 lv st Q) := c_callv (av := [v1]) (hz_43.trans rfl)
theorem w_43_8 {x : Int32} : dx_W (tb_Z L xs) d 43 8 lv (.int x :: st) σ Q ↔ dx_W (tb_Z L xs) d 43 9 (dx_s1 lv 2 (.int x)) st σ Q := r_istore_n (k := 2) (hz_43.trans rfl) (show 2 < tb_l 43 by decide)
theorem w_43_9 : dx_W (tb_Z L xs) d 43 9 lv st σ Q ↔ wR (dx_lk lv 0) (fun y => dx_W (tb_Z L xs) d 43 10 lv (y :: st) σ Q) := r_aload_n (k := 0) (hz_43.trans rfl)
theorem w_43_10 {w : Value} : dx_W (tb_Z L xs) d 43 10 lv (w :: st) σ Q ↔ wO (dx_gf (tb_K L xs) σ w 5 0) (fun y => dx_W (tb_Z L xs) d 43 13 lv (y :: st) σ Q) := r_getfield (hz_43.trans rfl)
theorem w_43_13 : dx_W (tb_Z L xs) d 43 13 lv st σ Q ↔ wI (dx_lk lv 1) (fun y => dx_W (tb_Z L xs) d 43 14 lv (.int y :: st) σ Q) := r_iload_n (k := 1) (hz_43.trans rfl)
theorem w_43_14 : dx_W (tb_Z L xs) d 43 14 lv st σ Q ↔ dx_W (tb_Z L xs) d 43 15 lv (.int 1 :: st) σ Q := r_iconst (n := 1) (hz_43.trans rfl)
theorem w_43_15 {x y : Int32} : dx_W (tb_Z L xs) d 43 15 lv (.int y :: .int x :: st) σ Q ↔ dx_W (tb_Z L xs) d 43 16 lv (.int (x + y) :: st) σ Q := r_iadd (hz_43.trans rfl)
theorem w_43_16 {v0 v1 : Value}  : dx_W (tb_Z L xs) d 43 16 lv (v1 :: v0 :: st) σ Q ↔ (dx_ct st ≤ 8 ∧ dx_ci (tb_K L xs) σ v0 = some 1) ∧ dx_M (tb_Z L xs) d 17 [v0, v1] σ (wK (tb_Z L xs) d 43 19 lv st Q) := c_callv (av := [v1]) (hz_43.trans rfl)
theorem w_43_19 : dx_W (tb_Z L xs) d 43 19 lv st σ Q ↔ dx_W (tb_Z L xs) d 43 21 lv (.int 61 :: st) σ Q := r_bipush (n := 61) (hz_43.trans rfl)
theorem w_43_21 {x y : Int32} : dx_W (tb_Z L xs) d 43 21 lv (.int y :: .int x :: st) σ Q ↔ (if ¬ x = y then dx_W (tb_Z L xs) d 43 31 lv st σ Q else dx_W (tb_Z L xs) d 43 24 lv st σ Q) := r_ic_ne (off := 10) (t := 31) (hz_43.trans rfl) (by decide)
theorem w_43_24 : dx_W (tb_Z L xs) d 43 24 lv st σ Q ↔ wI (dx_lk lv 2) (fun y => dx_W (tb_Z L xs) d 43 25 lv (.int y :: st) σ Q) := r_iload_n (k := 2) (hz_43.trans rfl)
theorem w_43_25 {v0 : Value}  : dx_W (tb_Z L xs) d 43 25 lv (v0 :: st) σ Q ↔ dx_ct st ≤ 8 ∧ dx_M (tb_Z L xs) d 44 [v0] σ (wK (tb_Z L xs) d 43 28 lv st Q) := c_calls (av := [v0]) (hz_43.trans rfl)
theorem w_43_28 : dx_W (tb_Z L xs) d 43 28 lv st σ Q ↔ dx_W (tb_Z L xs) d 43 32 lv st σ Q := r_goto (off := 4) (t := 32) (hz_43.trans rfl) (by decide)
theorem w_43_31 : dx_W (tb_Z L xs) d 43 31 lv st σ Q ↔ dx_W (tb_Z L xs) d 43 32 lv (.int 0 :: st) σ Q := r_iconst (n := 0) (hz_43.trans rfl)
theorem w_43_32 {x : Int32} : dx_W (tb_Z L xs) d 43 32 lv (.int x :: st) σ Q ↔ dx_W (tb_Z L xs) d 43 33 (dx_s1 lv 3 (.int x)) st σ Q := r_istore_n (k := 3) (hz_43.trans rfl) (show 3 < tb_l 43 by decide)
theorem w_43_33 : dx_W (tb_Z L xs) d 43 33 lv st σ Q ↔ wI (dx_lk lv 3) (fun y => dx_W (tb_Z L xs) d 43 34 lv (.int y :: st) σ Q) := r_iload_n (k := 3) (hz_43.trans rfl)
theorem w_43_34 {x : Int32} : dx_W (tb_Z L xs) d 43 34 lv (.int x :: st) σ Q ↔ (if x = 0 then dx_W (tb_Z L xs) d 43 45 lv st σ Q else dx_W (tb_Z L xs) d 43 37 lv st σ Q) := r_if_eq (off := 11) (t := 45) (hz_43.trans rfl) (by decide)
theorem w_43_37 : dx_W (tb_Z L xs) d 43 37 lv st σ Q ↔ wR (dx_lk lv 0) (fun y => dx_W (tb_Z L xs) d 43 38 lv (y :: st) σ Q) := r_aload_n (k := 0) (hz_43.trans rfl)
theorem w_43_38 : dx_W (tb_Z L xs) d 43 38 lv st σ Q ↔ wI (dx_lk lv 3) (fun y => dx_W (tb_Z L xs) d 43 39 lv (.int y :: st) σ Q) := r_iload_n (k := 3) (hz_43.trans rfl)
theorem w_43_39 : dx_W (tb_Z L xs) d 43 39 lv st σ Q ↔ dx_W (tb_Z L xs) d 43 40 lv (.long 0 :: st) σ Q := r_lconst (n := 0) (hz_43.trans rfl)
theorem w_43_40 {v0 v1 v2 : Value}  : dx_W (tb_Z L xs) d 43 40 lv (v2 :: v1 :: v0 :: st) σ Q ↔ (dx_ct st ≤ 8 ∧ dx_ci (tb_K L xs) σ v0 = some 5) ∧ dx_M (tb_Z L xs) d 38 [v0, v1, v2] σ (wK (tb_Z L xs) d 43 43 lv st Q) := c_callv (av := [v1, v2]) (hz_43.trans rfl)
theorem w_43_43 : dx_W (tb_Z L xs) d 43 43 lv st σ Q ↔ dx_W (tb_Z L xs) d 43 44 lv (.int 2 :: st) σ Q := r_iconst (n := 2) (hz_43.trans rfl)
theorem w_43_44 {x : Int32} : dx_W (tb_Z L xs) d 43 44 lv [.int x] σ Q ↔ Q (.inl (some (.int x))) σ := r_ireturn (hz_43.trans rfl) rfl rfl
theorem w_43_45 : dx_W (tb_Z L xs) d 43 45 lv st σ Q ↔ wI (dx_lk lv 2) (fun y => dx_W (tb_Z L xs) d 43 46 lv (.int y :: st) σ Q) := r_iload_n (k := 2) (hz_43.trans rfl)
theorem w_43_46 : dx_W (tb_Z L xs) d 43 46 lv st σ Q ↔ dx_W (tb_Z L xs) d 43 48 lv (.int 10 :: st) σ Q := r_bipush (n := 10) (hz_43.trans rfl)
theorem w_43_48 {x y : Int32} : dx_W (tb_Z L xs) d 43 48 lv (.int y :: .int x :: st) σ Q ↔ (if x = y then dx_W (tb_Z L xs) d 43 68 lv st σ Q else dx_W (tb_Z L xs) d 43 51 lv st σ Q) := r_ic_eq (off := 20) (t := 68) (hz_43.trans rfl) (by decide)
theorem w_43_51 : dx_W (tb_Z L xs) d 43 51 lv st σ Q ↔ dx_W (tb_Z L xs) d 43 53 lv (.retAddr 7 :: st) σ Q := r_ldc (hz_43.trans rfl)
theorem w_43_53 : dx_W (tb_Z L xs) d 43 53 lv st σ Q ↔ wI (dx_lk lv 2) (fun y => dx_W (tb_Z L xs) d 43 54 lv (.int y :: st) σ Q) := r_iload_n (k := 2) (hz_43.trans rfl)
theorem w_43_54 {v0 v1 : Value}  : dx_W (tb_Z L xs) d 43 54 lv (v1 :: v0 :: st) σ Q ↔ (dx_ct st ≤ 8 ∧ dx_ci (tb_K L xs) σ v0 = some 14) ∧ dx_M (tb_Z L xs) d 156 [v0, v1] σ (wK (tb_Z L xs) d 43 57 lv st Q) := c_callv (av := [v1]) (hz_43.trans rfl)
theorem w_43_57 {x : Int32} : dx_W (tb_Z L xs) d 43 57 lv (.int x :: st) σ Q ↔ (if 0 ≤ x then dx_W (tb_Z L xs) d 43 68 lv st σ Q else dx_W (tb_Z L xs) d 43 60 lv st σ Q) := r_if_ge (off := 11) (t := 68) (hz_43.trans rfl) (by decide)
theorem w_43_60 : dx_W (tb_Z L xs) d 43 60 lv st σ Q ↔ wR (dx_lk lv 0) (fun y => dx_W (tb_Z L xs) d 43 61 lv (y :: st) σ Q) := r_aload_n (k := 0) (hz_43.trans rfl)
theorem w_43_61 {w : Value} : dx_W (tb_Z L xs) d 43 61 lv (w :: st) σ Q ↔ wO (dx_gf (tb_K L xs) σ w 5 1) (fun y => dx_W (tb_Z L xs) d 43 64 lv (y :: st) σ Q) := r_getfield (hz_43.trans rfl)
theorem w_43_64 : dx_W (tb_Z L xs) d 43 64 lv st σ Q ↔ dx_W (tb_Z L xs) d 43 65 lv (.int 1 :: st) σ Q := r_iconst (n := 1) (hz_43.trans rfl)
theorem w_43_65 {v0 v1 : Value}  : dx_W (tb_Z L xs) d 43 65 lv (v1 :: v0 :: st) σ Q ↔ (dx_ct st ≤ 8 ∧ dx_ci (tb_K L xs) σ v0 = some 3) ∧ dx_M (tb_Z L xs) d 22 [v0, v1] σ (wK (tb_Z L xs) d 43 68 lv st Q) := c_callv (av := [v1]) (hz_43.trans rfl)
theorem w_43_68 : dx_W (tb_Z L xs) d 43 68 lv st σ Q ↔ wR (dx_lk lv 0) (fun y => dx_W (tb_Z L xs) d 43 69 lv (y :: st) σ Q) := r_aload_n (k := 0) (hz_43.trans rfl)
theorem w_43_69 : dx_W (tb_Z L xs) d 43 69 lv st σ Q ↔ wI (dx_lk lv 2) (fun y => dx_W (tb_Z L xs) d 43 70 lv (.int y :: st) σ Q) := r_iload_n (k := 2) (hz_43.trans rfl)
theorem w_43_70 : dx_W (tb_Z L xs) d 43 70 lv st σ Q ↔ dx_W (tb_Z L xs) d 43 72 lv (.int 10 :: st) σ Q := r_bipush (n := 10) (hz_43.trans rfl)
theorem w_43_72 {x y : Int32} : dx_W (tb_Z L xs) d 43 72 lv (.int y :: .int x :: st) σ Q ↔ (if ¬ x = y then dx_W (tb_Z L xs) d 43 80 lv st σ Q else dx_W (tb_Z L xs) d 43 75 lv st σ Q) := r_ic_ne (off := 8) (t := 80) (hz_43.trans rfl) (by decide)
theorem w_43_75 : dx_W (tb_Z L xs) d 43 75 lv st σ Q ↔ dx_W (tb_Z L xs) d 43 77 lv (.int 59 :: st) σ Q := r_bipush (n := 59) (hz_43.trans rfl)
theorem w_43_77 : dx_W (tb_Z L xs) d 43 77 lv st σ Q ↔ dx_W (tb_Z L xs) d 43 81 lv st σ Q := r_goto (off := 4) (t := 81) (hz_43.trans rfl) (by decide)
theorem w_43_80 : dx_W (tb_Z L xs) d 43 80 lv st σ Q ↔ wI (dx_lk lv 2) (fun y => dx_W (tb_Z L xs) d 43 81 lv (.int y :: st) σ Q) := r_iload_n (k := 2) (hz_43.trans rfl)
theorem w_43_81 : dx_W (tb_Z L xs) d 43 81 lv st σ Q ↔ dx_W (tb_Z L xs) d 43 82 lv (.long 0 :: st) σ Q := r_lconst (n := 0) (hz_43.trans rfl)
theorem w_43_82 {v0 v1 v2 : Value}  : dx_W (tb_Z L xs) d 43 82 lv (v2 :: v1 :: v0 :: st) σ Q ↔ (dx_ct st ≤ 8 ∧ dx_ci (tb_K L xs) σ v0 = some 5) ∧ dx_M (tb_Z L xs) d 38 [v0, v1, v2] σ (wK (tb_Z L xs) d 43 85 lv st Q) := c_callv (av := [v1, v2]) (hz_43.trans rfl)
theorem w_43_85 : dx_W (tb_Z L xs) d 43 85 lv st σ Q ↔ dx_W (tb_Z L xs) d 43 86 lv (.int 1 :: st) σ Q := r_iconst (n := 1) (hz_43.trans rfl)
theorem w_43_86 {x : Int32} : dx_W (tb_Z L xs) d 43 86 lv [.int x] σ Q ↔ Q (.inl (some (.int x))) σ := r_ireturn (hz_43.trans rfl) rfl rfl
theorem hz_44 {pc : Nat} : (tb_Z L xs).1 44 pc = dx_at tb_m44 pc := rfl
theorem w_44_0 : dx_W (tb_Z L xs) d 44 0 lv st σ Q ↔ wI (dx_lk lv 0) (fun y => dx_W (tb_Z L xs) d 44 1 lv (.int y :: st) σ Q) := r_iload_n (k := 0) (hz_44.trans rfl)
theorem w_44_1 {x : Int32} : dx_W (tb_Z L xs) d 44 1 lv (.int x :: st) σ Q ↔ (if x = 33 then dx_W (tb_Z L xs) d 44 62 lv st σ Q else if x = 60 then dx_W (tb_Z L xs) d 44 44 lv st σ Q else if x = 61 then dx_W (tb_Z L xs) d 44 56 lv st σ Q else if x = 62 then dx_W (tb_Z L xs) d 44 50 lv st σ Q else dx_W (tb_Z L xs) d 44 68 lv st σ Q) := by
  by_cases h0 : x = 33
  · subst h0
    rw [if_pos rfl]
    exact r_sw (t := 62) (hz_44.trans rfl) rfl rfl
  rw [if_neg h0]
  by_cases h1 : x = 60
  · subst h1
    rw [if_pos rfl]
    exact r_sw (t := 44) (hz_44.trans rfl) rfl rfl
  rw [if_neg h1]
  by_cases h2 : x = 61
  · subst h2
    rw [if_pos rfl]
    exact r_sw (t := 56) (hz_44.trans rfl) rfl rfl
  rw [if_neg h2]
  by_cases h3 : x = 62
  · subst h3
    rw [if_pos rfl]
    exact r_sw (t := 50) (hz_44.trans rfl) rfl rfl
  rw [if_neg h3]
  refine r_look (t := 68) (hz_44.trans rfl) (by decide) ?_
  simp only [lv_osw h0 (show (33 : Int32).toInt = 33 from rfl), lv_osw h1 (show (60 : Int32).toInt = 60 from rfl), lv_osw h2 (show (61 : Int32).toInt = 61 from rfl), lv_osw h3 (show (62 : Int32).toInt = 62 from rfl)]
  rfl
theorem w_44_44 : dx_W (tb_Z L xs) d 44 44 lv st σ Q ↔ dx_W (tb_Z L xs) d 44 47 lv (.int 263 :: st) σ Q := r_sipush (n := 263) (hz_44.trans rfl)
theorem w_44_47 : dx_W (tb_Z L xs) d 44 47 lv st σ Q ↔ dx_W (tb_Z L xs) d 44 69 lv st σ Q := r_goto (off := 22) (t := 69) (hz_44.trans rfl) (by decide)
theorem w_44_50 : dx_W (tb_Z L xs) d 44 50 lv st σ Q ↔ dx_W (tb_Z L xs) d 44 53 lv (.int 264 :: st) σ Q := r_sipush (n := 264) (hz_44.trans rfl)
theorem w_44_53 : dx_W (tb_Z L xs) d 44 53 lv st σ Q ↔ dx_W (tb_Z L xs) d 44 69 lv st σ Q := r_goto (off := 16) (t := 69) (hz_44.trans rfl) (by decide)
theorem w_44_56 : dx_W (tb_Z L xs) d 44 56 lv st σ Q ↔ dx_W (tb_Z L xs) d 44 59 lv (.int 265 :: st) σ Q := r_sipush (n := 265) (hz_44.trans rfl)
theorem w_44_59 : dx_W (tb_Z L xs) d 44 59 lv st σ Q ↔ dx_W (tb_Z L xs) d 44 69 lv st σ Q := r_goto (off := 10) (t := 69) (hz_44.trans rfl) (by decide)
theorem w_44_62 : dx_W (tb_Z L xs) d 44 62 lv st σ Q ↔ dx_W (tb_Z L xs) d 44 65 lv (.int 266 :: st) σ Q := r_sipush (n := 266) (hz_44.trans rfl)
theorem w_44_65 : dx_W (tb_Z L xs) d 44 65 lv st σ Q ↔ dx_W (tb_Z L xs) d 44 69 lv st σ Q := r_goto (off := 4) (t := 69) (hz_44.trans rfl) (by decide)
theorem w_44_68 : dx_W (tb_Z L xs) d 44 68 lv st σ Q ↔ dx_W (tb_Z L xs) d 44 69 lv (.int 0 :: st) σ Q := r_iconst (n := 0) (hz_44.trans rfl)
theorem w_44_69 {x : Int32} : dx_W (tb_Z L xs) d 44 69 lv [.int x] σ Q ↔ Q (.inl (some (.int x))) σ := r_ireturn (hz_44.trans rfl) rfl rfl
end W5
/-! Printed by program: the rules of every instruction of DecimalRun$Arithmetic. -/
section W8
variable {L : Nat} {xs : Nat → Int32} {d : Nat} {lv : dx_L} {st : List Value} {σ : dx_S} {Q : dx_O → dx_S → Prop}
theorem hz_78 {pc : Nat} : (tb_Z L xs).1 78 pc = dx_at tb_m78 pc := rfl
theorem w_78_0 : dx_W (tb_Z L xs) d 78 0 lv st σ Q ↔ wR (dx_lk lv 0) (fun y => dx_W (tb_Z L xs) d 78 1 lv (y :: st) σ Q) := r_aload_n (k := 0) (hz_78.trans rfl)
theorem w_78_1 {w : Nat} : dx_W (tb_Z L xs) d 78 1 lv (.ref w :: st) σ Q ↔ dx_ct st ≤ 8 ∧ dx_W (tb_Z L xs) d 78 4 lv st σ Q := c_objinit (hz_78.trans rfl)
theorem w_78_4 : dx_W (tb_Z L xs) d 78 4 lv st σ Q ↔ wR (dx_lk lv 0) (fun y => dx_W (tb_Z L xs) d 78 5 lv (y :: st) σ Q) := r_aload_n (k := 0) (hz_78.trans rfl)
theorem w_78_5 : dx_W (tb_Z L xs) d 78 5 lv st σ Q ↔ wR (dx_lk lv 1) (fun y => dx_W (tb_Z L xs) d 78 6 lv (y :: st) σ Q) := r_aload_n (k := 1) (hz_78.trans rfl)
theorem w_78_6 {u w : Value} : dx_W (tb_Z L xs) d 78 6 lv (u :: w :: st) σ Q ↔ wO (dx_pf σ w 8 0 3 u) (fun σ1 => dx_W (tb_Z L xs) d 78 9 lv st σ1 Q) := r_putfield (f := 3) (hz_78.trans rfl)
theorem w_78_9 : dx_W (tb_Z L xs) d 78 9 lv st σ Q ↔ wR (dx_lk lv 0) (fun y => dx_W (tb_Z L xs) d 78 10 lv (y :: st) σ Q) := r_aload_n (k := 0) (hz_78.trans rfl)
theorem w_78_10 : dx_W (tb_Z L xs) d 78 10 lv st σ Q ↔ wR (dx_lk lv 2) (fun y => dx_W (tb_Z L xs) d 78 11 lv (y :: st) σ Q) := r_aload_n (k := 2) (hz_78.trans rfl)
theorem w_78_11 {u w : Value} : dx_W (tb_Z L xs) d 78 11 lv (u :: w :: st) σ Q ↔ wO (dx_pf σ w 8 1 3 u) (fun σ1 => dx_W (tb_Z L xs) d 78 14 lv st σ1 Q) := r_putfield (f := 3) (hz_78.trans rfl)
theorem w_78_14 : dx_W (tb_Z L xs) d 78 14 lv [] σ Q ↔ Q (.inl none) σ := r_return (hz_78.trans rfl) rfl
theorem hz_79 {pc : Nat} : (tb_Z L xs).1 79 pc = dx_at tb_m79 pc := rfl
theorem w_79_0 : dx_W (tb_Z L xs) d 79 0 lv st σ Q ↔ wJ (dx_lk lv 0) (fun y => dx_W (tb_Z L xs) d 79 1 lv (.long y :: st) σ Q) := r_lload_n (k := 0) (hz_79.trans rfl)
theorem w_79_1 : dx_W (tb_Z L xs) d 79 1 lv st σ Q ↔ dx_W (tb_Z L xs) d 79 2 lv (.int 3 :: st) σ Q := r_iconst (n := 3) (hz_79.trans rfl)
theorem w_79_2 {x : Int64} {y : Int32} : dx_W (tb_Z L xs) d 79 2 lv (.int y :: .long x :: st) σ Q ↔ dx_W (tb_Z L xs) d 79 3 lv (.long (x >>> (y.toInt64 &&& 63)) :: st) σ Q := r_lshr (hz_79.trans rfl)
theorem w_79_3 {x : Int64} : dx_W (tb_Z L xs) d 79 3 lv [.long x] σ Q ↔ Q (.inl (some (.long x))) σ := r_lreturn (hz_79.trans rfl) rfl
theorem hz_80 {pc : Nat} : (tb_Z L xs).1 80 pc = dx_at tb_m80 pc := rfl
theorem w_80_0 : dx_W (tb_Z L xs) d 80 0 lv st σ Q ↔ wJ (dx_lk lv 0) (fun y => dx_W (tb_Z L xs) d 80 1 lv (.long y :: st) σ Q) := r_lload_n (k := 0) (hz_80.trans rfl)
theorem w_80_1 : dx_W (tb_Z L xs) d 80 1 lv st σ Q ↔ dx_W (tb_Z L xs) d 80 4 lv (.long 7 :: st) σ Q := r_ldc2_w (hz_80.trans rfl)
theorem w_80_4 {x y : Int64} : dx_W (tb_Z L xs) d 80 4 lv (.long y :: .long x :: st) σ Q ↔ dx_W (tb_Z L xs) d 80 5 lv (.long (x &&& y) :: st) σ Q := r_land (hz_80.trans rfl)
theorem w_80_5 {x : Int64} : dx_W (tb_Z L xs) d 80 5 lv (.long x :: st) σ Q ↔ dx_W (tb_Z L xs) d 80 6 lv (.int x.toInt32 :: st) σ Q := r_l2i (hz_80.trans rfl)
theorem w_80_6 {x : Int32} : dx_W (tb_Z L xs) d 80 6 lv [.int x] σ Q ↔ Q (.inl (some (.int x))) σ := r_ireturn (hz_80.trans rfl) rfl rfl
theorem hz_81 {pc : Nat} : (tb_Z L xs).1 81 pc = dx_at tb_m81 pc := rfl
theorem w_81_0 : dx_W (tb_Z L xs) d 81 0 lv st σ Q ↔ wJ (dx_lk lv 0) (fun y => dx_W (tb_Z L xs) d 81 1 lv (.long y :: st) σ Q) := r_lload_n (k := 0) (hz_81.trans rfl)
theorem w_81_1 : dx_W (tb_Z L xs) d 81 1 lv st σ Q ↔ dx_W (tb_Z L xs) d 81 2 lv (.int 3 :: st) σ Q := r_iconst (n := 3) (hz_81.trans rfl)
theorem w_81_2 {x : Int64} {y : Int32} : dx_W (tb_Z L xs) d 81 2 lv (.int y :: .long x :: st) σ Q ↔ dx_W (tb_Z L xs) d 81 3 lv (.long (x <<< (y.toInt64 &&& 63)) :: st) σ Q := r_lshl (hz_81.trans rfl)
theorem w_81_3 : dx_W (tb_Z L xs) d 81 3 lv st σ Q ↔ wI (dx_lk lv 2) (fun y => dx_W (tb_Z L xs) d 81 4 lv (.int y :: st) σ Q) := r_iload_n (k := 2) (hz_81.trans rfl)
theorem w_81_4 {x : Int32} : dx_W (tb_Z L xs) d 81 4 lv (.int x :: st) σ Q ↔ dx_W (tb_Z L xs) d 81 5 lv (.long x.toInt64 :: st) σ Q := r_i2l (hz_81.trans rfl)
theorem w_81_5 {x y : Int64} : dx_W (tb_Z L xs) d 81 5 lv (.long y :: .long x :: st) σ Q ↔ dx_W (tb_Z L xs) d 81 6 lv (.long (x ||| y) :: st) σ Q := r_lor (hz_81.trans rfl)
theorem w_81_6 {x : Int64} : dx_W (tb_Z L xs) d 81 6 lv [.long x] σ Q ↔ Q (.inl (some (.long x))) σ := r_lreturn (hz_81.trans rfl) rfl
theorem hz_82 {pc : Nat} : (tb_Z L xs).1 82 pc = dx_at tb_m82 pc := rfl
theorem w_82_0 : dx_W (tb_Z L xs) d 82 0 lv st σ Q ↔ dx_W (tb_Z L xs) d 82 3 lv (.retAddr 0 :: st) σ Q := r_getstatic (hz_82.trans rfl)
theorem w_82_3 : dx_W (tb_Z L xs) d 82 3 lv st σ Q ↔ wJ (dx_lk lv 1) (fun y => dx_W (tb_Z L xs) d 82 4 lv (.long y :: st) σ Q) := r_lload_n (k := 1) (hz_82.trans rfl)
theorem w_82_4 {v0 : Value}  : dx_W (tb_Z L xs) d 82 4 lv (v0 :: st) σ Q ↔ dx_ct st ≤ 8 ∧ dx_M (tb_Z L xs) d 80 [v0] σ (wK (tb_Z L xs) d 82 7 lv st Q) := c_calls (av := [v0]) (hz_82.trans rfl)
theorem w_82_7 {w : Value} {y : Int32} : dx_W (tb_Z L xs) d 82 7 lv (.int y :: w :: st) σ Q ↔ wO (dx_el (tb_K L xs) σ w y) (fun u => dx_W (tb_Z L xs) d 82 8 lv (.long u :: st) σ Q) := r_laload (hz_82.trans rfl)
theorem w_82_8 {x : Int64} : dx_W (tb_Z L xs) d 82 8 lv (.long x :: st) σ Q ↔ dx_W (tb_Z L xs) d 82 10 (dx_s2 lv 5 (.long x)) st σ Q := r_lstore (k := 5) (hz_82.trans rfl) (show 5 + 1 < tb_l 82 by decide)
theorem w_82_10 : dx_W (tb_Z L xs) d 82 10 lv st σ Q ↔ wJ (dx_lk lv 1) (fun y => dx_W (tb_Z L xs) d 82 11 lv (.long y :: st) σ Q) := r_lload_n (k := 1) (hz_82.trans rfl)
theorem w_82_11 {v0 : Value}  : dx_W (tb_Z L xs) d 82 11 lv (v0 :: st) σ Q ↔ dx_ct st ≤ 8 ∧ dx_M (tb_Z L xs) d 79 [v0] σ (wK (tb_Z L xs) d 82 14 lv st Q) := c_calls (av := [v0]) (hz_82.trans rfl)
theorem w_82_14 : dx_W (tb_Z L xs) d 82 14 lv st σ Q ↔ wJ (dx_lk lv 5) (fun y => dx_W (tb_Z L xs) d 82 16 lv (.long y :: st) σ Q) := r_lload (k := 5) (hz_82.trans rfl)
theorem w_82_16 {x y : Int64} : dx_W (tb_Z L xs) d 82 16 lv (.long y :: .long x :: st) σ Q ↔ ¬ y = 0 ∧ dx_W (tb_Z L xs) d 82 17 lv (.long (x / y) :: st) σ Q := c_ldiv (hz_82.trans rfl)
theorem w_82_17 {x : Int64} : dx_W (tb_Z L xs) d 82 17 lv (.long x :: st) σ Q ↔ dx_W (tb_Z L xs) d 82 19 (dx_s2 lv 7 (.long x)) st σ Q := r_lstore (k := 7) (hz_82.trans rfl) (show 7 + 1 < tb_l 82 by decide)
theorem w_82_19 : dx_W (tb_Z L xs) d 82 19 lv st σ Q ↔ wJ (dx_lk lv 1) (fun y => dx_W (tb_Z L xs) d 82 20 lv (.long y :: st) σ Q) := r_lload_n (k := 1) (hz_82.trans rfl)
theorem w_82_20 {v0 : Value}  : dx_W (tb_Z L xs) d 82 20 lv (v0 :: st) σ Q ↔ dx_ct st ≤ 8 ∧ dx_M (tb_Z L xs) d 79 [v0] σ (wK (tb_Z L xs) d 82 23 lv st Q) := c_calls (av := [v0]) (hz_82.trans rfl)
theorem w_82_23 : dx_W (tb_Z L xs) d 82 23 lv st σ Q ↔ wJ (dx_lk lv 5) (fun y => dx_W (tb_Z L xs) d 82 25 lv (.long y :: st) σ Q) := r_lload (k := 5) (hz_82.trans rfl)
theorem w_82_25 {x y : Int64} : dx_W (tb_Z L xs) d 82 25 lv (.long y :: .long x :: st) σ Q ↔ ¬ y = 0 ∧ dx_W (tb_Z L xs) d 82 26 lv (.long (x - x / y * y) :: st) σ Q := c_lrem (hz_82.trans rfl)
theorem w_82_26 : dx_W (tb_Z L xs) d 82 26 lv st σ Q ↔ dx_W (tb_Z L xs) d 82 27 lv (.long 0 :: st) σ Q := r_lconst (n := 0) (hz_82.trans rfl)
theorem w_82_27 {x y : Int64} : dx_W (tb_Z L xs) d 82 27 lv (.long y :: .long x :: st) σ Q ↔ dx_W (tb_Z L xs) d 82 28 lv (.int (lg_cmp x y) :: st) σ Q := r_lcmp (hz_82.trans rfl)
theorem w_82_28 {x : Int32} : dx_W (tb_Z L xs) d 82 28 lv (.int x :: st) σ Q ↔ (if ¬ x = 0 then dx_W (tb_Z L xs) d 82 48 lv st σ Q else dx_W (tb_Z L xs) d 82 31 lv st σ Q) := r_if_ne (off := 20) (t := 48) (hz_82.trans rfl) (by decide)
theorem w_82_31 : dx_W (tb_Z L xs) d 82 31 lv st σ Q ↔ wJ (dx_lk lv 7) (fun y => dx_W (tb_Z L xs) d 82 33 lv (.long y :: st) σ Q) := r_lload (k := 7) (hz_82.trans rfl)
theorem w_82_33 : dx_W (tb_Z L xs) d 82 33 lv st σ Q ↔ wI (dx_lk lv 3) (fun y => dx_W (tb_Z L xs) d 82 34 lv (.int y :: st) σ Q) := r_iload_n (k := 3) (hz_82.trans rfl)
theorem w_82_34 {x : Int32} : dx_W (tb_Z L xs) d 82 34 lv (.int x :: st) σ Q ↔ dx_W (tb_Z L xs) d 82 35 lv (.long x.toInt64 :: st) σ Q := r_i2l (hz_82.trans rfl)
theorem w_82_35 {x y : Int64} : dx_W (tb_Z L xs) d 82 35 lv (.long y :: .long x :: st) σ Q ↔ dx_W (tb_Z L xs) d 82 36 lv (.int (lg_cmp x y) :: st) σ Q := r_lcmp (hz_82.trans rfl)
theorem w_82_36 {x : Int32} : dx_W (tb_Z L xs) d 82 36 lv (.int x :: st) σ Q ↔ (if x < 0 then dx_W (tb_Z L xs) d 82 48 lv st σ Q else dx_W (tb_Z L xs) d 82 39 lv st σ Q) := r_if_lt (off := 12) (t := 48) (hz_82.trans rfl) (by decide)
theorem w_82_39 : dx_W (tb_Z L xs) d 82 39 lv st σ Q ↔ wJ (dx_lk lv 7) (fun y => dx_W (tb_Z L xs) d 82 41 lv (.long y :: st) σ Q) := r_lload (k := 7) (hz_82.trans rfl)
theorem w_82_41 : dx_W (tb_Z L xs) d 82 41 lv st σ Q ↔ wI (dx_lk lv 4) (fun y => dx_W (tb_Z L xs) d 82 43 lv (.int y :: st) σ Q) := r_iload (k := 4) (hz_82.trans rfl)
theorem w_82_43 {x : Int32} : dx_W (tb_Z L xs) d 82 43 lv (.int x :: st) σ Q ↔ dx_W (tb_Z L xs) d 82 44 lv (.long x.toInt64 :: st) σ Q := r_i2l (hz_82.trans rfl)
theorem w_82_44 {x y : Int64} : dx_W (tb_Z L xs) d 82 44 lv (.long y :: .long x :: st) σ Q ↔ dx_W (tb_Z L xs) d 82 45 lv (.int (lg_cmp x y) :: st) σ Q := r_lcmp (hz_82.trans rfl)
theorem w_82_45 {x : Int32} : dx_W (tb_Z L xs) d 82 45 lv (.int x :: st) σ Q ↔ (if x ≤ 0 then dx_W (tb_Z L xs) d 82 56 lv st σ Q else dx_W (tb_Z L xs) d 82 48 lv st σ Q) := r_if_le (off := 11) (t := 56) (hz_82.trans rfl) (by decide)
theorem w_82_48 : dx_W (tb_Z L xs) d 82 48 lv st σ Q ↔ wR (dx_lk lv 0) (fun y => dx_W (tb_Z L xs) d 82 49 lv (y :: st) σ Q) := r_aload_n (k := 0) (hz_82.trans rfl)
theorem w_82_49 {w : Value} : dx_W (tb_Z L xs) d 82 49 lv (w :: st) σ Q ↔ wO (dx_gf (tb_K L xs) σ w 8 1) (fun y => dx_W (tb_Z L xs) d 82 52 lv (y :: st) σ Q) := r_getfield (hz_82.trans rfl)
theorem w_82_52 : dx_W (tb_Z L xs) d 82 52 lv st σ Q ↔ dx_W (tb_Z L xs) d 82 53 lv (.int 5 :: st) σ Q := r_iconst (n := 5) (hz_82.trans rfl)
theorem w_82_53 {v0 v1 : Value}  : dx_W (tb_Z L xs) d 82 53 lv (v1 :: v0 :: st) σ Q ↔ (dx_ct st ≤ 8 ∧ dx_ci (tb_K L xs) σ v0 = some 3) ∧ dx_M (tb_Z L xs) d 22 [v0, v1] σ (wK (tb_Z L xs) d 82 56 lv st Q) := c_callv (av := [v1]) (hz_82.trans rfl)
theorem w_82_56 : dx_W (tb_Z L xs) d 82 56 lv st σ Q ↔ wJ (dx_lk lv 7) (fun y => dx_W (tb_Z L xs) d 82 58 lv (.long y :: st) σ Q) := r_lload (k := 7) (hz_82.trans rfl)
theorem w_82_58 {x : Int64} : dx_W (tb_Z L xs) d 82 58 lv (.long x :: st) σ Q ↔ dx_W (tb_Z L xs) d 82 59 lv (.int x.toInt32 :: st) σ Q := r_l2i (hz_82.trans rfl)
theorem w_82_59 {x : Int32} : dx_W (tb_Z L xs) d 82 59 lv [.int x] σ Q ↔ Q (.inl (some (.int x))) σ := r_ireturn (hz_82.trans rfl) rfl rfl
theorem hz_83 {pc : Nat} : (tb_Z L xs).1 83 pc = dx_at tb_m83 pc := rfl
theorem w_83_0 : dx_W (tb_Z L xs) d 83 0 lv st σ Q ↔ wJ (dx_lk lv 0) (fun y => dx_W (tb_Z L xs) d 83 1 lv (.long y :: st) σ Q) := r_lload_n (k := 0) (hz_83.trans rfl)
theorem w_83_1 {v0 : Value}  : dx_W (tb_Z L xs) d 83 1 lv (v0 :: st) σ Q ↔ dx_ct st ≤ 8 ∧ dx_M (tb_Z L xs) d 79 [v0] σ (wK (tb_Z L xs) d 83 4 lv st Q) := c_calls (av := [v0]) (hz_83.trans rfl)
theorem w_83_4 {x : Int64} : dx_W (tb_Z L xs) d 83 4 lv (.long x :: st) σ Q ↔ dx_W (tb_Z L xs) d 83 5 lv (.long (-x) :: st) σ Q := r_lneg (hz_83.trans rfl)
theorem w_83_5 : dx_W (tb_Z L xs) d 83 5 lv st σ Q ↔ wJ (dx_lk lv 0) (fun y => dx_W (tb_Z L xs) d 83 6 lv (.long y :: st) σ Q) := r_lload_n (k := 0) (hz_83.trans rfl)
theorem w_83_6 {v0 : Value}  : dx_W (tb_Z L xs) d 83 6 lv (v0 :: st) σ Q ↔ dx_ct st ≤ 8 ∧ dx_M (tb_Z L xs) d 80 [v0] σ (wK (tb_Z L xs) d 83 9 lv st Q) := c_calls (av := [v0]) (hz_83.trans rfl)
theorem w_83_9 {v0 v1 : Value}  : dx_W (tb_Z L xs) d 83 9 lv (v1 :: v0 :: st) σ Q ↔ dx_ct st ≤ 8 ∧ dx_M (tb_Z L xs) d 81 [v0, v1] σ (wK (tb_Z L xs) d 83 12 lv st Q) := c_calls (av := [v0, v1]) (hz_83.trans rfl)
theorem w_83_12 {x : Int64} : dx_W (tb_Z L xs) d 83 12 lv [.long x] σ Q ↔ Q (.inl (some (.long x))) σ := r_lreturn (hz_83.trans rfl) rfl
theorem hz_84 {pc : Nat} : (tb_Z L xs).1 84 pc = dx_at tb_m84 pc := rfl
theorem w_84_0 : dx_W (tb_Z L xs) d 84 0 lv st σ Q ↔ wI (dx_lk lv 1) (fun y => dx_W (tb_Z L xs) d 84 1 lv (.int y :: st) σ Q) := r_iload_n (k := 1) (hz_84.trans rfl)
theorem w_84_1 {x : Int32} : dx_W (tb_Z L xs) d 84 1 lv (.int x :: st) σ Q ↔ (if x = 37 then dx_W (tb_Z L xs) d 84 103 lv st σ Q else if x = 42 then dx_W (tb_Z L xs) d 84 83 lv st σ Q else if x = 43 then dx_W (tb_Z L xs) d 84 60 lv st σ Q else if x = 45 then dx_W (tb_Z L xs) d 84 70 lv st σ Q else if x = 47 then dx_W (tb_Z L xs) d 84 93 lv st σ Q else if x = 94 then dx_W (tb_Z L xs) d 84 113 lv st σ Q else dx_W (tb_Z L xs) d 84 123 lv st σ Q) := by
  by_cases h0 : x = 37
  · subst h0
    rw [if_pos rfl]
    exact r_sw (t := 103) (hz_84.trans rfl) rfl rfl
  rw [if_neg h0]
  by_cases h1 : x = 42
  · subst h1
    rw [if_pos rfl]
    exact r_sw (t := 83) (hz_84.trans rfl) rfl rfl
  rw [if_neg h1]
  by_cases h2 : x = 43
  · subst h2
    rw [if_pos rfl]
    exact r_sw (t := 60) (hz_84.trans rfl) rfl rfl
  rw [if_neg h2]
  by_cases h3 : x = 45
  · subst h3
    rw [if_pos rfl]
    exact r_sw (t := 70) (hz_84.trans rfl) rfl rfl
  rw [if_neg h3]
  by_cases h4 : x = 47
  · subst h4
    rw [if_pos rfl]
    exact r_sw (t := 93) (hz_84.trans rfl) rfl rfl
  rw [if_neg h4]
  by_cases h5 : x = 94
  · subst h5
    rw [if_pos rfl]
    exact r_sw (t := 113) (hz_84.trans rfl) rfl rfl
  rw [if_neg h5]
  refine r_look (t := 123) (hz_84.trans rfl) (by decide) ?_
  simp only [lv_osw h0 (show (37 : Int32).toInt = 37 from rfl), lv_osw h1 (show (42 : Int32).toInt = 42 from rfl), lv_osw h2 (show (43 : Int32).toInt = 43 from rfl), lv_osw h3 (show (45 : Int32).toInt = 45 from rfl), lv_osw h4 (show (47 : Int32).toInt = 47 from rfl), lv_osw h5 (show (94 : Int32).toInt = 94 from rfl)]
  rfl
theorem w_84_60 : dx_W (tb_Z L xs) d 84 60 lv st σ Q ↔ wR (dx_lk lv 0) (fun y => dx_W (tb_Z L xs) d 84 61 lv (y :: st) σ Q) := r_aload_n (k := 0) (hz_84.trans rfl)
theorem w_84_61 : dx_W (tb_Z L xs) d 84 61 lv st σ Q ↔ wJ (dx_lk lv 2) (fun y => dx_W (tb_Z L xs) d 84 62 lv (.long y :: st) σ Q) := r_lload_n (k := 2) (hz_84.trans rfl)
theorem w_84_62 : dx_W (tb_Z L xs) d 84 62 lv st σ Q ↔ wJ (dx_lk lv 4) (fun y => dx_W (tb_Z L xs) d 84 64 lv (.long y :: st) σ Q) := r_lload (k := 4) (hz_84.trans rfl)
theorem w_84_64 {v0 v1 v2 : Value}  : dx_W (tb_Z L xs) d 84 64 lv (v2 :: v1 :: v0 :: st) σ Q ↔ (dx_ct st ≤ 8 ∧ dx_ci (tb_K L xs) σ v0 = some 8) ∧ dx_M (tb_Z L xs) d 85 [v0, v1, v2] σ (wK (tb_Z L xs) d 84 67 lv st Q) := c_callv (av := [v1, v2]) (hz_84.trans rfl)
theorem w_84_67 : dx_W (tb_Z L xs) d 84 67 lv st σ Q ↔ dx_W (tb_Z L xs) d 84 142 lv st σ Q := r_goto (off := 75) (t := 142) (hz_84.trans rfl) (by decide)
theorem w_84_70 : dx_W (tb_Z L xs) d 84 70 lv st σ Q ↔ wR (dx_lk lv 0) (fun y => dx_W (tb_Z L xs) d 84 71 lv (y :: st) σ Q) := r_aload_n (k := 0) (hz_84.trans rfl)
theorem w_84_71 : dx_W (tb_Z L xs) d 84 71 lv st σ Q ↔ wJ (dx_lk lv 2) (fun y => dx_W (tb_Z L xs) d 84 72 lv (.long y :: st) σ Q) := r_lload_n (k := 2) (hz_84.trans rfl)
theorem w_84_72 : dx_W (tb_Z L xs) d 84 72 lv st σ Q ↔ wJ (dx_lk lv 4) (fun y => dx_W (tb_Z L xs) d 84 74 lv (.long y :: st) σ Q) := r_lload (k := 4) (hz_84.trans rfl)
theorem w_84_74 {v0 : Value}  : dx_W (tb_Z L xs) d 84 74 lv (v0 :: st) σ Q ↔ dx_ct st ≤ 8 ∧ dx_M (tb_Z L xs) d 83 [v0] σ (wK (tb_Z L xs) d 84 77 lv st Q) := c_calls (av := [v0]) (hz_84.trans rfl)
theorem w_84_77 {v0 v1 v2 : Value}  : dx_W (tb_Z L xs) d 84 77 lv (v2 :: v1 :: v0 :: st) σ Q ↔ (dx_ct st ≤ 8 ∧ dx_ci (tb_K L xs) σ v0 = some 8) ∧ dx_M (tb_Z L xs) d 85 [v0, v1, v2] σ (wK (tb_Z L xs) d 84 80 lv st Q) := c_callv (av := [v1, v2]) (hz_84.trans rfl)
theorem w_84_80 : dx_W (tb_Z L xs) d 84 80 lv st σ Q ↔ dx_W (tb_Z L xs) d 84 142 lv st σ Q := r_goto (off := 62) (t := 142) (hz_84.trans rfl) (by decide)
theorem w_84_83 : dx_W (tb_Z L xs) d 84 83 lv st σ Q ↔ wR (dx_lk lv 0) (fun y => dx_W (tb_Z L xs) d 84 84 lv (y :: st) σ Q) := r_aload_n (k := 0) (hz_84.trans rfl)
theorem w_84_84 : dx_W (tb_Z L xs) d 84 84 lv st σ Q ↔ wJ (dx_lk lv 2) (fun y => dx_W (tb_Z L xs) d 84 85 lv (.long y :: st) σ Q) := r_lload_n (k := 2) (hz_84.trans rfl)
theorem w_84_85 : dx_W (tb_Z L xs) d 84 85 lv st σ Q ↔ wJ (dx_lk lv 4) (fun y => dx_W (tb_Z L xs) d 84 87 lv (.long y :: st) σ Q) := r_lload (k := 4) (hz_84.trans rfl)
theorem w_84_87 {v0 v1 v2 : Value}  : dx_W (tb_Z L xs) d 84 87 lv (v2 :: v1 :: v0 :: st) σ Q ↔ (dx_ct st ≤ 8 ∧ dx_ci (tb_K L xs) σ v0 = some 8) ∧ dx_M (tb_Z L xs) d 88 [v0, v1, v2] σ (wK (tb_Z L xs) d 84 90 lv st Q) := c_callv (av := [v1, v2]) (hz_84.trans rfl)
theorem w_84_90 : dx_W (tb_Z L xs) d 84 90 lv st σ Q ↔ dx_W (tb_Z L xs) d 84 142 lv st σ Q := r_goto (off := 52) (t := 142) (hz_84.trans rfl) (by decide)
theorem w_84_93 : dx_W (tb_Z L xs) d 84 93 lv st σ Q ↔ wR (dx_lk lv 0) (fun y => dx_W (tb_Z L xs) d 84 94 lv (y :: st) σ Q) := r_aload_n (k := 0) (hz_84.trans rfl)
theorem w_84_94 : dx_W (tb_Z L xs) d 84 94 lv st σ Q ↔ wJ (dx_lk lv 2) (fun y => dx_W (tb_Z L xs) d 84 95 lv (.long y :: st) σ Q) := r_lload_n (k := 2) (hz_84.trans rfl)
theorem w_84_95 : dx_W (tb_Z L xs) d 84 95 lv st σ Q ↔ wJ (dx_lk lv 4) (fun y => dx_W (tb_Z L xs) d 84 97 lv (.long y :: st) σ Q) := r_lload (k := 4) (hz_84.trans rfl)
theorem w_84_97 {v0 v1 v2 : Value}  : dx_W (tb_Z L xs) d 84 97 lv (v2 :: v1 :: v0 :: st) σ Q ↔ (dx_ct st ≤ 8 ∧ dx_ci (tb_K L xs) σ v0 = some 8) ∧ dx_M (tb_Z L xs) d 89 [v0, v1, v2] σ (wK (tb_Z L xs) d 84 100 lv st Q) := c_callv (av := [v1, v2]) (hz_84.trans rfl)
theorem w_84_100 : dx_W (tb_Z L xs) d 84 100 lv st σ Q ↔ dx_W (tb_Z L xs) d 84 142 lv st σ Q := r_goto (off := 42) (t := 142) (hz_84.trans rfl) (by decide)
theorem w_84_103 : dx_W (tb_Z L xs) d 84 103 lv st σ Q ↔ wR (dx_lk lv 0) (fun y => dx_W (tb_Z L xs) d 84 104 lv (y :: st) σ Q) := r_aload_n (k := 0) (hz_84.trans rfl)
theorem w_84_104 : dx_W (tb_Z L xs) d 84 104 lv st σ Q ↔ wJ (dx_lk lv 2) (fun y => dx_W (tb_Z L xs) d 84 105 lv (.long y :: st) σ Q) := r_lload_n (k := 2) (hz_84.trans rfl)
theorem w_84_105 : dx_W (tb_Z L xs) d 84 105 lv st σ Q ↔ wJ (dx_lk lv 4) (fun y => dx_W (tb_Z L xs) d 84 107 lv (.long y :: st) σ Q) := r_lload (k := 4) (hz_84.trans rfl)
theorem w_84_107 {v0 v1 v2 : Value}  : dx_W (tb_Z L xs) d 84 107 lv (v2 :: v1 :: v0 :: st) σ Q ↔ (dx_ct st ≤ 8 ∧ dx_ci (tb_K L xs) σ v0 = some 8) ∧ dx_M (tb_Z L xs) d 91 [v0, v1, v2] σ (wK (tb_Z L xs) d 84 110 lv st Q) := c_callv (av := [v1, v2]) (hz_84.trans rfl)
theorem w_84_110 : dx_W (tb_Z L xs) d 84 110 lv st σ Q ↔ dx_W (tb_Z L xs) d 84 142 lv st σ Q := r_goto (off := 32) (t := 142) (hz_84.trans rfl) (by decide)
theorem w_84_113 : dx_W (tb_Z L xs) d 84 113 lv st σ Q ↔ wR (dx_lk lv 0) (fun y => dx_W (tb_Z L xs) d 84 114 lv (y :: st) σ Q) := r_aload_n (k := 0) (hz_84.trans rfl)
theorem w_84_114 : dx_W (tb_Z L xs) d 84 114 lv st σ Q ↔ wJ (dx_lk lv 2) (fun y => dx_W (tb_Z L xs) d 84 115 lv (.long y :: st) σ Q) := r_lload_n (k := 2) (hz_84.trans rfl)
theorem w_84_115 : dx_W (tb_Z L xs) d 84 115 lv st σ Q ↔ wJ (dx_lk lv 4) (fun y => dx_W (tb_Z L xs) d 84 117 lv (.long y :: st) σ Q) := r_lload (k := 4) (hz_84.trans rfl)
theorem w_84_117 {v0 v1 v2 : Value}  : dx_W (tb_Z L xs) d 84 117 lv (v2 :: v1 :: v0 :: st) σ Q ↔ (dx_ct st ≤ 8 ∧ dx_ci (tb_K L xs) σ v0 = some 8) ∧ dx_M (tb_Z L xs) d 92 [v0, v1, v2] σ (wK (tb_Z L xs) d 84 120 lv st Q) := c_callv (av := [v1, v2]) (hz_84.trans rfl)
theorem w_84_120 : dx_W (tb_Z L xs) d 84 120 lv st σ Q ↔ dx_W (tb_Z L xs) d 84 142 lv st σ Q := r_goto (off := 22) (t := 142) (hz_84.trans rfl) (by decide)
theorem w_84_123 : dx_W (tb_Z L xs) d 84 123 lv st σ Q ↔ wI (dx_lk lv 1) (fun y => dx_W (tb_Z L xs) d 84 124 lv (.int y :: st) σ Q) := r_iload_n (k := 1) (hz_84.trans rfl)
theorem w_84_124 : dx_W (tb_Z L xs) d 84 124 lv st σ Q ↔ wJ (dx_lk lv 2) (fun y => dx_W (tb_Z L xs) d 84 125 lv (.long y :: st) σ Q) := r_lload_n (k := 2) (hz_84.trans rfl)
theorem w_84_125 : dx_W (tb_Z L xs) d 84 125 lv st σ Q ↔ wJ (dx_lk lv 4) (fun y => dx_W (tb_Z L xs) d 84 127 lv (.long y :: st) σ Q) := r_lload (k := 4) (hz_84.trans rfl)
theorem w_84_127 {v0 v1 v2 : Value}  : dx_W (tb_Z L xs) d 84 127 lv (v2 :: v1 :: v0 :: st) σ Q ↔ dx_ct st ≤ 8 ∧ dx_M (tb_Z L xs) d 93 [v0, v1, v2] σ (wK (tb_Z L xs) d 84 130 lv st Q) := c_calls (av := [v0, v1, v2]) (hz_84.trans rfl)
theorem w_84_130 {x : Int32} : dx_W (tb_Z L xs) d 84 130 lv (.int x :: st) σ Q ↔ (if x = 0 then dx_W (tb_Z L xs) d 84 141 lv st σ Q else dx_W (tb_Z L xs) d 84 133 lv st σ Q) := r_if_eq (off := 11) (t := 141) (hz_84.trans rfl) (by decide)
theorem w_84_133 : dx_W (tb_Z L xs) d 84 133 lv st σ Q ↔ dx_W (tb_Z L xs) d 84 134 lv (.long 1 :: st) σ Q := r_lconst (n := 1) (hz_84.trans rfl)
theorem w_84_134 : dx_W (tb_Z L xs) d 84 134 lv st σ Q ↔ dx_W (tb_Z L xs) d 84 135 lv (.int 0 :: st) σ Q := r_iconst (n := 0) (hz_84.trans rfl)
theorem w_84_135 {v0 v1 : Value}  : dx_W (tb_Z L xs) d 84 135 lv (v1 :: v0 :: st) σ Q ↔ dx_ct st ≤ 8 ∧ dx_M (tb_Z L xs) d 81 [v0, v1] σ (wK (tb_Z L xs) d 84 138 lv st Q) := c_calls (av := [v0, v1]) (hz_84.trans rfl)
theorem w_84_138 : dx_W (tb_Z L xs) d 84 138 lv st σ Q ↔ dx_W (tb_Z L xs) d 84 142 lv st σ Q := r_goto (off := 4) (t := 142) (hz_84.trans rfl) (by decide)
theorem w_84_141 : dx_W (tb_Z L xs) d 84 141 lv st σ Q ↔ dx_W (tb_Z L xs) d 84 142 lv (.long 0 :: st) σ Q := r_lconst (n := 0) (hz_84.trans rfl)
theorem w_84_142 {x : Int64} : dx_W (tb_Z L xs) d 84 142 lv [.long x] σ Q ↔ Q (.inl (some (.long x))) σ := r_lreturn (hz_84.trans rfl) rfl
theorem hz_85 {pc : Nat} : (tb_Z L xs).1 85 pc = dx_at tb_m85 pc := rfl
theorem w_85_0 : dx_W (tb_Z L xs) d 85 0 lv st σ Q ↔ wJ (dx_lk lv 1) (fun y => dx_W (tb_Z L xs) d 85 1 lv (.long y :: st) σ Q) := r_lload_n (k := 1) (hz_85.trans rfl)
theorem w_85_1 {v0 : Value}  : dx_W (tb_Z L xs) d 85 1 lv (v0 :: st) σ Q ↔ dx_ct st ≤ 8 ∧ dx_M (tb_Z L xs) d 80 [v0] σ (wK (tb_Z L xs) d 85 4 lv st Q) := c_calls (av := [v0]) (hz_85.trans rfl)
theorem w_85_4 : dx_W (tb_Z L xs) d 85 4 lv st σ Q ↔ wJ (dx_lk lv 3) (fun y => dx_W (tb_Z L xs) d 85 5 lv (.long y :: st) σ Q) := r_lload_n (k := 3) (hz_85.trans rfl)
theorem w_85_5 {v0 : Value}  : dx_W (tb_Z L xs) d 85 5 lv (v0 :: st) σ Q ↔ dx_ct st ≤ 8 ∧ dx_M (tb_Z L xs) d 80 [v0] σ (wK (tb_Z L xs) d 85 8 lv st Q) := c_calls (av := [v0]) (hz_85.trans rfl)
theorem w_85_8 {v0 v1 : Value}  : dx_W (tb_Z L xs) d 85 8 lv (v1 :: v0 :: st) σ Q ↔ dx_ct st ≤ 8 ∧ dx_M (tb_Z L xs) d 145 [v0, v1] σ (wK (tb_Z L xs) d 85 11 lv st Q) := c_calls (av := [v0, v1]) (hz_85.trans rfl)
theorem w_85_11 {x : Int32} : dx_W (tb_Z L xs) d 85 11 lv (.int x :: st) σ Q ↔ dx_W (tb_Z L xs) d 85 13 (dx_s1 lv 5 (.int x)) st σ Q := r_istore (k := 5) (hz_85.trans rfl) (show 5 < tb_l 85 by decide)
theorem w_85_13 : dx_W (tb_Z L xs) d 85 13 lv st σ Q ↔ wR (dx_lk lv 0) (fun y => dx_W (tb_Z L xs) d 85 14 lv (y :: st) σ Q) := r_aload_n (k := 0) (hz_85.trans rfl)
theorem w_85_14 : dx_W (tb_Z L xs) d 85 14 lv st σ Q ↔ wJ (dx_lk lv 1) (fun y => dx_W (tb_Z L xs) d 85 15 lv (.long y :: st) σ Q) := r_lload_n (k := 1) (hz_85.trans rfl)
theorem w_85_15 : dx_W (tb_Z L xs) d 85 15 lv st σ Q ↔ wI (dx_lk lv 5) (fun y => dx_W (tb_Z L xs) d 85 17 lv (.int y :: st) σ Q) := r_iload (k := 5) (hz_85.trans rfl)
theorem w_85_17 {v0 v1 : Value}  : dx_W (tb_Z L xs) d 85 17 lv (v1 :: v0 :: st) σ Q ↔ dx_ct st ≤ 8 ∧ dx_M (tb_Z L xs) d 86 [v0, v1] σ (wK (tb_Z L xs) d 85 20 lv st Q) := c_calls (av := [v0, v1]) (hz_85.trans rfl)
theorem w_85_20 : dx_W (tb_Z L xs) d 85 20 lv st σ Q ↔ wJ (dx_lk lv 3) (fun y => dx_W (tb_Z L xs) d 85 21 lv (.long y :: st) σ Q) := r_lload_n (k := 3) (hz_85.trans rfl)
theorem w_85_21 : dx_W (tb_Z L xs) d 85 21 lv st σ Q ↔ wI (dx_lk lv 5) (fun y => dx_W (tb_Z L xs) d 85 23 lv (.int y :: st) σ Q) := r_iload (k := 5) (hz_85.trans rfl)
theorem w_85_23 {v0 v1 : Value}  : dx_W (tb_Z L xs) d 85 23 lv (v1 :: v0 :: st) σ Q ↔ dx_ct st ≤ 8 ∧ dx_M (tb_Z L xs) d 86 [v0, v1] σ (wK (tb_Z L xs) d 85 26 lv st Q) := c_calls (av := [v0, v1]) (hz_85.trans rfl)
theorem w_85_26 {x y : Int64} : dx_W (tb_Z L xs) d 85 26 lv (.long y :: .long x :: st) σ Q ↔ dx_W (tb_Z L xs) d 85 27 lv (.long (x + y) :: st) σ Q := r_ladd (hz_85.trans rfl)
theorem w_85_27 : dx_W (tb_Z L xs) d 85 27 lv st σ Q ↔ wI (dx_lk lv 5) (fun y => dx_W (tb_Z L xs) d 85 29 lv (.int y :: st) σ Q) := r_iload (k := 5) (hz_85.trans rfl)
theorem w_85_29 {v0 v1 v2 : Value}  : dx_W (tb_Z L xs) d 85 29 lv (v2 :: v1 :: v0 :: st) σ Q ↔ (dx_ct st ≤ 8 ∧ dx_ci (tb_K L xs) σ v0 = some 8) ∧ dx_M (tb_Z L xs) d 87 [v0, v1, v2] σ (wK (tb_Z L xs) d 85 32 lv st Q) := c_callv (av := [v1, v2]) (hz_85.trans rfl)
theorem w_85_32 {x : Int64} : dx_W (tb_Z L xs) d 85 32 lv [.long x] σ Q ↔ Q (.inl (some (.long x))) σ := r_lreturn (hz_85.trans rfl) rfl
theorem hz_86 {pc : Nat} : (tb_Z L xs).1 86 pc = dx_at tb_m86 pc := rfl
theorem w_86_0 : dx_W (tb_Z L xs) d 86 0 lv st σ Q ↔ wJ (dx_lk lv 0) (fun y => dx_W (tb_Z L xs) d 86 1 lv (.long y :: st) σ Q) := r_lload_n (k := 0) (hz_86.trans rfl)
theorem w_86_1 {v0 : Value}  : dx_W (tb_Z L xs) d 86 1 lv (v0 :: st) σ Q ↔ dx_ct st ≤ 8 ∧ dx_M (tb_Z L xs) d 79 [v0] σ (wK (tb_Z L xs) d 86 4 lv st Q) := c_calls (av := [v0]) (hz_86.trans rfl)
theorem w_86_4 : dx_W (tb_Z L xs) d 86 4 lv st σ Q ↔ dx_W (tb_Z L xs) d 86 7 lv (.retAddr 0 :: st) σ Q := r_getstatic (hz_86.trans rfl)
theorem w_86_7 : dx_W (tb_Z L xs) d 86 7 lv st σ Q ↔ wI (dx_lk lv 2) (fun y => dx_W (tb_Z L xs) d 86 8 lv (.int y :: st) σ Q) := r_iload_n (k := 2) (hz_86.trans rfl)
theorem w_86_8 : dx_W (tb_Z L xs) d 86 8 lv st σ Q ↔ wJ (dx_lk lv 0) (fun y => dx_W (tb_Z L xs) d 86 9 lv (.long y :: st) σ Q) := r_lload_n (k := 0) (hz_86.trans rfl)
theorem w_86_9 {v0 : Value}  : dx_W (tb_Z L xs) d 86 9 lv (v0 :: st) σ Q ↔ dx_ct st ≤ 8 ∧ dx_M (tb_Z L xs) d 80 [v0] σ (wK (tb_Z L xs) d 86 12 lv st Q) := c_calls (av := [v0]) (hz_86.trans rfl)
theorem w_86_12 {x y : Int32} : dx_W (tb_Z L xs) d 86 12 lv (.int y :: .int x :: st) σ Q ↔ dx_W (tb_Z L xs) d 86 13 lv (.int (x - y) :: st) σ Q := r_isub (hz_86.trans rfl)
theorem w_86_13 {w : Value} {y : Int32} : dx_W (tb_Z L xs) d 86 13 lv (.int y :: w :: st) σ Q ↔ wO (dx_el (tb_K L xs) σ w y) (fun u => dx_W (tb_Z L xs) d 86 14 lv (.long u :: st) σ Q) := r_laload (hz_86.trans rfl)
theorem w_86_14 {x y : Int64} : dx_W (tb_Z L xs) d 86 14 lv (.long y :: .long x :: st) σ Q ↔ dx_W (tb_Z L xs) d 86 15 lv (.long (x * y) :: st) σ Q := r_lmul (hz_86.trans rfl)
theorem w_86_15 {x : Int64} : dx_W (tb_Z L xs) d 86 15 lv [.long x] σ Q ↔ Q (.inl (some (.long x))) σ := r_lreturn (hz_86.trans rfl) rfl
theorem hz_87 {pc : Nat} : (tb_Z L xs).1 87 pc = dx_at tb_m87 pc := rfl
theorem w_87_0 : dx_W (tb_Z L xs) d 87 0 lv st σ Q ↔ wJ (dx_lk lv 1) (fun y => dx_W (tb_Z L xs) d 87 1 lv (.long y :: st) σ Q) := r_lload_n (k := 1) (hz_87.trans rfl)
theorem w_87_1 : dx_W (tb_Z L xs) d 87 1 lv st σ Q ↔ dx_W (tb_Z L xs) d 87 4 lv (.long 999999999 :: st) σ Q := r_ldc2_w (hz_87.trans rfl)
theorem w_87_4 {x y : Int64} : dx_W (tb_Z L xs) d 87 4 lv (.long y :: .long x :: st) σ Q ↔ dx_W (tb_Z L xs) d 87 5 lv (.int (lg_cmp x y) :: st) σ Q := r_lcmp (hz_87.trans rfl)
theorem w_87_5 {x : Int32} : dx_W (tb_Z L xs) d 87 5 lv (.int x :: st) σ Q ↔ (if 0 < x then dx_W (tb_Z L xs) d 87 16 lv st σ Q else dx_W (tb_Z L xs) d 87 8 lv st σ Q) := r_if_gt (off := 11) (t := 16) (hz_87.trans rfl) (by decide)
theorem w_87_8 : dx_W (tb_Z L xs) d 87 8 lv st σ Q ↔ wJ (dx_lk lv 1) (fun y => dx_W (tb_Z L xs) d 87 9 lv (.long y :: st) σ Q) := r_lload_n (k := 1) (hz_87.trans rfl)
theorem w_87_9 : dx_W (tb_Z L xs) d 87 9 lv st σ Q ↔ dx_W (tb_Z L xs) d 87 12 lv (.long (-999999999) :: st) σ Q := r_ldc2_w (hz_87.trans rfl)
theorem w_87_12 {x y : Int64} : dx_W (tb_Z L xs) d 87 12 lv (.long y :: .long x :: st) σ Q ↔ dx_W (tb_Z L xs) d 87 13 lv (.int (lg_cmp x y) :: st) σ Q := r_lcmp (hz_87.trans rfl)
theorem w_87_13 {x : Int32} : dx_W (tb_Z L xs) d 87 13 lv (.int x :: st) σ Q ↔ (if 0 ≤ x then dx_W (tb_Z L xs) d 87 24 lv st σ Q else dx_W (tb_Z L xs) d 87 16 lv st σ Q) := r_if_ge (off := 11) (t := 24) (hz_87.trans rfl) (by decide)
theorem w_87_16 : dx_W (tb_Z L xs) d 87 16 lv st σ Q ↔ wR (dx_lk lv 0) (fun y => dx_W (tb_Z L xs) d 87 17 lv (y :: st) σ Q) := r_aload_n (k := 0) (hz_87.trans rfl)
theorem w_87_17 {w : Value} : dx_W (tb_Z L xs) d 87 17 lv (w :: st) σ Q ↔ wO (dx_gf (tb_K L xs) σ w 8 1) (fun y => dx_W (tb_Z L xs) d 87 20 lv (y :: st) σ Q) := r_getfield (hz_87.trans rfl)
theorem w_87_20 : dx_W (tb_Z L xs) d 87 20 lv st σ Q ↔ dx_W (tb_Z L xs) d 87 21 lv (.int 3 :: st) σ Q := r_iconst (n := 3) (hz_87.trans rfl)
theorem w_87_21 {v0 v1 : Value}  : dx_W (tb_Z L xs) d 87 21 lv (v1 :: v0 :: st) σ Q ↔ (dx_ct st ≤ 8 ∧ dx_ci (tb_K L xs) σ v0 = some 3) ∧ dx_M (tb_Z L xs) d 22 [v0, v1] σ (wK (tb_Z L xs) d 87 24 lv st Q) := c_callv (av := [v1]) (hz_87.trans rfl)
theorem w_87_24 : dx_W (tb_Z L xs) d 87 24 lv st σ Q ↔ wJ (dx_lk lv 1) (fun y => dx_W (tb_Z L xs) d 87 25 lv (.long y :: st) σ Q) := r_lload_n (k := 1) (hz_87.trans rfl)
theorem w_87_25 : dx_W (tb_Z L xs) d 87 25 lv st σ Q ↔ wI (dx_lk lv 3) (fun y => dx_W (tb_Z L xs) d 87 26 lv (.int y :: st) σ Q) := r_iload_n (k := 3) (hz_87.trans rfl)
theorem w_87_26 {v0 v1 : Value}  : dx_W (tb_Z L xs) d 87 26 lv (v1 :: v0 :: st) σ Q ↔ dx_ct st ≤ 8 ∧ dx_M (tb_Z L xs) d 81 [v0, v1] σ (wK (tb_Z L xs) d 87 29 lv st Q) := c_calls (av := [v0, v1]) (hz_87.trans rfl)
theorem w_87_29 {x : Int64} : dx_W (tb_Z L xs) d 87 29 lv [.long x] σ Q ↔ Q (.inl (some (.long x))) σ := r_lreturn (hz_87.trans rfl) rfl
theorem hz_88 {pc : Nat} : (tb_Z L xs).1 88 pc = dx_at tb_m88 pc := rfl
theorem w_88_0 : dx_W (tb_Z L xs) d 88 0 lv st σ Q ↔ wJ (dx_lk lv 1) (fun y => dx_W (tb_Z L xs) d 88 1 lv (.long y :: st) σ Q) := r_lload_n (k := 1) (hz_88.trans rfl)
theorem w_88_1 {v0 : Value}  : dx_W (tb_Z L xs) d 88 1 lv (v0 :: st) σ Q ↔ dx_ct st ≤ 8 ∧ dx_M (tb_Z L xs) d 80 [v0] σ (wK (tb_Z L xs) d 88 4 lv st Q) := c_calls (av := [v0]) (hz_88.trans rfl)
theorem w_88_4 : dx_W (tb_Z L xs) d 88 4 lv st σ Q ↔ wJ (dx_lk lv 3) (fun y => dx_W (tb_Z L xs) d 88 5 lv (.long y :: st) σ Q) := r_lload_n (k := 3) (hz_88.trans rfl)
theorem w_88_5 {v0 : Value}  : dx_W (tb_Z L xs) d 88 5 lv (v0 :: st) σ Q ↔ dx_ct st ≤ 8 ∧ dx_M (tb_Z L xs) d 80 [v0] σ (wK (tb_Z L xs) d 88 8 lv st Q) := c_calls (av := [v0]) (hz_88.trans rfl)
theorem w_88_8 {x y : Int32} : dx_W (tb_Z L xs) d 88 8 lv (.int y :: .int x :: st) σ Q ↔ dx_W (tb_Z L xs) d 88 9 lv (.int (x + y) :: st) σ Q := r_iadd (hz_88.trans rfl)
theorem w_88_9 {x : Int32} : dx_W (tb_Z L xs) d 88 9 lv (.int x :: st) σ Q ↔ dx_W (tb_Z L xs) d 88 11 (dx_s1 lv 5 (.int x)) st σ Q := r_istore (k := 5) (hz_88.trans rfl) (show 5 < tb_l 88 by decide)
theorem w_88_11 : dx_W (tb_Z L xs) d 88 11 lv st σ Q ↔ wI (dx_lk lv 5) (fun y => dx_W (tb_Z L xs) d 88 13 lv (.int y :: st) σ Q) := r_iload (k := 5) (hz_88.trans rfl)
theorem w_88_13 : dx_W (tb_Z L xs) d 88 13 lv st σ Q ↔ wR (dx_lk lv 0) (fun y => dx_W (tb_Z L xs) d 88 14 lv (y :: st) σ Q) := r_aload_n (k := 0) (hz_88.trans rfl)
theorem w_88_14 {w : Value} : dx_W (tb_Z L xs) d 88 14 lv (w :: st) σ Q ↔ wO (dx_gf (tb_K L xs) σ w 8 0) (fun y => dx_W (tb_Z L xs) d 88 17 lv (y :: st) σ Q) := r_getfield (hz_88.trans rfl)
theorem w_88_17 {w : Value} : dx_W (tb_Z L xs) d 88 17 lv (w :: st) σ Q ↔ wO (dx_gf (tb_K L xs) σ w 2 1) (fun y => dx_W (tb_Z L xs) d 88 20 lv (y :: st) σ Q) := r_getfield (hz_88.trans rfl)
theorem w_88_20 : dx_W (tb_Z L xs) d 88 20 lv st σ Q ↔ wJ (dx_lk lv 1) (fun y => dx_W (tb_Z L xs) d 88 21 lv (.long y :: st) σ Q) := r_lload_n (k := 1) (hz_88.trans rfl)
theorem w_88_21 {v0 : Value}  : dx_W (tb_Z L xs) d 88 21 lv (v0 :: st) σ Q ↔ dx_ct st ≤ 8 ∧ dx_M (tb_Z L xs) d 80 [v0] σ (wK (tb_Z L xs) d 88 24 lv st Q) := c_calls (av := [v0]) (hz_88.trans rfl)
theorem w_88_24 : dx_W (tb_Z L xs) d 88 24 lv st σ Q ↔ wJ (dx_lk lv 3) (fun y => dx_W (tb_Z L xs) d 88 25 lv (.long y :: st) σ Q) := r_lload_n (k := 3) (hz_88.trans rfl)
theorem w_88_25 {v0 : Value}  : dx_W (tb_Z L xs) d 88 25 lv (v0 :: st) σ Q ↔ dx_ct st ≤ 8 ∧ dx_M (tb_Z L xs) d 80 [v0] σ (wK (tb_Z L xs) d 88 28 lv st Q) := c_calls (av := [v0]) (hz_88.trans rfl)
theorem w_88_28 {v0 v1 : Value}  : dx_W (tb_Z L xs) d 88 28 lv (v1 :: v0 :: st) σ Q ↔ dx_ct st ≤ 8 ∧ dx_M (tb_Z L xs) d 145 [v0, v1] σ (wK (tb_Z L xs) d 88 31 lv st Q) := c_calls (av := [v0, v1]) (hz_88.trans rfl)
theorem w_88_31 {v0 v1 : Value}  : dx_W (tb_Z L xs) d 88 31 lv (v1 :: v0 :: st) σ Q ↔ dx_ct st ≤ 8 ∧ dx_M (tb_Z L xs) d 145 [v0, v1] σ (wK (tb_Z L xs) d 88 34 lv st Q) := c_calls (av := [v0, v1]) (hz_88.trans rfl)
theorem w_88_34 {v0 v1 : Value}  : dx_W (tb_Z L xs) d 88 34 lv (v1 :: v0 :: st) σ Q ↔ dx_ct st ≤ 8 ∧ dx_M (tb_Z L xs) d 144 [v0, v1] σ (wK (tb_Z L xs) d 88 37 lv st Q) := c_calls (av := [v0, v1]) (hz_88.trans rfl)
theorem w_88_37 {x : Int32} : dx_W (tb_Z L xs) d 88 37 lv (.int x :: st) σ Q ↔ dx_W (tb_Z L xs) d 88 39 (dx_s1 lv 6 (.int x)) st σ Q := r_istore (k := 6) (hz_88.trans rfl) (show 6 < tb_l 88 by decide)
theorem w_88_39 : dx_W (tb_Z L xs) d 88 39 lv st σ Q ↔ wR (dx_lk lv 0) (fun y => dx_W (tb_Z L xs) d 88 40 lv (y :: st) σ Q) := r_aload_n (k := 0) (hz_88.trans rfl)
theorem w_88_40 : dx_W (tb_Z L xs) d 88 40 lv st σ Q ↔ wJ (dx_lk lv 1) (fun y => dx_W (tb_Z L xs) d 88 41 lv (.long y :: st) σ Q) := r_lload_n (k := 1) (hz_88.trans rfl)
theorem w_88_41 {v0 : Value}  : dx_W (tb_Z L xs) d 88 41 lv (v0 :: st) σ Q ↔ dx_ct st ≤ 8 ∧ dx_M (tb_Z L xs) d 79 [v0] σ (wK (tb_Z L xs) d 88 44 lv st Q) := c_calls (av := [v0]) (hz_88.trans rfl)
theorem w_88_44 : dx_W (tb_Z L xs) d 88 44 lv st σ Q ↔ wJ (dx_lk lv 3) (fun y => dx_W (tb_Z L xs) d 88 45 lv (.long y :: st) σ Q) := r_lload_n (k := 3) (hz_88.trans rfl)
theorem w_88_45 {v0 : Value}  : dx_W (tb_Z L xs) d 88 45 lv (v0 :: st) σ Q ↔ dx_ct st ≤ 8 ∧ dx_M (tb_Z L xs) d 79 [v0] σ (wK (tb_Z L xs) d 88 48 lv st Q) := c_calls (av := [v0]) (hz_88.trans rfl)
theorem w_88_48 {x y : Int64} : dx_W (tb_Z L xs) d 88 48 lv (.long y :: .long x :: st) σ Q ↔ dx_W (tb_Z L xs) d 88 49 lv (.long (x * y) :: st) σ Q := r_lmul (hz_88.trans rfl)
theorem w_88_49 : dx_W (tb_Z L xs) d 88 49 lv st σ Q ↔ dx_W (tb_Z L xs) d 88 52 lv (.retAddr 0 :: st) σ Q := r_getstatic (hz_88.trans rfl)
theorem w_88_52 : dx_W (tb_Z L xs) d 88 52 lv st σ Q ↔ wI (dx_lk lv 5) (fun y => dx_W (tb_Z L xs) d 88 54 lv (.int y :: st) σ Q) := r_iload (k := 5) (hz_88.trans rfl)
theorem w_88_54 : dx_W (tb_Z L xs) d 88 54 lv st σ Q ↔ wI (dx_lk lv 6) (fun y => dx_W (tb_Z L xs) d 88 56 lv (.int y :: st) σ Q) := r_iload (k := 6) (hz_88.trans rfl)
theorem w_88_56 {x y : Int32} : dx_W (tb_Z L xs) d 88 56 lv (.int y :: .int x :: st) σ Q ↔ dx_W (tb_Z L xs) d 88 57 lv (.int (x - y) :: st) σ Q := r_isub (hz_88.trans rfl)
theorem w_88_57 {w : Value} {y : Int32} : dx_W (tb_Z L xs) d 88 57 lv (.int y :: w :: st) σ Q ↔ wO (dx_el (tb_K L xs) σ w y) (fun u => dx_W (tb_Z L xs) d 88 58 lv (.long u :: st) σ Q) := r_laload (hz_88.trans rfl)
theorem w_88_58 {x y : Int64} : dx_W (tb_Z L xs) d 88 58 lv (.long y :: .long x :: st) σ Q ↔ ¬ y = 0 ∧ dx_W (tb_Z L xs) d 88 59 lv (.long (x / y) :: st) σ Q := c_ldiv (hz_88.trans rfl)
theorem w_88_59 : dx_W (tb_Z L xs) d 88 59 lv st σ Q ↔ wI (dx_lk lv 6) (fun y => dx_W (tb_Z L xs) d 88 61 lv (.int y :: st) σ Q) := r_iload (k := 6) (hz_88.trans rfl)
theorem w_88_61 {v0 v1 v2 : Value}  : dx_W (tb_Z L xs) d 88 61 lv (v2 :: v1 :: v0 :: st) σ Q ↔ (dx_ct st ≤ 8 ∧ dx_ci (tb_K L xs) σ v0 = some 8) ∧ dx_M (tb_Z L xs) d 87 [v0, v1, v2] σ (wK (tb_Z L xs) d 88 64 lv st Q) := c_callv (av := [v1, v2]) (hz_88.trans rfl)
theorem w_88_64 {x : Int64} : dx_W (tb_Z L xs) d 88 64 lv [.long x] σ Q ↔ Q (.inl (some (.long x))) σ := r_lreturn (hz_88.trans rfl) rfl
theorem hz_89 {pc : Nat} : (tb_Z L xs).1 89 pc = dx_at tb_m89 pc := rfl
theorem w_89_0 : dx_W (tb_Z L xs) d 89 0 lv st σ Q ↔ wR (dx_lk lv 0) (fun y => dx_W (tb_Z L xs) d 89 1 lv (y :: st) σ Q) := r_aload_n (k := 0) (hz_89.trans rfl)
theorem w_89_1 : dx_W (tb_Z L xs) d 89 1 lv st σ Q ↔ wJ (dx_lk lv 3) (fun y => dx_W (tb_Z L xs) d 89 2 lv (.long y :: st) σ Q) := r_lload_n (k := 3) (hz_89.trans rfl)
theorem w_89_2 {v0 v1 : Value}  : dx_W (tb_Z L xs) d 89 2 lv (v1 :: v0 :: st) σ Q ↔ (dx_ct st ≤ 8 ∧ dx_ci (tb_K L xs) σ v0 = some 8) ∧ dx_M (tb_Z L xs) d 90 [v0, v1] σ (wK (tb_Z L xs) d 89 5 lv st Q) := c_callv (av := [v1]) (hz_89.trans rfl)
theorem w_89_5 : dx_W (tb_Z L xs) d 89 5 lv st σ Q ↔ wJ (dx_lk lv 1) (fun y => dx_W (tb_Z L xs) d 89 6 lv (.long y :: st) σ Q) := r_lload_n (k := 1) (hz_89.trans rfl)
theorem w_89_6 {v0 : Value}  : dx_W (tb_Z L xs) d 89 6 lv (v0 :: st) σ Q ↔ dx_ct st ≤ 8 ∧ dx_M (tb_Z L xs) d 79 [v0] σ (wK (tb_Z L xs) d 89 9 lv st Q) := c_calls (av := [v0]) (hz_89.trans rfl)
theorem w_89_9 : dx_W (tb_Z L xs) d 89 9 lv st σ Q ↔ dx_W (tb_Z L xs) d 89 12 lv (.retAddr 0 :: st) σ Q := r_getstatic (hz_89.trans rfl)
theorem w_89_12 : dx_W (tb_Z L xs) d 89 12 lv st σ Q ↔ wJ (dx_lk lv 3) (fun y => dx_W (tb_Z L xs) d 89 13 lv (.long y :: st) σ Q) := r_lload_n (k := 3) (hz_89.trans rfl)
theorem w_89_13 {v0 : Value}  : dx_W (tb_Z L xs) d 89 13 lv (v0 :: st) σ Q ↔ dx_ct st ≤ 8 ∧ dx_M (tb_Z L xs) d 80 [v0] σ (wK (tb_Z L xs) d 89 16 lv st Q) := c_calls (av := [v0]) (hz_89.trans rfl)
theorem w_89_16 : dx_W (tb_Z L xs) d 89 16 lv st σ Q ↔ wR (dx_lk lv 0) (fun y => dx_W (tb_Z L xs) d 89 17 lv (y :: st) σ Q) := r_aload_n (k := 0) (hz_89.trans rfl)
theorem w_89_17 {w : Value} : dx_W (tb_Z L xs) d 89 17 lv (w :: st) σ Q ↔ wO (dx_gf (tb_K L xs) σ w 8 0) (fun y => dx_W (tb_Z L xs) d 89 20 lv (y :: st) σ Q) := r_getfield (hz_89.trans rfl)
theorem w_89_20 {w : Value} : dx_W (tb_Z L xs) d 89 20 lv (w :: st) σ Q ↔ wO (dx_gf (tb_K L xs) σ w 2 1) (fun y => dx_W (tb_Z L xs) d 89 23 lv (y :: st) σ Q) := r_getfield (hz_89.trans rfl)
theorem w_89_23 {x y : Int32} : dx_W (tb_Z L xs) d 89 23 lv (.int y :: .int x :: st) σ Q ↔ dx_W (tb_Z L xs) d 89 24 lv (.int (x + y) :: st) σ Q := r_iadd (hz_89.trans rfl)
theorem w_89_24 {w : Value} {y : Int32} : dx_W (tb_Z L xs) d 89 24 lv (.int y :: w :: st) σ Q ↔ wO (dx_el (tb_K L xs) σ w y) (fun u => dx_W (tb_Z L xs) d 89 25 lv (.long u :: st) σ Q) := r_laload (hz_89.trans rfl)
theorem w_89_25 {x y : Int64} : dx_W (tb_Z L xs) d 89 25 lv (.long y :: .long x :: st) σ Q ↔ dx_W (tb_Z L xs) d 89 26 lv (.long (x * y) :: st) σ Q := r_lmul (hz_89.trans rfl)
theorem w_89_26 {x : Int64} : dx_W (tb_Z L xs) d 89 26 lv (.long x :: st) σ Q ↔ dx_W (tb_Z L xs) d 89 28 (dx_s2 lv 5 (.long x)) st σ Q := r_lstore (k := 5) (hz_89.trans rfl) (show 5 + 1 < tb_l 89 by decide)
theorem w_89_28 : dx_W (tb_Z L xs) d 89 28 lv st σ Q ↔ wR (dx_lk lv 0) (fun y => dx_W (tb_Z L xs) d 89 29 lv (y :: st) σ Q) := r_aload_n (k := 0) (hz_89.trans rfl)
theorem w_89_29 : dx_W (tb_Z L xs) d 89 29 lv st σ Q ↔ wJ (dx_lk lv 5) (fun y => dx_W (tb_Z L xs) d 89 31 lv (.long y :: st) σ Q) := r_lload (k := 5) (hz_89.trans rfl)
theorem w_89_31 : dx_W (tb_Z L xs) d 89 31 lv st σ Q ↔ wJ (dx_lk lv 3) (fun y => dx_W (tb_Z L xs) d 89 32 lv (.long y :: st) σ Q) := r_lload_n (k := 3) (hz_89.trans rfl)
theorem w_89_32 {v0 : Value}  : dx_W (tb_Z L xs) d 89 32 lv (v0 :: st) σ Q ↔ dx_ct st ≤ 8 ∧ dx_M (tb_Z L xs) d 79 [v0] σ (wK (tb_Z L xs) d 89 35 lv st Q) := c_calls (av := [v0]) (hz_89.trans rfl)
theorem w_89_35 : dx_W (tb_Z L xs) d 89 35 lv st σ Q ↔ dx_W (tb_Z L xs) d 89 38 lv (.retAddr 0 :: st) σ Q := r_getstatic (hz_89.trans rfl)
theorem w_89_38 : dx_W (tb_Z L xs) d 89 38 lv st σ Q ↔ wJ (dx_lk lv 1) (fun y => dx_W (tb_Z L xs) d 89 39 lv (.long y :: st) σ Q) := r_lload_n (k := 1) (hz_89.trans rfl)
theorem w_89_39 {v0 : Value}  : dx_W (tb_Z L xs) d 89 39 lv (v0 :: st) σ Q ↔ dx_ct st ≤ 8 ∧ dx_M (tb_Z L xs) d 80 [v0] σ (wK (tb_Z L xs) d 89 42 lv st Q) := c_calls (av := [v0]) (hz_89.trans rfl)
theorem w_89_42 {w : Value} {y : Int32} : dx_W (tb_Z L xs) d 89 42 lv (.int y :: w :: st) σ Q ↔ wO (dx_el (tb_K L xs) σ w y) (fun u => dx_W (tb_Z L xs) d 89 43 lv (.long u :: st) σ Q) := r_laload (hz_89.trans rfl)
theorem w_89_43 {x y : Int64} : dx_W (tb_Z L xs) d 89 43 lv (.long y :: .long x :: st) σ Q ↔ dx_W (tb_Z L xs) d 89 44 lv (.long (x * y) :: st) σ Q := r_lmul (hz_89.trans rfl)
theorem w_89_44 {x y : Int64} : dx_W (tb_Z L xs) d 89 44 lv (.long y :: .long x :: st) σ Q ↔ ¬ y = 0 ∧ dx_W (tb_Z L xs) d 89 45 lv (.long (x / y) :: st) σ Q := c_ldiv (hz_89.trans rfl)
theorem w_89_45 : dx_W (tb_Z L xs) d 89 45 lv st σ Q ↔ wR (dx_lk lv 0) (fun y => dx_W (tb_Z L xs) d 89 46 lv (y :: st) σ Q) := r_aload_n (k := 0) (hz_89.trans rfl)
theorem w_89_46 {w : Value} : dx_W (tb_Z L xs) d 89 46 lv (w :: st) σ Q ↔ wO (dx_gf (tb_K L xs) σ w 8 0) (fun y => dx_W (tb_Z L xs) d 89 49 lv (y :: st) σ Q) := r_getfield (hz_89.trans rfl)
theorem w_89_49 {w : Value} : dx_W (tb_Z L xs) d 89 49 lv (w :: st) σ Q ↔ wO (dx_gf (tb_K L xs) σ w 2 1) (fun y => dx_W (tb_Z L xs) d 89 52 lv (y :: st) σ Q) := r_getfield (hz_89.trans rfl)
theorem w_89_52 {v0 v1 v2 : Value}  : dx_W (tb_Z L xs) d 89 52 lv (v2 :: v1 :: v0 :: st) σ Q ↔ (dx_ct st ≤ 8 ∧ dx_ci (tb_K L xs) σ v0 = some 8) ∧ dx_M (tb_Z L xs) d 87 [v0, v1, v2] σ (wK (tb_Z L xs) d 89 55 lv st Q) := c_callv (av := [v1, v2]) (hz_89.trans rfl)
theorem w_89_55 {x : Int64} : dx_W (tb_Z L xs) d 89 55 lv [.long x] σ Q ↔ Q (.inl (some (.long x))) σ := r_lreturn (hz_89.trans rfl) rfl
theorem hz_90 {pc : Nat} : (tb_Z L xs).1 90 pc = dx_at tb_m90 pc := rfl
theorem w_90_0 : dx_W (tb_Z L xs) d 90 0 lv st σ Q ↔ wJ (dx_lk lv 1) (fun y => dx_W (tb_Z L xs) d 90 1 lv (.long y :: st) σ Q) := r_lload_n (k := 1) (hz_90.trans rfl)
theorem w_90_1 {v0 : Value}  : dx_W (tb_Z L xs) d 90 1 lv (v0 :: st) σ Q ↔ dx_ct st ≤ 8 ∧ dx_M (tb_Z L xs) d 79 [v0] σ (wK (tb_Z L xs) d 90 4 lv st Q) := c_calls (av := [v0]) (hz_90.trans rfl)
theorem w_90_4 : dx_W (tb_Z L xs) d 90 4 lv st σ Q ↔ dx_W (tb_Z L xs) d 90 5 lv (.long 0 :: st) σ Q := r_lconst (n := 0) (hz_90.trans rfl)
theorem w_90_5 {x y : Int64} : dx_W (tb_Z L xs) d 90 5 lv (.long y :: .long x :: st) σ Q ↔ dx_W (tb_Z L xs) d 90 6 lv (.int (lg_cmp x y) :: st) σ Q := r_lcmp (hz_90.trans rfl)
theorem w_90_6 {x : Int32} : dx_W (tb_Z L xs) d 90 6 lv (.int x :: st) σ Q ↔ (if ¬ x = 0 then dx_W (tb_Z L xs) d 90 17 lv st σ Q else dx_W (tb_Z L xs) d 90 9 lv st σ Q) := r_if_ne (off := 11) (t := 17) (hz_90.trans rfl) (by decide)
theorem w_90_9 : dx_W (tb_Z L xs) d 90 9 lv st σ Q ↔ wR (dx_lk lv 0) (fun y => dx_W (tb_Z L xs) d 90 10 lv (y :: st) σ Q) := r_aload_n (k := 0) (hz_90.trans rfl)
theorem w_90_10 {w : Value} : dx_W (tb_Z L xs) d 90 10 lv (w :: st) σ Q ↔ wO (dx_gf (tb_K L xs) σ w 8 1) (fun y => dx_W (tb_Z L xs) d 90 13 lv (y :: st) σ Q) := r_getfield (hz_90.trans rfl)
theorem w_90_13 : dx_W (tb_Z L xs) d 90 13 lv st σ Q ↔ dx_W (tb_Z L xs) d 90 14 lv (.int 2 :: st) σ Q := r_iconst (n := 2) (hz_90.trans rfl)
theorem w_90_14 {v0 v1 : Value}  : dx_W (tb_Z L xs) d 90 14 lv (v1 :: v0 :: st) σ Q ↔ (dx_ct st ≤ 8 ∧ dx_ci (tb_K L xs) σ v0 = some 3) ∧ dx_M (tb_Z L xs) d 22 [v0, v1] σ (wK (tb_Z L xs) d 90 17 lv st Q) := c_callv (av := [v1]) (hz_90.trans rfl)
theorem w_90_17 : dx_W (tb_Z L xs) d 90 17 lv [] σ Q ↔ Q (.inl none) σ := r_return (hz_90.trans rfl) rfl
theorem hz_91 {pc : Nat} : (tb_Z L xs).1 91 pc = dx_at tb_m91 pc := rfl
theorem w_91_0 : dx_W (tb_Z L xs) d 91 0 lv st σ Q ↔ wR (dx_lk lv 0) (fun y => dx_W (tb_Z L xs) d 91 1 lv (y :: st) σ Q) := r_aload_n (k := 0) (hz_91.trans rfl)
theorem w_91_1 : dx_W (tb_Z L xs) d 91 1 lv st σ Q ↔ wJ (dx_lk lv 3) (fun y => dx_W (tb_Z L xs) d 91 2 lv (.long y :: st) σ Q) := r_lload_n (k := 3) (hz_91.trans rfl)
theorem w_91_2 {v0 v1 : Value}  : dx_W (tb_Z L xs) d 91 2 lv (v1 :: v0 :: st) σ Q ↔ (dx_ct st ≤ 8 ∧ dx_ci (tb_K L xs) σ v0 = some 8) ∧ dx_M (tb_Z L xs) d 90 [v0, v1] σ (wK (tb_Z L xs) d 91 5 lv st Q) := c_callv (av := [v1]) (hz_91.trans rfl)
theorem w_91_5 : dx_W (tb_Z L xs) d 91 5 lv st σ Q ↔ wJ (dx_lk lv 1) (fun y => dx_W (tb_Z L xs) d 91 6 lv (.long y :: st) σ Q) := r_lload_n (k := 1) (hz_91.trans rfl)
theorem w_91_6 {v0 : Value}  : dx_W (tb_Z L xs) d 91 6 lv (v0 :: st) σ Q ↔ dx_ct st ≤ 8 ∧ dx_M (tb_Z L xs) d 80 [v0] σ (wK (tb_Z L xs) d 91 9 lv st Q) := c_calls (av := [v0]) (hz_91.trans rfl)
theorem w_91_9 : dx_W (tb_Z L xs) d 91 9 lv st σ Q ↔ wJ (dx_lk lv 3) (fun y => dx_W (tb_Z L xs) d 91 10 lv (.long y :: st) σ Q) := r_lload_n (k := 3) (hz_91.trans rfl)
theorem w_91_10 {v0 : Value}  : dx_W (tb_Z L xs) d 91 10 lv (v0 :: st) σ Q ↔ dx_ct st ≤ 8 ∧ dx_M (tb_Z L xs) d 80 [v0] σ (wK (tb_Z L xs) d 91 13 lv st Q) := c_calls (av := [v0]) (hz_91.trans rfl)
theorem w_91_13 {v0 v1 : Value}  : dx_W (tb_Z L xs) d 91 13 lv (v1 :: v0 :: st) σ Q ↔ dx_ct st ≤ 8 ∧ dx_M (tb_Z L xs) d 145 [v0, v1] σ (wK (tb_Z L xs) d 91 16 lv st Q) := c_calls (av := [v0, v1]) (hz_91.trans rfl)
theorem w_91_16 {x : Int32} : dx_W (tb_Z L xs) d 91 16 lv (.int x :: st) σ Q ↔ dx_W (tb_Z L xs) d 91 18 (dx_s1 lv 5 (.int x)) st σ Q := r_istore (k := 5) (hz_91.trans rfl) (show 5 < tb_l 91 by decide)
theorem w_91_18 : dx_W (tb_Z L xs) d 91 18 lv st σ Q ↔ wR (dx_lk lv 0) (fun y => dx_W (tb_Z L xs) d 91 19 lv (y :: st) σ Q) := r_aload_n (k := 0) (hz_91.trans rfl)
theorem w_91_19 : dx_W (tb_Z L xs) d 91 19 lv st σ Q ↔ wJ (dx_lk lv 1) (fun y => dx_W (tb_Z L xs) d 91 20 lv (.long y :: st) σ Q) := r_lload_n (k := 1) (hz_91.trans rfl)
theorem w_91_20 : dx_W (tb_Z L xs) d 91 20 lv st σ Q ↔ wI (dx_lk lv 5) (fun y => dx_W (tb_Z L xs) d 91 22 lv (.int y :: st) σ Q) := r_iload (k := 5) (hz_91.trans rfl)
theorem w_91_22 {v0 v1 : Value}  : dx_W (tb_Z L xs) d 91 22 lv (v1 :: v0 :: st) σ Q ↔ dx_ct st ≤ 8 ∧ dx_M (tb_Z L xs) d 86 [v0, v1] σ (wK (tb_Z L xs) d 91 25 lv st Q) := c_calls (av := [v0, v1]) (hz_91.trans rfl)
theorem w_91_25 : dx_W (tb_Z L xs) d 91 25 lv st σ Q ↔ wJ (dx_lk lv 3) (fun y => dx_W (tb_Z L xs) d 91 26 lv (.long y :: st) σ Q) := r_lload_n (k := 3) (hz_91.trans rfl)
theorem w_91_26 : dx_W (tb_Z L xs) d 91 26 lv st σ Q ↔ wI (dx_lk lv 5) (fun y => dx_W (tb_Z L xs) d 91 28 lv (.int y :: st) σ Q) := r_iload (k := 5) (hz_91.trans rfl)
theorem w_91_28 {v0 v1 : Value}  : dx_W (tb_Z L xs) d 91 28 lv (v1 :: v0 :: st) σ Q ↔ dx_ct st ≤ 8 ∧ dx_M (tb_Z L xs) d 86 [v0, v1] σ (wK (tb_Z L xs) d 91 31 lv st Q) := c_calls (av := [v0, v1]) (hz_91.trans rfl)
theorem w_91_31 {x y : Int64} : dx_W (tb_Z L xs) d 91 31 lv (.long y :: .long x :: st) σ Q ↔ ¬ y = 0 ∧ dx_W (tb_Z L xs) d 91 32 lv (.long (x - x / y * y) :: st) σ Q := c_lrem (hz_91.trans rfl)
theorem w_91_32 : dx_W (tb_Z L xs) d 91 32 lv st σ Q ↔ wI (dx_lk lv 5) (fun y => dx_W (tb_Z L xs) d 91 34 lv (.int y :: st) σ Q) := r_iload (k := 5) (hz_91.trans rfl)
theorem w_91_34 {v0 v1 v2 : Value}  : dx_W (tb_Z L xs) d 91 34 lv (v2 :: v1 :: v0 :: st) σ Q ↔ (dx_ct st ≤ 8 ∧ dx_ci (tb_K L xs) σ v0 = some 8) ∧ dx_M (tb_Z L xs) d 87 [v0, v1, v2] σ (wK (tb_Z L xs) d 91 37 lv st Q) := c_callv (av := [v1, v2]) (hz_91.trans rfl)
theorem w_91_37 {x : Int64} : dx_W (tb_Z L xs) d 91 37 lv [.long x] σ Q ↔ Q (.inl (some (.long x))) σ := r_lreturn (hz_91.trans rfl) rfl
theorem hz_92 {pc : Nat} : (tb_Z L xs).1 92 pc = dx_at tb_m92 pc := rfl
theorem w_92_0 : dx_W (tb_Z L xs) d 92 0 lv st σ Q ↔ wR (dx_lk lv 0) (fun y => dx_W (tb_Z L xs) d 92 1 lv (y :: st) σ Q) := r_aload_n (k := 0) (hz_92.trans rfl)
theorem w_92_1 : dx_W (tb_Z L xs) d 92 1 lv st σ Q ↔ wJ (dx_lk lv 3) (fun y => dx_W (tb_Z L xs) d 92 2 lv (.long y :: st) σ Q) := r_lload_n (k := 3) (hz_92.trans rfl)
theorem w_92_2 : dx_W (tb_Z L xs) d 92 2 lv st σ Q ↔ dx_W (tb_Z L xs) d 92 4 lv (.int (-99) :: st) σ Q := r_bipush (n := (-99)) (hz_92.trans rfl)
theorem w_92_4 : dx_W (tb_Z L xs) d 92 4 lv st σ Q ↔ dx_W (tb_Z L xs) d 92 6 lv (.int 99 :: st) σ Q := r_bipush (n := 99) (hz_92.trans rfl)
theorem w_92_6 {v0 v1 v2 v3 : Value}  : dx_W (tb_Z L xs) d 92 6 lv (v3 :: v2 :: v1 :: v0 :: st) σ Q ↔ (dx_ct st ≤ 8 ∧ dx_ci (tb_K L xs) σ v0 = some 8) ∧ dx_M (tb_Z L xs) d 82 [v0, v1, v2, v3] σ (wK (tb_Z L xs) d 92 9 lv st Q) := c_callv (av := [v1, v2, v3]) (hz_92.trans rfl)
theorem w_92_9 {x : Int32} : dx_W (tb_Z L xs) d 92 9 lv (.int x :: st) σ Q ↔ dx_W (tb_Z L xs) d 92 11 (dx_s1 lv 5 (.int x)) st σ Q := r_istore (k := 5) (hz_92.trans rfl) (show 5 < tb_l 92 by decide)
theorem w_92_11 : dx_W (tb_Z L xs) d 92 11 lv st σ Q ↔ dx_W (tb_Z L xs) d 92 12 lv (.long 1 :: st) σ Q := r_lconst (n := 1) (hz_92.trans rfl)
theorem w_92_12 : dx_W (tb_Z L xs) d 92 12 lv st σ Q ↔ dx_W (tb_Z L xs) d 92 13 lv (.int 0 :: st) σ Q := r_iconst (n := 0) (hz_92.trans rfl)
theorem w_92_13 {v0 v1 : Value}  : dx_W (tb_Z L xs) d 92 13 lv (v1 :: v0 :: st) σ Q ↔ dx_ct st ≤ 8 ∧ dx_M (tb_Z L xs) d 81 [v0, v1] σ (wK (tb_Z L xs) d 92 16 lv st Q) := c_calls (av := [v0, v1]) (hz_92.trans rfl)
theorem w_92_16 {x : Int64} : dx_W (tb_Z L xs) d 92 16 lv (.long x :: st) σ Q ↔ dx_W (tb_Z L xs) d 92 18 (dx_s2 lv 6 (.long x)) st σ Q := r_lstore (k := 6) (hz_92.trans rfl) (show 6 + 1 < tb_l 92 by decide)
theorem w_92_18 : dx_W (tb_Z L xs) d 92 18 lv st σ Q ↔ dx_W (tb_Z L xs) d 92 19 lv (.int 0 :: st) σ Q := r_iconst (n := 0) (hz_92.trans rfl)
theorem w_92_19 {x : Int32} : dx_W (tb_Z L xs) d 92 19 lv (.int x :: st) σ Q ↔ dx_W (tb_Z L xs) d 92 21 (dx_s1 lv 8 (.int x)) st σ Q := r_istore (k := 8) (hz_92.trans rfl) (show 8 < tb_l 92 by decide)
theorem w_92_21 : dx_W (tb_Z L xs) d 92 21 lv st σ Q ↔ wI (dx_lk lv 8) (fun y => dx_W (tb_Z L xs) d 92 23 lv (.int y :: st) σ Q) := r_iload (k := 8) (hz_92.trans rfl)
theorem w_92_23 : dx_W (tb_Z L xs) d 92 23 lv st σ Q ↔ wI (dx_lk lv 5) (fun y => dx_W (tb_Z L xs) d 92 25 lv (.int y :: st) σ Q) := r_iload (k := 5) (hz_92.trans rfl)
theorem w_92_25 {v0 : Value}  : dx_W (tb_Z L xs) d 92 25 lv (v0 :: st) σ Q ↔ dx_ct st ≤ 8 ∧ dx_M (tb_Z L xs) d 147 [v0] σ (wK (tb_Z L xs) d 92 28 lv st Q) := c_calls (av := [v0]) (hz_92.trans rfl)
theorem w_92_28 {x y : Int32} : dx_W (tb_Z L xs) d 92 28 lv (.int y :: .int x :: st) σ Q ↔ (if y ≤ x then dx_W (tb_Z L xs) d 92 46 lv st σ Q else dx_W (tb_Z L xs) d 92 31 lv st σ Q) := r_ic_ge (off := 18) (t := 46) (hz_92.trans rfl) (by decide)
theorem w_92_31 : dx_W (tb_Z L xs) d 92 31 lv st σ Q ↔ wR (dx_lk lv 0) (fun y => dx_W (tb_Z L xs) d 92 32 lv (y :: st) σ Q) := r_aload_n (k := 0) (hz_92.trans rfl)
theorem w_92_32 : dx_W (tb_Z L xs) d 92 32 lv st σ Q ↔ wJ (dx_lk lv 6) (fun y => dx_W (tb_Z L xs) d 92 34 lv (.long y :: st) σ Q) := r_lload (k := 6) (hz_92.trans rfl)
theorem w_92_34 : dx_W (tb_Z L xs) d 92 34 lv st σ Q ↔ wJ (dx_lk lv 1) (fun y => dx_W (tb_Z L xs) d 92 35 lv (.long y :: st) σ Q) := r_lload_n (k := 1) (hz_92.trans rfl)
theorem w_92_35 {v0 v1 v2 : Value}  : dx_W (tb_Z L xs) d 92 35 lv (v2 :: v1 :: v0 :: st) σ Q ↔ (dx_ct st ≤ 8 ∧ dx_ci (tb_K L xs) σ v0 = some 8) ∧ dx_M (tb_Z L xs) d 88 [v0, v1, v2] σ (wK (tb_Z L xs) d 92 38 lv st Q) := c_callv (av := [v1, v2]) (hz_92.trans rfl)
theorem w_92_38 {x : Int64} : dx_W (tb_Z L xs) d 92 38 lv (.long x :: st) σ Q ↔ dx_W (tb_Z L xs) d 92 40 (dx_s2 lv 6 (.long x)) st σ Q := r_lstore (k := 6) (hz_92.trans rfl) (show 6 + 1 < tb_l 92 by decide)
theorem w_92_40 : dx_W (tb_Z L xs) d 92 40 lv st σ Q ↔ wI (dx_lk lv 8) (fun y => dx_W (tb_Z L xs) d 92 43 (dx_s1 lv 8 (.int (y + 1))) st σ Q) := r_iincv (k := 8) (n := 1) (hz_92.trans rfl) (show 8 < tb_l 92 by decide) (by decide)
theorem w_92_43 : dx_W (tb_Z L xs) d 92 43 lv st σ Q ↔ dx_W (tb_Z L xs) d 92 21 lv st σ Q := r_goto (off := (-22)) (t := 21) (hz_92.trans rfl) (by decide)
theorem w_92_46 : dx_W (tb_Z L xs) d 92 46 lv st σ Q ↔ wI (dx_lk lv 5) (fun y => dx_W (tb_Z L xs) d 92 48 lv (.int y :: st) σ Q) := r_iload (k := 5) (hz_92.trans rfl)
theorem w_92_48 {x : Int32} : dx_W (tb_Z L xs) d 92 48 lv (.int x :: st) σ Q ↔ (if 0 ≤ x then dx_W (tb_Z L xs) d 92 65 lv st σ Q else dx_W (tb_Z L xs) d 92 51 lv st σ Q) := r_if_ge (off := 17) (t := 65) (hz_92.trans rfl) (by decide)
theorem w_92_51 : dx_W (tb_Z L xs) d 92 51 lv st σ Q ↔ wR (dx_lk lv 0) (fun y => dx_W (tb_Z L xs) d 92 52 lv (y :: st) σ Q) := r_aload_n (k := 0) (hz_92.trans rfl)
theorem w_92_52 : dx_W (tb_Z L xs) d 92 52 lv st σ Q ↔ dx_W (tb_Z L xs) d 92 53 lv (.long 1 :: st) σ Q := r_lconst (n := 1) (hz_92.trans rfl)
theorem w_92_53 : dx_W (tb_Z L xs) d 92 53 lv st σ Q ↔ dx_W (tb_Z L xs) d 92 54 lv (.int 0 :: st) σ Q := r_iconst (n := 0) (hz_92.trans rfl)
theorem w_92_54 {v0 v1 : Value}  : dx_W (tb_Z L xs) d 92 54 lv (v1 :: v0 :: st) σ Q ↔ dx_ct st ≤ 8 ∧ dx_M (tb_Z L xs) d 81 [v0, v1] σ (wK (tb_Z L xs) d 92 57 lv st Q) := c_calls (av := [v0, v1]) (hz_92.trans rfl)
theorem w_92_57 : dx_W (tb_Z L xs) d 92 57 lv st σ Q ↔ wJ (dx_lk lv 6) (fun y => dx_W (tb_Z L xs) d 92 59 lv (.long y :: st) σ Q) := r_lload (k := 6) (hz_92.trans rfl)
theorem w_92_59 {v0 v1 v2 : Value}  : dx_W (tb_Z L xs) d 92 59 lv (v2 :: v1 :: v0 :: st) σ Q ↔ (dx_ct st ≤ 8 ∧ dx_ci (tb_K L xs) σ v0 = some 8) ∧ dx_M (tb_Z L xs) d 89 [v0, v1, v2] σ (wK (tb_Z L xs) d 92 62 lv st Q) := c_callv (av := [v1, v2]) (hz_92.trans rfl)
theorem w_92_62 : dx_W (tb_Z L xs) d 92 62 lv st σ Q ↔ dx_W (tb_Z L xs) d 92 67 lv st σ Q := r_goto (off := 5) (t := 67) (hz_92.trans rfl) (by decide)
theorem w_92_65 : dx_W (tb_Z L xs) d 92 65 lv st σ Q ↔ wJ (dx_lk lv 6) (fun y => dx_W (tb_Z L xs) d 92 67 lv (.long y :: st) σ Q) := r_lload (k := 6) (hz_92.trans rfl)
theorem w_92_67 {x : Int64} : dx_W (tb_Z L xs) d 92 67 lv [.long x] σ Q ↔ Q (.inl (some (.long x))) σ := r_lreturn (hz_92.trans rfl) rfl
theorem hz_93 {pc : Nat} : (tb_Z L xs).1 93 pc = dx_at tb_m93 pc := rfl
theorem w_93_0 : dx_W (tb_Z L xs) d 93 0 lv st σ Q ↔ wJ (dx_lk lv 1) (fun y => dx_W (tb_Z L xs) d 93 1 lv (.long y :: st) σ Q) := r_lload_n (k := 1) (hz_93.trans rfl)
theorem w_93_1 : dx_W (tb_Z L xs) d 93 1 lv st σ Q ↔ dx_W (tb_Z L xs) d 93 2 lv (.int 4 :: st) σ Q := r_iconst (n := 4) (hz_93.trans rfl)
theorem w_93_2 {v0 v1 : Value}  : dx_W (tb_Z L xs) d 93 2 lv (v1 :: v0 :: st) σ Q ↔ dx_ct st ≤ 8 ∧ dx_M (tb_Z L xs) d 86 [v0, v1] σ (wK (tb_Z L xs) d 93 5 lv st Q) := c_calls (av := [v0, v1]) (hz_93.trans rfl)
theorem w_93_5 : dx_W (tb_Z L xs) d 93 5 lv st σ Q ↔ wJ (dx_lk lv 3) (fun y => dx_W (tb_Z L xs) d 93 6 lv (.long y :: st) σ Q) := r_lload_n (k := 3) (hz_93.trans rfl)
theorem w_93_6 : dx_W (tb_Z L xs) d 93 6 lv st σ Q ↔ dx_W (tb_Z L xs) d 93 7 lv (.int 4 :: st) σ Q := r_iconst (n := 4) (hz_93.trans rfl)
theorem w_93_7 {v0 v1 : Value}  : dx_W (tb_Z L xs) d 93 7 lv (v1 :: v0 :: st) σ Q ↔ dx_ct st ≤ 8 ∧ dx_M (tb_Z L xs) d 86 [v0, v1] σ (wK (tb_Z L xs) d 93 10 lv st Q) := c_calls (av := [v0, v1]) (hz_93.trans rfl)
theorem w_93_10 {v0 v1 : Value}  : dx_W (tb_Z L xs) d 93 10 lv (v1 :: v0 :: st) σ Q ↔ dx_ct st ≤ 8 ∧ dx_M (tb_Z L xs) d 148 [v0, v1] σ (wK (tb_Z L xs) d 93 13 lv st Q) := c_calls (av := [v0, v1]) (hz_93.trans rfl)
theorem w_93_13 {x : Int32} : dx_W (tb_Z L xs) d 93 13 lv (.int x :: st) σ Q ↔ dx_W (tb_Z L xs) d 93 15 (dx_s1 lv 5 (.int x)) st σ Q := r_istore (k := 5) (hz_93.trans rfl) (show 5 < tb_l 93 by decide)
theorem w_93_15 : dx_W (tb_Z L xs) d 93 15 lv st σ Q ↔ wI (dx_lk lv 0) (fun y => dx_W (tb_Z L xs) d 93 16 lv (.int y :: st) σ Q) := r_iload_n (k := 0) (hz_93.trans rfl)
theorem w_93_16 {x : Int32} : dx_W (tb_Z L xs) d 93 16 lv (.int x :: st) σ Q ↔ (if x = 60 then dx_W (tb_Z L xs) d 93 68 lv st σ Q else if x = 62 then dx_W (tb_Z L xs) d 93 81 lv st σ Q else if x = 263 then dx_W (tb_Z L xs) d 93 94 lv st σ Q else if x = 264 then dx_W (tb_Z L xs) d 93 107 lv st σ Q else if x = 265 then dx_W (tb_Z L xs) d 93 120 lv st σ Q else dx_W (tb_Z L xs) d 93 133 lv st σ Q) := by
  by_cases h0 : x = 60
  · subst h0
    rw [if_pos rfl]
    exact r_sw (t := 68) (hz_93.trans rfl) rfl rfl
  rw [if_neg h0]
  by_cases h1 : x = 62
  · subst h1
    rw [if_pos rfl]
    exact r_sw (t := 81) (hz_93.trans rfl) rfl rfl
  rw [if_neg h1]
  by_cases h2 : x = 263
  · subst h2
    rw [if_pos rfl]
    exact r_sw (t := 94) (hz_93.trans rfl) rfl rfl
  rw [if_neg h2]
  by_cases h3 : x = 264
  · subst h3
    rw [if_pos rfl]
    exact r_sw (t := 107) (hz_93.trans rfl) rfl rfl
  rw [if_neg h3]
  by_cases h4 : x = 265
  · subst h4
    rw [if_pos rfl]
    exact r_sw (t := 120) (hz_93.trans rfl) rfl rfl
  rw [if_neg h4]
  refine r_look (t := 133) (hz_93.trans rfl) (by decide) ?_
  simp only [lv_osw h0 (show (60 : Int32).toInt = 60 from rfl), lv_osw h1 (show (62 : Int32).toInt = 62 from rfl), lv_osw h2 (show (263 : Int32).toInt = 263 from rfl), lv_osw h3 (show (264 : Int32).toInt = 264 from rfl), lv_osw h4 (show (265 : Int32).toInt = 265 from rfl)]
  rfl
theorem w_93_68 : dx_W (tb_Z L xs) d 93 68 lv st σ Q ↔ wI (dx_lk lv 5) (fun y => dx_W (tb_Z L xs) d 93 70 lv (.int y :: st) σ Q) := r_iload (k := 5) (hz_93.trans rfl)
theorem w_93_70 {x : Int32} : dx_W (tb_Z L xs) d 93 70 lv (.int x :: st) σ Q ↔ (if 0 ≤ x then dx_W (tb_Z L xs) d 93 77 lv st σ Q else dx_W (tb_Z L xs) d 93 73 lv st σ Q) := r_if_ge (off := 7) (t := 77) (hz_93.trans rfl) (by decide)
theorem w_93_73 : dx_W (tb_Z L xs) d 93 73 lv st σ Q ↔ dx_W (tb_Z L xs) d 93 74 lv (.int 1 :: st) σ Q := r_iconst (n := 1) (hz_93.trans rfl)
theorem w_93_74 : dx_W (tb_Z L xs) d 93 74 lv st σ Q ↔ dx_W (tb_Z L xs) d 93 143 lv st σ Q := r_goto (off := 69) (t := 143) (hz_93.trans rfl) (by decide)
theorem w_93_77 : dx_W (tb_Z L xs) d 93 77 lv st σ Q ↔ dx_W (tb_Z L xs) d 93 78 lv (.int 0 :: st) σ Q := r_iconst (n := 0) (hz_93.trans rfl)
theorem w_93_78 : dx_W (tb_Z L xs) d 93 78 lv st σ Q ↔ dx_W (tb_Z L xs) d 93 143 lv st σ Q := r_goto (off := 65) (t := 143) (hz_93.trans rfl) (by decide)
theorem w_93_81 : dx_W (tb_Z L xs) d 93 81 lv st σ Q ↔ wI (dx_lk lv 5) (fun y => dx_W (tb_Z L xs) d 93 83 lv (.int y :: st) σ Q) := r_iload (k := 5) (hz_93.trans rfl)
theorem w_93_83 {x : Int32} : dx_W (tb_Z L xs) d 93 83 lv (.int x :: st) σ Q ↔ (if x ≤ 0 then dx_W (tb_Z L xs) d 93 90 lv st σ Q else dx_W (tb_Z L xs) d 93 86 lv st σ Q) := r_if_le (off := 7) (t := 90) (hz_93.trans rfl) (by decide)
theorem w_93_86 : dx_W (tb_Z L xs) d 93 86 lv st σ Q ↔ dx_W (tb_Z L xs) d 93 87 lv (.int 1 :: st) σ Q := r_iconst (n := 1) (hz_93.trans rfl)
theorem w_93_87 : dx_W (tb_Z L xs) d 93 87 lv st σ Q ↔ dx_W (tb_Z L xs) d 93 143 lv st σ Q := r_goto (off := 56) (t := 143) (hz_93.trans rfl) (by decide)
theorem w_93_90 : dx_W (tb_Z L xs) d 93 90 lv st σ Q ↔ dx_W (tb_Z L xs) d 93 91 lv (.int 0 :: st) σ Q := r_iconst (n := 0) (hz_93.trans rfl)
theorem w_93_91 : dx_W (tb_Z L xs) d 93 91 lv st σ Q ↔ dx_W (tb_Z L xs) d 93 143 lv st σ Q := r_goto (off := 52) (t := 143) (hz_93.trans rfl) (by decide)
theorem w_93_94 : dx_W (tb_Z L xs) d 93 94 lv st σ Q ↔ wI (dx_lk lv 5) (fun y => dx_W (tb_Z L xs) d 93 96 lv (.int y :: st) σ Q) := r_iload (k := 5) (hz_93.trans rfl)
theorem w_93_96 {x : Int32} : dx_W (tb_Z L xs) d 93 96 lv (.int x :: st) σ Q ↔ (if 0 < x then dx_W (tb_Z L xs) d 93 103 lv st σ Q else dx_W (tb_Z L xs) d 93 99 lv st σ Q) := r_if_gt (off := 7) (t := 103) (hz_93.trans rfl) (by decide)
theorem w_93_99 : dx_W (tb_Z L xs) d 93 99 lv st σ Q ↔ dx_W (tb_Z L xs) d 93 100 lv (.int 1 :: st) σ Q := r_iconst (n := 1) (hz_93.trans rfl)
theorem w_93_100 : dx_W (tb_Z L xs) d 93 100 lv st σ Q ↔ dx_W (tb_Z L xs) d 93 143 lv st σ Q := r_goto (off := 43) (t := 143) (hz_93.trans rfl) (by decide)
theorem w_93_103 : dx_W (tb_Z L xs) d 93 103 lv st σ Q ↔ dx_W (tb_Z L xs) d 93 104 lv (.int 0 :: st) σ Q := r_iconst (n := 0) (hz_93.trans rfl)
theorem w_93_104 : dx_W (tb_Z L xs) d 93 104 lv st σ Q ↔ dx_W (tb_Z L xs) d 93 143 lv st σ Q := r_goto (off := 39) (t := 143) (hz_93.trans rfl) (by decide)
theorem w_93_107 : dx_W (tb_Z L xs) d 93 107 lv st σ Q ↔ wI (dx_lk lv 5) (fun y => dx_W (tb_Z L xs) d 93 109 lv (.int y :: st) σ Q) := r_iload (k := 5) (hz_93.trans rfl)
theorem w_93_109 {x : Int32} : dx_W (tb_Z L xs) d 93 109 lv (.int x :: st) σ Q ↔ (if x < 0 then dx_W (tb_Z L xs) d 93 116 lv st σ Q else dx_W (tb_Z L xs) d 93 112 lv st σ Q) := r_if_lt (off := 7) (t := 116) (hz_93.trans rfl) (by decide)
theorem w_93_112 : dx_W (tb_Z L xs) d 93 112 lv st σ Q ↔ dx_W (tb_Z L xs) d 93 113 lv (.int 1 :: st) σ Q := r_iconst (n := 1) (hz_93.trans rfl)
theorem w_93_113 : dx_W (tb_Z L xs) d 93 113 lv st σ Q ↔ dx_W (tb_Z L xs) d 93 143 lv st σ Q := r_goto (off := 30) (t := 143) (hz_93.trans rfl) (by decide)
theorem w_93_116 : dx_W (tb_Z L xs) d 93 116 lv st σ Q ↔ dx_W (tb_Z L xs) d 93 117 lv (.int 0 :: st) σ Q := r_iconst (n := 0) (hz_93.trans rfl)
theorem w_93_117 : dx_W (tb_Z L xs) d 93 117 lv st σ Q ↔ dx_W (tb_Z L xs) d 93 143 lv st σ Q := r_goto (off := 26) (t := 143) (hz_93.trans rfl) (by decide)
theorem w_93_120 : dx_W (tb_Z L xs) d 93 120 lv st σ Q ↔ wI (dx_lk lv 5) (fun y => dx_W (tb_Z L xs) d 93 122 lv (.int y :: st) σ Q) := r_iload (k := 5) (hz_93.trans rfl)
theorem w_93_122 {x : Int32} : dx_W (tb_Z L xs) d 93 122 lv (.int x :: st) σ Q ↔ (if ¬ x = 0 then dx_W (tb_Z L xs) d 93 129 lv st σ Q else dx_W (tb_Z L xs) d 93 125 lv st σ Q) := r_if_ne (off := 7) (t := 129) (hz_93.trans rfl) (by decide)
theorem w_93_125 : dx_W (tb_Z L xs) d 93 125 lv st σ Q ↔ dx_W (tb_Z L xs) d 93 126 lv (.int 1 :: st) σ Q := r_iconst (n := 1) (hz_93.trans rfl)
theorem w_93_126 : dx_W (tb_Z L xs) d 93 126 lv st σ Q ↔ dx_W (tb_Z L xs) d 93 143 lv st σ Q := r_goto (off := 17) (t := 143) (hz_93.trans rfl) (by decide)
theorem w_93_129 : dx_W (tb_Z L xs) d 93 129 lv st σ Q ↔ dx_W (tb_Z L xs) d 93 130 lv (.int 0 :: st) σ Q := r_iconst (n := 0) (hz_93.trans rfl)
theorem w_93_130 : dx_W (tb_Z L xs) d 93 130 lv st σ Q ↔ dx_W (tb_Z L xs) d 93 143 lv st σ Q := r_goto (off := 13) (t := 143) (hz_93.trans rfl) (by decide)
theorem w_93_133 : dx_W (tb_Z L xs) d 93 133 lv st σ Q ↔ wI (dx_lk lv 5) (fun y => dx_W (tb_Z L xs) d 93 135 lv (.int y :: st) σ Q) := r_iload (k := 5) (hz_93.trans rfl)
theorem w_93_135 {x : Int32} : dx_W (tb_Z L xs) d 93 135 lv (.int x :: st) σ Q ↔ (if x = 0 then dx_W (tb_Z L xs) d 93 142 lv st σ Q else dx_W (tb_Z L xs) d 93 138 lv st σ Q) := r_if_eq (off := 7) (t := 142) (hz_93.trans rfl) (by decide)
theorem w_93_138 : dx_W (tb_Z L xs) d 93 138 lv st σ Q ↔ dx_W (tb_Z L xs) d 93 139 lv (.int 1 :: st) σ Q := r_iconst (n := 1) (hz_93.trans rfl)
theorem w_93_139 : dx_W (tb_Z L xs) d 93 139 lv st σ Q ↔ dx_W (tb_Z L xs) d 93 143 lv st σ Q := r_goto (off := 4) (t := 143) (hz_93.trans rfl) (by decide)
theorem w_93_142 : dx_W (tb_Z L xs) d 93 142 lv st σ Q ↔ dx_W (tb_Z L xs) d 93 143 lv (.int 0 :: st) σ Q := r_iconst (n := 0) (hz_93.trans rfl)
theorem w_93_143 {x : Int32} : dx_W (tb_Z L xs) d 93 143 lv [.int x] σ Q ↔ narrow .boolean (.int x) = .int x ∧ Q (.inl (some (.int x))) σ := c_ireturn (hz_93.trans rfl) rfl
end W8
/-! Printed by program: the rules of every instruction of DecimalRun$Machine. -/
section W7
variable {L : Nat} {xs : Nat → Int32} {d : Nat} {lv : dx_L} {st : List Value} {σ : dx_S} {Q : dx_O → dx_S → Prop}
theorem hz_71 {pc : Nat} : (tb_Z L xs).1 71 pc = dx_at tb_m71 pc := rfl
theorem w_71_0 : dx_W (tb_Z L xs) d 71 0 lv st σ Q ↔ wR (dx_lk lv 0) (fun y => dx_W (tb_Z L xs) d 71 1 lv (y :: st) σ Q) := r_aload_n (k := 0) (hz_71.trans rfl)
theorem w_71_1 {w : Nat} : dx_W (tb_Z L xs) d 71 1 lv (.ref w :: st) σ Q ↔ dx_ct st ≤ 8 ∧ dx_W (tb_Z L xs) d 71 4 lv st σ Q := c_objinit (hz_71.trans rfl)
theorem w_71_4 : dx_W (tb_Z L xs) d 71 4 lv st σ Q ↔ wR (dx_lk lv 0) (fun y => dx_W (tb_Z L xs) d 71 5 lv (y :: st) σ Q) := r_aload_n (k := 0) (hz_71.trans rfl)
theorem w_71_5 : dx_W (tb_Z L xs) d 71 5 lv st σ Q ↔ dx_W (tb_Z L xs) d 71 8 lv (.int 140 :: st) σ Q := r_sipush (n := 140) (hz_71.trans rfl)
theorem w_71_8 {n : Int32} {y : dx_E} (hn : ¬ (n < 0 ∨ 1000000 < n.toNatClampNeg)) (hy : dx_na .long n.toNatClampNeg = some y) : dx_W (tb_Z L xs) d 71 8 lv (.int n :: st) σ Q ↔ dx_W (tb_Z L xs) d 71 10 lv (.ref σ.length :: st) (σ ++ [y]) Q := r_newarray (hz_71.trans rfl) hn hy
theorem w_71_10 {u w : Value} : dx_W (tb_Z L xs) d 71 10 lv (u :: w :: st) σ Q ↔ wO (dx_pf σ w 7 4 3 u) (fun σ1 => dx_W (tb_Z L xs) d 71 13 lv st σ1 Q) := r_putfield (f := 3) (hz_71.trans rfl)
theorem w_71_13 : dx_W (tb_Z L xs) d 71 13 lv st σ Q ↔ wR (dx_lk lv 0) (fun y => dx_W (tb_Z L xs) d 71 14 lv (y :: st) σ Q) := r_aload_n (k := 0) (hz_71.trans rfl)
theorem w_71_14 : dx_W (tb_Z L xs) d 71 14 lv st σ Q ↔ dx_W (tb_Z L xs) d 71 15 lv (.int 4 :: st) σ Q := r_iconst (n := 4) (hz_71.trans rfl)
theorem w_71_15 {n : Int32} {y : dx_E} (hn : ¬ (n < 0 ∨ 1000000 < n.toNatClampNeg)) (hy : dx_na .int n.toNatClampNeg = some y) : dx_W (tb_Z L xs) d 71 15 lv (.int n :: st) σ Q ↔ dx_W (tb_Z L xs) d 71 17 lv (.ref σ.length :: st) (σ ++ [y]) Q := r_newarray (hz_71.trans rfl) hn hy
theorem w_71_17 {u w : Value} : dx_W (tb_Z L xs) d 71 17 lv (u :: w :: st) σ Q ↔ wO (dx_pf σ w 7 7 3 u) (fun σ1 => dx_W (tb_Z L xs) d 71 20 lv st σ1 Q) := r_putfield (f := 3) (hz_71.trans rfl)
theorem w_71_20 : dx_W (tb_Z L xs) d 71 20 lv st σ Q ↔ wR (dx_lk lv 0) (fun y => dx_W (tb_Z L xs) d 71 21 lv (y :: st) σ Q) := r_aload_n (k := 0) (hz_71.trans rfl)
theorem w_71_21 : dx_W (tb_Z L xs) d 71 21 lv st σ Q ↔ dx_W (tb_Z L xs) d 71 22 lv (.int 4 :: st) σ Q := r_iconst (n := 4) (hz_71.trans rfl)
theorem w_71_22 {n : Int32} {y : dx_E} (hn : ¬ (n < 0 ∨ 1000000 < n.toNatClampNeg)) (hy : dx_na .int n.toNatClampNeg = some y) : dx_W (tb_Z L xs) d 71 22 lv (.int n :: st) σ Q ↔ dx_W (tb_Z L xs) d 71 24 lv (.ref σ.length :: st) (σ ++ [y]) Q := r_newarray (hz_71.trans rfl) hn hy
theorem w_71_24 {u w : Value} : dx_W (tb_Z L xs) d 71 24 lv (u :: w :: st) σ Q ↔ wO (dx_pf σ w 7 8 3 u) (fun σ1 => dx_W (tb_Z L xs) d 71 27 lv st σ1 Q) := r_putfield (f := 3) (hz_71.trans rfl)
theorem w_71_27 : dx_W (tb_Z L xs) d 71 27 lv st σ Q ↔ wR (dx_lk lv 0) (fun y => dx_W (tb_Z L xs) d 71 28 lv (y :: st) σ Q) := r_aload_n (k := 0) (hz_71.trans rfl)
theorem w_71_28 : dx_W (tb_Z L xs) d 71 28 lv st σ Q ↔ dx_W (tb_Z L xs) d 71 29 lv (.int 4 :: st) σ Q := r_iconst (n := 4) (hz_71.trans rfl)
theorem w_71_29 {n : Int32} {y : dx_E} (hn : ¬ (n < 0 ∨ 1000000 < n.toNatClampNeg)) (hy : dx_na .long n.toNatClampNeg = some y) : dx_W (tb_Z L xs) d 71 29 lv (.int n :: st) σ Q ↔ dx_W (tb_Z L xs) d 71 31 lv (.ref σ.length :: st) (σ ++ [y]) Q := r_newarray (hz_71.trans rfl) hn hy
theorem w_71_31 {u w : Value} : dx_W (tb_Z L xs) d 71 31 lv (u :: w :: st) σ Q ↔ wO (dx_pf σ w 7 9 3 u) (fun σ1 => dx_W (tb_Z L xs) d 71 34 lv st σ1 Q) := r_putfield (f := 3) (hz_71.trans rfl)
theorem w_71_34 : dx_W (tb_Z L xs) d 71 34 lv st σ Q ↔ wR (dx_lk lv 0) (fun y => dx_W (tb_Z L xs) d 71 35 lv (y :: st) σ Q) := r_aload_n (k := 0) (hz_71.trans rfl)
theorem w_71_35 : dx_W (tb_Z L xs) d 71 35 lv st σ Q ↔ wR (dx_lk lv 1) (fun y => dx_W (tb_Z L xs) d 71 36 lv (y :: st) σ Q) := r_aload_n (k := 1) (hz_71.trans rfl)
theorem w_71_36 {u w : Value} : dx_W (tb_Z L xs) d 71 36 lv (u :: w :: st) σ Q ↔ wO (dx_pf σ w 7 0 3 u) (fun σ1 => dx_W (tb_Z L xs) d 71 39 lv st σ1 Q) := r_putfield (f := 3) (hz_71.trans rfl)
theorem w_71_39 : dx_W (tb_Z L xs) d 71 39 lv st σ Q ↔ wR (dx_lk lv 0) (fun y => dx_W (tb_Z L xs) d 71 40 lv (y :: st) σ Q) := r_aload_n (k := 0) (hz_71.trans rfl)
theorem w_71_40 : dx_W (tb_Z L xs) d 71 40 lv st σ Q ↔ wR (dx_lk lv 2) (fun y => dx_W (tb_Z L xs) d 71 41 lv (y :: st) σ Q) := r_aload_n (k := 2) (hz_71.trans rfl)
theorem w_71_41 {u w : Value} : dx_W (tb_Z L xs) d 71 41 lv (u :: w :: st) σ Q ↔ wO (dx_pf σ w 7 1 3 u) (fun σ1 => dx_W (tb_Z L xs) d 71 44 lv st σ1 Q) := r_putfield (f := 3) (hz_71.trans rfl)
theorem w_71_44 : dx_W (tb_Z L xs) d 71 44 lv st σ Q ↔ wR (dx_lk lv 0) (fun y => dx_W (tb_Z L xs) d 71 45 lv (y :: st) σ Q) := r_aload_n (k := 0) (hz_71.trans rfl)
theorem w_71_45 : dx_W (tb_Z L xs) d 71 45 lv st σ Q ↔ wR (dx_lk lv 3) (fun y => dx_W (tb_Z L xs) d 71 46 lv (y :: st) σ Q) := r_aload_n (k := 3) (hz_71.trans rfl)
theorem w_71_46 {u w : Value} : dx_W (tb_Z L xs) d 71 46 lv (u :: w :: st) σ Q ↔ wO (dx_pf σ w 7 2 3 u) (fun σ1 => dx_W (tb_Z L xs) d 71 49 lv st σ1 Q) := r_putfield (f := 3) (hz_71.trans rfl)
theorem w_71_49 : dx_W (tb_Z L xs) d 71 49 lv st σ Q ↔ wR (dx_lk lv 0) (fun y => dx_W (tb_Z L xs) d 71 50 lv (y :: st) σ Q) := r_aload_n (k := 0) (hz_71.trans rfl)
theorem w_71_50 : dx_W (tb_Z L xs) d 71 50 lv st σ Q ↔ dx_W (tb_Z L xs) d 71 53 lv (.ref σ.length :: st) (σ ++ [.inr (8, tb_d 8)]) Q := r_new (hz_71.trans rfl)
theorem w_71_53_int {x : Int32} : dx_W (tb_Z L xs) d 71 53 lv (.int x :: st) σ Q ↔ dx_W (tb_Z L xs) d 71 54 lv (.int x :: .int x :: st) σ Q := r_dup_int (hz_71.trans rfl)
theorem w_71_53_ref {x : Nat} : dx_W (tb_Z L xs) d 71 53 lv (.ref x :: st) σ Q ↔ dx_W (tb_Z L xs) d 71 54 lv (.ref x :: .ref x :: st) σ Q := r_dup_ref (hz_71.trans rfl)
theorem w_71_53_retAddr {x : Nat} : dx_W (tb_Z L xs) d 71 53 lv (.retAddr x :: st) σ Q ↔ dx_W (tb_Z L xs) d 71 54 lv (.retAddr x :: .retAddr x :: st) σ Q := r_dup_retAddr (hz_71.trans rfl)
theorem w_71_54 : dx_W (tb_Z L xs) d 71 54 lv st σ Q ↔ wR (dx_lk lv 2) (fun y => dx_W (tb_Z L xs) d 71 55 lv (y :: st) σ Q) := r_aload_n (k := 2) (hz_71.trans rfl)
theorem w_71_55 : dx_W (tb_Z L xs) d 71 55 lv st σ Q ↔ wR (dx_lk lv 3) (fun y => dx_W (tb_Z L xs) d 71 56 lv (y :: st) σ Q) := r_aload_n (k := 3) (hz_71.trans rfl)
theorem w_71_56 {w : Nat} {v1 v2 : Value}  : dx_W (tb_Z L xs) d 71 56 lv (v2 :: v1 :: .ref w :: st) σ Q ↔ dx_ct st ≤ 8 ∧ dx_M (tb_Z L xs) d 78 [.ref w, v1, v2] σ (wK (tb_Z L xs) d 71 59 lv st Q) := c_calli (av := [v1, v2]) (hz_71.trans rfl)
theorem w_71_59 {u w : Value} : dx_W (tb_Z L xs) d 71 59 lv (u :: w :: st) σ Q ↔ wO (dx_pf σ w 7 3 3 u) (fun σ1 => dx_W (tb_Z L xs) d 71 62 lv st σ1 Q) := r_putfield (f := 3) (hz_71.trans rfl)
theorem w_71_62 : dx_W (tb_Z L xs) d 71 62 lv [] σ Q ↔ Q (.inl none) σ := r_return (hz_71.trans rfl) rfl
theorem hz_72 {pc : Nat} : (tb_Z L xs).1 72 pc = dx_at tb_m72 pc := rfl
theorem w_72_0 : dx_W (tb_Z L xs) d 72 0 lv st σ Q ↔ wR (dx_lk lv 0) (fun y => dx_W (tb_Z L xs) d 72 1 lv (y :: st) σ Q) := r_aload_n (k := 0) (hz_72.trans rfl)
theorem w_72_1 : dx_W (tb_Z L xs) d 72 1 lv st σ Q ↔ dx_W (tb_Z L xs) d 72 2 lv (.int 0 :: st) σ Q := r_iconst (n := 0) (hz_72.trans rfl)
theorem w_72_2 {u w : Value} : dx_W (tb_Z L xs) d 72 2 lv (u :: w :: st) σ Q ↔ wO (dx_pf σ w 7 5 0 u) (fun σ1 => dx_W (tb_Z L xs) d 72 5 lv st σ1 Q) := r_putfield (f := 0) (hz_72.trans rfl)
theorem w_72_5 : dx_W (tb_Z L xs) d 72 5 lv st σ Q ↔ wR (dx_lk lv 0) (fun y => dx_W (tb_Z L xs) d 72 6 lv (y :: st) σ Q) := r_aload_n (k := 0) (hz_72.trans rfl)
theorem w_72_6 : dx_W (tb_Z L xs) d 72 6 lv st σ Q ↔ dx_W (tb_Z L xs) d 72 7 lv (.int 0 :: st) σ Q := r_iconst (n := 0) (hz_72.trans rfl)
theorem w_72_7 {u w : Value} : dx_W (tb_Z L xs) d 72 7 lv (u :: w :: st) σ Q ↔ wO (dx_pf σ w 7 6 0 u) (fun σ1 => dx_W (tb_Z L xs) d 72 10 lv st σ1 Q) := r_putfield (f := 0) (hz_72.trans rfl)
theorem w_72_10 : dx_W (tb_Z L xs) d 72 10 lv st σ Q ↔ wR (dx_lk lv 0) (fun y => dx_W (tb_Z L xs) d 72 11 lv (y :: st) σ Q) := r_aload_n (k := 0) (hz_72.trans rfl)
theorem w_72_11 : dx_W (tb_Z L xs) d 72 11 lv st σ Q ↔ dx_W (tb_Z L xs) d 72 12 lv (.int 0 :: st) σ Q := r_iconst (n := 0) (hz_72.trans rfl)
theorem w_72_12 {u w : Value} : dx_W (tb_Z L xs) d 72 12 lv (u :: w :: st) σ Q ↔ wO (dx_pf σ w 7 10 0 u) (fun σ1 => dx_W (tb_Z L xs) d 72 15 lv st σ1 Q) := r_putfield (f := 0) (hz_72.trans rfl)
theorem w_72_15 : dx_W (tb_Z L xs) d 72 15 lv st σ Q ↔ dx_W (tb_Z L xs) d 72 16 lv (.int 0 :: st) σ Q := r_iconst (n := 0) (hz_72.trans rfl)
theorem w_72_16 {x : Int32} : dx_W (tb_Z L xs) d 72 16 lv (.int x :: st) σ Q ↔ dx_W (tb_Z L xs) d 72 17 (dx_s1 lv 1 (.int x)) st σ Q := r_istore_n (k := 1) (hz_72.trans rfl) (show 1 < tb_l 72 by decide)
theorem w_72_17 : dx_W (tb_Z L xs) d 72 17 lv st σ Q ↔ wI (dx_lk lv 1) (fun y => dx_W (tb_Z L xs) d 72 18 lv (.int y :: st) σ Q) := r_iload_n (k := 1) (hz_72.trans rfl)
theorem w_72_18 : dx_W (tb_Z L xs) d 72 18 lv st σ Q ↔ dx_W (tb_Z L xs) d 72 20 lv (.int 3603600 :: st) σ Q := r_ldc (hz_72.trans rfl)
theorem w_72_20 {x y : Int32} : dx_W (tb_Z L xs) d 72 20 lv (.int y :: .int x :: st) σ Q ↔ (if y ≤ x then dx_W (tb_Z L xs) d 72 80 lv st σ Q else dx_W (tb_Z L xs) d 72 23 lv st σ Q) := r_ic_ge (off := 60) (t := 80) (hz_72.trans rfl) (by decide)
theorem w_72_23 : dx_W (tb_Z L xs) d 72 23 lv st σ Q ↔ wR (dx_lk lv 0) (fun y => dx_W (tb_Z L xs) d 72 24 lv (y :: st) σ Q) := r_aload_n (k := 0) (hz_72.trans rfl)
theorem w_72_24 {w : Value} : dx_W (tb_Z L xs) d 72 24 lv (w :: st) σ Q ↔ wO (dx_gf (tb_K L xs) σ w 7 6) (fun y => dx_W (tb_Z L xs) d 72 27 lv (y :: st) σ Q) := r_getfield (hz_72.trans rfl)
theorem w_72_27 : dx_W (tb_Z L xs) d 72 27 lv st σ Q ↔ wR (dx_lk lv 0) (fun y => dx_W (tb_Z L xs) d 72 28 lv (y :: st) σ Q) := r_aload_n (k := 0) (hz_72.trans rfl)
theorem w_72_28 {w : Value} : dx_W (tb_Z L xs) d 72 28 lv (w :: st) σ Q ↔ wO (dx_gf (tb_K L xs) σ w 7 0) (fun y => dx_W (tb_Z L xs) d 72 31 lv (y :: st) σ Q) := r_getfield (hz_72.trans rfl)
theorem w_72_31 {w : Value} : dx_W (tb_Z L xs) d 72 31 lv (w :: st) σ Q ↔ wO (dx_gf (tb_K L xs) σ w 4 4) (fun y => dx_W (tb_Z L xs) d 72 34 lv (y :: st) σ Q) := r_getfield (hz_72.trans rfl)
theorem w_72_34 {x y : Int32} : dx_W (tb_Z L xs) d 72 34 lv (.int y :: .int x :: st) σ Q ↔ (if y ≤ x then dx_W (tb_Z L xs) d 72 80 lv st σ Q else dx_W (tb_Z L xs) d 72 37 lv st σ Q) := r_ic_ge (off := 46) (t := 80) (hz_72.trans rfl) (by decide)
theorem w_72_37 : dx_W (tb_Z L xs) d 72 37 lv st σ Q ↔ wR (dx_lk lv 0) (fun y => dx_W (tb_Z L xs) d 72 38 lv (y :: st) σ Q) := r_aload_n (k := 0) (hz_72.trans rfl)
theorem w_72_38 {w : Value} : dx_W (tb_Z L xs) d 72 38 lv (w :: st) σ Q ↔ wO (dx_gf (tb_K L xs) σ w 7 6) (fun y => dx_W (tb_Z L xs) d 72 41 lv (y :: st) σ Q) := r_getfield (hz_72.trans rfl)
theorem w_72_41 {x : Int32} : dx_W (tb_Z L xs) d 72 41 lv (.int x :: st) σ Q ↔ dx_W (tb_Z L xs) d 72 42 (dx_s1 lv 2 (.int x)) st σ Q := r_istore_n (k := 2) (hz_72.trans rfl) (show 2 < tb_l 72 by decide)
theorem w_72_42 : dx_W (tb_Z L xs) d 72 42 lv st σ Q ↔ wR (dx_lk lv 0) (fun y => dx_W (tb_Z L xs) d 72 43 lv (y :: st) σ Q) := r_aload_n (k := 0) (hz_72.trans rfl)
theorem w_72_43_int {x : Int32} : dx_W (tb_Z L xs) d 72 43 lv (.int x :: st) σ Q ↔ dx_W (tb_Z L xs) d 72 44 lv (.int x :: .int x :: st) σ Q := r_dup_int (hz_72.trans rfl)
theorem w_72_43_ref {x : Nat} : dx_W (tb_Z L xs) d 72 43 lv (.ref x :: st) σ Q ↔ dx_W (tb_Z L xs) d 72 44 lv (.ref x :: .ref x :: st) σ Q := r_dup_ref (hz_72.trans rfl)
theorem w_72_43_retAddr {x : Nat} : dx_W (tb_Z L xs) d 72 43 lv (.retAddr x :: st) σ Q ↔ dx_W (tb_Z L xs) d 72 44 lv (.retAddr x :: .retAddr x :: st) σ Q := r_dup_retAddr (hz_72.trans rfl)
theorem w_72_44 {w : Value} : dx_W (tb_Z L xs) d 72 44 lv (w :: st) σ Q ↔ wO (dx_gf (tb_K L xs) σ w 7 6) (fun y => dx_W (tb_Z L xs) d 72 47 lv (y :: st) σ Q) := r_getfield (hz_72.trans rfl)
theorem w_72_47 : dx_W (tb_Z L xs) d 72 47 lv st σ Q ↔ dx_W (tb_Z L xs) d 72 48 lv (.int 1 :: st) σ Q := r_iconst (n := 1) (hz_72.trans rfl)
theorem w_72_48 {x y : Int32} : dx_W (tb_Z L xs) d 72 48 lv (.int y :: .int x :: st) σ Q ↔ dx_W (tb_Z L xs) d 72 49 lv (.int (x + y) :: st) σ Q := r_iadd (hz_72.trans rfl)
theorem w_72_49 {u w : Value} : dx_W (tb_Z L xs) d 72 49 lv (u :: w :: st) σ Q ↔ wO (dx_pf σ w 7 6 0 u) (fun σ1 => dx_W (tb_Z L xs) d 72 52 lv st σ1 Q) := r_putfield (f := 0) (hz_72.trans rfl)
theorem w_72_52 : dx_W (tb_Z L xs) d 72 52 lv st σ Q ↔ wR (dx_lk lv 0) (fun y => dx_W (tb_Z L xs) d 72 53 lv (y :: st) σ Q) := r_aload_n (k := 0) (hz_72.trans rfl)
theorem w_72_53 : dx_W (tb_Z L xs) d 72 53 lv st σ Q ↔ wR (dx_lk lv 0) (fun y => dx_W (tb_Z L xs) d 72 54 lv (y :: st) σ Q) := r_aload_n (k := 0) (hz_72.trans rfl)
theorem w_72_54 {w : Value} : dx_W (tb_Z L xs) d 72 54 lv (w :: st) σ Q ↔ wO (dx_gf (tb_K L xs) σ w 7 0) (fun y => dx_W (tb_Z L xs) d 72 57 lv (y :: st) σ Q) := r_getfield (hz_72.trans rfl)
theorem w_72_57 {w : Value} : dx_W (tb_Z L xs) d 72 57 lv (w :: st) σ Q ↔ wO (dx_gf (tb_K L xs) σ w 4 0) (fun y => dx_W (tb_Z L xs) d 72 60 lv (y :: st) σ Q) := r_getfield (hz_72.trans rfl)
theorem w_72_60 : dx_W (tb_Z L xs) d 72 60 lv st σ Q ↔ wI (dx_lk lv 2) (fun y => dx_W (tb_Z L xs) d 72 61 lv (.int y :: st) σ Q) := r_iload_n (k := 2) (hz_72.trans rfl)
theorem w_72_61 {w : Value} {y : Int32} : dx_W (tb_Z L xs) d 72 61 lv (.int y :: w :: st) σ Q ↔ wO (dx_ei (tb_K L xs) σ 0 w y) (fun u => dx_W (tb_Z L xs) d 72 62 lv (.int u :: st) σ Q) := r_iaload (hz_72.trans rfl)
theorem w_72_62 : dx_W (tb_Z L xs) d 72 62 lv st σ Q ↔ wR (dx_lk lv 0) (fun y => dx_W (tb_Z L xs) d 72 63 lv (y :: st) σ Q) := r_aload_n (k := 0) (hz_72.trans rfl)
theorem w_72_63 {w : Value} : dx_W (tb_Z L xs) d 72 63 lv (w :: st) σ Q ↔ wO (dx_gf (tb_K L xs) σ w 7 0) (fun y => dx_W (tb_Z L xs) d 72 66 lv (y :: st) σ Q) := r_getfield (hz_72.trans rfl)
theorem w_72_66 {w : Value} : dx_W (tb_Z L xs) d 72 66 lv (w :: st) σ Q ↔ wO (dx_gf (tb_K L xs) σ w 4 1) (fun y => dx_W (tb_Z L xs) d 72 69 lv (y :: st) σ Q) := r_getfield (hz_72.trans rfl)
theorem w_72_69 : dx_W (tb_Z L xs) d 72 69 lv st σ Q ↔ wI (dx_lk lv 2) (fun y => dx_W (tb_Z L xs) d 72 70 lv (.int y :: st) σ Q) := r_iload_n (k := 2) (hz_72.trans rfl)
theorem w_72_70 {w : Value} {y : Int32} : dx_W (tb_Z L xs) d 72 70 lv (.int y :: w :: st) σ Q ↔ wO (dx_el (tb_K L xs) σ w y) (fun u => dx_W (tb_Z L xs) d 72 71 lv (.long u :: st) σ Q) := r_laload (hz_72.trans rfl)
theorem w_72_71 {v0 v1 v2 : Value}  : dx_W (tb_Z L xs) d 72 71 lv (v2 :: v1 :: v0 :: st) σ Q ↔ (dx_ct st ≤ 8 ∧ dx_ci (tb_K L xs) σ v0 = some 7) ∧ dx_M (tb_Z L xs) d 73 [v0, v1, v2] σ (wK (tb_Z L xs) d 72 74 lv st Q) := c_callv (av := [v1, v2]) (hz_72.trans rfl)
theorem w_72_74 : dx_W (tb_Z L xs) d 72 74 lv st σ Q ↔ wI (dx_lk lv 1) (fun y => dx_W (tb_Z L xs) d 72 77 (dx_s1 lv 1 (.int (y + 1))) st σ Q) := r_iincv (k := 1) (n := 1) (hz_72.trans rfl) (show 1 < tb_l 72 by decide) (by decide)
theorem w_72_77 : dx_W (tb_Z L xs) d 72 77 lv st σ Q ↔ dx_W (tb_Z L xs) d 72 17 lv st σ Q := r_goto (off := (-60)) (t := 17) (hz_72.trans rfl) (by decide)
theorem w_72_80 : dx_W (tb_Z L xs) d 72 80 lv [] σ Q ↔ Q (.inl none) σ := r_return (hz_72.trans rfl) rfl
theorem hz_73 {pc : Nat} : (tb_Z L xs).1 73 pc = dx_at tb_m73 pc := rfl
theorem w_73_0 : dx_W (tb_Z L xs) d 73 0 lv st σ Q ↔ wI (dx_lk lv 1) (fun y => dx_W (tb_Z L xs) d 73 1 lv (.int y :: st) σ Q) := r_iload_n (k := 1) (hz_73.trans rfl)
theorem w_73_1 {x : Int32} : dx_W (tb_Z L xs) d 73 1 lv (.int x :: st) σ Q ↔ (if x = 300 then dx_W (tb_Z L xs) d 73 64 lv st σ Q else if x = 301 then dx_W (tb_Z L xs) d 73 74 lv st σ Q else if x = 302 then dx_W (tb_Z L xs) d 73 82 lv st σ Q else if x = 303 then dx_W (tb_Z L xs) d 73 99 lv st σ Q else if x = 304 then dx_W (tb_Z L xs) d 73 116 lv st σ Q else if x = 305 then dx_W (tb_Z L xs) d 73 135 lv st σ Q else if x = 306 then dx_W (tb_Z L xs) d 73 158 lv st σ Q else if x = 307 then dx_W (tb_Z L xs) d 73 172 lv st σ Q else if x = 308 then dx_W (tb_Z L xs) d 73 186 lv st σ Q else if x = 309 then dx_W (tb_Z L xs) d 73 195 lv st σ Q else if x = 310 then dx_W (tb_Z L xs) d 73 202 lv st σ Q else if x = 311 then dx_W (tb_Z L xs) d 73 211 lv st σ Q else dx_W (tb_Z L xs) d 73 236 lv st σ Q) := by
  by_cases h0 : x = 300
  · subst h0
    rw [if_pos rfl]
    exact r_sw (t := 64) (hz_73.trans rfl) rfl rfl
  rw [if_neg h0]
  by_cases h1 : x = 301
  · subst h1
    rw [if_pos rfl]
    exact r_sw (t := 74) (hz_73.trans rfl) rfl rfl
  rw [if_neg h1]
  by_cases h2 : x = 302
  · subst h2
    rw [if_pos rfl]
    exact r_sw (t := 82) (hz_73.trans rfl) rfl rfl
  rw [if_neg h2]
  by_cases h3 : x = 303
  · subst h3
    rw [if_pos rfl]
    exact r_sw (t := 99) (hz_73.trans rfl) rfl rfl
  rw [if_neg h3]
  by_cases h4 : x = 304
  · subst h4
    rw [if_pos rfl]
    exact r_sw (t := 116) (hz_73.trans rfl) rfl rfl
  rw [if_neg h4]
  by_cases h5 : x = 305
  · subst h5
    rw [if_pos rfl]
    exact r_sw (t := 135) (hz_73.trans rfl) rfl rfl
  rw [if_neg h5]
  by_cases h6 : x = 306
  · subst h6
    rw [if_pos rfl]
    exact r_sw (t := 158) (hz_73.trans rfl) rfl rfl
  rw [if_neg h6]
  by_cases h7 : x = 307
  · subst h7
    rw [if_pos rfl]
    exact r_sw (t := 172) (hz_73.trans rfl) rfl rfl
  rw [if_neg h7]
  by_cases h8 : x = 308
  · subst h8
    rw [if_pos rfl]
    exact r_sw (t := 186) (hz_73.trans rfl) rfl rfl
  rw [if_neg h8]
  by_cases h9 : x = 309
  · subst h9
    rw [if_pos rfl]
    exact r_sw (t := 195) (hz_73.trans rfl) rfl rfl
  rw [if_neg h9]
  by_cases h10 : x = 310
  · subst h10
    rw [if_pos rfl]
    exact r_sw (t := 202) (hz_73.trans rfl) rfl rfl
  rw [if_neg h10]
  by_cases h11 : x = 311
  · subst h11
    rw [if_pos rfl]
    exact r_sw (t := 211) (hz_73.trans rfl) rfl rfl
  rw [if_neg h11]
  refine r_table (t := 236) (hz_73.trans rfl) (by decide) ?_ (by decide)
  have g0 := lv_neT h0 (show (300 : Int32).toInt = 300 from rfl)
  have g1 := lv_neT h1 (show (301 : Int32).toInt = 301 from rfl)
  have g2 := lv_neT h2 (show (302 : Int32).toInt = 302 from rfl)
  have g3 := lv_neT h3 (show (303 : Int32).toInt = 303 from rfl)
  have g4 := lv_neT h4 (show (304 : Int32).toInt = 304 from rfl)
  have g5 := lv_neT h5 (show (305 : Int32).toInt = 305 from rfl)
  have g6 := lv_neT h6 (show (306 : Int32).toInt = 306 from rfl)
  have g7 := lv_neT h7 (show (307 : Int32).toInt = 307 from rfl)
  have g8 := lv_neT h8 (show (308 : Int32).toInt = 308 from rfl)
  have g9 := lv_neT h9 (show (309 : Int32).toInt = 309 from rfl)
  have g10 := lv_neT h10 (show (310 : Int32).toInt = 310 from rfl)
  have g11 := lv_neT h11 (show (311 : Int32).toInt = 311 from rfl)
  omega
theorem w_73_64 : dx_W (tb_Z L xs) d 73 64 lv st σ Q ↔ wR (dx_lk lv 0) (fun y => dx_W (tb_Z L xs) d 73 65 lv (y :: st) σ Q) := r_aload_n (k := 0) (hz_73.trans rfl)
theorem w_73_65 {w : Value} : dx_W (tb_Z L xs) d 73 65 lv (w :: st) σ Q ↔ wO (dx_gf (tb_K L xs) σ w 7 2) (fun y => dx_W (tb_Z L xs) d 73 68 lv (y :: st) σ Q) := r_getfield (hz_73.trans rfl)
theorem w_73_68 {v0 : Value}  : dx_W (tb_Z L xs) d 73 68 lv (v0 :: st) σ Q ↔ (dx_ct st ≤ 8 ∧ dx_ci (tb_K L xs) σ v0 = some 3) ∧ dx_M (tb_Z L xs) d 23 [v0] σ (wK (tb_Z L xs) d 73 71 lv st Q) := c_callv (av := []) (hz_73.trans rfl)
theorem w_73_71 : dx_W (tb_Z L xs) d 73 71 lv st σ Q ↔ dx_W (tb_Z L xs) d 73 264 lv st σ Q := r_goto (off := 193) (t := 264) (hz_73.trans rfl) (by decide)
theorem w_73_74 : dx_W (tb_Z L xs) d 73 74 lv st σ Q ↔ wR (dx_lk lv 0) (fun y => dx_W (tb_Z L xs) d 73 75 lv (y :: st) σ Q) := r_aload_n (k := 0) (hz_73.trans rfl)
theorem w_73_75 : dx_W (tb_Z L xs) d 73 75 lv st σ Q ↔ wJ (dx_lk lv 2) (fun y => dx_W (tb_Z L xs) d 73 76 lv (.long y :: st) σ Q) := r_lload_n (k := 2) (hz_73.trans rfl)
theorem w_73_76 {v0 v1 : Value}  : dx_W (tb_Z L xs) d 73 76 lv (v1 :: v0 :: st) σ Q ↔ (dx_ct st ≤ 8 ∧ dx_ci (tb_K L xs) σ v0 = some 7) ∧ dx_M (tb_Z L xs) d 74 [v0, v1] σ (wK (tb_Z L xs) d 73 79 lv st Q) := c_callv (av := [v1]) (hz_73.trans rfl)
theorem w_73_79 : dx_W (tb_Z L xs) d 73 79 lv st σ Q ↔ dx_W (tb_Z L xs) d 73 264 lv st σ Q := r_goto (off := 185) (t := 264) (hz_73.trans rfl) (by decide)
theorem w_73_82 : dx_W (tb_Z L xs) d 73 82 lv st σ Q ↔ wR (dx_lk lv 0) (fun y => dx_W (tb_Z L xs) d 73 83 lv (y :: st) σ Q) := r_aload_n (k := 0) (hz_73.trans rfl)
theorem w_73_83 : dx_W (tb_Z L xs) d 73 83 lv st σ Q ↔ wR (dx_lk lv 0) (fun y => dx_W (tb_Z L xs) d 73 84 lv (y :: st) σ Q) := r_aload_n (k := 0) (hz_73.trans rfl)
theorem w_73_84 {w : Value} : dx_W (tb_Z L xs) d 73 84 lv (w :: st) σ Q ↔ wO (dx_gf (tb_K L xs) σ w 7 1) (fun y => dx_W (tb_Z L xs) d 73 87 lv (y :: st) σ Q) := r_getfield (hz_73.trans rfl)
theorem w_73_87 {w : Value} : dx_W (tb_Z L xs) d 73 87 lv (w :: st) σ Q ↔ wO (dx_gf (tb_K L xs) σ w 2 0) (fun y => dx_W (tb_Z L xs) d 73 90 lv (y :: st) σ Q) := r_getfield (hz_73.trans rfl)
theorem w_73_90 : dx_W (tb_Z L xs) d 73 90 lv st σ Q ↔ wJ (dx_lk lv 2) (fun y => dx_W (tb_Z L xs) d 73 91 lv (.long y :: st) σ Q) := r_lload_n (k := 2) (hz_73.trans rfl)
theorem w_73_91 {x : Int64} : dx_W (tb_Z L xs) d 73 91 lv (.long x :: st) σ Q ↔ dx_W (tb_Z L xs) d 73 92 lv (.int x.toInt32 :: st) σ Q := r_l2i (hz_73.trans rfl)
theorem w_73_92 {w : Value} {y : Int32} : dx_W (tb_Z L xs) d 73 92 lv (.int y :: w :: st) σ Q ↔ wO (dx_el (tb_K L xs) σ w y) (fun u => dx_W (tb_Z L xs) d 73 93 lv (.long u :: st) σ Q) := r_laload (hz_73.trans rfl)
theorem w_73_93 {v0 v1 : Value}  : dx_W (tb_Z L xs) d 73 93 lv (v1 :: v0 :: st) σ Q ↔ (dx_ct st ≤ 8 ∧ dx_ci (tb_K L xs) σ v0 = some 7) ∧ dx_M (tb_Z L xs) d 74 [v0, v1] σ (wK (tb_Z L xs) d 73 96 lv st Q) := c_callv (av := [v1]) (hz_73.trans rfl)
theorem w_73_96 : dx_W (tb_Z L xs) d 73 96 lv st σ Q ↔ dx_W (tb_Z L xs) d 73 264 lv st σ Q := r_goto (off := 168) (t := 264) (hz_73.trans rfl) (by decide)
theorem w_73_99 : dx_W (tb_Z L xs) d 73 99 lv st σ Q ↔ wR (dx_lk lv 0) (fun y => dx_W (tb_Z L xs) d 73 100 lv (y :: st) σ Q) := r_aload_n (k := 0) (hz_73.trans rfl)
theorem w_73_100 {w : Value} : dx_W (tb_Z L xs) d 73 100 lv (w :: st) σ Q ↔ wO (dx_gf (tb_K L xs) σ w 7 1) (fun y => dx_W (tb_Z L xs) d 73 103 lv (y :: st) σ Q) := r_getfield (hz_73.trans rfl)
theorem w_73_103 {w : Value} : dx_W (tb_Z L xs) d 73 103 lv (w :: st) σ Q ↔ wO (dx_gf (tb_K L xs) σ w 2 0) (fun y => dx_W (tb_Z L xs) d 73 106 lv (y :: st) σ Q) := r_getfield (hz_73.trans rfl)
theorem w_73_106 : dx_W (tb_Z L xs) d 73 106 lv st σ Q ↔ wJ (dx_lk lv 2) (fun y => dx_W (tb_Z L xs) d 73 107 lv (.long y :: st) σ Q) := r_lload_n (k := 2) (hz_73.trans rfl)
theorem w_73_107 {x : Int64} : dx_W (tb_Z L xs) d 73 107 lv (.long x :: st) σ Q ↔ dx_W (tb_Z L xs) d 73 108 lv (.int x.toInt32 :: st) σ Q := r_l2i (hz_73.trans rfl)
theorem w_73_108 : dx_W (tb_Z L xs) d 73 108 lv st σ Q ↔ wR (dx_lk lv 0) (fun y => dx_W (tb_Z L xs) d 73 109 lv (y :: st) σ Q) := r_aload_n (k := 0) (hz_73.trans rfl)
theorem w_73_109 {v0 : Value}  : dx_W (tb_Z L xs) d 73 109 lv (v0 :: st) σ Q ↔ (dx_ct st ≤ 8 ∧ dx_ci (tb_K L xs) σ v0 = some 7) ∧ dx_M (tb_Z L xs) d 75 [v0] σ (wK (tb_Z L xs) d 73 112 lv st Q) := c_callv (av := []) (hz_73.trans rfl)
theorem w_73_112 {w : Value} {y : Int32} {u : Int64} : dx_W (tb_Z L xs) d 73 112 lv (.long u :: .int y :: w :: st) σ Q ↔ wO (dx_pl σ w y u) (fun σ1 => dx_W (tb_Z L xs) d 73 113 lv st σ1 Q) := r_lastore (hz_73.trans rfl)
theorem w_73_113 : dx_W (tb_Z L xs) d 73 113 lv st σ Q ↔ dx_W (tb_Z L xs) d 73 264 lv st σ Q := r_goto (off := 151) (t := 264) (hz_73.trans rfl) (by decide)
theorem w_73_116 : dx_W (tb_Z L xs) d 73 116 lv st σ Q ↔ wR (dx_lk lv 0) (fun y => dx_W (tb_Z L xs) d 73 117 lv (y :: st) σ Q) := r_aload_n (k := 0) (hz_73.trans rfl)
theorem w_73_117 : dx_W (tb_Z L xs) d 73 117 lv st σ Q ↔ wR (dx_lk lv 0) (fun y => dx_W (tb_Z L xs) d 73 118 lv (y :: st) σ Q) := r_aload_n (k := 0) (hz_73.trans rfl)
theorem w_73_118 {w : Value} : dx_W (tb_Z L xs) d 73 118 lv (w :: st) σ Q ↔ wO (dx_gf (tb_K L xs) σ w 7 1) (fun y => dx_W (tb_Z L xs) d 73 121 lv (y :: st) σ Q) := r_getfield (hz_73.trans rfl)
theorem w_73_121 {w : Value} : dx_W (tb_Z L xs) d 73 121 lv (w :: st) σ Q ↔ wO (dx_gf (tb_K L xs) σ w 2 1) (fun y => dx_W (tb_Z L xs) d 73 124 lv (y :: st) σ Q) := r_getfield (hz_73.trans rfl)
theorem w_73_124 {x : Int32} : dx_W (tb_Z L xs) d 73 124 lv (.int x :: st) σ Q ↔ dx_W (tb_Z L xs) d 73 125 lv (.long x.toInt64 :: st) σ Q := r_i2l (hz_73.trans rfl)
theorem w_73_125 : dx_W (tb_Z L xs) d 73 125 lv st σ Q ↔ dx_W (tb_Z L xs) d 73 126 lv (.int 0 :: st) σ Q := r_iconst (n := 0) (hz_73.trans rfl)
theorem w_73_126 {v0 v1 : Value}  : dx_W (tb_Z L xs) d 73 126 lv (v1 :: v0 :: st) σ Q ↔ dx_ct st ≤ 8 ∧ dx_M (tb_Z L xs) d 81 [v0, v1] σ (wK (tb_Z L xs) d 73 129 lv st Q) := c_calls (av := [v0, v1]) (hz_73.trans rfl)
theorem w_73_129 {v0 v1 : Value}  : dx_W (tb_Z L xs) d 73 129 lv (v1 :: v0 :: st) σ Q ↔ (dx_ct st ≤ 8 ∧ dx_ci (tb_K L xs) σ v0 = some 7) ∧ dx_M (tb_Z L xs) d 74 [v0, v1] σ (wK (tb_Z L xs) d 73 132 lv st Q) := c_callv (av := [v1]) (hz_73.trans rfl)
theorem w_73_132 : dx_W (tb_Z L xs) d 73 132 lv st σ Q ↔ dx_W (tb_Z L xs) d 73 264 lv st σ Q := r_goto (off := 132) (t := 264) (hz_73.trans rfl) (by decide)
theorem w_73_135 : dx_W (tb_Z L xs) d 73 135 lv st σ Q ↔ wR (dx_lk lv 0) (fun y => dx_W (tb_Z L xs) d 73 136 lv (y :: st) σ Q) := r_aload_n (k := 0) (hz_73.trans rfl)
theorem w_73_136 {w : Value} : dx_W (tb_Z L xs) d 73 136 lv (w :: st) σ Q ↔ wO (dx_gf (tb_K L xs) σ w 7 1) (fun y => dx_W (tb_Z L xs) d 73 139 lv (y :: st) σ Q) := r_getfield (hz_73.trans rfl)
theorem w_73_139 : dx_W (tb_Z L xs) d 73 139 lv st σ Q ↔ wR (dx_lk lv 0) (fun y => dx_W (tb_Z L xs) d 73 140 lv (y :: st) σ Q) := r_aload_n (k := 0) (hz_73.trans rfl)
theorem w_73_140 {w : Value} : dx_W (tb_Z L xs) d 73 140 lv (w :: st) σ Q ↔ wO (dx_gf (tb_K L xs) σ w 7 3) (fun y => dx_W (tb_Z L xs) d 73 143 lv (y :: st) σ Q) := r_getfield (hz_73.trans rfl)
theorem w_73_143 : dx_W (tb_Z L xs) d 73 143 lv st σ Q ↔ wR (dx_lk lv 0) (fun y => dx_W (tb_Z L xs) d 73 144 lv (y :: st) σ Q) := r_aload_n (k := 0) (hz_73.trans rfl)
theorem w_73_144 {v0 : Value}  : dx_W (tb_Z L xs) d 73 144 lv (v0 :: st) σ Q ↔ (dx_ct st ≤ 8 ∧ dx_ci (tb_K L xs) σ v0 = some 7) ∧ dx_M (tb_Z L xs) d 75 [v0] σ (wK (tb_Z L xs) d 73 147 lv st Q) := c_callv (av := []) (hz_73.trans rfl)
theorem w_73_147 : dx_W (tb_Z L xs) d 73 147 lv st σ Q ↔ dx_W (tb_Z L xs) d 73 148 lv (.int 0 :: st) σ Q := r_iconst (n := 0) (hz_73.trans rfl)
theorem w_73_148 : dx_W (tb_Z L xs) d 73 148 lv st σ Q ↔ dx_W (tb_Z L xs) d 73 149 lv (.int 4 :: st) σ Q := r_iconst (n := 4) (hz_73.trans rfl)
theorem w_73_149 {v0 v1 v2 v3 : Value}  : dx_W (tb_Z L xs) d 73 149 lv (v3 :: v2 :: v1 :: v0 :: st) σ Q ↔ (dx_ct st ≤ 8 ∧ dx_ci (tb_K L xs) σ v0 = some 8) ∧ dx_M (tb_Z L xs) d 82 [v0, v1, v2, v3] σ (wK (tb_Z L xs) d 73 152 lv st Q) := c_callv (av := [v1, v2, v3]) (hz_73.trans rfl)
theorem w_73_152 {u w : Value} : dx_W (tb_Z L xs) d 73 152 lv (u :: w :: st) σ Q ↔ wO (dx_pf σ w 2 1 0 u) (fun σ1 => dx_W (tb_Z L xs) d 73 155 lv st σ1 Q) := r_putfield (f := 0) (hz_73.trans rfl)
theorem w_73_155 : dx_W (tb_Z L xs) d 73 155 lv st σ Q ↔ dx_W (tb_Z L xs) d 73 264 lv st σ Q := r_goto (off := 109) (t := 264) (hz_73.trans rfl) (by decide)
theorem w_73_158 : dx_W (tb_Z L xs) d 73 158 lv st σ Q ↔ wR (dx_lk lv 0) (fun y => dx_W (tb_Z L xs) d 73 159 lv (y :: st) σ Q) := r_aload_n (k := 0) (hz_73.trans rfl)
theorem w_73_159 : dx_W (tb_Z L xs) d 73 159 lv st σ Q ↔ wR (dx_lk lv 0) (fun y => dx_W (tb_Z L xs) d 73 160 lv (y :: st) σ Q) := r_aload_n (k := 0) (hz_73.trans rfl)
theorem w_73_160 {v0 : Value}  : dx_W (tb_Z L xs) d 73 160 lv (v0 :: st) σ Q ↔ (dx_ct st ≤ 8 ∧ dx_ci (tb_K L xs) σ v0 = some 7) ∧ dx_M (tb_Z L xs) d 75 [v0] σ (wK (tb_Z L xs) d 73 163 lv st Q) := c_callv (av := []) (hz_73.trans rfl)
theorem w_73_163 {v0 : Value}  : dx_W (tb_Z L xs) d 73 163 lv (v0 :: st) σ Q ↔ dx_ct st ≤ 8 ∧ dx_M (tb_Z L xs) d 83 [v0] σ (wK (tb_Z L xs) d 73 166 lv st Q) := c_calls (av := [v0]) (hz_73.trans rfl)
theorem w_73_166 {v0 v1 : Value}  : dx_W (tb_Z L xs) d 73 166 lv (v1 :: v0 :: st) σ Q ↔ (dx_ct st ≤ 8 ∧ dx_ci (tb_K L xs) σ v0 = some 7) ∧ dx_M (tb_Z L xs) d 74 [v0, v1] σ (wK (tb_Z L xs) d 73 169 lv st Q) := c_callv (av := [v1]) (hz_73.trans rfl)
theorem w_73_169 : dx_W (tb_Z L xs) d 73 169 lv st σ Q ↔ dx_W (tb_Z L xs) d 73 264 lv st σ Q := r_goto (off := 95) (t := 264) (hz_73.trans rfl) (by decide)
theorem w_73_172 : dx_W (tb_Z L xs) d 73 172 lv st σ Q ↔ wR (dx_lk lv 0) (fun y => dx_W (tb_Z L xs) d 73 173 lv (y :: st) σ Q) := r_aload_n (k := 0) (hz_73.trans rfl)
theorem w_73_173 {w : Value} : dx_W (tb_Z L xs) d 73 173 lv (w :: st) σ Q ↔ wO (dx_gf (tb_K L xs) σ w 7 2) (fun y => dx_W (tb_Z L xs) d 73 176 lv (y :: st) σ Q) := r_getfield (hz_73.trans rfl)
theorem w_73_176 : dx_W (tb_Z L xs) d 73 176 lv st σ Q ↔ wR (dx_lk lv 0) (fun y => dx_W (tb_Z L xs) d 73 177 lv (y :: st) σ Q) := r_aload_n (k := 0) (hz_73.trans rfl)
theorem w_73_177 {v0 : Value}  : dx_W (tb_Z L xs) d 73 177 lv (v0 :: st) σ Q ↔ (dx_ct st ≤ 8 ∧ dx_ci (tb_K L xs) σ v0 = some 7) ∧ dx_M (tb_Z L xs) d 75 [v0] σ (wK (tb_Z L xs) d 73 180 lv st Q) := c_callv (av := []) (hz_73.trans rfl)
theorem w_73_180 {v0 v1 : Value}  : dx_W (tb_Z L xs) d 73 180 lv (v1 :: v0 :: st) σ Q ↔ (dx_ct st ≤ 8 ∧ dx_ci (tb_K L xs) σ v0 = some 3) ∧ dx_M (tb_Z L xs) d 24 [v0, v1] σ (wK (tb_Z L xs) d 73 183 lv st Q) := c_callv (av := [v1]) (hz_73.trans rfl)
theorem w_73_183 : dx_W (tb_Z L xs) d 73 183 lv st σ Q ↔ dx_W (tb_Z L xs) d 73 264 lv st σ Q := r_goto (off := 81) (t := 264) (hz_73.trans rfl) (by decide)
theorem w_73_186 : dx_W (tb_Z L xs) d 73 186 lv st σ Q ↔ wR (dx_lk lv 0) (fun y => dx_W (tb_Z L xs) d 73 187 lv (y :: st) σ Q) := r_aload_n (k := 0) (hz_73.trans rfl)
theorem w_73_187 : dx_W (tb_Z L xs) d 73 187 lv st σ Q ↔ wJ (dx_lk lv 2) (fun y => dx_W (tb_Z L xs) d 73 188 lv (.long y :: st) σ Q) := r_lload_n (k := 2) (hz_73.trans rfl)
theorem w_73_188 {x : Int64} : dx_W (tb_Z L xs) d 73 188 lv (.long x :: st) σ Q ↔ dx_W (tb_Z L xs) d 73 189 lv (.int x.toInt32 :: st) σ Q := r_l2i (hz_73.trans rfl)
theorem w_73_189 {v0 v1 : Value}  : dx_W (tb_Z L xs) d 73 189 lv (v1 :: v0 :: st) σ Q ↔ (dx_ct st ≤ 8 ∧ dx_ci (tb_K L xs) σ v0 = some 7) ∧ dx_M (tb_Z L xs) d 76 [v0, v1] σ (wK (tb_Z L xs) d 73 192 lv st Q) := c_callv (av := [v1]) (hz_73.trans rfl)
theorem w_73_192 : dx_W (tb_Z L xs) d 73 192 lv st σ Q ↔ dx_W (tb_Z L xs) d 73 264 lv st σ Q := r_goto (off := 72) (t := 264) (hz_73.trans rfl) (by decide)
theorem w_73_195 : dx_W (tb_Z L xs) d 73 195 lv st σ Q ↔ wR (dx_lk lv 0) (fun y => dx_W (tb_Z L xs) d 73 196 lv (y :: st) σ Q) := r_aload_n (k := 0) (hz_73.trans rfl)
theorem w_73_196 {v0 : Value}  : dx_W (tb_Z L xs) d 73 196 lv (v0 :: st) σ Q ↔ (dx_ct st ≤ 8 ∧ dx_ci (tb_K L xs) σ v0 = some 7) ∧ dx_M (tb_Z L xs) d 77 [v0] σ (wK (tb_Z L xs) d 73 199 lv st Q) := c_callv (av := []) (hz_73.trans rfl)
theorem w_73_199 : dx_W (tb_Z L xs) d 73 199 lv st σ Q ↔ dx_W (tb_Z L xs) d 73 264 lv st σ Q := r_goto (off := 65) (t := 264) (hz_73.trans rfl) (by decide)
theorem w_73_202 : dx_W (tb_Z L xs) d 73 202 lv st σ Q ↔ wR (dx_lk lv 0) (fun y => dx_W (tb_Z L xs) d 73 203 lv (y :: st) σ Q) := r_aload_n (k := 0) (hz_73.trans rfl)
theorem w_73_203 : dx_W (tb_Z L xs) d 73 203 lv st σ Q ↔ wJ (dx_lk lv 2) (fun y => dx_W (tb_Z L xs) d 73 204 lv (.long y :: st) σ Q) := r_lload_n (k := 2) (hz_73.trans rfl)
theorem w_73_204 {x : Int64} : dx_W (tb_Z L xs) d 73 204 lv (.long x :: st) σ Q ↔ dx_W (tb_Z L xs) d 73 205 lv (.int x.toInt32 :: st) σ Q := r_l2i (hz_73.trans rfl)
theorem w_73_205 {u w : Value} : dx_W (tb_Z L xs) d 73 205 lv (u :: w :: st) σ Q ↔ wO (dx_pf σ w 7 6 0 u) (fun σ1 => dx_W (tb_Z L xs) d 73 208 lv st σ1 Q) := r_putfield (f := 0) (hz_73.trans rfl)
theorem w_73_208 : dx_W (tb_Z L xs) d 73 208 lv st σ Q ↔ dx_W (tb_Z L xs) d 73 264 lv st σ Q := r_goto (off := 56) (t := 264) (hz_73.trans rfl) (by decide)
theorem w_73_211 : dx_W (tb_Z L xs) d 73 211 lv st σ Q ↔ wR (dx_lk lv 0) (fun y => dx_W (tb_Z L xs) d 73 212 lv (y :: st) σ Q) := r_aload_n (k := 0) (hz_73.trans rfl)
theorem w_73_212 : dx_W (tb_Z L xs) d 73 212 lv st σ Q ↔ wR (dx_lk lv 0) (fun y => dx_W (tb_Z L xs) d 73 213 lv (y :: st) σ Q) := r_aload_n (k := 0) (hz_73.trans rfl)
theorem w_73_213 {v0 : Value}  : dx_W (tb_Z L xs) d 73 213 lv (v0 :: st) σ Q ↔ (dx_ct st ≤ 8 ∧ dx_ci (tb_K L xs) σ v0 = some 7) ∧ dx_M (tb_Z L xs) d 75 [v0] σ (wK (tb_Z L xs) d 73 216 lv st Q) := c_callv (av := []) (hz_73.trans rfl)
theorem w_73_216 : dx_W (tb_Z L xs) d 73 216 lv st σ Q ↔ dx_W (tb_Z L xs) d 73 217 lv (.long 0 :: st) σ Q := r_lconst (n := 0) (hz_73.trans rfl)
theorem w_73_217 {x y : Int64} : dx_W (tb_Z L xs) d 73 217 lv (.long y :: .long x :: st) σ Q ↔ dx_W (tb_Z L xs) d 73 218 lv (.int (lg_cmp x y) :: st) σ Q := r_lcmp (hz_73.trans rfl)
theorem w_73_218 {x : Int32} : dx_W (tb_Z L xs) d 73 218 lv (.int x :: st) σ Q ↔ (if ¬ x = 0 then dx_W (tb_Z L xs) d 73 226 lv st σ Q else dx_W (tb_Z L xs) d 73 221 lv st σ Q) := r_if_ne (off := 8) (t := 226) (hz_73.trans rfl) (by decide)
theorem w_73_221 : dx_W (tb_Z L xs) d 73 221 lv st σ Q ↔ wJ (dx_lk lv 2) (fun y => dx_W (tb_Z L xs) d 73 222 lv (.long y :: st) σ Q) := r_lload_n (k := 2) (hz_73.trans rfl)
theorem w_73_222 {x : Int64} : dx_W (tb_Z L xs) d 73 222 lv (.long x :: st) σ Q ↔ dx_W (tb_Z L xs) d 73 223 lv (.int x.toInt32 :: st) σ Q := r_l2i (hz_73.trans rfl)
theorem w_73_223 : dx_W (tb_Z L xs) d 73 223 lv st σ Q ↔ dx_W (tb_Z L xs) d 73 230 lv st σ Q := r_goto (off := 7) (t := 230) (hz_73.trans rfl) (by decide)
theorem w_73_226 : dx_W (tb_Z L xs) d 73 226 lv st σ Q ↔ wR (dx_lk lv 0) (fun y => dx_W (tb_Z L xs) d 73 227 lv (y :: st) σ Q) := r_aload_n (k := 0) (hz_73.trans rfl)
theorem w_73_227 {w : Value} : dx_W (tb_Z L xs) d 73 227 lv (w :: st) σ Q ↔ wO (dx_gf (tb_K L xs) σ w 7 6) (fun y => dx_W (tb_Z L xs) d 73 230 lv (y :: st) σ Q) := r_getfield (hz_73.trans rfl)
theorem w_73_230 {u w : Value} : dx_W (tb_Z L xs) d 73 230 lv (u :: w :: st) σ Q ↔ wO (dx_pf σ w 7 6 0 u) (fun σ1 => dx_W (tb_Z L xs) d 73 233 lv st σ1 Q) := r_putfield (f := 0) (hz_73.trans rfl)
theorem w_73_233 : dx_W (tb_Z L xs) d 73 233 lv st σ Q ↔ dx_W (tb_Z L xs) d 73 264 lv st σ Q := r_goto (off := 31) (t := 264) (hz_73.trans rfl) (by decide)
theorem w_73_236 : dx_W (tb_Z L xs) d 73 236 lv st σ Q ↔ wR (dx_lk lv 0) (fun y => dx_W (tb_Z L xs) d 73 237 lv (y :: st) σ Q) := r_aload_n (k := 0) (hz_73.trans rfl)
theorem w_73_237 {v0 : Value}  : dx_W (tb_Z L xs) d 73 237 lv (v0 :: st) σ Q ↔ (dx_ct st ≤ 8 ∧ dx_ci (tb_K L xs) σ v0 = some 7) ∧ dx_M (tb_Z L xs) d 75 [v0] σ (wK (tb_Z L xs) d 73 240 lv st Q) := c_callv (av := []) (hz_73.trans rfl)
theorem w_73_240 {x : Int64} : dx_W (tb_Z L xs) d 73 240 lv (.long x :: st) σ Q ↔ dx_W (tb_Z L xs) d 73 242 (dx_s2 lv 4 (.long x)) st σ Q := r_lstore (k := 4) (hz_73.trans rfl) (show 4 + 1 < tb_l 73 by decide)
theorem w_73_242 : dx_W (tb_Z L xs) d 73 242 lv st σ Q ↔ wR (dx_lk lv 0) (fun y => dx_W (tb_Z L xs) d 73 243 lv (y :: st) σ Q) := r_aload_n (k := 0) (hz_73.trans rfl)
theorem w_73_243 {v0 : Value}  : dx_W (tb_Z L xs) d 73 243 lv (v0 :: st) σ Q ↔ (dx_ct st ≤ 8 ∧ dx_ci (tb_K L xs) σ v0 = some 7) ∧ dx_M (tb_Z L xs) d 75 [v0] σ (wK (tb_Z L xs) d 73 246 lv st Q) := c_callv (av := []) (hz_73.trans rfl)
theorem w_73_246 {x : Int64} : dx_W (tb_Z L xs) d 73 246 lv (.long x :: st) σ Q ↔ dx_W (tb_Z L xs) d 73 248 (dx_s2 lv 6 (.long x)) st σ Q := r_lstore (k := 6) (hz_73.trans rfl) (show 6 + 1 < tb_l 73 by decide)
theorem w_73_248 : dx_W (tb_Z L xs) d 73 248 lv st σ Q ↔ wR (dx_lk lv 0) (fun y => dx_W (tb_Z L xs) d 73 249 lv (y :: st) σ Q) := r_aload_n (k := 0) (hz_73.trans rfl)
theorem w_73_249 : dx_W (tb_Z L xs) d 73 249 lv st σ Q ↔ wR (dx_lk lv 0) (fun y => dx_W (tb_Z L xs) d 73 250 lv (y :: st) σ Q) := r_aload_n (k := 0) (hz_73.trans rfl)
theorem w_73_250 {w : Value} : dx_W (tb_Z L xs) d 73 250 lv (w :: st) σ Q ↔ wO (dx_gf (tb_K L xs) σ w 7 3) (fun y => dx_W (tb_Z L xs) d 73 253 lv (y :: st) σ Q) := r_getfield (hz_73.trans rfl)
theorem w_73_253 : dx_W (tb_Z L xs) d 73 253 lv st σ Q ↔ wI (dx_lk lv 1) (fun y => dx_W (tb_Z L xs) d 73 254 lv (.int y :: st) σ Q) := r_iload_n (k := 1) (hz_73.trans rfl)
theorem w_73_254 : dx_W (tb_Z L xs) d 73 254 lv st σ Q ↔ wJ (dx_lk lv 6) (fun y => dx_W (tb_Z L xs) d 73 256 lv (.long y :: st) σ Q) := r_lload (k := 6) (hz_73.trans rfl)
theorem w_73_256 : dx_W (tb_Z L xs) d 73 256 lv st σ Q ↔ wJ (dx_lk lv 4) (fun y => dx_W (tb_Z L xs) d 73 258 lv (.long y :: st) σ Q) := r_lload (k := 4) (hz_73.trans rfl)
theorem w_73_258 {v0 v1 v2 v3 : Value}  : dx_W (tb_Z L xs) d 73 258 lv (v3 :: v2 :: v1 :: v0 :: st) σ Q ↔ (dx_ct st ≤ 8 ∧ dx_ci (tb_K L xs) σ v0 = some 8) ∧ dx_M (tb_Z L xs) d 84 [v0, v1, v2, v3] σ (wK (tb_Z L xs) d 73 261 lv st Q) := c_callv (av := [v1, v2, v3]) (hz_73.trans rfl)
theorem w_73_261 {v0 v1 : Value}  : dx_W (tb_Z L xs) d 73 261 lv (v1 :: v0 :: st) σ Q ↔ (dx_ct st ≤ 8 ∧ dx_ci (tb_K L xs) σ v0 = some 7) ∧ dx_M (tb_Z L xs) d 74 [v0, v1] σ (wK (tb_Z L xs) d 73 264 lv st Q) := c_callv (av := [v1]) (hz_73.trans rfl)
theorem w_73_264 : dx_W (tb_Z L xs) d 73 264 lv [] σ Q ↔ Q (.inl none) σ := r_return (hz_73.trans rfl) rfl
theorem hz_74 {pc : Nat} : (tb_Z L xs).1 74 pc = dx_at tb_m74 pc := rfl
theorem w_74_0 : dx_W (tb_Z L xs) d 74 0 lv st σ Q ↔ wR (dx_lk lv 0) (fun y => dx_W (tb_Z L xs) d 74 1 lv (y :: st) σ Q) := r_aload_n (k := 0) (hz_74.trans rfl)
theorem w_74_1 {w : Value} : dx_W (tb_Z L xs) d 74 1 lv (w :: st) σ Q ↔ wO (dx_gf (tb_K L xs) σ w 7 5) (fun y => dx_W (tb_Z L xs) d 74 4 lv (y :: st) σ Q) := r_getfield (hz_74.trans rfl)
theorem w_74_4 : dx_W (tb_Z L xs) d 74 4 lv st σ Q ↔ dx_W (tb_Z L xs) d 74 7 lv (.int 140 :: st) σ Q := r_sipush (n := 140) (hz_74.trans rfl)
theorem w_74_7 {x y : Int32} : dx_W (tb_Z L xs) d 74 7 lv (.int y :: .int x :: st) σ Q ↔ (if y ≤ x then dx_W (tb_Z L xs) d 74 30 lv st σ Q else dx_W (tb_Z L xs) d 74 10 lv st σ Q) := r_ic_ge (off := 23) (t := 30) (hz_74.trans rfl) (by decide)
theorem w_74_10 : dx_W (tb_Z L xs) d 74 10 lv st σ Q ↔ wR (dx_lk lv 0) (fun y => dx_W (tb_Z L xs) d 74 11 lv (y :: st) σ Q) := r_aload_n (k := 0) (hz_74.trans rfl)
theorem w_74_11 {w : Value} : dx_W (tb_Z L xs) d 74 11 lv (w :: st) σ Q ↔ wO (dx_gf (tb_K L xs) σ w 7 4) (fun y => dx_W (tb_Z L xs) d 74 14 lv (y :: st) σ Q) := r_getfield (hz_74.trans rfl)
theorem w_74_14 : dx_W (tb_Z L xs) d 74 14 lv st σ Q ↔ wR (dx_lk lv 0) (fun y => dx_W (tb_Z L xs) d 74 15 lv (y :: st) σ Q) := r_aload_n (k := 0) (hz_74.trans rfl)
theorem w_74_15 {w : Value} : dx_W (tb_Z L xs) d 74 15 lv (w :: st) σ Q ↔ wO (dx_gf (tb_K L xs) σ w 7 5) (fun y => dx_W (tb_Z L xs) d 74 18 lv (y :: st) σ Q) := r_getfield (hz_74.trans rfl)
theorem w_74_18 : dx_W (tb_Z L xs) d 74 18 lv st σ Q ↔ wJ (dx_lk lv 1) (fun y => dx_W (tb_Z L xs) d 74 19 lv (.long y :: st) σ Q) := r_lload_n (k := 1) (hz_74.trans rfl)
theorem w_74_19 {w : Value} {y : Int32} {u : Int64} : dx_W (tb_Z L xs) d 74 19 lv (.long u :: .int y :: w :: st) σ Q ↔ wO (dx_pl σ w y u) (fun σ1 => dx_W (tb_Z L xs) d 74 20 lv st σ1 Q) := r_lastore (hz_74.trans rfl)
theorem w_74_20 : dx_W (tb_Z L xs) d 74 20 lv st σ Q ↔ wR (dx_lk lv 0) (fun y => dx_W (tb_Z L xs) d 74 21 lv (y :: st) σ Q) := r_aload_n (k := 0) (hz_74.trans rfl)
theorem w_74_21_int {x : Int32} : dx_W (tb_Z L xs) d 74 21 lv (.int x :: st) σ Q ↔ dx_W (tb_Z L xs) d 74 22 lv (.int x :: .int x :: st) σ Q := r_dup_int (hz_74.trans rfl)
theorem w_74_21_ref {x : Nat} : dx_W (tb_Z L xs) d 74 21 lv (.ref x :: st) σ Q ↔ dx_W (tb_Z L xs) d 74 22 lv (.ref x :: .ref x :: st) σ Q := r_dup_ref (hz_74.trans rfl)
theorem w_74_21_retAddr {x : Nat} : dx_W (tb_Z L xs) d 74 21 lv (.retAddr x :: st) σ Q ↔ dx_W (tb_Z L xs) d 74 22 lv (.retAddr x :: .retAddr x :: st) σ Q := r_dup_retAddr (hz_74.trans rfl)
theorem w_74_22 {w : Value} : dx_W (tb_Z L xs) d 74 22 lv (w :: st) σ Q ↔ wO (dx_gf (tb_K L xs) σ w 7 5) (fun y => dx_W (tb_Z L xs) d 74 25 lv (y :: st) σ Q) := r_getfield (hz_74.trans rfl)
theorem w_74_25 : dx_W (tb_Z L xs) d 74 25 lv st σ Q ↔ dx_W (tb_Z L xs) d 74 26 lv (.int 1 :: st) σ Q := r_iconst (n := 1) (hz_74.trans rfl)
theorem w_74_26 {x y : Int32} : dx_W (tb_Z L xs) d 74 26 lv (.int y :: .int x :: st) σ Q ↔ dx_W (tb_Z L xs) d 74 27 lv (.int (x + y) :: st) σ Q := r_iadd (hz_74.trans rfl)
theorem w_74_27 {u w : Value} : dx_W (tb_Z L xs) d 74 27 lv (u :: w :: st) σ Q ↔ wO (dx_pf σ w 7 5 0 u) (fun σ1 => dx_W (tb_Z L xs) d 74 30 lv st σ1 Q) := r_putfield (f := 0) (hz_74.trans rfl)
theorem w_74_30 : dx_W (tb_Z L xs) d 74 30 lv [] σ Q ↔ Q (.inl none) σ := r_return (hz_74.trans rfl) rfl
theorem hz_75 {pc : Nat} : (tb_Z L xs).1 75 pc = dx_at tb_m75 pc := rfl
theorem w_75_0 : dx_W (tb_Z L xs) d 75 0 lv st σ Q ↔ wR (dx_lk lv 0) (fun y => dx_W (tb_Z L xs) d 75 1 lv (y :: st) σ Q) := r_aload_n (k := 0) (hz_75.trans rfl)
theorem w_75_1 {w : Value} : dx_W (tb_Z L xs) d 75 1 lv (w :: st) σ Q ↔ wO (dx_gf (tb_K L xs) σ w 7 5) (fun y => dx_W (tb_Z L xs) d 75 4 lv (y :: st) σ Q) := r_getfield (hz_75.trans rfl)
theorem w_75_4 {x : Int32} : dx_W (tb_Z L xs) d 75 4 lv (.int x :: st) σ Q ↔ (if ¬ x = 0 then dx_W (tb_Z L xs) d 75 9 lv st σ Q else dx_W (tb_Z L xs) d 75 7 lv st σ Q) := r_if_ne (off := 5) (t := 9) (hz_75.trans rfl) (by decide)
theorem w_75_7 : dx_W (tb_Z L xs) d 75 7 lv st σ Q ↔ dx_W (tb_Z L xs) d 75 8 lv (.long 0 :: st) σ Q := r_lconst (n := 0) (hz_75.trans rfl)
theorem w_75_8 {x : Int64} : dx_W (tb_Z L xs) d 75 8 lv [.long x] σ Q ↔ Q (.inl (some (.long x))) σ := r_lreturn (hz_75.trans rfl) rfl
theorem w_75_9 : dx_W (tb_Z L xs) d 75 9 lv st σ Q ↔ wR (dx_lk lv 0) (fun y => dx_W (tb_Z L xs) d 75 10 lv (y :: st) σ Q) := r_aload_n (k := 0) (hz_75.trans rfl)
theorem w_75_10_int {x : Int32} : dx_W (tb_Z L xs) d 75 10 lv (.int x :: st) σ Q ↔ dx_W (tb_Z L xs) d 75 11 lv (.int x :: .int x :: st) σ Q := r_dup_int (hz_75.trans rfl)
theorem w_75_10_ref {x : Nat} : dx_W (tb_Z L xs) d 75 10 lv (.ref x :: st) σ Q ↔ dx_W (tb_Z L xs) d 75 11 lv (.ref x :: .ref x :: st) σ Q := r_dup_ref (hz_75.trans rfl)
theorem w_75_10_retAddr {x : Nat} : dx_W (tb_Z L xs) d 75 10 lv (.retAddr x :: st) σ Q ↔ dx_W (tb_Z L xs) d 75 11 lv (.retAddr x :: .retAddr x :: st) σ Q := r_dup_retAddr (hz_75.trans rfl)
theorem w_75_11 {w : Value} : dx_W (tb_Z L xs) d 75 11 lv (w :: st) σ Q ↔ wO (dx_gf (tb_K L xs) σ w 7 5) (fun y => dx_W (tb_Z L xs) d 75 14 lv (y :: st) σ Q) := r_getfield (hz_75.trans rfl)
theorem w_75_14 : dx_W (tb_Z L xs) d 75 14 lv st σ Q ↔ dx_W (tb_Z L xs) d 75 15 lv (.int 1 :: st) σ Q := r_iconst (n := 1) (hz_75.trans rfl)
theorem w_75_15 {x y : Int32} : dx_W (tb_Z L xs) d 75 15 lv (.int y :: .int x :: st) σ Q ↔ dx_W (tb_Z L xs) d 75 16 lv (.int (x - y) :: st) σ Q := r_isub (hz_75.trans rfl)
theorem w_75_16 {u w : Value} : dx_W (tb_Z L xs) d 75 16 lv (u :: w :: st) σ Q ↔ wO (dx_pf σ w 7 5 0 u) (fun σ1 => dx_W (tb_Z L xs) d 75 19 lv st σ1 Q) := r_putfield (f := 0) (hz_75.trans rfl)
theorem w_75_19 : dx_W (tb_Z L xs) d 75 19 lv st σ Q ↔ wR (dx_lk lv 0) (fun y => dx_W (tb_Z L xs) d 75 20 lv (y :: st) σ Q) := r_aload_n (k := 0) (hz_75.trans rfl)
theorem w_75_20 {w : Value} : dx_W (tb_Z L xs) d 75 20 lv (w :: st) σ Q ↔ wO (dx_gf (tb_K L xs) σ w 7 4) (fun y => dx_W (tb_Z L xs) d 75 23 lv (y :: st) σ Q) := r_getfield (hz_75.trans rfl)
theorem w_75_23 : dx_W (tb_Z L xs) d 75 23 lv st σ Q ↔ wR (dx_lk lv 0) (fun y => dx_W (tb_Z L xs) d 75 24 lv (y :: st) σ Q) := r_aload_n (k := 0) (hz_75.trans rfl)
theorem w_75_24 {w : Value} : dx_W (tb_Z L xs) d 75 24 lv (w :: st) σ Q ↔ wO (dx_gf (tb_K L xs) σ w 7 5) (fun y => dx_W (tb_Z L xs) d 75 27 lv (y :: st) σ Q) := r_getfield (hz_75.trans rfl)
theorem w_75_27 {w : Value} {y : Int32} : dx_W (tb_Z L xs) d 75 27 lv (.int y :: w :: st) σ Q ↔ wO (dx_el (tb_K L xs) σ w y) (fun u => dx_W (tb_Z L xs) d 75 28 lv (.long u :: st) σ Q) := r_laload (hz_75.trans rfl)
theorem w_75_28 {x : Int64} : dx_W (tb_Z L xs) d 75 28 lv [.long x] σ Q ↔ Q (.inl (some (.long x))) σ := r_lreturn (hz_75.trans rfl) rfl
theorem hz_76 {pc : Nat} : (tb_Z L xs).1 76 pc = dx_at tb_m76 pc := rfl
theorem w_76_0 : dx_W (tb_Z L xs) d 76 0 lv st σ Q ↔ wR (dx_lk lv 0) (fun y => dx_W (tb_Z L xs) d 76 1 lv (y :: st) σ Q) := r_aload_n (k := 0) (hz_76.trans rfl)
theorem w_76_1 {v0 : Value}  : dx_W (tb_Z L xs) d 76 1 lv (v0 :: st) σ Q ↔ (dx_ct st ≤ 8 ∧ dx_ci (tb_K L xs) σ v0 = some 7) ∧ dx_M (tb_Z L xs) d 75 [v0] σ (wK (tb_Z L xs) d 76 4 lv st Q) := c_callv (av := []) (hz_76.trans rfl)
theorem w_76_4 {x : Int64} : dx_W (tb_Z L xs) d 76 4 lv (.long x :: st) σ Q ↔ dx_W (tb_Z L xs) d 76 5 (dx_s2 lv 2 (.long x)) st σ Q := r_lstore_n (k := 2) (hz_76.trans rfl) (show 2 + 1 < tb_l 76 by decide)
theorem w_76_5 : dx_W (tb_Z L xs) d 76 5 lv st σ Q ↔ wR (dx_lk lv 0) (fun y => dx_W (tb_Z L xs) d 76 6 lv (y :: st) σ Q) := r_aload_n (k := 0) (hz_76.trans rfl)
theorem w_76_6 {w : Value} : dx_W (tb_Z L xs) d 76 6 lv (w :: st) σ Q ↔ wO (dx_gf (tb_K L xs) σ w 7 0) (fun y => dx_W (tb_Z L xs) d 76 9 lv (y :: st) σ Q) := r_getfield (hz_76.trans rfl)
theorem w_76_9 : dx_W (tb_Z L xs) d 76 9 lv st σ Q ↔ wI (dx_lk lv 1) (fun y => dx_W (tb_Z L xs) d 76 10 lv (.int y :: st) σ Q) := r_iload_n (k := 1) (hz_76.trans rfl)
theorem w_76_10 {v0 v1 : Value}  : dx_W (tb_Z L xs) d 76 10 lv (v1 :: v0 :: st) σ Q ↔ (dx_ct st ≤ 8 ∧ dx_ci (tb_K L xs) σ v0 = some 4) ∧ dx_M (tb_Z L xs) d 28 [v0, v1] σ (wK (tb_Z L xs) d 76 13 lv st Q) := c_callv (av := [v1]) (hz_76.trans rfl)
theorem w_76_13 {x : Int32} : dx_W (tb_Z L xs) d 76 13 lv (.int x :: st) σ Q ↔ (if ¬ x = 0 then dx_W (tb_Z L xs) d 76 25 lv st σ Q else dx_W (tb_Z L xs) d 76 16 lv st σ Q) := r_if_ne (off := 12) (t := 25) (hz_76.trans rfl) (by decide)
theorem w_76_16 : dx_W (tb_Z L xs) d 76 16 lv st σ Q ↔ wR (dx_lk lv 0) (fun y => dx_W (tb_Z L xs) d 76 17 lv (y :: st) σ Q) := r_aload_n (k := 0) (hz_76.trans rfl)
theorem w_76_17 {w : Value} : dx_W (tb_Z L xs) d 76 17 lv (w :: st) σ Q ↔ wO (dx_gf (tb_K L xs) σ w 7 2) (fun y => dx_W (tb_Z L xs) d 76 20 lv (y :: st) σ Q) := r_getfield (hz_76.trans rfl)
theorem w_76_20 : dx_W (tb_Z L xs) d 76 20 lv st σ Q ↔ dx_W (tb_Z L xs) d 76 22 lv (.int 6 :: st) σ Q := r_bipush (n := 6) (hz_76.trans rfl)
theorem w_76_22 {v0 v1 : Value}  : dx_W (tb_Z L xs) d 76 22 lv (v1 :: v0 :: st) σ Q ↔ (dx_ct st ≤ 8 ∧ dx_ci (tb_K L xs) σ v0 = some 3) ∧ dx_M (tb_Z L xs) d 22 [v0, v1] σ (wK (tb_Z L xs) d 76 25 lv st Q) := c_callv (av := [v1]) (hz_76.trans rfl)
theorem w_76_25 : dx_W (tb_Z L xs) d 76 25 lv st σ Q ↔ wR (dx_lk lv 0) (fun y => dx_W (tb_Z L xs) d 76 26 lv (y :: st) σ Q) := r_aload_n (k := 0) (hz_76.trans rfl)
theorem w_76_26 {w : Value} : dx_W (tb_Z L xs) d 76 26 lv (w :: st) σ Q ↔ wO (dx_gf (tb_K L xs) σ w 7 10) (fun y => dx_W (tb_Z L xs) d 76 29 lv (y :: st) σ Q) := r_getfield (hz_76.trans rfl)
theorem w_76_29 : dx_W (tb_Z L xs) d 76 29 lv st σ Q ↔ dx_W (tb_Z L xs) d 76 30 lv (.int 4 :: st) σ Q := r_iconst (n := 4) (hz_76.trans rfl)
theorem w_76_30 {x y : Int32} : dx_W (tb_Z L xs) d 76 30 lv (.int y :: .int x :: st) σ Q ↔ (if x < y then dx_W (tb_Z L xs) d 76 42 lv st σ Q else dx_W (tb_Z L xs) d 76 33 lv st σ Q) := r_ic_lt (off := 12) (t := 42) (hz_76.trans rfl) (by decide)
theorem w_76_33 : dx_W (tb_Z L xs) d 76 33 lv st σ Q ↔ wR (dx_lk lv 0) (fun y => dx_W (tb_Z L xs) d 76 34 lv (y :: st) σ Q) := r_aload_n (k := 0) (hz_76.trans rfl)
theorem w_76_34 {w : Value} : dx_W (tb_Z L xs) d 76 34 lv (w :: st) σ Q ↔ wO (dx_gf (tb_K L xs) σ w 7 2) (fun y => dx_W (tb_Z L xs) d 76 37 lv (y :: st) σ Q) := r_getfield (hz_76.trans rfl)
theorem w_76_37 : dx_W (tb_Z L xs) d 76 37 lv st σ Q ↔ dx_W (tb_Z L xs) d 76 39 lv (.int 7 :: st) σ Q := r_bipush (n := 7) (hz_76.trans rfl)
theorem w_76_39 {v0 v1 : Value}  : dx_W (tb_Z L xs) d 76 39 lv (v1 :: v0 :: st) σ Q ↔ (dx_ct st ≤ 8 ∧ dx_ci (tb_K L xs) σ v0 = some 3) ∧ dx_M (tb_Z L xs) d 22 [v0, v1] σ (wK (tb_Z L xs) d 76 42 lv st Q) := c_callv (av := [v1]) (hz_76.trans rfl)
theorem w_76_42 : dx_W (tb_Z L xs) d 76 42 lv st σ Q ↔ wR (dx_lk lv 0) (fun y => dx_W (tb_Z L xs) d 76 43 lv (y :: st) σ Q) := r_aload_n (k := 0) (hz_76.trans rfl)
theorem w_76_43 {w : Value} : dx_W (tb_Z L xs) d 76 43 lv (w :: st) σ Q ↔ wO (dx_gf (tb_K L xs) σ w 7 0) (fun y => dx_W (tb_Z L xs) d 76 46 lv (y :: st) σ Q) := r_getfield (hz_76.trans rfl)
theorem w_76_46 {w : Value} : dx_W (tb_Z L xs) d 76 46 lv (w :: st) σ Q ↔ wO (dx_gf (tb_K L xs) σ w 4 3) (fun y => dx_W (tb_Z L xs) d 76 49 lv (y :: st) σ Q) := r_getfield (hz_76.trans rfl)
theorem w_76_49 : dx_W (tb_Z L xs) d 76 49 lv st σ Q ↔ wI (dx_lk lv 1) (fun y => dx_W (tb_Z L xs) d 76 50 lv (.int y :: st) σ Q) := r_iload_n (k := 1) (hz_76.trans rfl)
theorem w_76_50 {w : Value} {y : Int32} : dx_W (tb_Z L xs) d 76 50 lv (.int y :: w :: st) σ Q ↔ wO (dx_ei (tb_K L xs) σ 0 w y) (fun u => dx_W (tb_Z L xs) d 76 51 lv (.int u :: st) σ Q) := r_iaload (hz_76.trans rfl)
theorem w_76_51 {x : Int32} : dx_W (tb_Z L xs) d 76 51 lv (.int x :: st) σ Q ↔ dx_W (tb_Z L xs) d 76 53 (dx_s1 lv 4 (.int x)) st σ Q := r_istore (k := 4) (hz_76.trans rfl) (show 4 < tb_l 76 by decide)
theorem w_76_53 : dx_W (tb_Z L xs) d 76 53 lv st σ Q ↔ wR (dx_lk lv 0) (fun y => dx_W (tb_Z L xs) d 76 54 lv (y :: st) σ Q) := r_aload_n (k := 0) (hz_76.trans rfl)
theorem w_76_54 {w : Value} : dx_W (tb_Z L xs) d 76 54 lv (w :: st) σ Q ↔ wO (dx_gf (tb_K L xs) σ w 7 7) (fun y => dx_W (tb_Z L xs) d 76 57 lv (y :: st) σ Q) := r_getfield (hz_76.trans rfl)
theorem w_76_57 : dx_W (tb_Z L xs) d 76 57 lv st σ Q ↔ wR (dx_lk lv 0) (fun y => dx_W (tb_Z L xs) d 76 58 lv (y :: st) σ Q) := r_aload_n (k := 0) (hz_76.trans rfl)
theorem w_76_58 {w : Value} : dx_W (tb_Z L xs) d 76 58 lv (w :: st) σ Q ↔ wO (dx_gf (tb_K L xs) σ w 7 10) (fun y => dx_W (tb_Z L xs) d 76 61 lv (y :: st) σ Q) := r_getfield (hz_76.trans rfl)
theorem w_76_61 : dx_W (tb_Z L xs) d 76 61 lv st σ Q ↔ wR (dx_lk lv 0) (fun y => dx_W (tb_Z L xs) d 76 62 lv (y :: st) σ Q) := r_aload_n (k := 0) (hz_76.trans rfl)
theorem w_76_62 {w : Value} : dx_W (tb_Z L xs) d 76 62 lv (w :: st) σ Q ↔ wO (dx_gf (tb_K L xs) σ w 7 6) (fun y => dx_W (tb_Z L xs) d 76 65 lv (y :: st) σ Q) := r_getfield (hz_76.trans rfl)
theorem w_76_65 {w : Value} {y : Int32} {u : Int32} : dx_W (tb_Z L xs) d 76 65 lv (.int u :: .int y :: w :: st) σ Q ↔ wO (dx_pi σ 0 w y u) (fun σ1 => dx_W (tb_Z L xs) d 76 66 lv st σ1 Q) := r_iastore (hz_76.trans rfl)
theorem w_76_66 : dx_W (tb_Z L xs) d 76 66 lv st σ Q ↔ wR (dx_lk lv 0) (fun y => dx_W (tb_Z L xs) d 76 67 lv (y :: st) σ Q) := r_aload_n (k := 0) (hz_76.trans rfl)
theorem w_76_67 {w : Value} : dx_W (tb_Z L xs) d 76 67 lv (w :: st) σ Q ↔ wO (dx_gf (tb_K L xs) σ w 7 8) (fun y => dx_W (tb_Z L xs) d 76 70 lv (y :: st) σ Q) := r_getfield (hz_76.trans rfl)
theorem w_76_70 : dx_W (tb_Z L xs) d 76 70 lv st σ Q ↔ wR (dx_lk lv 0) (fun y => dx_W (tb_Z L xs) d 76 71 lv (y :: st) σ Q) := r_aload_n (k := 0) (hz_76.trans rfl)
theorem w_76_71 {w : Value} : dx_W (tb_Z L xs) d 76 71 lv (w :: st) σ Q ↔ wO (dx_gf (tb_K L xs) σ w 7 10) (fun y => dx_W (tb_Z L xs) d 76 74 lv (y :: st) σ Q) := r_getfield (hz_76.trans rfl)
theorem w_76_74 : dx_W (tb_Z L xs) d 76 74 lv st σ Q ↔ wI (dx_lk lv 4) (fun y => dx_W (tb_Z L xs) d 76 76 lv (.int y :: st) σ Q) := r_iload (k := 4) (hz_76.trans rfl)
theorem w_76_76 {w : Value} {y : Int32} {u : Int32} : dx_W (tb_Z L xs) d 76 76 lv (.int u :: .int y :: w :: st) σ Q ↔ wO (dx_pi σ 0 w y u) (fun σ1 => dx_W (tb_Z L xs) d 76 77 lv st σ1 Q) := r_iastore (hz_76.trans rfl)
theorem w_76_77 : dx_W (tb_Z L xs) d 76 77 lv st σ Q ↔ wR (dx_lk lv 0) (fun y => dx_W (tb_Z L xs) d 76 78 lv (y :: st) σ Q) := r_aload_n (k := 0) (hz_76.trans rfl)
theorem w_76_78 {w : Value} : dx_W (tb_Z L xs) d 76 78 lv (w :: st) σ Q ↔ wO (dx_gf (tb_K L xs) σ w 7 9) (fun y => dx_W (tb_Z L xs) d 76 81 lv (y :: st) σ Q) := r_getfield (hz_76.trans rfl)
theorem w_76_81 : dx_W (tb_Z L xs) d 76 81 lv st σ Q ↔ wR (dx_lk lv 0) (fun y => dx_W (tb_Z L xs) d 76 82 lv (y :: st) σ Q) := r_aload_n (k := 0) (hz_76.trans rfl)
theorem w_76_82 {w : Value} : dx_W (tb_Z L xs) d 76 82 lv (w :: st) σ Q ↔ wO (dx_gf (tb_K L xs) σ w 7 10) (fun y => dx_W (tb_Z L xs) d 76 85 lv (y :: st) σ Q) := r_getfield (hz_76.trans rfl)
theorem w_76_85 : dx_W (tb_Z L xs) d 76 85 lv st σ Q ↔ wR (dx_lk lv 0) (fun y => dx_W (tb_Z L xs) d 76 86 lv (y :: st) σ Q) := r_aload_n (k := 0) (hz_76.trans rfl)
theorem w_76_86 {w : Value} : dx_W (tb_Z L xs) d 76 86 lv (w :: st) σ Q ↔ wO (dx_gf (tb_K L xs) σ w 7 1) (fun y => dx_W (tb_Z L xs) d 76 89 lv (y :: st) σ Q) := r_getfield (hz_76.trans rfl)
theorem w_76_89 {w : Value} : dx_W (tb_Z L xs) d 76 89 lv (w :: st) σ Q ↔ wO (dx_gf (tb_K L xs) σ w 2 0) (fun y => dx_W (tb_Z L xs) d 76 92 lv (y :: st) σ Q) := r_getfield (hz_76.trans rfl)
theorem w_76_92 : dx_W (tb_Z L xs) d 76 92 lv st σ Q ↔ wI (dx_lk lv 4) (fun y => dx_W (tb_Z L xs) d 76 94 lv (.int y :: st) σ Q) := r_iload (k := 4) (hz_76.trans rfl)
theorem w_76_94 {w : Value} {y : Int32} : dx_W (tb_Z L xs) d 76 94 lv (.int y :: w :: st) σ Q ↔ wO (dx_el (tb_K L xs) σ w y) (fun u => dx_W (tb_Z L xs) d 76 95 lv (.long u :: st) σ Q) := r_laload (hz_76.trans rfl)
theorem w_76_95 {w : Value} {y : Int32} {u : Int64} : dx_W (tb_Z L xs) d 76 95 lv (.long u :: .int y :: w :: st) σ Q ↔ wO (dx_pl σ w y u) (fun σ1 => dx_W (tb_Z L xs) d 76 96 lv st σ1 Q) := r_lastore (hz_76.trans rfl)
theorem w_76_96 : dx_W (tb_Z L xs) d 76 96 lv st σ Q ↔ wR (dx_lk lv 0) (fun y => dx_W (tb_Z L xs) d 76 97 lv (y :: st) σ Q) := r_aload_n (k := 0) (hz_76.trans rfl)
theorem w_76_97_int {x : Int32} : dx_W (tb_Z L xs) d 76 97 lv (.int x :: st) σ Q ↔ dx_W (tb_Z L xs) d 76 98 lv (.int x :: .int x :: st) σ Q := r_dup_int (hz_76.trans rfl)
theorem w_76_97_ref {x : Nat} : dx_W (tb_Z L xs) d 76 97 lv (.ref x :: st) σ Q ↔ dx_W (tb_Z L xs) d 76 98 lv (.ref x :: .ref x :: st) σ Q := r_dup_ref (hz_76.trans rfl)
theorem w_76_97_retAddr {x : Nat} : dx_W (tb_Z L xs) d 76 97 lv (.retAddr x :: st) σ Q ↔ dx_W (tb_Z L xs) d 76 98 lv (.retAddr x :: .retAddr x :: st) σ Q := r_dup_retAddr (hz_76.trans rfl)
theorem w_76_98 {w : Value} : dx_W (tb_Z L xs) d 76 98 lv (w :: st) σ Q ↔ wO (dx_gf (tb_K L xs) σ w 7 10) (fun y => dx_W (tb_Z L xs) d 76 101 lv (y :: st) σ Q) := r_getfield (hz_76.trans rfl)
theorem w_76_101 : dx_W (tb_Z L xs) d 76 101 lv st σ Q ↔ dx_W (tb_Z L xs) d 76 102 lv (.int 1 :: st) σ Q := r_iconst (n := 1) (hz_76.trans rfl)
theorem w_76_102 {x y : Int32} : dx_W (tb_Z L xs) d 76 102 lv (.int y :: .int x :: st) σ Q ↔ dx_W (tb_Z L xs) d 76 103 lv (.int (x + y) :: st) σ Q := r_iadd (hz_76.trans rfl)
theorem w_76_103 {u w : Value} : dx_W (tb_Z L xs) d 76 103 lv (u :: w :: st) σ Q ↔ wO (dx_pf σ w 7 10 0 u) (fun σ1 => dx_W (tb_Z L xs) d 76 106 lv st σ1 Q) := r_putfield (f := 0) (hz_76.trans rfl)
theorem w_76_106 : dx_W (tb_Z L xs) d 76 106 lv st σ Q ↔ wR (dx_lk lv 0) (fun y => dx_W (tb_Z L xs) d 76 107 lv (y :: st) σ Q) := r_aload_n (k := 0) (hz_76.trans rfl)
theorem w_76_107 {w : Value} : dx_W (tb_Z L xs) d 76 107 lv (w :: st) σ Q ↔ wO (dx_gf (tb_K L xs) σ w 7 1) (fun y => dx_W (tb_Z L xs) d 76 110 lv (y :: st) σ Q) := r_getfield (hz_76.trans rfl)
theorem w_76_110 {w : Value} : dx_W (tb_Z L xs) d 76 110 lv (w :: st) σ Q ↔ wO (dx_gf (tb_K L xs) σ w 2 0) (fun y => dx_W (tb_Z L xs) d 76 113 lv (y :: st) σ Q) := r_getfield (hz_76.trans rfl)
theorem w_76_113 : dx_W (tb_Z L xs) d 76 113 lv st σ Q ↔ wI (dx_lk lv 4) (fun y => dx_W (tb_Z L xs) d 76 115 lv (.int y :: st) σ Q) := r_iload (k := 4) (hz_76.trans rfl)
theorem w_76_115 : dx_W (tb_Z L xs) d 76 115 lv st σ Q ↔ wJ (dx_lk lv 2) (fun y => dx_W (tb_Z L xs) d 76 116 lv (.long y :: st) σ Q) := r_lload_n (k := 2) (hz_76.trans rfl)
theorem w_76_116 {w : Value} {y : Int32} {u : Int64} : dx_W (tb_Z L xs) d 76 116 lv (.long u :: .int y :: w :: st) σ Q ↔ wO (dx_pl σ w y u) (fun σ1 => dx_W (tb_Z L xs) d 76 117 lv st σ1 Q) := r_lastore (hz_76.trans rfl)
theorem w_76_117 : dx_W (tb_Z L xs) d 76 117 lv st σ Q ↔ wR (dx_lk lv 0) (fun y => dx_W (tb_Z L xs) d 76 118 lv (y :: st) σ Q) := r_aload_n (k := 0) (hz_76.trans rfl)
theorem w_76_118 : dx_W (tb_Z L xs) d 76 118 lv st σ Q ↔ wR (dx_lk lv 0) (fun y => dx_W (tb_Z L xs) d 76 119 lv (y :: st) σ Q) := r_aload_n (k := 0) (hz_76.trans rfl)
theorem w_76_119 {w : Value} : dx_W (tb_Z L xs) d 76 119 lv (w :: st) σ Q ↔ wO (dx_gf (tb_K L xs) σ w 7 0) (fun y => dx_W (tb_Z L xs) d 76 122 lv (y :: st) σ Q) := r_getfield (hz_76.trans rfl)
theorem w_76_122 {w : Value} : dx_W (tb_Z L xs) d 76 122 lv (w :: st) σ Q ↔ wO (dx_gf (tb_K L xs) σ w 4 2) (fun y => dx_W (tb_Z L xs) d 76 125 lv (y :: st) σ Q) := r_getfield (hz_76.trans rfl)
theorem w_76_125 : dx_W (tb_Z L xs) d 76 125 lv st σ Q ↔ wI (dx_lk lv 1) (fun y => dx_W (tb_Z L xs) d 76 126 lv (.int y :: st) σ Q) := r_iload_n (k := 1) (hz_76.trans rfl)
theorem w_76_126 {w : Value} {y : Int32} : dx_W (tb_Z L xs) d 76 126 lv (.int y :: w :: st) σ Q ↔ wO (dx_ei (tb_K L xs) σ 0 w y) (fun u => dx_W (tb_Z L xs) d 76 127 lv (.int u :: st) σ Q) := r_iaload (hz_76.trans rfl)
theorem w_76_127 {u w : Value} : dx_W (tb_Z L xs) d 76 127 lv (u :: w :: st) σ Q ↔ wO (dx_pf σ w 7 6 0 u) (fun σ1 => dx_W (tb_Z L xs) d 76 130 lv st σ1 Q) := r_putfield (f := 0) (hz_76.trans rfl)
theorem w_76_130 : dx_W (tb_Z L xs) d 76 130 lv [] σ Q ↔ Q (.inl none) σ := r_return (hz_76.trans rfl) rfl
theorem hz_77 {pc : Nat} : (tb_Z L xs).1 77 pc = dx_at tb_m77 pc := rfl
theorem w_77_0 : dx_W (tb_Z L xs) d 77 0 lv st σ Q ↔ wR (dx_lk lv 0) (fun y => dx_W (tb_Z L xs) d 77 1 lv (y :: st) σ Q) := r_aload_n (k := 0) (hz_77.trans rfl)
theorem w_77_1 {w : Value} : dx_W (tb_Z L xs) d 77 1 lv (w :: st) σ Q ↔ wO (dx_gf (tb_K L xs) σ w 7 10) (fun y => dx_W (tb_Z L xs) d 77 4 lv (y :: st) σ Q) := r_getfield (hz_77.trans rfl)
theorem w_77_4 {x : Int32} : dx_W (tb_Z L xs) d 77 4 lv (.int x :: st) σ Q ↔ (if x ≤ 0 then dx_W (tb_Z L xs) d 77 56 lv st σ Q else dx_W (tb_Z L xs) d 77 7 lv st σ Q) := r_if_le (off := 52) (t := 56) (hz_77.trans rfl) (by decide)
theorem w_77_7 : dx_W (tb_Z L xs) d 77 7 lv st σ Q ↔ wR (dx_lk lv 0) (fun y => dx_W (tb_Z L xs) d 77 8 lv (y :: st) σ Q) := r_aload_n (k := 0) (hz_77.trans rfl)
theorem w_77_8_int {x : Int32} : dx_W (tb_Z L xs) d 77 8 lv (.int x :: st) σ Q ↔ dx_W (tb_Z L xs) d 77 9 lv (.int x :: .int x :: st) σ Q := r_dup_int (hz_77.trans rfl)
theorem w_77_8_ref {x : Nat} : dx_W (tb_Z L xs) d 77 8 lv (.ref x :: st) σ Q ↔ dx_W (tb_Z L xs) d 77 9 lv (.ref x :: .ref x :: st) σ Q := r_dup_ref (hz_77.trans rfl)
theorem w_77_8_retAddr {x : Nat} : dx_W (tb_Z L xs) d 77 8 lv (.retAddr x :: st) σ Q ↔ dx_W (tb_Z L xs) d 77 9 lv (.retAddr x :: .retAddr x :: st) σ Q := r_dup_retAddr (hz_77.trans rfl)
theorem w_77_9 {w : Value} : dx_W (tb_Z L xs) d 77 9 lv (w :: st) σ Q ↔ wO (dx_gf (tb_K L xs) σ w 7 10) (fun y => dx_W (tb_Z L xs) d 77 12 lv (y :: st) σ Q) := r_getfield (hz_77.trans rfl)
theorem w_77_12 : dx_W (tb_Z L xs) d 77 12 lv st σ Q ↔ dx_W (tb_Z L xs) d 77 13 lv (.int 1 :: st) σ Q := r_iconst (n := 1) (hz_77.trans rfl)
theorem w_77_13 {x y : Int32} : dx_W (tb_Z L xs) d 77 13 lv (.int y :: .int x :: st) σ Q ↔ dx_W (tb_Z L xs) d 77 14 lv (.int (x - y) :: st) σ Q := r_isub (hz_77.trans rfl)
theorem w_77_14 {u w : Value} : dx_W (tb_Z L xs) d 77 14 lv (u :: w :: st) σ Q ↔ wO (dx_pf σ w 7 10 0 u) (fun σ1 => dx_W (tb_Z L xs) d 77 17 lv st σ1 Q) := r_putfield (f := 0) (hz_77.trans rfl)
theorem w_77_17 : dx_W (tb_Z L xs) d 77 17 lv st σ Q ↔ wR (dx_lk lv 0) (fun y => dx_W (tb_Z L xs) d 77 18 lv (y :: st) σ Q) := r_aload_n (k := 0) (hz_77.trans rfl)
theorem w_77_18 {w : Value} : dx_W (tb_Z L xs) d 77 18 lv (w :: st) σ Q ↔ wO (dx_gf (tb_K L xs) σ w 7 1) (fun y => dx_W (tb_Z L xs) d 77 21 lv (y :: st) σ Q) := r_getfield (hz_77.trans rfl)
theorem w_77_21 {w : Value} : dx_W (tb_Z L xs) d 77 21 lv (w :: st) σ Q ↔ wO (dx_gf (tb_K L xs) σ w 2 0) (fun y => dx_W (tb_Z L xs) d 77 24 lv (y :: st) σ Q) := r_getfield (hz_77.trans rfl)
theorem w_77_24 : dx_W (tb_Z L xs) d 77 24 lv st σ Q ↔ wR (dx_lk lv 0) (fun y => dx_W (tb_Z L xs) d 77 25 lv (y :: st) σ Q) := r_aload_n (k := 0) (hz_77.trans rfl)
theorem w_77_25 {w : Value} : dx_W (tb_Z L xs) d 77 25 lv (w :: st) σ Q ↔ wO (dx_gf (tb_K L xs) σ w 7 8) (fun y => dx_W (tb_Z L xs) d 77 28 lv (y :: st) σ Q) := r_getfield (hz_77.trans rfl)
theorem w_77_28 : dx_W (tb_Z L xs) d 77 28 lv st σ Q ↔ wR (dx_lk lv 0) (fun y => dx_W (tb_Z L xs) d 77 29 lv (y :: st) σ Q) := r_aload_n (k := 0) (hz_77.trans rfl)
theorem w_77_29 {w : Value} : dx_W (tb_Z L xs) d 77 29 lv (w :: st) σ Q ↔ wO (dx_gf (tb_K L xs) σ w 7 10) (fun y => dx_W (tb_Z L xs) d 77 32 lv (y :: st) σ Q) := r_getfield (hz_77.trans rfl)
theorem w_77_32 {w : Value} {y : Int32} : dx_W (tb_Z L xs) d 77 32 lv (.int y :: w :: st) σ Q ↔ wO (dx_ei (tb_K L xs) σ 0 w y) (fun u => dx_W (tb_Z L xs) d 77 33 lv (.int u :: st) σ Q) := r_iaload (hz_77.trans rfl)
theorem w_77_33 : dx_W (tb_Z L xs) d 77 33 lv st σ Q ↔ wR (dx_lk lv 0) (fun y => dx_W (tb_Z L xs) d 77 34 lv (y :: st) σ Q) := r_aload_n (k := 0) (hz_77.trans rfl)
theorem w_77_34 {w : Value} : dx_W (tb_Z L xs) d 77 34 lv (w :: st) σ Q ↔ wO (dx_gf (tb_K L xs) σ w 7 9) (fun y => dx_W (tb_Z L xs) d 77 37 lv (y :: st) σ Q) := r_getfield (hz_77.trans rfl)
theorem w_77_37 : dx_W (tb_Z L xs) d 77 37 lv st σ Q ↔ wR (dx_lk lv 0) (fun y => dx_W (tb_Z L xs) d 77 38 lv (y :: st) σ Q) := r_aload_n (k := 0) (hz_77.trans rfl)
theorem w_77_38 {w : Value} : dx_W (tb_Z L xs) d 77 38 lv (w :: st) σ Q ↔ wO (dx_gf (tb_K L xs) σ w 7 10) (fun y => dx_W (tb_Z L xs) d 77 41 lv (y :: st) σ Q) := r_getfield (hz_77.trans rfl)
theorem w_77_41 {w : Value} {y : Int32} : dx_W (tb_Z L xs) d 77 41 lv (.int y :: w :: st) σ Q ↔ wO (dx_el (tb_K L xs) σ w y) (fun u => dx_W (tb_Z L xs) d 77 42 lv (.long u :: st) σ Q) := r_laload (hz_77.trans rfl)
theorem w_77_42 {w : Value} {y : Int32} {u : Int64} : dx_W (tb_Z L xs) d 77 42 lv (.long u :: .int y :: w :: st) σ Q ↔ wO (dx_pl σ w y u) (fun σ1 => dx_W (tb_Z L xs) d 77 43 lv st σ1 Q) := r_lastore (hz_77.trans rfl)
theorem w_77_43 : dx_W (tb_Z L xs) d 77 43 lv st σ Q ↔ wR (dx_lk lv 0) (fun y => dx_W (tb_Z L xs) d 77 44 lv (y :: st) σ Q) := r_aload_n (k := 0) (hz_77.trans rfl)
theorem w_77_44 : dx_W (tb_Z L xs) d 77 44 lv st σ Q ↔ wR (dx_lk lv 0) (fun y => dx_W (tb_Z L xs) d 77 45 lv (y :: st) σ Q) := r_aload_n (k := 0) (hz_77.trans rfl)
theorem w_77_45 {w : Value} : dx_W (tb_Z L xs) d 77 45 lv (w :: st) σ Q ↔ wO (dx_gf (tb_K L xs) σ w 7 7) (fun y => dx_W (tb_Z L xs) d 77 48 lv (y :: st) σ Q) := r_getfield (hz_77.trans rfl)
theorem w_77_48 : dx_W (tb_Z L xs) d 77 48 lv st σ Q ↔ wR (dx_lk lv 0) (fun y => dx_W (tb_Z L xs) d 77 49 lv (y :: st) σ Q) := r_aload_n (k := 0) (hz_77.trans rfl)
theorem w_77_49 {w : Value} : dx_W (tb_Z L xs) d 77 49 lv (w :: st) σ Q ↔ wO (dx_gf (tb_K L xs) σ w 7 10) (fun y => dx_W (tb_Z L xs) d 77 52 lv (y :: st) σ Q) := r_getfield (hz_77.trans rfl)
theorem w_77_52 {w : Value} {y : Int32} : dx_W (tb_Z L xs) d 77 52 lv (.int y :: w :: st) σ Q ↔ wO (dx_ei (tb_K L xs) σ 0 w y) (fun u => dx_W (tb_Z L xs) d 77 53 lv (.int u :: st) σ Q) := r_iaload (hz_77.trans rfl)
theorem w_77_53 {u w : Value} : dx_W (tb_Z L xs) d 77 53 lv (u :: w :: st) σ Q ↔ wO (dx_pf σ w 7 6 0 u) (fun σ1 => dx_W (tb_Z L xs) d 77 56 lv st σ1 Q) := r_putfield (f := 0) (hz_77.trans rfl)
theorem w_77_56 : dx_W (tb_Z L xs) d 77 56 lv [] σ Q ↔ Q (.inl none) σ := r_return (hz_77.trans rfl) rfl
end W7
