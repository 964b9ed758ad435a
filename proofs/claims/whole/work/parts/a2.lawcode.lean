/-! Printed by program: the rules of every instruction of the law. -/
/-- the law's helper -/
def tb_m163x : List (Nat × dx_I) := [(0, (.aload_n 2, 0, 0, 0, .null)), (1, (.iconst 0, 0, 0, 0, .null)), (2, (.aload_n 0, 0, 0, 0, .null)), (3, (.iload_n 1, 0, 0, 0, .null)), (4, (.invokevirtual 7, 13, 2, 0, .null)), (7, (.i2l, 0, 0, 0, .null)), (8, (.lastore, 0, 0, 0, .null)), (9, (.goto 12, 0, 0, 0, .null)), (12, (.astore_n 3, 0, 0, 0, .null)), (13, (.iconst 1, 0, 0, 0, .null)), (14, (.ireturn, 0, 0, 0, .null)), (15, (.astore_n 3, 0, 0, 0, .null)), (16, (.iconst 2, 0, 0, 0, .null)), (17, (.ireturn, 0, 0, 0, .null)), (18, (.astore_n 3, 0, 0, 0, .null)), (19, (.iconst 3, 0, 0, 0, .null)), (20, (.ireturn, 0, 0, 0, .null)), (21, (.iconst 0, 0, 0, 0, .null)), (22, (.ireturn, 0, 0, 0, .null))]
/-- the code with the law's methods -/
def tb_Zl (L : Nat) (xs : Nat → Int32) : dx_Z := (fun M pc => if M = 164 then dx_at tb_m164 pc else if M = 163 then dx_at tb_m163x pc else dx_at (tb_L M) pc, (tb_Z L xs).2)
section LWS
variable {Z : dx_Z} {M pc : Nat} {cal : Nat → List Value → dx_S → dx_O → dx_S → Prop} {a b f : Nat} {v0 : Value} {lv : dx_L} {st : List Value} {σ : dx_S} {Q : dx_O → dx_S → Prop}
theorem lr_table {dd lo hi : Int} {offs : Array Int} {x : Int32} {t : Nat} (h : Z.1 M pc = some (.tableswitch dd lo hi offs, a, b, f, v0)) (ha : offs.size = (hi - lo + 1).toNat ∧ lo ≤ hi) (hx : x.toInt < lo ∨ hi < x.toInt) (ho : (pc : Int) + dd = (t : Int)) : lx_W Z cal M pc lv (.int x :: st) σ Q ↔ lx_W Z cal M t lv st σ Q := by
  refine lr_sw h rfl ?_
  show (if offs.size = (hi - lo + 1).toNat ∧ lo ≤ hi then dx_jp pc (if x.toInt < lo ∨ hi < x.toInt then dd else (offs[(x.toInt - lo).toNat]?).getD dd) (fun t => some (t, lv, st)) else none) = some (t, lv, st)
  rw [if_pos ha, if_pos hx, dx_jp, if_pos (by omega), show ((pc : Int) + dd).toNat = t by omega]
end LWS
section LW4
variable {L : Nat} {xs : Nat → Int32} {cal : Nat → List Value → dx_S → dx_O → dx_S → Prop} {lv : dx_L} {st : List Value} {σ : dx_S} {Q : dx_O → dx_S → Prop}
theorem hz_164 {pc : Nat} : (tb_Zl L xs).1 164 pc = dx_at tb_m164 pc := by
  show (if (164 : Nat) = 164 then dx_at tb_m164 pc else if (164 : Nat) = 163 then dx_at tb_m163x pc else dx_at (tb_L 164) pc) = _
  exact if_pos rfl
theorem hz_163 {pc : Nat} : (tb_Zl L xs).1 163 pc = dx_at tb_m163x pc := by
  show (if (163 : Nat) = 164 then dx_at tb_m164 pc else if (163 : Nat) = 163 then dx_at tb_m163x pc else dx_at (tb_L 163) pc) = _
  rw [if_neg (by decide), if_pos rfl]
set_option maxRecDepth 8000 in
theorem w_163_0 : lx_W (tb_Zl L xs) cal 163 0 lv st σ Q ↔ wR (dx_lk lv 2) (fun y => lx_W (tb_Zl L xs) cal 163 1 lv (y :: st) σ Q) := lr_aload_n (k := 2) (hz_163.trans rfl)
set_option maxRecDepth 8000 in
theorem w_163_1 : lx_W (tb_Zl L xs) cal 163 1 lv st σ Q ↔ lx_W (tb_Zl L xs) cal 163 2 lv (.int 0 :: st) σ Q := lr_iconst (n := 0) (hz_163.trans rfl)
set_option maxRecDepth 8000 in
theorem w_163_2 : lx_W (tb_Zl L xs) cal 163 2 lv st σ Q ↔ wR (dx_lk lv 0) (fun y => lx_W (tb_Zl L xs) cal 163 3 lv (y :: st) σ Q) := lr_aload_n (k := 0) (hz_163.trans rfl)
set_option maxRecDepth 8000 in
theorem w_163_3 : lx_W (tb_Zl L xs) cal 163 3 lv st σ Q ↔ wI (dx_lk lv 1) (fun y => lx_W (tb_Zl L xs) cal 163 4 lv (.int y :: st) σ Q) := lr_iload_n (k := 1) (hz_163.trans rfl)
set_option maxRecDepth 8000 in
theorem w_163_4 {v0 v1 : Value}  : lx_W (tb_Zl L xs) cal 163 4 lv (v1 :: v0 :: st) σ Q ↔ (dx_ct st ≤ 8 ∧ dx_ci (tb_K L xs) σ v0 = some 0) ∧ lx_M cal 13 [v0, v1] σ (lx_K (tb_Zl L xs) cal 163 7 lv st Q) := lc_callv (av := [v1]) (hz_163.trans rfl)
set_option maxRecDepth 8000 in
theorem w_163_7 {x : Int32} : lx_W (tb_Zl L xs) cal 163 7 lv (.int x :: st) σ Q ↔ lx_W (tb_Zl L xs) cal 163 8 lv (.long x.toInt64 :: st) σ Q := lr_i2l (hz_163.trans rfl)
set_option maxRecDepth 8000 in
theorem w_163_8 {w : Value} {y : Int32} {u : Int64} : lx_W (tb_Zl L xs) cal 163 8 lv (.long u :: .int y :: w :: st) σ Q ↔ wO (dx_pl σ w y u) (fun σ1 => lx_W (tb_Zl L xs) cal 163 9 lv st σ1 Q) := lr_lastore (hz_163.trans rfl)
set_option maxRecDepth 8000 in
theorem w_163_9 : lx_W (tb_Zl L xs) cal 163 9 lv st σ Q ↔ lx_W (tb_Zl L xs) cal 163 21 lv st σ Q := lr_goto (off := 12) (t := 21) (hz_163.trans rfl) (by decide)
set_option maxRecDepth 8000 in
theorem w_163_12 {x : Nat} : lx_W (tb_Zl L xs) cal 163 12 lv (.ref x :: st) σ Q ↔ lx_W (tb_Zl L xs) cal 163 13 (dx_s1 lv 3 (.ref x)) st σ Q := lr_astore_n_ref (k := 3) (hz_163.trans rfl) (show 3 < tb_l 163 by decide)
set_option maxRecDepth 8000 in
theorem w_163_13 : lx_W (tb_Zl L xs) cal 163 13 lv st σ Q ↔ lx_W (tb_Zl L xs) cal 163 14 lv (.int 1 :: st) σ Q := lr_iconst (n := 1) (hz_163.trans rfl)
set_option maxRecDepth 8000 in
theorem w_163_14 {x : Int32} : lx_W (tb_Zl L xs) cal 163 14 lv [.int x] σ Q ↔ Q (.inl (some (.int x))) σ := lr_ireturn (hz_163.trans rfl) rfl rfl
set_option maxRecDepth 8000 in
theorem w_163_15 {x : Nat} : lx_W (tb_Zl L xs) cal 163 15 lv (.ref x :: st) σ Q ↔ lx_W (tb_Zl L xs) cal 163 16 (dx_s1 lv 3 (.ref x)) st σ Q := lr_astore_n_ref (k := 3) (hz_163.trans rfl) (show 3 < tb_l 163 by decide)
set_option maxRecDepth 8000 in
theorem w_163_16 : lx_W (tb_Zl L xs) cal 163 16 lv st σ Q ↔ lx_W (tb_Zl L xs) cal 163 17 lv (.int 2 :: st) σ Q := lr_iconst (n := 2) (hz_163.trans rfl)
set_option maxRecDepth 8000 in
theorem w_163_17 {x : Int32} : lx_W (tb_Zl L xs) cal 163 17 lv [.int x] σ Q ↔ Q (.inl (some (.int x))) σ := lr_ireturn (hz_163.trans rfl) rfl rfl
set_option maxRecDepth 8000 in
theorem w_163_18 {x : Nat} : lx_W (tb_Zl L xs) cal 163 18 lv (.ref x :: st) σ Q ↔ lx_W (tb_Zl L xs) cal 163 19 (dx_s1 lv 3 (.ref x)) st σ Q := lr_astore_n_ref (k := 3) (hz_163.trans rfl) (show 3 < tb_l 163 by decide)
set_option maxRecDepth 8000 in
theorem w_163_19 : lx_W (tb_Zl L xs) cal 163 19 lv st σ Q ↔ lx_W (tb_Zl L xs) cal 163 20 lv (.int 3 :: st) σ Q := lr_iconst (n := 3) (hz_163.trans rfl)
set_option maxRecDepth 8000 in
theorem w_163_20 {x : Int32} : lx_W (tb_Zl L xs) cal 163 20 lv [.int x] σ Q ↔ Q (.inl (some (.int x))) σ := lr_ireturn (hz_163.trans rfl) rfl rfl
set_option maxRecDepth 8000 in
theorem w_163_21 : lx_W (tb_Zl L xs) cal 163 21 lv st σ Q ↔ lx_W (tb_Zl L xs) cal 163 22 lv (.int 0 :: st) σ Q := lr_iconst (n := 0) (hz_163.trans rfl)
set_option maxRecDepth 8000 in
theorem w_163_22 {x : Int32} : lx_W (tb_Zl L xs) cal 163 22 lv [.int x] σ Q ↔ Q (.inl (some (.int x))) σ := lr_ireturn (hz_163.trans rfl) rfl rfl
set_option maxRecDepth 8000 in
theorem w_164_0 : lx_W (tb_Zl L xs) cal 164 0 lv st σ Q ↔ lx_W (tb_Zl L xs) cal 164 3 lv (.ref σ.length :: st) (σ ++ [.inr (0, tb_d 0)]) Q := lr_new (hz_164.trans rfl)
set_option maxRecDepth 8000 in
theorem w_164_3 {x : Nat} : lx_W (tb_Zl L xs) cal 164 3 lv (.ref x :: st) σ Q ↔ lx_W (tb_Zl L xs) cal 164 4 lv (.ref x :: .ref x :: st) σ Q := lr_dup_ref (hz_164.trans rfl)
set_option maxRecDepth 8000 in
theorem w_164_4 {w : Nat}  : lx_W (tb_Zl L xs) cal 164 4 lv (.ref w :: st) σ Q ↔ dx_ct st ≤ 8 ∧ lx_M cal 0 [.ref w] σ (lx_K (tb_Zl L xs) cal 164 7 lv st Q) := lc_calli (av := []) (hz_164.trans rfl)
set_option maxRecDepth 8000 in
theorem w_164_7 {x : Nat} : lx_W (tb_Zl L xs) cal 164 7 lv (.ref x :: st) σ Q ↔ lx_W (tb_Zl L xs) cal 164 8 (dx_s1 lv 1 (.ref x)) st σ Q := lr_astore_n_ref (k := 1) (hz_164.trans rfl) (show 1 < tb_l 164 by decide)
set_option maxRecDepth 8000 in
theorem w_164_8 : lx_W (tb_Zl L xs) cal 164 8 lv st σ Q ↔ lx_W (tb_Zl L xs) cal 164 11 lv (.ref σ.length :: st) (σ ++ [.inr (9, tb_d 9)]) Q := lr_new (hz_164.trans rfl)
set_option maxRecDepth 8000 in
theorem w_164_11 {x : Nat} : lx_W (tb_Zl L xs) cal 164 11 lv (.ref x :: st) σ Q ↔ lx_W (tb_Zl L xs) cal 164 12 lv (.ref x :: .ref x :: st) σ Q := lr_dup_ref (hz_164.trans rfl)
set_option maxRecDepth 8000 in
theorem w_164_12 {w : Nat}  : lx_W (tb_Zl L xs) cal 164 12 lv (.ref w :: st) σ Q ↔ dx_ct st ≤ 8 ∧ lx_M cal 94 [.ref w] σ (lx_K (tb_Zl L xs) cal 164 15 lv st Q) := lc_calli (av := []) (hz_164.trans rfl)
set_option maxRecDepth 8000 in
theorem w_164_15 {x : Nat} : lx_W (tb_Zl L xs) cal 164 15 lv (.ref x :: st) σ Q ↔ lx_W (tb_Zl L xs) cal 164 16 (dx_s1 lv 2 (.ref x)) st σ Q := lr_astore_n_ref (k := 2) (hz_164.trans rfl) (show 2 < tb_l 164 by decide)
set_option maxRecDepth 8000 in
theorem w_164_16 : lx_W (tb_Zl L xs) cal 164 16 lv st σ Q ↔ lx_W (tb_Zl L xs) cal 164 17 lv (.int 1 :: st) σ Q := lr_iconst (n := 1) (hz_164.trans rfl)
set_option maxRecDepth 8000 in
theorem w_164_17 {n : Int32} {y : dx_E} (hn : ¬ (n < 0 ∨ 1000000 < n.toNatClampNeg)) (hy : dx_na .long n.toNatClampNeg = some y) : lx_W (tb_Zl L xs) cal 164 17 lv (.int n :: st) σ Q ↔ lx_W (tb_Zl L xs) cal 164 19 lv (.ref σ.length :: st) (σ ++ [y]) Q := lr_newarray (hz_164.trans rfl) hn hy
set_option maxRecDepth 8000 in
theorem w_164_19 {x : Nat} : lx_W (tb_Zl L xs) cal 164 19 lv (.ref x :: st) σ Q ↔ lx_W (tb_Zl L xs) cal 164 20 (dx_s1 lv 3 (.ref x)) st σ Q := lr_astore_n_ref (k := 3) (hz_164.trans rfl) (show 3 < tb_l 164 by decide)
set_option maxRecDepth 8000 in
theorem w_164_20 : lx_W (tb_Zl L xs) cal 164 20 lv st σ Q ↔ lx_W (tb_Zl L xs) cal 164 21 lv (.int 0 :: st) σ Q := lr_iconst (n := 0) (hz_164.trans rfl)
set_option maxRecDepth 8000 in
theorem w_164_21 {x : Int32} : lx_W (tb_Zl L xs) cal 164 21 lv (.int x :: st) σ Q ↔ lx_W (tb_Zl L xs) cal 164 23 (dx_s1 lv 4 (.int x)) st σ Q := lr_istore (k := 4) (hz_164.trans rfl) (show 4 < tb_l 164 by decide)
set_option maxRecDepth 8000 in
theorem w_164_23 : lx_W (tb_Zl L xs) cal 164 23 lv st σ Q ↔ wI (dx_lk lv 4) (fun y => lx_W (tb_Zl L xs) cal 164 25 lv (.int y :: st) σ Q) := lr_iload (k := 4) (hz_164.trans rfl)
set_option maxRecDepth 8000 in
theorem w_164_25 : lx_W (tb_Zl L xs) cal 164 25 lv st σ Q ↔ wR (dx_lk lv 0) (fun y => lx_W (tb_Zl L xs) cal 164 26 lv (y :: st) σ Q) := lr_aload_n (k := 0) (hz_164.trans rfl)
set_option maxRecDepth 8000 in
theorem w_164_26 {w : Value} : lx_W (tb_Zl L xs) cal 164 26 lv (w :: st) σ Q ↔ wO (dx_in (tb_K L xs) σ w) (fun u => lx_W (tb_Zl L xs) cal 164 27 lv (.int u :: st) σ Q) := lr_arraylength (hz_164.trans rfl)
set_option maxRecDepth 8000 in
theorem w_164_27 : lx_W (tb_Zl L xs) cal 164 27 lv st σ Q ↔ lx_W (tb_Zl L xs) cal 164 28 lv (.int 2 :: st) σ Q := lr_iconst (n := 2) (hz_164.trans rfl)
set_option maxRecDepth 8000 in
theorem w_164_28 {x y : Int32} : lx_W (tb_Zl L xs) cal 164 28 lv (.int y :: .int x :: st) σ Q ↔ lx_W (tb_Zl L xs) cal 164 29 lv (.int (x - y) :: st) σ Q := lr_isub (hz_164.trans rfl)
set_option maxRecDepth 8000 in
theorem w_164_29 {x y : Int32} : lx_W (tb_Zl L xs) cal 164 29 lv (.int y :: .int x :: st) σ Q ↔ (if y < x then lx_W (tb_Zl L xs) cal 164 349 lv st σ Q else lx_W (tb_Zl L xs) cal 164 32 lv st σ Q) := lr_ic_gt (off := 320) (t := 349) (hz_164.trans rfl) (by decide)
set_option maxRecDepth 8000 in
theorem w_164_32 : lx_W (tb_Zl L xs) cal 164 32 lv st σ Q ↔ wR (dx_lk lv 0) (fun y => lx_W (tb_Zl L xs) cal 164 33 lv (y :: st) σ Q) := lr_aload_n (k := 0) (hz_164.trans rfl)
set_option maxRecDepth 8000 in
theorem w_164_33 : lx_W (tb_Zl L xs) cal 164 33 lv st σ Q ↔ wI (dx_lk lv 4) (fun y => lx_W (tb_Zl L xs) cal 164 35 lv (.int y :: st) σ Q) := lr_iload (k := 4) (hz_164.trans rfl)
set_option maxRecDepth 8000 in
theorem w_164_35 {w : Value} {y : Int32} : lx_W (tb_Zl L xs) cal 164 35 lv (.int y :: w :: st) σ Q ↔ wO (dx_ei (tb_K L xs) σ 0 w y) (fun u => lx_W (tb_Zl L xs) cal 164 36 lv (.int u :: st) σ Q) := lr_iaload (hz_164.trans rfl)
set_option maxRecDepth 8000 in
theorem w_164_36 : lx_W (tb_Zl L xs) cal 164 36 lv st σ Q ↔ lx_W (tb_Zl L xs) cal 164 38 lv (.int 15 :: st) σ Q := lr_bipush (n := 15) (hz_164.trans rfl)
set_option maxRecDepth 8000 in
theorem w_164_38 {x y : Int32} : lx_W (tb_Zl L xs) cal 164 38 lv (.int y :: .int x :: st) σ Q ↔ lx_W (tb_Zl L xs) cal 164 39 lv (.int (x &&& y) :: st) σ Q := lr_iand (hz_164.trans rfl)
set_option maxRecDepth 8000 in
theorem w_164_39 {x : Int32} : lx_W (tb_Zl L xs) cal 164 39 lv (.int x :: st) σ Q ↔ (if x = 0 then lx_W (tb_Zl L xs) cal 164 100 lv st σ Q else if x = 1 then lx_W (tb_Zl L xs) cal 164 125 lv st σ Q else if x = 2 then lx_W (tb_Zl L xs) cal 164 138 lv st σ Q else if x = 3 then lx_W (tb_Zl L xs) cal 164 149 lv st σ Q else if x = 4 then lx_W (tb_Zl L xs) cal 164 160 lv st σ Q else if x = 5 then lx_W (tb_Zl L xs) cal 164 216 lv st σ Q else if x = 6 then lx_W (tb_Zl L xs) cal 164 229 lv st σ Q else if x = 7 then lx_W (tb_Zl L xs) cal 164 242 lv st σ Q else if x = 8 then lx_W (tb_Zl L xs) cal 164 255 lv st σ Q else if x = 9 then lx_W (tb_Zl L xs) cal 164 280 lv st σ Q else if x = 10 then lx_W (tb_Zl L xs) cal 164 305 lv st σ Q else if x = 11 then lx_W (tb_Zl L xs) cal 164 330 lv st σ Q else lx_W (tb_Zl L xs) cal 164 343 lv st σ Q) := by
  by_cases h0 : x = 0
  · subst h0
    rw [if_pos rfl]
    exact lr_sw (t := 100) (hz_164.trans rfl) rfl rfl
  rw [if_neg h0]
  by_cases h1 : x = 1
  · subst h1
    rw [if_pos rfl]
    exact lr_sw (t := 125) (hz_164.trans rfl) rfl rfl
  rw [if_neg h1]
  by_cases h2 : x = 2
  · subst h2
    rw [if_pos rfl]
    exact lr_sw (t := 138) (hz_164.trans rfl) rfl rfl
  rw [if_neg h2]
  by_cases h3 : x = 3
  · subst h3
    rw [if_pos rfl]
    exact lr_sw (t := 149) (hz_164.trans rfl) rfl rfl
  rw [if_neg h3]
  by_cases h4 : x = 4
  · subst h4
    rw [if_pos rfl]
    exact lr_sw (t := 160) (hz_164.trans rfl) rfl rfl
  rw [if_neg h4]
  by_cases h5 : x = 5
  · subst h5
    rw [if_pos rfl]
    exact lr_sw (t := 216) (hz_164.trans rfl) rfl rfl
  rw [if_neg h5]
  by_cases h6 : x = 6
  · subst h6
    rw [if_pos rfl]
    exact lr_sw (t := 229) (hz_164.trans rfl) rfl rfl
  rw [if_neg h6]
  by_cases h7 : x = 7
  · subst h7
    rw [if_pos rfl]
    exact lr_sw (t := 242) (hz_164.trans rfl) rfl rfl
  rw [if_neg h7]
  by_cases h8 : x = 8
  · subst h8
    rw [if_pos rfl]
    exact lr_sw (t := 255) (hz_164.trans rfl) rfl rfl
  rw [if_neg h8]
  by_cases h9 : x = 9
  · subst h9
    rw [if_pos rfl]
    exact lr_sw (t := 280) (hz_164.trans rfl) rfl rfl
  rw [if_neg h9]
  by_cases h10 : x = 10
  · subst h10
    rw [if_pos rfl]
    exact lr_sw (t := 305) (hz_164.trans rfl) rfl rfl
  rw [if_neg h10]
  by_cases h11 : x = 11
  · subst h11
    rw [if_pos rfl]
    exact lr_sw (t := 330) (hz_164.trans rfl) rfl rfl
  rw [if_neg h11]
  refine lr_table (t := 343) (hz_164.trans rfl) (by decide) ?_ (by decide)
  have g0 := lv_neT h0 (show (0 : Int32).toInt = 0 from rfl)
  have g1 := lv_neT h1 (show (1 : Int32).toInt = 1 from rfl)
  have g2 := lv_neT h2 (show (2 : Int32).toInt = 2 from rfl)
  have g3 := lv_neT h3 (show (3 : Int32).toInt = 3 from rfl)
  have g4 := lv_neT h4 (show (4 : Int32).toInt = 4 from rfl)
  have g5 := lv_neT h5 (show (5 : Int32).toInt = 5 from rfl)
  have g6 := lv_neT h6 (show (6 : Int32).toInt = 6 from rfl)
  have g7 := lv_neT h7 (show (7 : Int32).toInt = 7 from rfl)
  have g8 := lv_neT h8 (show (8 : Int32).toInt = 8 from rfl)
  have g9 := lv_neT h9 (show (9 : Int32).toInt = 9 from rfl)
  have g10 := lv_neT h10 (show (10 : Int32).toInt = 10 from rfl)
  have g11 := lv_neT h11 (show (11 : Int32).toInt = 11 from rfl)
  omega
set_option maxRecDepth 8000 in
theorem w_164_100 : lx_W (tb_Zl L xs) cal 164 100 lv st σ Q ↔ wR (dx_lk lv 1) (fun y => lx_W (tb_Zl L xs) cal 164 101 lv (y :: st) σ Q) := lr_aload_n (k := 1) (hz_164.trans rfl)
set_option maxRecDepth 8000 in
theorem w_164_101 : lx_W (tb_Zl L xs) cal 164 101 lv st σ Q ↔ wR (dx_lk lv 0) (fun y => lx_W (tb_Zl L xs) cal 164 102 lv (y :: st) σ Q) := lr_aload_n (k := 0) (hz_164.trans rfl)
set_option maxRecDepth 8000 in
theorem w_164_102 : lx_W (tb_Zl L xs) cal 164 102 lv st σ Q ↔ wI (dx_lk lv 4) (fun y => lx_W (tb_Zl L xs) cal 164 104 lv (.int y :: st) σ Q) := lr_iload (k := 4) (hz_164.trans rfl)
set_option maxRecDepth 8000 in
theorem w_164_104 : lx_W (tb_Zl L xs) cal 164 104 lv st σ Q ↔ lx_W (tb_Zl L xs) cal 164 105 lv (.int 1 :: st) σ Q := lr_iconst (n := 1) (hz_164.trans rfl)
set_option maxRecDepth 8000 in
theorem w_164_105 {x y : Int32} : lx_W (tb_Zl L xs) cal 164 105 lv (.int y :: .int x :: st) σ Q ↔ lx_W (tb_Zl L xs) cal 164 106 lv (.int (x + y) :: st) σ Q := lr_iadd (hz_164.trans rfl)
set_option maxRecDepth 8000 in
theorem w_164_106 {w : Value} {y : Int32} : lx_W (tb_Zl L xs) cal 164 106 lv (.int y :: w :: st) σ Q ↔ wO (dx_ei (tb_K L xs) σ 0 w y) (fun u => lx_W (tb_Zl L xs) cal 164 107 lv (.int u :: st) σ Q) := lr_iaload (hz_164.trans rfl)
set_option maxRecDepth 8000 in
theorem w_164_107 {v0 v1 : Value}  : lx_W (tb_Zl L xs) cal 164 107 lv (v1 :: v0 :: st) σ Q ↔ (dx_ct st ≤ 8 ∧ dx_ci (tb_K L xs) σ v0 = some 0) ∧ lx_M cal 1 [v0, v1] σ (lx_K (tb_Zl L xs) cal 164 110 lv st Q) := lc_callv (av := [v1]) (hz_164.trans rfl)
set_option maxRecDepth 8000 in
theorem w_164_110 : lx_W (tb_Zl L xs) cal 164 110 lv st σ Q ↔ wR (dx_lk lv 2) (fun y => lx_W (tb_Zl L xs) cal 164 111 lv (y :: st) σ Q) := lr_aload_n (k := 2) (hz_164.trans rfl)
set_option maxRecDepth 8000 in
theorem w_164_111 : lx_W (tb_Zl L xs) cal 164 111 lv st σ Q ↔ wR (dx_lk lv 0) (fun y => lx_W (tb_Zl L xs) cal 164 112 lv (y :: st) σ Q) := lr_aload_n (k := 0) (hz_164.trans rfl)
set_option maxRecDepth 8000 in
theorem w_164_112 : lx_W (tb_Zl L xs) cal 164 112 lv st σ Q ↔ wI (dx_lk lv 4) (fun y => lx_W (tb_Zl L xs) cal 164 114 lv (.int y :: st) σ Q) := lr_iload (k := 4) (hz_164.trans rfl)
set_option maxRecDepth 8000 in
theorem w_164_114 : lx_W (tb_Zl L xs) cal 164 114 lv st σ Q ↔ lx_W (tb_Zl L xs) cal 164 115 lv (.int 1 :: st) σ Q := lr_iconst (n := 1) (hz_164.trans rfl)
set_option maxRecDepth 8000 in
theorem w_164_115 {x y : Int32} : lx_W (tb_Zl L xs) cal 164 115 lv (.int y :: .int x :: st) σ Q ↔ lx_W (tb_Zl L xs) cal 164 116 lv (.int (x + y) :: st) σ Q := lr_iadd (hz_164.trans rfl)
set_option maxRecDepth 8000 in
theorem w_164_116 {w : Value} {y : Int32} : lx_W (tb_Zl L xs) cal 164 116 lv (.int y :: w :: st) σ Q ↔ wO (dx_ei (tb_K L xs) σ 0 w y) (fun u => lx_W (tb_Zl L xs) cal 164 117 lv (.int u :: st) σ Q) := lr_iaload (hz_164.trans rfl)
set_option maxRecDepth 8000 in
theorem w_164_117 {v0 v1 : Value}  : lx_W (tb_Zl L xs) cal 164 117 lv (v1 :: v0 :: st) σ Q ↔ (dx_ct st ≤ 8 ∧ dx_ci (tb_K L xs) σ v0 = some 9) ∧ lx_M cal 95 [v0, v1] σ (lx_K (tb_Zl L xs) cal 164 120 lv st Q) := lc_callv (av := [v1]) (hz_164.trans rfl)
set_option maxRecDepth 8000 in
theorem w_164_120 {x y : Int32} : lx_W (tb_Zl L xs) cal 164 120 lv (.int y :: .int x :: st) σ Q ↔ (if x = y then lx_W (tb_Zl L xs) cal 164 343 lv st σ Q else lx_W (tb_Zl L xs) cal 164 123 lv st σ Q) := lr_ic_eq (off := 223) (t := 343) (hz_164.trans rfl) (by decide)
set_option maxRecDepth 8000 in
theorem w_164_123 : lx_W (tb_Zl L xs) cal 164 123 lv st σ Q ↔ lx_W (tb_Zl L xs) cal 164 124 lv (.int 0 :: st) σ Q := lr_iconst (n := 0) (hz_164.trans rfl)
set_option maxRecDepth 8000 in
theorem w_164_124 {x : Int32} : lx_W (tb_Zl L xs) cal 164 124 lv [.int x] σ Q ↔ narrow .boolean (.int x) = .int x ∧ Q (.inl (some (.int x))) σ := lc_ireturn (hz_164.trans rfl) rfl
set_option maxRecDepth 8000 in
theorem w_164_125 : lx_W (tb_Zl L xs) cal 164 125 lv st σ Q ↔ wR (dx_lk lv 1) (fun y => lx_W (tb_Zl L xs) cal 164 126 lv (y :: st) σ Q) := lr_aload_n (k := 1) (hz_164.trans rfl)
set_option maxRecDepth 8000 in
theorem w_164_126 {v0 : Value}  : lx_W (tb_Zl L xs) cal 164 126 lv (v0 :: st) σ Q ↔ (dx_ct st ≤ 8 ∧ dx_ci (tb_K L xs) σ v0 = some 0) ∧ lx_M cal 2 [v0] σ (lx_K (tb_Zl L xs) cal 164 129 lv st Q) := lc_callv (av := []) (hz_164.trans rfl)
set_option maxRecDepth 8000 in
theorem w_164_129 : lx_W (tb_Zl L xs) cal 164 129 lv st σ Q ↔ wR (dx_lk lv 2) (fun y => lx_W (tb_Zl L xs) cal 164 130 lv (y :: st) σ Q) := lr_aload_n (k := 2) (hz_164.trans rfl)
set_option maxRecDepth 8000 in
theorem w_164_130 {v0 : Value}  : lx_W (tb_Zl L xs) cal 164 130 lv (v0 :: st) σ Q ↔ (dx_ct st ≤ 8 ∧ dx_ci (tb_K L xs) σ v0 = some 9) ∧ lx_M cal 96 [v0] σ (lx_K (tb_Zl L xs) cal 164 133 lv st Q) := lc_callv (av := []) (hz_164.trans rfl)
set_option maxRecDepth 8000 in
theorem w_164_133 {x y : Int32} : lx_W (tb_Zl L xs) cal 164 133 lv (.int y :: .int x :: st) σ Q ↔ (if x = y then lx_W (tb_Zl L xs) cal 164 343 lv st σ Q else lx_W (tb_Zl L xs) cal 164 136 lv st σ Q) := lr_ic_eq (off := 210) (t := 343) (hz_164.trans rfl) (by decide)
set_option maxRecDepth 8000 in
theorem w_164_136 : lx_W (tb_Zl L xs) cal 164 136 lv st σ Q ↔ lx_W (tb_Zl L xs) cal 164 137 lv (.int 0 :: st) σ Q := lr_iconst (n := 0) (hz_164.trans rfl)
set_option maxRecDepth 8000 in
theorem w_164_137 {x : Int32} : lx_W (tb_Zl L xs) cal 164 137 lv [.int x] σ Q ↔ narrow .boolean (.int x) = .int x ∧ Q (.inl (some (.int x))) σ := lc_ireturn (hz_164.trans rfl) rfl
set_option maxRecDepth 8000 in
theorem w_164_138 : lx_W (tb_Zl L xs) cal 164 138 lv st σ Q ↔ wR (dx_lk lv 1) (fun y => lx_W (tb_Zl L xs) cal 164 139 lv (y :: st) σ Q) := lr_aload_n (k := 1) (hz_164.trans rfl)
set_option maxRecDepth 8000 in
theorem w_164_139 {v0 : Value}  : lx_W (tb_Zl L xs) cal 164 139 lv (v0 :: st) σ Q ↔ (dx_ct st ≤ 8 ∧ dx_ci (tb_K L xs) σ v0 = some 0) ∧ lx_M cal 3 [v0] σ (lx_K (tb_Zl L xs) cal 164 142 lv st Q) := lc_callv (av := []) (hz_164.trans rfl)
set_option maxRecDepth 8000 in
theorem w_164_142 : lx_W (tb_Zl L xs) cal 164 142 lv st σ Q ↔ wR (dx_lk lv 2) (fun y => lx_W (tb_Zl L xs) cal 164 143 lv (y :: st) σ Q) := lr_aload_n (k := 2) (hz_164.trans rfl)
set_option maxRecDepth 8000 in
theorem w_164_143 {v0 : Value}  : lx_W (tb_Zl L xs) cal 164 143 lv (v0 :: st) σ Q ↔ (dx_ct st ≤ 8 ∧ dx_ci (tb_K L xs) σ v0 = some 9) ∧ lx_M cal 97 [v0] σ (lx_K (tb_Zl L xs) cal 164 146 lv st Q) := lc_callv (av := []) (hz_164.trans rfl)
set_option maxRecDepth 8000 in
theorem w_164_146 : lx_W (tb_Zl L xs) cal 164 146 lv st σ Q ↔ lx_W (tb_Zl L xs) cal 164 343 lv st σ Q := lr_goto (off := 197) (t := 343) (hz_164.trans rfl) (by decide)
set_option maxRecDepth 8000 in
theorem w_164_149 : lx_W (tb_Zl L xs) cal 164 149 lv st σ Q ↔ wR (dx_lk lv 1) (fun y => lx_W (tb_Zl L xs) cal 164 150 lv (y :: st) σ Q) := lr_aload_n (k := 1) (hz_164.trans rfl)
set_option maxRecDepth 8000 in
theorem w_164_150 {v0 : Value}  : lx_W (tb_Zl L xs) cal 164 150 lv (v0 :: st) σ Q ↔ (dx_ct st ≤ 8 ∧ dx_ci (tb_K L xs) σ v0 = some 0) ∧ lx_M cal 4 [v0] σ (lx_K (tb_Zl L xs) cal 164 153 lv st Q) := lc_callv (av := []) (hz_164.trans rfl)
set_option maxRecDepth 8000 in
theorem w_164_153 : lx_W (tb_Zl L xs) cal 164 153 lv st σ Q ↔ wR (dx_lk lv 2) (fun y => lx_W (tb_Zl L xs) cal 164 154 lv (y :: st) σ Q) := lr_aload_n (k := 2) (hz_164.trans rfl)
set_option maxRecDepth 8000 in
theorem w_164_154 {v0 : Value}  : lx_W (tb_Zl L xs) cal 164 154 lv (v0 :: st) σ Q ↔ (dx_ct st ≤ 8 ∧ dx_ci (tb_K L xs) σ v0 = some 9) ∧ lx_M cal 98 [v0] σ (lx_K (tb_Zl L xs) cal 164 157 lv st Q) := lc_callv (av := []) (hz_164.trans rfl)
set_option maxRecDepth 8000 in
theorem w_164_157 : lx_W (tb_Zl L xs) cal 164 157 lv st σ Q ↔ lx_W (tb_Zl L xs) cal 164 343 lv st σ Q := lr_goto (off := 186) (t := 343) (hz_164.trans rfl) (by decide)
set_option maxRecDepth 8000 in
theorem w_164_160 : lx_W (tb_Zl L xs) cal 164 160 lv st σ Q ↔ wR (dx_lk lv 1) (fun y => lx_W (tb_Zl L xs) cal 164 161 lv (y :: st) σ Q) := lr_aload_n (k := 1) (hz_164.trans rfl)
set_option maxRecDepth 8000 in
theorem w_164_161 : lx_W (tb_Zl L xs) cal 164 161 lv st σ Q ↔ wR (dx_lk lv 0) (fun y => lx_W (tb_Zl L xs) cal 164 162 lv (y :: st) σ Q) := lr_aload_n (k := 0) (hz_164.trans rfl)
set_option maxRecDepth 8000 in
theorem w_164_162 : lx_W (tb_Zl L xs) cal 164 162 lv st σ Q ↔ wI (dx_lk lv 4) (fun y => lx_W (tb_Zl L xs) cal 164 164 lv (.int y :: st) σ Q) := lr_iload (k := 4) (hz_164.trans rfl)
set_option maxRecDepth 8000 in
theorem w_164_164 : lx_W (tb_Zl L xs) cal 164 164 lv st σ Q ↔ lx_W (tb_Zl L xs) cal 164 165 lv (.int 1 :: st) σ Q := lr_iconst (n := 1) (hz_164.trans rfl)
set_option maxRecDepth 8000 in
theorem w_164_165 {x y : Int32} : lx_W (tb_Zl L xs) cal 164 165 lv (.int y :: .int x :: st) σ Q ↔ lx_W (tb_Zl L xs) cal 164 166 lv (.int (x + y) :: st) σ Q := lr_iadd (hz_164.trans rfl)
set_option maxRecDepth 8000 in
theorem w_164_166 {w : Value} {y : Int32} : lx_W (tb_Zl L xs) cal 164 166 lv (.int y :: w :: st) σ Q ↔ wO (dx_ei (tb_K L xs) σ 0 w y) (fun u => lx_W (tb_Zl L xs) cal 164 167 lv (.int u :: st) σ Q) := lr_iaload (hz_164.trans rfl)
set_option maxRecDepth 8000 in
theorem w_164_167 : lx_W (tb_Zl L xs) cal 164 167 lv st σ Q ↔ wR (dx_lk lv 3) (fun y => lx_W (tb_Zl L xs) cal 164 168 lv (y :: st) σ Q) := lr_aload_n (k := 3) (hz_164.trans rfl)
set_option maxRecDepth 8000 in
theorem w_164_168 {v0 v1 v2 : Value}  : lx_W (tb_Zl L xs) cal 164 168 lv (v2 :: v1 :: v0 :: st) σ Q ↔ dx_ct st ≤ 8 ∧ lx_M cal 163 [v0, v1, v2] σ (lx_K (tb_Zl L xs) cal 164 171 lv st Q) := lc_calls (av := [v0, v1, v2]) (hz_164.trans rfl)
set_option maxRecDepth 8000 in
theorem w_164_171 {x : Int32} : lx_W (tb_Zl L xs) cal 164 171 lv (.int x :: st) σ Q ↔ lx_W (tb_Zl L xs) cal 164 173 (dx_s1 lv 5 (.int x)) st σ Q := lr_istore (k := 5) (hz_164.trans rfl) (show 5 < tb_l 164 by decide)
set_option maxRecDepth 8000 in
theorem w_164_173 : lx_W (tb_Zl L xs) cal 164 173 lv st σ Q ↔ wR (dx_lk lv 2) (fun y => lx_W (tb_Zl L xs) cal 164 174 lv (y :: st) σ Q) := lr_aload_n (k := 2) (hz_164.trans rfl)
set_option maxRecDepth 8000 in
theorem w_164_174 : lx_W (tb_Zl L xs) cal 164 174 lv st σ Q ↔ wR (dx_lk lv 0) (fun y => lx_W (tb_Zl L xs) cal 164 175 lv (y :: st) σ Q) := lr_aload_n (k := 0) (hz_164.trans rfl)
set_option maxRecDepth 8000 in
theorem w_164_175 : lx_W (tb_Zl L xs) cal 164 175 lv st σ Q ↔ wI (dx_lk lv 4) (fun y => lx_W (tb_Zl L xs) cal 164 177 lv (.int y :: st) σ Q) := lr_iload (k := 4) (hz_164.trans rfl)
set_option maxRecDepth 8000 in
theorem w_164_177 : lx_W (tb_Zl L xs) cal 164 177 lv st σ Q ↔ lx_W (tb_Zl L xs) cal 164 178 lv (.int 1 :: st) σ Q := lr_iconst (n := 1) (hz_164.trans rfl)
set_option maxRecDepth 8000 in
theorem w_164_178 {x y : Int32} : lx_W (tb_Zl L xs) cal 164 178 lv (.int y :: .int x :: st) σ Q ↔ lx_W (tb_Zl L xs) cal 164 179 lv (.int (x + y) :: st) σ Q := lr_iadd (hz_164.trans rfl)
set_option maxRecDepth 8000 in
theorem w_164_179 {w : Value} {y : Int32} : lx_W (tb_Zl L xs) cal 164 179 lv (.int y :: w :: st) σ Q ↔ wO (dx_ei (tb_K L xs) σ 0 w y) (fun u => lx_W (tb_Zl L xs) cal 164 180 lv (.int u :: st) σ Q) := lr_iaload (hz_164.trans rfl)
set_option maxRecDepth 8000 in
theorem w_164_180 {v0 v1 : Value}  : lx_W (tb_Zl L xs) cal 164 180 lv (v1 :: v0 :: st) σ Q ↔ (dx_ct st ≤ 8 ∧ dx_ci (tb_K L xs) σ v0 = some 9) ∧ lx_M cal 99 [v0, v1] σ (lx_K (tb_Zl L xs) cal 164 183 lv st Q) := lc_callv (av := [v1]) (hz_164.trans rfl)
set_option maxRecDepth 8000 in
theorem w_164_183 {x : Int32} : lx_W (tb_Zl L xs) cal 164 183 lv (.int x :: st) σ Q ↔ lx_W (tb_Zl L xs) cal 164 185 (dx_s1 lv 6 (.int x)) st σ Q := lr_istore (k := 6) (hz_164.trans rfl) (show 6 < tb_l 164 by decide)
set_option maxRecDepth 8000 in
theorem w_164_185 : lx_W (tb_Zl L xs) cal 164 185 lv st σ Q ↔ wR (dx_lk lv 2) (fun y => lx_W (tb_Zl L xs) cal 164 186 lv (y :: st) σ Q) := lr_aload_n (k := 2) (hz_164.trans rfl)
set_option maxRecDepth 8000 in
theorem w_164_186 {v0 : Value}  : lx_W (tb_Zl L xs) cal 164 186 lv (v0 :: st) σ Q ↔ (dx_ct st ≤ 8 ∧ dx_ci (tb_K L xs) σ v0 = some 9) ∧ lx_M cal 143 [v0] σ (lx_K (tb_Zl L xs) cal 164 189 lv st Q) := lc_callv (av := []) (hz_164.trans rfl)
set_option maxRecDepth 8000 in
theorem w_164_189 : lx_W (tb_Zl L xs) cal 164 189 lv st σ Q ↔ wI (dx_lk lv 5) (fun y => lx_W (tb_Zl L xs) cal 164 191 lv (.int y :: st) σ Q) := lr_iload (k := 5) (hz_164.trans rfl)
set_option maxRecDepth 8000 in
theorem w_164_191 {x y : Int32} : lx_W (tb_Zl L xs) cal 164 191 lv (.int y :: .int x :: st) σ Q ↔ (if x = y then lx_W (tb_Zl L xs) cal 164 196 lv st σ Q else lx_W (tb_Zl L xs) cal 164 194 lv st σ Q) := lr_ic_eq (off := 5) (t := 196) (hz_164.trans rfl) (by decide)
set_option maxRecDepth 8000 in
theorem w_164_194 : lx_W (tb_Zl L xs) cal 164 194 lv st σ Q ↔ lx_W (tb_Zl L xs) cal 164 195 lv (.int 0 :: st) σ Q := lr_iconst (n := 0) (hz_164.trans rfl)
set_option maxRecDepth 8000 in
theorem w_164_195 {x : Int32} : lx_W (tb_Zl L xs) cal 164 195 lv [.int x] σ Q ↔ narrow .boolean (.int x) = .int x ∧ Q (.inl (some (.int x))) σ := lc_ireturn (hz_164.trans rfl) rfl
set_option maxRecDepth 8000 in
theorem w_164_196 : lx_W (tb_Zl L xs) cal 164 196 lv st σ Q ↔ wI (dx_lk lv 5) (fun y => lx_W (tb_Zl L xs) cal 164 198 lv (.int y :: st) σ Q) := lr_iload (k := 5) (hz_164.trans rfl)
set_option maxRecDepth 8000 in
theorem w_164_198 {x : Int32} : lx_W (tb_Zl L xs) cal 164 198 lv (.int x :: st) σ Q ↔ (if ¬ x = 0 then lx_W (tb_Zl L xs) cal 164 213 lv st σ Q else lx_W (tb_Zl L xs) cal 164 201 lv st σ Q) := lr_if_ne (off := 15) (t := 213) (hz_164.trans rfl) (by decide)
set_option maxRecDepth 8000 in
theorem w_164_201 : lx_W (tb_Zl L xs) cal 164 201 lv st σ Q ↔ wR (dx_lk lv 3) (fun y => lx_W (tb_Zl L xs) cal 164 202 lv (y :: st) σ Q) := lr_aload_n (k := 3) (hz_164.trans rfl)
set_option maxRecDepth 8000 in
theorem w_164_202 : lx_W (tb_Zl L xs) cal 164 202 lv st σ Q ↔ lx_W (tb_Zl L xs) cal 164 203 lv (.int 0 :: st) σ Q := lr_iconst (n := 0) (hz_164.trans rfl)
set_option maxRecDepth 8000 in
theorem w_164_203 {w : Value} {y : Int32} : lx_W (tb_Zl L xs) cal 164 203 lv (.int y :: w :: st) σ Q ↔ wO (dx_el (tb_K L xs) σ w y) (fun u => lx_W (tb_Zl L xs) cal 164 204 lv (.long u :: st) σ Q) := lr_laload (hz_164.trans rfl)
set_option maxRecDepth 8000 in
theorem w_164_204 : lx_W (tb_Zl L xs) cal 164 204 lv st σ Q ↔ wI (dx_lk lv 6) (fun y => lx_W (tb_Zl L xs) cal 164 206 lv (.int y :: st) σ Q) := lr_iload (k := 6) (hz_164.trans rfl)
set_option maxRecDepth 8000 in
theorem w_164_206 {x : Int32} : lx_W (tb_Zl L xs) cal 164 206 lv (.int x :: st) σ Q ↔ lx_W (tb_Zl L xs) cal 164 207 lv (.long x.toInt64 :: st) σ Q := lr_i2l (hz_164.trans rfl)
set_option maxRecDepth 8000 in
theorem w_164_207 {x y : Int64} : lx_W (tb_Zl L xs) cal 164 207 lv (.long y :: .long x :: st) σ Q ↔ lx_W (tb_Zl L xs) cal 164 208 lv (.int (lg_cmp x y) :: st) σ Q := lr_lcmp (hz_164.trans rfl)
set_option maxRecDepth 8000 in
theorem w_164_208 {x : Int32} : lx_W (tb_Zl L xs) cal 164 208 lv (.int x :: st) σ Q ↔ (if x = 0 then lx_W (tb_Zl L xs) cal 164 213 lv st σ Q else lx_W (tb_Zl L xs) cal 164 211 lv st σ Q) := lr_if_eq (off := 5) (t := 213) (hz_164.trans rfl) (by decide)
set_option maxRecDepth 8000 in
theorem w_164_211 : lx_W (tb_Zl L xs) cal 164 211 lv st σ Q ↔ lx_W (tb_Zl L xs) cal 164 212 lv (.int 0 :: st) σ Q := lr_iconst (n := 0) (hz_164.trans rfl)
set_option maxRecDepth 8000 in
theorem w_164_212 {x : Int32} : lx_W (tb_Zl L xs) cal 164 212 lv [.int x] σ Q ↔ narrow .boolean (.int x) = .int x ∧ Q (.inl (some (.int x))) σ := lc_ireturn (hz_164.trans rfl) rfl
set_option maxRecDepth 8000 in
theorem w_164_213 : lx_W (tb_Zl L xs) cal 164 213 lv st σ Q ↔ lx_W (tb_Zl L xs) cal 164 343 lv st σ Q := lr_goto (off := 130) (t := 343) (hz_164.trans rfl) (by decide)
set_option maxRecDepth 8000 in
theorem w_164_216 : lx_W (tb_Zl L xs) cal 164 216 lv st σ Q ↔ wR (dx_lk lv 1) (fun y => lx_W (tb_Zl L xs) cal 164 217 lv (y :: st) σ Q) := lr_aload_n (k := 1) (hz_164.trans rfl)
set_option maxRecDepth 8000 in
theorem w_164_217 {v0 : Value}  : lx_W (tb_Zl L xs) cal 164 217 lv (v0 :: st) σ Q ↔ (dx_ct st ≤ 8 ∧ dx_ci (tb_K L xs) σ v0 = some 0) ∧ lx_M cal 5 [v0] σ (lx_K (tb_Zl L xs) cal 164 220 lv st Q) := lc_callv (av := []) (hz_164.trans rfl)
set_option maxRecDepth 8000 in
theorem w_164_220 : lx_W (tb_Zl L xs) cal 164 220 lv st σ Q ↔ wR (dx_lk lv 2) (fun y => lx_W (tb_Zl L xs) cal 164 221 lv (y :: st) σ Q) := lr_aload_n (k := 2) (hz_164.trans rfl)
set_option maxRecDepth 8000 in
theorem w_164_221 {v0 : Value}  : lx_W (tb_Zl L xs) cal 164 221 lv (v0 :: st) σ Q ↔ (dx_ct st ≤ 8 ∧ dx_ci (tb_K L xs) σ v0 = some 9) ∧ lx_M cal 136 [v0] σ (lx_K (tb_Zl L xs) cal 164 224 lv st Q) := lc_callv (av := []) (hz_164.trans rfl)
set_option maxRecDepth 8000 in
theorem w_164_224 {x y : Int32} : lx_W (tb_Zl L xs) cal 164 224 lv (.int y :: .int x :: st) σ Q ↔ (if x = y then lx_W (tb_Zl L xs) cal 164 343 lv st σ Q else lx_W (tb_Zl L xs) cal 164 227 lv st σ Q) := lr_ic_eq (off := 119) (t := 343) (hz_164.trans rfl) (by decide)
set_option maxRecDepth 8000 in
theorem w_164_227 : lx_W (tb_Zl L xs) cal 164 227 lv st σ Q ↔ lx_W (tb_Zl L xs) cal 164 228 lv (.int 0 :: st) σ Q := lr_iconst (n := 0) (hz_164.trans rfl)
set_option maxRecDepth 8000 in
theorem w_164_228 {x : Int32} : lx_W (tb_Zl L xs) cal 164 228 lv [.int x] σ Q ↔ narrow .boolean (.int x) = .int x ∧ Q (.inl (some (.int x))) σ := lc_ireturn (hz_164.trans rfl) rfl
set_option maxRecDepth 8000 in
theorem w_164_229 : lx_W (tb_Zl L xs) cal 164 229 lv st σ Q ↔ wR (dx_lk lv 1) (fun y => lx_W (tb_Zl L xs) cal 164 230 lv (y :: st) σ Q) := lr_aload_n (k := 1) (hz_164.trans rfl)
set_option maxRecDepth 8000 in
theorem w_164_230 {v0 : Value}  : lx_W (tb_Zl L xs) cal 164 230 lv (v0 :: st) σ Q ↔ (dx_ct st ≤ 8 ∧ dx_ci (tb_K L xs) σ v0 = some 0) ∧ lx_M cal 6 [v0] σ (lx_K (tb_Zl L xs) cal 164 233 lv st Q) := lc_callv (av := []) (hz_164.trans rfl)
set_option maxRecDepth 8000 in
theorem w_164_233 : lx_W (tb_Zl L xs) cal 164 233 lv st σ Q ↔ wR (dx_lk lv 2) (fun y => lx_W (tb_Zl L xs) cal 164 234 lv (y :: st) σ Q) := lr_aload_n (k := 2) (hz_164.trans rfl)
set_option maxRecDepth 8000 in
theorem w_164_234 {v0 : Value}  : lx_W (tb_Zl L xs) cal 164 234 lv (v0 :: st) σ Q ↔ (dx_ct st ≤ 8 ∧ dx_ci (tb_K L xs) σ v0 = some 9) ∧ lx_M cal 137 [v0] σ (lx_K (tb_Zl L xs) cal 164 237 lv st Q) := lc_callv (av := []) (hz_164.trans rfl)
set_option maxRecDepth 8000 in
theorem w_164_237 {x y : Int32} : lx_W (tb_Zl L xs) cal 164 237 lv (.int y :: .int x :: st) σ Q ↔ (if x = y then lx_W (tb_Zl L xs) cal 164 343 lv st σ Q else lx_W (tb_Zl L xs) cal 164 240 lv st σ Q) := lr_ic_eq (off := 106) (t := 343) (hz_164.trans rfl) (by decide)
set_option maxRecDepth 8000 in
theorem w_164_240 : lx_W (tb_Zl L xs) cal 164 240 lv st σ Q ↔ lx_W (tb_Zl L xs) cal 164 241 lv (.int 0 :: st) σ Q := lr_iconst (n := 0) (hz_164.trans rfl)
set_option maxRecDepth 8000 in
theorem w_164_241 {x : Int32} : lx_W (tb_Zl L xs) cal 164 241 lv [.int x] σ Q ↔ narrow .boolean (.int x) = .int x ∧ Q (.inl (some (.int x))) σ := lc_ireturn (hz_164.trans rfl) rfl
set_option maxRecDepth 8000 in
theorem w_164_242 : lx_W (tb_Zl L xs) cal 164 242 lv st σ Q ↔ wR (dx_lk lv 1) (fun y => lx_W (tb_Zl L xs) cal 164 243 lv (y :: st) σ Q) := lr_aload_n (k := 1) (hz_164.trans rfl)
set_option maxRecDepth 8000 in
theorem w_164_243 {v0 : Value}  : lx_W (tb_Zl L xs) cal 164 243 lv (v0 :: st) σ Q ↔ (dx_ct st ≤ 8 ∧ dx_ci (tb_K L xs) σ v0 = some 0) ∧ lx_M cal 7 [v0] σ (lx_K (tb_Zl L xs) cal 164 246 lv st Q) := lc_callv (av := []) (hz_164.trans rfl)
set_option maxRecDepth 8000 in
theorem w_164_246 : lx_W (tb_Zl L xs) cal 164 246 lv st σ Q ↔ wR (dx_lk lv 2) (fun y => lx_W (tb_Zl L xs) cal 164 247 lv (y :: st) σ Q) := lr_aload_n (k := 2) (hz_164.trans rfl)
set_option maxRecDepth 8000 in
theorem w_164_247 {v0 : Value}  : lx_W (tb_Zl L xs) cal 164 247 lv (v0 :: st) σ Q ↔ (dx_ct st ≤ 8 ∧ dx_ci (tb_K L xs) σ v0 = some 9) ∧ lx_M cal 138 [v0] σ (lx_K (tb_Zl L xs) cal 164 250 lv st Q) := lc_callv (av := []) (hz_164.trans rfl)
set_option maxRecDepth 8000 in
theorem w_164_250 {x y : Int32} : lx_W (tb_Zl L xs) cal 164 250 lv (.int y :: .int x :: st) σ Q ↔ (if x = y then lx_W (tb_Zl L xs) cal 164 343 lv st σ Q else lx_W (tb_Zl L xs) cal 164 253 lv st σ Q) := lr_ic_eq (off := 93) (t := 343) (hz_164.trans rfl) (by decide)
set_option maxRecDepth 8000 in
theorem w_164_253 : lx_W (tb_Zl L xs) cal 164 253 lv st σ Q ↔ lx_W (tb_Zl L xs) cal 164 254 lv (.int 0 :: st) σ Q := lr_iconst (n := 0) (hz_164.trans rfl)
set_option maxRecDepth 8000 in
theorem w_164_254 {x : Int32} : lx_W (tb_Zl L xs) cal 164 254 lv [.int x] σ Q ↔ narrow .boolean (.int x) = .int x ∧ Q (.inl (some (.int x))) σ := lc_ireturn (hz_164.trans rfl) rfl
set_option maxRecDepth 8000 in
theorem w_164_255 : lx_W (tb_Zl L xs) cal 164 255 lv st σ Q ↔ wR (dx_lk lv 1) (fun y => lx_W (tb_Zl L xs) cal 164 256 lv (y :: st) σ Q) := lr_aload_n (k := 1) (hz_164.trans rfl)
set_option maxRecDepth 8000 in
theorem w_164_256 : lx_W (tb_Zl L xs) cal 164 256 lv st σ Q ↔ wR (dx_lk lv 0) (fun y => lx_W (tb_Zl L xs) cal 164 257 lv (y :: st) σ Q) := lr_aload_n (k := 0) (hz_164.trans rfl)
set_option maxRecDepth 8000 in
theorem w_164_257 : lx_W (tb_Zl L xs) cal 164 257 lv st σ Q ↔ wI (dx_lk lv 4) (fun y => lx_W (tb_Zl L xs) cal 164 259 lv (.int y :: st) σ Q) := lr_iload (k := 4) (hz_164.trans rfl)
set_option maxRecDepth 8000 in
theorem w_164_259 : lx_W (tb_Zl L xs) cal 164 259 lv st σ Q ↔ lx_W (tb_Zl L xs) cal 164 260 lv (.int 1 :: st) σ Q := lr_iconst (n := 1) (hz_164.trans rfl)
set_option maxRecDepth 8000 in
theorem w_164_260 {x y : Int32} : lx_W (tb_Zl L xs) cal 164 260 lv (.int y :: .int x :: st) σ Q ↔ lx_W (tb_Zl L xs) cal 164 261 lv (.int (x + y) :: st) σ Q := lr_iadd (hz_164.trans rfl)
set_option maxRecDepth 8000 in
theorem w_164_261 {w : Value} {y : Int32} : lx_W (tb_Zl L xs) cal 164 261 lv (.int y :: w :: st) σ Q ↔ wO (dx_ei (tb_K L xs) σ 0 w y) (fun u => lx_W (tb_Zl L xs) cal 164 262 lv (.int u :: st) σ Q) := lr_iaload (hz_164.trans rfl)
set_option maxRecDepth 8000 in
theorem w_164_262 {v0 v1 : Value}  : lx_W (tb_Zl L xs) cal 164 262 lv (v1 :: v0 :: st) σ Q ↔ (dx_ct st ≤ 8 ∧ dx_ci (tb_K L xs) σ v0 = some 0) ∧ lx_M cal 8 [v0, v1] σ (lx_K (tb_Zl L xs) cal 164 265 lv st Q) := lc_callv (av := [v1]) (hz_164.trans rfl)
set_option maxRecDepth 8000 in
theorem w_164_265 : lx_W (tb_Zl L xs) cal 164 265 lv st σ Q ↔ wR (dx_lk lv 2) (fun y => lx_W (tb_Zl L xs) cal 164 266 lv (y :: st) σ Q) := lr_aload_n (k := 2) (hz_164.trans rfl)
set_option maxRecDepth 8000 in
theorem w_164_266 : lx_W (tb_Zl L xs) cal 164 266 lv st σ Q ↔ wR (dx_lk lv 0) (fun y => lx_W (tb_Zl L xs) cal 164 267 lv (y :: st) σ Q) := lr_aload_n (k := 0) (hz_164.trans rfl)
set_option maxRecDepth 8000 in
theorem w_164_267 : lx_W (tb_Zl L xs) cal 164 267 lv st σ Q ↔ wI (dx_lk lv 4) (fun y => lx_W (tb_Zl L xs) cal 164 269 lv (.int y :: st) σ Q) := lr_iload (k := 4) (hz_164.trans rfl)
set_option maxRecDepth 8000 in
theorem w_164_269 : lx_W (tb_Zl L xs) cal 164 269 lv st σ Q ↔ lx_W (tb_Zl L xs) cal 164 270 lv (.int 1 :: st) σ Q := lr_iconst (n := 1) (hz_164.trans rfl)
set_option maxRecDepth 8000 in
theorem w_164_270 {x y : Int32} : lx_W (tb_Zl L xs) cal 164 270 lv (.int y :: .int x :: st) σ Q ↔ lx_W (tb_Zl L xs) cal 164 271 lv (.int (x + y) :: st) σ Q := lr_iadd (hz_164.trans rfl)
set_option maxRecDepth 8000 in
theorem w_164_271 {w : Value} {y : Int32} : lx_W (tb_Zl L xs) cal 164 271 lv (.int y :: w :: st) σ Q ↔ wO (dx_ei (tb_K L xs) σ 0 w y) (fun u => lx_W (tb_Zl L xs) cal 164 272 lv (.int u :: st) σ Q) := lr_iaload (hz_164.trans rfl)
set_option maxRecDepth 8000 in
theorem w_164_272 {v0 v1 : Value}  : lx_W (tb_Zl L xs) cal 164 272 lv (v1 :: v0 :: st) σ Q ↔ (dx_ct st ≤ 8 ∧ dx_ci (tb_K L xs) σ v0 = some 9) ∧ lx_M cal 139 [v0, v1] σ (lx_K (tb_Zl L xs) cal 164 275 lv st Q) := lc_callv (av := [v1]) (hz_164.trans rfl)
set_option maxRecDepth 8000 in
theorem w_164_275 {x y : Int32} : lx_W (tb_Zl L xs) cal 164 275 lv (.int y :: .int x :: st) σ Q ↔ (if x = y then lx_W (tb_Zl L xs) cal 164 343 lv st σ Q else lx_W (tb_Zl L xs) cal 164 278 lv st σ Q) := lr_ic_eq (off := 68) (t := 343) (hz_164.trans rfl) (by decide)
set_option maxRecDepth 8000 in
theorem w_164_278 : lx_W (tb_Zl L xs) cal 164 278 lv st σ Q ↔ lx_W (tb_Zl L xs) cal 164 279 lv (.int 0 :: st) σ Q := lr_iconst (n := 0) (hz_164.trans rfl)
set_option maxRecDepth 8000 in
theorem w_164_279 {x : Int32} : lx_W (tb_Zl L xs) cal 164 279 lv [.int x] σ Q ↔ narrow .boolean (.int x) = .int x ∧ Q (.inl (some (.int x))) σ := lc_ireturn (hz_164.trans rfl) rfl
set_option maxRecDepth 8000 in
theorem w_164_280 : lx_W (tb_Zl L xs) cal 164 280 lv st σ Q ↔ wR (dx_lk lv 1) (fun y => lx_W (tb_Zl L xs) cal 164 281 lv (y :: st) σ Q) := lr_aload_n (k := 1) (hz_164.trans rfl)
set_option maxRecDepth 8000 in
theorem w_164_281 : lx_W (tb_Zl L xs) cal 164 281 lv st σ Q ↔ wR (dx_lk lv 0) (fun y => lx_W (tb_Zl L xs) cal 164 282 lv (y :: st) σ Q) := lr_aload_n (k := 0) (hz_164.trans rfl)
set_option maxRecDepth 8000 in
theorem w_164_282 : lx_W (tb_Zl L xs) cal 164 282 lv st σ Q ↔ wI (dx_lk lv 4) (fun y => lx_W (tb_Zl L xs) cal 164 284 lv (.int y :: st) σ Q) := lr_iload (k := 4) (hz_164.trans rfl)
set_option maxRecDepth 8000 in
theorem w_164_284 : lx_W (tb_Zl L xs) cal 164 284 lv st σ Q ↔ lx_W (tb_Zl L xs) cal 164 285 lv (.int 1 :: st) σ Q := lr_iconst (n := 1) (hz_164.trans rfl)
set_option maxRecDepth 8000 in
theorem w_164_285 {x y : Int32} : lx_W (tb_Zl L xs) cal 164 285 lv (.int y :: .int x :: st) σ Q ↔ lx_W (tb_Zl L xs) cal 164 286 lv (.int (x + y) :: st) σ Q := lr_iadd (hz_164.trans rfl)
set_option maxRecDepth 8000 in
theorem w_164_286 {w : Value} {y : Int32} : lx_W (tb_Zl L xs) cal 164 286 lv (.int y :: w :: st) σ Q ↔ wO (dx_ei (tb_K L xs) σ 0 w y) (fun u => lx_W (tb_Zl L xs) cal 164 287 lv (.int u :: st) σ Q) := lr_iaload (hz_164.trans rfl)
set_option maxRecDepth 8000 in
theorem w_164_287 {v0 v1 : Value}  : lx_W (tb_Zl L xs) cal 164 287 lv (v1 :: v0 :: st) σ Q ↔ (dx_ct st ≤ 8 ∧ dx_ci (tb_K L xs) σ v0 = some 0) ∧ lx_M cal 9 [v0, v1] σ (lx_K (tb_Zl L xs) cal 164 290 lv st Q) := lc_callv (av := [v1]) (hz_164.trans rfl)
set_option maxRecDepth 8000 in
theorem w_164_290 : lx_W (tb_Zl L xs) cal 164 290 lv st σ Q ↔ wR (dx_lk lv 2) (fun y => lx_W (tb_Zl L xs) cal 164 291 lv (y :: st) σ Q) := lr_aload_n (k := 2) (hz_164.trans rfl)
set_option maxRecDepth 8000 in
theorem w_164_291 : lx_W (tb_Zl L xs) cal 164 291 lv st σ Q ↔ wR (dx_lk lv 0) (fun y => lx_W (tb_Zl L xs) cal 164 292 lv (y :: st) σ Q) := lr_aload_n (k := 0) (hz_164.trans rfl)
set_option maxRecDepth 8000 in
theorem w_164_292 : lx_W (tb_Zl L xs) cal 164 292 lv st σ Q ↔ wI (dx_lk lv 4) (fun y => lx_W (tb_Zl L xs) cal 164 294 lv (.int y :: st) σ Q) := lr_iload (k := 4) (hz_164.trans rfl)
set_option maxRecDepth 8000 in
theorem w_164_294 : lx_W (tb_Zl L xs) cal 164 294 lv st σ Q ↔ lx_W (tb_Zl L xs) cal 164 295 lv (.int 1 :: st) σ Q := lr_iconst (n := 1) (hz_164.trans rfl)
set_option maxRecDepth 8000 in
theorem w_164_295 {x y : Int32} : lx_W (tb_Zl L xs) cal 164 295 lv (.int y :: .int x :: st) σ Q ↔ lx_W (tb_Zl L xs) cal 164 296 lv (.int (x + y) :: st) σ Q := lr_iadd (hz_164.trans rfl)
set_option maxRecDepth 8000 in
theorem w_164_296 {w : Value} {y : Int32} : lx_W (tb_Zl L xs) cal 164 296 lv (.int y :: w :: st) σ Q ↔ wO (dx_ei (tb_K L xs) σ 0 w y) (fun u => lx_W (tb_Zl L xs) cal 164 297 lv (.int u :: st) σ Q) := lr_iaload (hz_164.trans rfl)
set_option maxRecDepth 8000 in
theorem w_164_297 {v0 v1 : Value}  : lx_W (tb_Zl L xs) cal 164 297 lv (v1 :: v0 :: st) σ Q ↔ (dx_ct st ≤ 8 ∧ dx_ci (tb_K L xs) σ v0 = some 9) ∧ lx_M cal 140 [v0, v1] σ (lx_K (tb_Zl L xs) cal 164 300 lv st Q) := lc_callv (av := [v1]) (hz_164.trans rfl)
set_option maxRecDepth 8000 in
theorem w_164_300 {x y : Int32} : lx_W (tb_Zl L xs) cal 164 300 lv (.int y :: .int x :: st) σ Q ↔ (if x = y then lx_W (tb_Zl L xs) cal 164 343 lv st σ Q else lx_W (tb_Zl L xs) cal 164 303 lv st σ Q) := lr_ic_eq (off := 43) (t := 343) (hz_164.trans rfl) (by decide)
set_option maxRecDepth 8000 in
theorem w_164_303 : lx_W (tb_Zl L xs) cal 164 303 lv st σ Q ↔ lx_W (tb_Zl L xs) cal 164 304 lv (.int 0 :: st) σ Q := lr_iconst (n := 0) (hz_164.trans rfl)
set_option maxRecDepth 8000 in
theorem w_164_304 {x : Int32} : lx_W (tb_Zl L xs) cal 164 304 lv [.int x] σ Q ↔ narrow .boolean (.int x) = .int x ∧ Q (.inl (some (.int x))) σ := lc_ireturn (hz_164.trans rfl) rfl
set_option maxRecDepth 8000 in
theorem w_164_305 : lx_W (tb_Zl L xs) cal 164 305 lv st σ Q ↔ wR (dx_lk lv 1) (fun y => lx_W (tb_Zl L xs) cal 164 306 lv (y :: st) σ Q) := lr_aload_n (k := 1) (hz_164.trans rfl)
set_option maxRecDepth 8000 in
theorem w_164_306 : lx_W (tb_Zl L xs) cal 164 306 lv st σ Q ↔ wR (dx_lk lv 0) (fun y => lx_W (tb_Zl L xs) cal 164 307 lv (y :: st) σ Q) := lr_aload_n (k := 0) (hz_164.trans rfl)
set_option maxRecDepth 8000 in
theorem w_164_307 : lx_W (tb_Zl L xs) cal 164 307 lv st σ Q ↔ wI (dx_lk lv 4) (fun y => lx_W (tb_Zl L xs) cal 164 309 lv (.int y :: st) σ Q) := lr_iload (k := 4) (hz_164.trans rfl)
set_option maxRecDepth 8000 in
theorem w_164_309 : lx_W (tb_Zl L xs) cal 164 309 lv st σ Q ↔ lx_W (tb_Zl L xs) cal 164 310 lv (.int 1 :: st) σ Q := lr_iconst (n := 1) (hz_164.trans rfl)
set_option maxRecDepth 8000 in
theorem w_164_310 {x y : Int32} : lx_W (tb_Zl L xs) cal 164 310 lv (.int y :: .int x :: st) σ Q ↔ lx_W (tb_Zl L xs) cal 164 311 lv (.int (x + y) :: st) σ Q := lr_iadd (hz_164.trans rfl)
set_option maxRecDepth 8000 in
theorem w_164_311 {w : Value} {y : Int32} : lx_W (tb_Zl L xs) cal 164 311 lv (.int y :: w :: st) σ Q ↔ wO (dx_ei (tb_K L xs) σ 0 w y) (fun u => lx_W (tb_Zl L xs) cal 164 312 lv (.int u :: st) σ Q) := lr_iaload (hz_164.trans rfl)
set_option maxRecDepth 8000 in
theorem w_164_312 {v0 v1 : Value}  : lx_W (tb_Zl L xs) cal 164 312 lv (v1 :: v0 :: st) σ Q ↔ (dx_ct st ≤ 8 ∧ dx_ci (tb_K L xs) σ v0 = some 0) ∧ lx_M cal 11 [v0, v1] σ (lx_K (tb_Zl L xs) cal 164 315 lv st Q) := lc_callv (av := [v1]) (hz_164.trans rfl)
set_option maxRecDepth 8000 in
theorem w_164_315 : lx_W (tb_Zl L xs) cal 164 315 lv st σ Q ↔ wR (dx_lk lv 2) (fun y => lx_W (tb_Zl L xs) cal 164 316 lv (y :: st) σ Q) := lr_aload_n (k := 2) (hz_164.trans rfl)
set_option maxRecDepth 8000 in
theorem w_164_316 : lx_W (tb_Zl L xs) cal 164 316 lv st σ Q ↔ wR (dx_lk lv 0) (fun y => lx_W (tb_Zl L xs) cal 164 317 lv (y :: st) σ Q) := lr_aload_n (k := 0) (hz_164.trans rfl)
set_option maxRecDepth 8000 in
theorem w_164_317 : lx_W (tb_Zl L xs) cal 164 317 lv st σ Q ↔ wI (dx_lk lv 4) (fun y => lx_W (tb_Zl L xs) cal 164 319 lv (.int y :: st) σ Q) := lr_iload (k := 4) (hz_164.trans rfl)
set_option maxRecDepth 8000 in
theorem w_164_319 : lx_W (tb_Zl L xs) cal 164 319 lv st σ Q ↔ lx_W (tb_Zl L xs) cal 164 320 lv (.int 1 :: st) σ Q := lr_iconst (n := 1) (hz_164.trans rfl)
set_option maxRecDepth 8000 in
theorem w_164_320 {x y : Int32} : lx_W (tb_Zl L xs) cal 164 320 lv (.int y :: .int x :: st) σ Q ↔ lx_W (tb_Zl L xs) cal 164 321 lv (.int (x + y) :: st) σ Q := lr_iadd (hz_164.trans rfl)
set_option maxRecDepth 8000 in
theorem w_164_321 {w : Value} {y : Int32} : lx_W (tb_Zl L xs) cal 164 321 lv (.int y :: w :: st) σ Q ↔ wO (dx_ei (tb_K L xs) σ 0 w y) (fun u => lx_W (tb_Zl L xs) cal 164 322 lv (.int u :: st) σ Q) := lr_iaload (hz_164.trans rfl)
set_option maxRecDepth 8000 in
theorem w_164_322 {v0 v1 : Value}  : lx_W (tb_Zl L xs) cal 164 322 lv (v1 :: v0 :: st) σ Q ↔ (dx_ct st ≤ 8 ∧ dx_ci (tb_K L xs) σ v0 = some 9) ∧ lx_M cal 141 [v0, v1] σ (lx_K (tb_Zl L xs) cal 164 325 lv st Q) := lc_callv (av := [v1]) (hz_164.trans rfl)
set_option maxRecDepth 8000 in
theorem w_164_325 {x y : Int32} : lx_W (tb_Zl L xs) cal 164 325 lv (.int y :: .int x :: st) σ Q ↔ (if x = y then lx_W (tb_Zl L xs) cal 164 343 lv st σ Q else lx_W (tb_Zl L xs) cal 164 328 lv st σ Q) := lr_ic_eq (off := 18) (t := 343) (hz_164.trans rfl) (by decide)
set_option maxRecDepth 8000 in
theorem w_164_328 : lx_W (tb_Zl L xs) cal 164 328 lv st σ Q ↔ lx_W (tb_Zl L xs) cal 164 329 lv (.int 0 :: st) σ Q := lr_iconst (n := 0) (hz_164.trans rfl)
set_option maxRecDepth 8000 in
theorem w_164_329 {x : Int32} : lx_W (tb_Zl L xs) cal 164 329 lv [.int x] σ Q ↔ narrow .boolean (.int x) = .int x ∧ Q (.inl (some (.int x))) σ := lc_ireturn (hz_164.trans rfl) rfl
set_option maxRecDepth 8000 in
theorem w_164_330 : lx_W (tb_Zl L xs) cal 164 330 lv st σ Q ↔ wR (dx_lk lv 1) (fun y => lx_W (tb_Zl L xs) cal 164 331 lv (y :: st) σ Q) := lr_aload_n (k := 1) (hz_164.trans rfl)
set_option maxRecDepth 8000 in
theorem w_164_331 {v0 : Value}  : lx_W (tb_Zl L xs) cal 164 331 lv (v0 :: st) σ Q ↔ (dx_ct st ≤ 8 ∧ dx_ci (tb_K L xs) σ v0 = some 0) ∧ lx_M cal 12 [v0] σ (lx_K (tb_Zl L xs) cal 164 334 lv st Q) := lc_callv (av := []) (hz_164.trans rfl)
set_option maxRecDepth 8000 in
theorem w_164_334 : lx_W (tb_Zl L xs) cal 164 334 lv st σ Q ↔ wR (dx_lk lv 2) (fun y => lx_W (tb_Zl L xs) cal 164 335 lv (y :: st) σ Q) := lr_aload_n (k := 2) (hz_164.trans rfl)
set_option maxRecDepth 8000 in
theorem w_164_335 {v0 : Value}  : lx_W (tb_Zl L xs) cal 164 335 lv (v0 :: st) σ Q ↔ (dx_ct st ≤ 8 ∧ dx_ci (tb_K L xs) σ v0 = some 9) ∧ lx_M cal 142 [v0] σ (lx_K (tb_Zl L xs) cal 164 338 lv st Q) := lc_callv (av := []) (hz_164.trans rfl)
set_option maxRecDepth 8000 in
theorem w_164_338 {x y : Int32} : lx_W (tb_Zl L xs) cal 164 338 lv (.int y :: .int x :: st) σ Q ↔ (if x = y then lx_W (tb_Zl L xs) cal 164 343 lv st σ Q else lx_W (tb_Zl L xs) cal 164 341 lv st σ Q) := lr_ic_eq (off := 5) (t := 343) (hz_164.trans rfl) (by decide)
set_option maxRecDepth 8000 in
theorem w_164_341 : lx_W (tb_Zl L xs) cal 164 341 lv st σ Q ↔ lx_W (tb_Zl L xs) cal 164 342 lv (.int 0 :: st) σ Q := lr_iconst (n := 0) (hz_164.trans rfl)
set_option maxRecDepth 8000 in
theorem w_164_342 {x : Int32} : lx_W (tb_Zl L xs) cal 164 342 lv [.int x] σ Q ↔ narrow .boolean (.int x) = .int x ∧ Q (.inl (some (.int x))) σ := lc_ireturn (hz_164.trans rfl) rfl
set_option maxRecDepth 8000 in
theorem w_164_343 : lx_W (tb_Zl L xs) cal 164 343 lv st σ Q ↔ wI (dx_lk lv 4) (fun y => lx_W (tb_Zl L xs) cal 164 346 (dx_s1 lv 4 (.int (y + 2))) st σ Q) := lr_iincv (k := 4) (n := 2) (hz_164.trans rfl) (show 4 < tb_l 164 by decide) (by decide)
set_option maxRecDepth 8000 in
theorem w_164_346 : lx_W (tb_Zl L xs) cal 164 346 lv st σ Q ↔ lx_W (tb_Zl L xs) cal 164 23 lv st σ Q := lr_goto (off := (-323)) (t := 23) (hz_164.trans rfl) (by decide)
set_option maxRecDepth 8000 in
theorem w_164_349 : lx_W (tb_Zl L xs) cal 164 349 lv st σ Q ↔ lx_W (tb_Zl L xs) cal 164 350 lv (.int 1 :: st) σ Q := lr_iconst (n := 1) (hz_164.trans rfl)
set_option maxRecDepth 8000 in
theorem w_164_350 {x : Int32} : lx_W (tb_Zl L xs) cal 164 350 lv [.int x] σ Q ↔ narrow .boolean (.int x) = .int x ∧ Q (.inl (some (.int x))) σ := lc_ireturn (hz_164.trans rfl) rfl
end LW4
