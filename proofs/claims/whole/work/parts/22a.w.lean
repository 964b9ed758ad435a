/-! Printed by program: the rules of every instruction of java/lang/Math. -/
section W13
variable {L : Nat} {xs : Nat → Int32} {d : Nat} {lv : dx_L} {st : List Value} {σ : dx_S} {Q : dx_O → dx_S → Prop}
theorem hz_144 {pc : Nat} : (tb_Z L xs).1 144 pc = dx_at tb_m144 pc := rfl
theorem w_144_0 : dx_W (tb_Z L xs) d 144 0 lv st σ Q ↔ wI (dx_lk lv 0) (fun y => dx_W (tb_Z L xs) d 144 1 lv (.int y :: st) σ Q) := r_iload_n (k := 0) (hz_144.trans rfl)
theorem w_144_1 : dx_W (tb_Z L xs) d 144 1 lv st σ Q ↔ wI (dx_lk lv 1) (fun y => dx_W (tb_Z L xs) d 144 2 lv (.int y :: st) σ Q) := r_iload_n (k := 1) (hz_144.trans rfl)
theorem w_144_2 {x y : Int32} : dx_W (tb_Z L xs) d 144 2 lv (.int y :: .int x :: st) σ Q ↔ (if y < x then dx_W (tb_Z L xs) d 144 9 lv st σ Q else dx_W (tb_Z L xs) d 144 5 lv st σ Q) := r_ic_gt (off := 7) (t := 9) (hz_144.trans rfl) (by decide)
theorem w_144_5 : dx_W (tb_Z L xs) d 144 5 lv st σ Q ↔ wI (dx_lk lv 0) (fun y => dx_W (tb_Z L xs) d 144 6 lv (.int y :: st) σ Q) := r_iload_n (k := 0) (hz_144.trans rfl)
theorem w_144_6 : dx_W (tb_Z L xs) d 144 6 lv st σ Q ↔ dx_W (tb_Z L xs) d 144 10 lv st σ Q := r_goto (off := 4) (t := 10) (hz_144.trans rfl) (by decide)
theorem w_144_9 : dx_W (tb_Z L xs) d 144 9 lv st σ Q ↔ wI (dx_lk lv 1) (fun y => dx_W (tb_Z L xs) d 144 10 lv (.int y :: st) σ Q) := r_iload_n (k := 1) (hz_144.trans rfl)
theorem w_144_10 {x : Int32} : dx_W (tb_Z L xs) d 144 10 lv [.int x] σ Q ↔ Q (.inl (some (.int x))) σ := r_ireturn (hz_144.trans rfl) rfl rfl
theorem hz_145 {pc : Nat} : (tb_Z L xs).1 145 pc = dx_at tb_m145 pc := rfl
theorem w_145_0 : dx_W (tb_Z L xs) d 145 0 lv st σ Q ↔ wI (dx_lk lv 0) (fun y => dx_W (tb_Z L xs) d 145 1 lv (.int y :: st) σ Q) := r_iload_n (k := 0) (hz_145.trans rfl)
theorem w_145_1 : dx_W (tb_Z L xs) d 145 1 lv st σ Q ↔ wI (dx_lk lv 1) (fun y => dx_W (tb_Z L xs) d 145 2 lv (.int y :: st) σ Q) := r_iload_n (k := 1) (hz_145.trans rfl)
theorem w_145_2 {x y : Int32} : dx_W (tb_Z L xs) d 145 2 lv (.int y :: .int x :: st) σ Q ↔ (if x < y then dx_W (tb_Z L xs) d 145 9 lv st σ Q else dx_W (tb_Z L xs) d 145 5 lv st σ Q) := r_ic_lt (off := 7) (t := 9) (hz_145.trans rfl) (by decide)
theorem w_145_5 : dx_W (tb_Z L xs) d 145 5 lv st σ Q ↔ wI (dx_lk lv 0) (fun y => dx_W (tb_Z L xs) d 145 6 lv (.int y :: st) σ Q) := r_iload_n (k := 0) (hz_145.trans rfl)
theorem w_145_6 : dx_W (tb_Z L xs) d 145 6 lv st σ Q ↔ dx_W (tb_Z L xs) d 145 10 lv st σ Q := r_goto (off := 4) (t := 10) (hz_145.trans rfl) (by decide)
theorem w_145_9 : dx_W (tb_Z L xs) d 145 9 lv st σ Q ↔ wI (dx_lk lv 1) (fun y => dx_W (tb_Z L xs) d 145 10 lv (.int y :: st) σ Q) := r_iload_n (k := 1) (hz_145.trans rfl)
theorem w_145_10 {x : Int32} : dx_W (tb_Z L xs) d 145 10 lv [.int x] σ Q ↔ Q (.inl (some (.int x))) σ := r_ireturn (hz_145.trans rfl) rfl rfl
theorem hz_146 {pc : Nat} : (tb_Z L xs).1 146 pc = dx_at tb_m146 pc := rfl
theorem w_146_0 : dx_W (tb_Z L xs) d 146 0 lv st σ Q ↔ wJ (dx_lk lv 0) (fun y => dx_W (tb_Z L xs) d 146 1 lv (.long y :: st) σ Q) := r_lload_n (k := 0) (hz_146.trans rfl)
theorem w_146_1 : dx_W (tb_Z L xs) d 146 1 lv st σ Q ↔ dx_W (tb_Z L xs) d 146 2 lv (.long 0 :: st) σ Q := r_lconst (n := 0) (hz_146.trans rfl)
theorem w_146_2 {x y : Int64} : dx_W (tb_Z L xs) d 146 2 lv (.long y :: .long x :: st) σ Q ↔ dx_W (tb_Z L xs) d 146 3 lv (.int (lg_cmp x y) :: st) σ Q := r_lcmp (hz_146.trans rfl)
theorem w_146_3 {x : Int32} : dx_W (tb_Z L xs) d 146 3 lv (.int x :: st) σ Q ↔ (if 0 ≤ x then dx_W (tb_Z L xs) d 146 11 lv st σ Q else dx_W (tb_Z L xs) d 146 6 lv st σ Q) := r_if_ge (off := 8) (t := 11) (hz_146.trans rfl) (by decide)
theorem w_146_6 : dx_W (tb_Z L xs) d 146 6 lv st σ Q ↔ wJ (dx_lk lv 0) (fun y => dx_W (tb_Z L xs) d 146 7 lv (.long y :: st) σ Q) := r_lload_n (k := 0) (hz_146.trans rfl)
theorem w_146_7 {x : Int64} : dx_W (tb_Z L xs) d 146 7 lv (.long x :: st) σ Q ↔ dx_W (tb_Z L xs) d 146 8 lv (.long (-x) :: st) σ Q := r_lneg (hz_146.trans rfl)
theorem w_146_8 : dx_W (tb_Z L xs) d 146 8 lv st σ Q ↔ dx_W (tb_Z L xs) d 146 12 lv st σ Q := r_goto (off := 4) (t := 12) (hz_146.trans rfl) (by decide)
theorem w_146_11 : dx_W (tb_Z L xs) d 146 11 lv st σ Q ↔ wJ (dx_lk lv 0) (fun y => dx_W (tb_Z L xs) d 146 12 lv (.long y :: st) σ Q) := r_lload_n (k := 0) (hz_146.trans rfl)
theorem w_146_12 {x : Int64} : dx_W (tb_Z L xs) d 146 12 lv [.long x] σ Q ↔ Q (.inl (some (.long x))) σ := r_lreturn (hz_146.trans rfl) rfl
theorem hz_147 {pc : Nat} : (tb_Z L xs).1 147 pc = dx_at tb_m147 pc := rfl
theorem w_147_0 : dx_W (tb_Z L xs) d 147 0 lv st σ Q ↔ wI (dx_lk lv 0) (fun y => dx_W (tb_Z L xs) d 147 1 lv (.int y :: st) σ Q) := r_iload_n (k := 0) (hz_147.trans rfl)
theorem w_147_1 {x : Int32} : dx_W (tb_Z L xs) d 147 1 lv (.int x :: st) σ Q ↔ (if 0 ≤ x then dx_W (tb_Z L xs) d 147 9 lv st σ Q else dx_W (tb_Z L xs) d 147 4 lv st σ Q) := r_if_ge (off := 8) (t := 9) (hz_147.trans rfl) (by decide)
theorem w_147_4 : dx_W (tb_Z L xs) d 147 4 lv st σ Q ↔ wI (dx_lk lv 0) (fun y => dx_W (tb_Z L xs) d 147 5 lv (.int y :: st) σ Q) := r_iload_n (k := 0) (hz_147.trans rfl)
theorem w_147_5 {x : Int32} : dx_W (tb_Z L xs) d 147 5 lv (.int x :: st) σ Q ↔ dx_W (tb_Z L xs) d 147 6 lv (.int (-x) :: st) σ Q := r_ineg (hz_147.trans rfl)
theorem w_147_6 : dx_W (tb_Z L xs) d 147 6 lv st σ Q ↔ dx_W (tb_Z L xs) d 147 10 lv st σ Q := r_goto (off := 4) (t := 10) (hz_147.trans rfl) (by decide)
theorem w_147_9 : dx_W (tb_Z L xs) d 147 9 lv st σ Q ↔ wI (dx_lk lv 0) (fun y => dx_W (tb_Z L xs) d 147 10 lv (.int y :: st) σ Q) := r_iload_n (k := 0) (hz_147.trans rfl)
theorem w_147_10 {x : Int32} : dx_W (tb_Z L xs) d 147 10 lv [.int x] σ Q ↔ Q (.inl (some (.int x))) σ := r_ireturn (hz_147.trans rfl) rfl rfl
end W13
/-! Printed by program: the rules of every instruction of java/lang/Long. -/
section W14
variable {L : Nat} {xs : Nat → Int32} {d : Nat} {lv : dx_L} {st : List Value} {σ : dx_S} {Q : dx_O → dx_S → Prop}
theorem hz_148 {pc : Nat} : (tb_Z L xs).1 148 pc = dx_at tb_m148 pc := rfl
theorem w_148_0 : dx_W (tb_Z L xs) d 148 0 lv st σ Q ↔ wJ (dx_lk lv 0) (fun y => dx_W (tb_Z L xs) d 148 1 lv (.long y :: st) σ Q) := r_lload_n (k := 0) (hz_148.trans rfl)
theorem w_148_1 : dx_W (tb_Z L xs) d 148 1 lv st σ Q ↔ wJ (dx_lk lv 2) (fun y => dx_W (tb_Z L xs) d 148 2 lv (.long y :: st) σ Q) := r_lload_n (k := 2) (hz_148.trans rfl)
theorem w_148_2 {x y : Int64} : dx_W (tb_Z L xs) d 148 2 lv (.long y :: .long x :: st) σ Q ↔ dx_W (tb_Z L xs) d 148 3 lv (.int (lg_cmp x y) :: st) σ Q := r_lcmp (hz_148.trans rfl)
theorem w_148_3 {x : Int32} : dx_W (tb_Z L xs) d 148 3 lv (.int x :: st) σ Q ↔ (if 0 ≤ x then dx_W (tb_Z L xs) d 148 10 lv st σ Q else dx_W (tb_Z L xs) d 148 6 lv st σ Q) := r_if_ge (off := 7) (t := 10) (hz_148.trans rfl) (by decide)
theorem w_148_6 : dx_W (tb_Z L xs) d 148 6 lv st σ Q ↔ dx_W (tb_Z L xs) d 148 7 lv (.int (-1) :: st) σ Q := r_iconst (n := (-1)) (hz_148.trans rfl)
theorem w_148_7 : dx_W (tb_Z L xs) d 148 7 lv st σ Q ↔ dx_W (tb_Z L xs) d 148 21 lv st σ Q := r_goto (off := 14) (t := 21) (hz_148.trans rfl) (by decide)
theorem w_148_10 : dx_W (tb_Z L xs) d 148 10 lv st σ Q ↔ wJ (dx_lk lv 0) (fun y => dx_W (tb_Z L xs) d 148 11 lv (.long y :: st) σ Q) := r_lload_n (k := 0) (hz_148.trans rfl)
theorem w_148_11 : dx_W (tb_Z L xs) d 148 11 lv st σ Q ↔ wJ (dx_lk lv 2) (fun y => dx_W (tb_Z L xs) d 148 12 lv (.long y :: st) σ Q) := r_lload_n (k := 2) (hz_148.trans rfl)
theorem w_148_12 {x y : Int64} : dx_W (tb_Z L xs) d 148 12 lv (.long y :: .long x :: st) σ Q ↔ dx_W (tb_Z L xs) d 148 13 lv (.int (lg_cmp x y) :: st) σ Q := r_lcmp (hz_148.trans rfl)
theorem w_148_13 {x : Int32} : dx_W (tb_Z L xs) d 148 13 lv (.int x :: st) σ Q ↔ (if ¬ x = 0 then dx_W (tb_Z L xs) d 148 20 lv st σ Q else dx_W (tb_Z L xs) d 148 16 lv st σ Q) := r_if_ne (off := 7) (t := 20) (hz_148.trans rfl) (by decide)
theorem w_148_16 : dx_W (tb_Z L xs) d 148 16 lv st σ Q ↔ dx_W (tb_Z L xs) d 148 17 lv (.int 0 :: st) σ Q := r_iconst (n := 0) (hz_148.trans rfl)
theorem w_148_17 : dx_W (tb_Z L xs) d 148 17 lv st σ Q ↔ dx_W (tb_Z L xs) d 148 21 lv st σ Q := r_goto (off := 4) (t := 21) (hz_148.trans rfl) (by decide)
theorem w_148_20 : dx_W (tb_Z L xs) d 148 20 lv st σ Q ↔ dx_W (tb_Z L xs) d 148 21 lv (.int 1 :: st) σ Q := r_iconst (n := 1) (hz_148.trans rfl)
theorem w_148_21 {x : Int32} : dx_W (tb_Z L xs) d 148 21 lv [.int x] σ Q ↔ Q (.inl (some (.int x))) σ := r_ireturn (hz_148.trans rfl) rfl rfl
end W14
/-! Printed by program: the rules of every instruction of java/util/Arrays. -/
section W15
variable {L : Nat} {xs : Nat → Int32} {d : Nat} {lv : dx_L} {st : List Value} {σ : dx_S} {Q : dx_O → dx_S → Prop}
theorem hz_149 {pc : Nat} : (tb_Z L xs).1 149 pc = dx_at tb_m149 pc := rfl
theorem w_149_0 : dx_W (tb_Z L xs) d 149 0 lv st σ Q ↔ dx_W (tb_Z L xs) d 149 1 lv (.int 0 :: st) σ Q := r_iconst (n := 0) (hz_149.trans rfl)
theorem w_149_1 {x : Int32} : dx_W (tb_Z L xs) d 149 1 lv (.int x :: st) σ Q ↔ dx_W (tb_Z L xs) d 149 2 (dx_s1 lv 3 (.int x)) st σ Q := r_istore_n (k := 3) (hz_149.trans rfl) (show 3 < tb_l 149 by decide)
theorem w_149_2 : dx_W (tb_Z L xs) d 149 2 lv st σ Q ↔ wR (dx_lk lv 0) (fun y => dx_W (tb_Z L xs) d 149 3 lv (y :: st) σ Q) := r_aload_n (k := 0) (hz_149.trans rfl)
theorem w_149_3 {w : Value} : dx_W (tb_Z L xs) d 149 3 lv (w :: st) σ Q ↔ wO (dx_in (tb_K L xs) σ w) (fun u => dx_W (tb_Z L xs) d 149 4 lv (.int u :: st) σ Q) := r_arraylength (hz_149.trans rfl)
theorem w_149_4 {x : Int32} : dx_W (tb_Z L xs) d 149 4 lv (.int x :: st) σ Q ↔ dx_W (tb_Z L xs) d 149 6 (dx_s1 lv 4 (.int x)) st σ Q := r_istore (k := 4) (hz_149.trans rfl) (show 4 < tb_l 149 by decide)
theorem w_149_6 : dx_W (tb_Z L xs) d 149 6 lv st σ Q ↔ wI (dx_lk lv 3) (fun y => dx_W (tb_Z L xs) d 149 7 lv (.int y :: st) σ Q) := r_iload_n (k := 3) (hz_149.trans rfl)
theorem w_149_7 : dx_W (tb_Z L xs) d 149 7 lv st σ Q ↔ wI (dx_lk lv 4) (fun y => dx_W (tb_Z L xs) d 149 9 lv (.int y :: st) σ Q) := r_iload (k := 4) (hz_149.trans rfl)
theorem w_149_9 {x y : Int32} : dx_W (tb_Z L xs) d 149 9 lv (.int y :: .int x :: st) σ Q ↔ (if y ≤ x then dx_W (tb_Z L xs) d 149 22 lv st σ Q else dx_W (tb_Z L xs) d 149 12 lv st σ Q) := r_ic_ge (off := 13) (t := 22) (hz_149.trans rfl) (by decide)
theorem w_149_12 : dx_W (tb_Z L xs) d 149 12 lv st σ Q ↔ wR (dx_lk lv 0) (fun y => dx_W (tb_Z L xs) d 149 13 lv (y :: st) σ Q) := r_aload_n (k := 0) (hz_149.trans rfl)
theorem w_149_13 : dx_W (tb_Z L xs) d 149 13 lv st σ Q ↔ wI (dx_lk lv 3) (fun y => dx_W (tb_Z L xs) d 149 14 lv (.int y :: st) σ Q) := r_iload_n (k := 3) (hz_149.trans rfl)
theorem w_149_14 : dx_W (tb_Z L xs) d 149 14 lv st σ Q ↔ wJ (dx_lk lv 1) (fun y => dx_W (tb_Z L xs) d 149 15 lv (.long y :: st) σ Q) := r_lload_n (k := 1) (hz_149.trans rfl)
theorem w_149_15 {w : Value} {y : Int32} {u : Int64} : dx_W (tb_Z L xs) d 149 15 lv (.long u :: .int y :: w :: st) σ Q ↔ wO (dx_pl σ w y u) (fun σ1 => dx_W (tb_Z L xs) d 149 16 lv st σ1 Q) := r_lastore (hz_149.trans rfl)
theorem w_149_16 : dx_W (tb_Z L xs) d 149 16 lv st σ Q ↔ wI (dx_lk lv 3) (fun y => dx_W (tb_Z L xs) d 149 19 (dx_s1 lv 3 (.int (y + 1))) st σ Q) := r_iincv (k := 3) (n := 1) (hz_149.trans rfl) (show 3 < tb_l 149 by decide) (by decide)
theorem w_149_19 : dx_W (tb_Z L xs) d 149 19 lv st σ Q ↔ dx_W (tb_Z L xs) d 149 6 lv st σ Q := r_goto (off := (-13)) (t := 6) (hz_149.trans rfl) (by decide)
theorem w_149_22 : dx_W (tb_Z L xs) d 149 22 lv [] σ Q ↔ Q (.inl none) σ := r_return (hz_149.trans rfl) rfl
theorem hz_150 {pc : Nat} : (tb_Z L xs).1 150 pc = dx_at tb_m150 pc := rfl
theorem w_150_0 : dx_W (tb_Z L xs) d 150 0 lv st σ Q ↔ dx_W (tb_Z L xs) d 150 1 lv (.int 0 :: st) σ Q := r_iconst (n := 0) (hz_150.trans rfl)
theorem w_150_1 {x : Int32} : dx_W (tb_Z L xs) d 150 1 lv (.int x :: st) σ Q ↔ dx_W (tb_Z L xs) d 150 2 (dx_s1 lv 2 (.int x)) st σ Q := r_istore_n (k := 2) (hz_150.trans rfl) (show 2 < tb_l 150 by decide)
theorem w_150_2 : dx_W (tb_Z L xs) d 150 2 lv st σ Q ↔ wR (dx_lk lv 0) (fun y => dx_W (tb_Z L xs) d 150 3 lv (y :: st) σ Q) := r_aload_n (k := 0) (hz_150.trans rfl)
theorem w_150_3 {w : Value} : dx_W (tb_Z L xs) d 150 3 lv (w :: st) σ Q ↔ wO (dx_in (tb_K L xs) σ w) (fun u => dx_W (tb_Z L xs) d 150 4 lv (.int u :: st) σ Q) := r_arraylength (hz_150.trans rfl)
theorem w_150_4 {x : Int32} : dx_W (tb_Z L xs) d 150 4 lv (.int x :: st) σ Q ↔ dx_W (tb_Z L xs) d 150 5 (dx_s1 lv 3 (.int x)) st σ Q := r_istore_n (k := 3) (hz_150.trans rfl) (show 3 < tb_l 150 by decide)
theorem w_150_5 : dx_W (tb_Z L xs) d 150 5 lv st σ Q ↔ wI (dx_lk lv 2) (fun y => dx_W (tb_Z L xs) d 150 6 lv (.int y :: st) σ Q) := r_iload_n (k := 2) (hz_150.trans rfl)
theorem w_150_6 : dx_W (tb_Z L xs) d 150 6 lv st σ Q ↔ wI (dx_lk lv 3) (fun y => dx_W (tb_Z L xs) d 150 7 lv (.int y :: st) σ Q) := r_iload_n (k := 3) (hz_150.trans rfl)
theorem w_150_7 {x y : Int32} : dx_W (tb_Z L xs) d 150 7 lv (.int y :: .int x :: st) σ Q ↔ (if y ≤ x then dx_W (tb_Z L xs) d 150 20 lv st σ Q else dx_W (tb_Z L xs) d 150 10 lv st σ Q) := r_ic_ge (off := 13) (t := 20) (hz_150.trans rfl) (by decide)
theorem w_150_10 : dx_W (tb_Z L xs) d 150 10 lv st σ Q ↔ wR (dx_lk lv 0) (fun y => dx_W (tb_Z L xs) d 150 11 lv (y :: st) σ Q) := r_aload_n (k := 0) (hz_150.trans rfl)
theorem w_150_11 : dx_W (tb_Z L xs) d 150 11 lv st σ Q ↔ wI (dx_lk lv 2) (fun y => dx_W (tb_Z L xs) d 150 12 lv (.int y :: st) σ Q) := r_iload_n (k := 2) (hz_150.trans rfl)
theorem w_150_12 : dx_W (tb_Z L xs) d 150 12 lv st σ Q ↔ wI (dx_lk lv 1) (fun y => dx_W (tb_Z L xs) d 150 13 lv (.int y :: st) σ Q) := r_iload_n (k := 1) (hz_150.trans rfl)
theorem w_150_13 {w : Value} {y : Int32} {u : Int32} : dx_W (tb_Z L xs) d 150 13 lv (.int u :: .int y :: w :: st) σ Q ↔ wO (dx_pi σ 0 w y u) (fun σ1 => dx_W (tb_Z L xs) d 150 14 lv st σ1 Q) := r_iastore (hz_150.trans rfl)
theorem w_150_14 : dx_W (tb_Z L xs) d 150 14 lv st σ Q ↔ wI (dx_lk lv 2) (fun y => dx_W (tb_Z L xs) d 150 17 (dx_s1 lv 2 (.int (y + 1))) st σ Q) := r_iincv (k := 2) (n := 1) (hz_150.trans rfl) (show 2 < tb_l 150 by decide) (by decide)
theorem w_150_17 : dx_W (tb_Z L xs) d 150 17 lv st σ Q ↔ dx_W (tb_Z L xs) d 150 5 lv st σ Q := r_goto (off := (-12)) (t := 5) (hz_150.trans rfl) (by decide)
theorem w_150_20 : dx_W (tb_Z L xs) d 150 20 lv [] σ Q ↔ Q (.inl none) σ := r_return (hz_150.trans rfl) rfl
end W15
/-! Printed by program: the rules of every instruction of java/lang/String. -/
section W16
variable {L : Nat} {xs : Nat → Int32} {d : Nat} {lv : dx_L} {st : List Value} {σ : dx_S} {Q : dx_O → dx_S → Prop}
theorem hz_151 {pc : Nat} : (tb_Z L xs).1 151 pc = dx_at tb_m151 pc := rfl
theorem w_151_0 : dx_W (tb_Z L xs) d 151 0 lv st σ Q ↔ wR (dx_lk lv 0) (fun y => dx_W (tb_Z L xs) d 151 1 lv (y :: st) σ Q) := r_aload_n (k := 0) (hz_151.trans rfl)
theorem w_151_1 {w : Value} : dx_W (tb_Z L xs) d 151 1 lv (w :: st) σ Q ↔ wO (dx_gf (tb_K L xs) σ w 14 0) (fun y => dx_W (tb_Z L xs) d 151 4 lv (y :: st) σ Q) := r_getfield (hz_151.trans rfl)
theorem w_151_4 {w : Value} : dx_W (tb_Z L xs) d 151 4 lv (w :: st) σ Q ↔ wO (dx_in (tb_K L xs) σ w) (fun u => dx_W (tb_Z L xs) d 151 5 lv (.int u :: st) σ Q) := r_arraylength (hz_151.trans rfl)
theorem w_151_5 : dx_W (tb_Z L xs) d 151 5 lv st σ Q ↔ wR (dx_lk lv 0) (fun y => dx_W (tb_Z L xs) d 151 6 lv (y :: st) σ Q) := r_aload_n (k := 0) (hz_151.trans rfl)
theorem w_151_6 {v0 : Value} (hc : dx_ct st ≤ 8) (hr : dx_ci (tb_K L xs) σ v0 = some 14) : dx_W (tb_Z L xs) d 151 6 lv (v0 :: st) σ Q ↔ dx_M (tb_Z L xs) d 152 [v0] σ (wK (tb_Z L xs) d 151 9 lv st Q) := r_call (av := [v0]) (hz_151.trans rfl) rfl hc (decide_eq_true hr)
theorem w_151_9 {x y : Int32} : dx_W (tb_Z L xs) d 151 9 lv (.int y :: .int x :: st) σ Q ↔ dx_W (tb_Z L xs) d 151 10 lv (.int (x >>> (y &&& 31)) :: st) σ Q := r_ishr (hz_151.trans rfl)
theorem w_151_10 {x : Int32} : dx_W (tb_Z L xs) d 151 10 lv [.int x] σ Q ↔ Q (.inl (some (.int x))) σ := r_ireturn (hz_151.trans rfl) rfl rfl
theorem hz_152 {pc : Nat} : (tb_Z L xs).1 152 pc = dx_at tb_m152 pc := rfl
theorem w_152_0 : dx_W (tb_Z L xs) d 152 0 lv st σ Q ↔ dx_W (tb_Z L xs) d 152 3 lv (.int 1 :: st) σ Q := r_getstatic (hz_152.trans rfl)
theorem w_152_3 {x : Int32} : dx_W (tb_Z L xs) d 152 3 lv (.int x :: st) σ Q ↔ (if x = 0 then dx_W (tb_Z L xs) d 152 13 lv st σ Q else dx_W (tb_Z L xs) d 152 6 lv st σ Q) := r_if_eq (off := 10) (t := 13) (hz_152.trans rfl) (by decide)
theorem w_152_6 : dx_W (tb_Z L xs) d 152 6 lv st σ Q ↔ wR (dx_lk lv 0) (fun y => dx_W (tb_Z L xs) d 152 7 lv (y :: st) σ Q) := r_aload_n (k := 0) (hz_152.trans rfl)
theorem w_152_7 {w : Value} : dx_W (tb_Z L xs) d 152 7 lv (w :: st) σ Q ↔ wO (dx_gf (tb_K L xs) σ w 14 1) (fun y => dx_W (tb_Z L xs) d 152 10 lv (y :: st) σ Q) := r_getfield (hz_152.trans rfl)
theorem w_152_10 : dx_W (tb_Z L xs) d 152 10 lv st σ Q ↔ dx_W (tb_Z L xs) d 152 14 lv st σ Q := r_goto (off := 4) (t := 14) (hz_152.trans rfl) (by decide)
theorem w_152_13 : dx_W (tb_Z L xs) d 152 13 lv st σ Q ↔ dx_W (tb_Z L xs) d 152 14 lv (.int 1 :: st) σ Q := r_iconst (n := 1) (hz_152.trans rfl)
theorem w_152_14 {x : Int32} (hn : narrow .byte (.int x) = .int x) : dx_W (tb_Z L xs) d 152 14 lv [.int x] σ Q ↔ Q (.inl (some (.int x))) σ := r_ireturn (hz_152.trans rfl) rfl hn
theorem hz_153 {pc : Nat} : (tb_Z L xs).1 153 pc = dx_at tb_m153 pc := rfl
theorem w_153_0 : dx_W (tb_Z L xs) d 153 0 lv st σ Q ↔ wR (dx_lk lv 0) (fun y => dx_W (tb_Z L xs) d 153 1 lv (y :: st) σ Q) := r_aload_n (k := 0) (hz_153.trans rfl)
theorem w_153_1 {v0 : Value} (hc : dx_ct st ≤ 8) (hr : dx_ci (tb_K L xs) σ v0 = some 14) : dx_W (tb_Z L xs) d 153 1 lv (v0 :: st) σ Q ↔ dx_M (tb_Z L xs) d 154 [v0] σ (wK (tb_Z L xs) d 153 4 lv st Q) := r_call (av := [v0]) (hz_153.trans rfl) rfl hc (decide_eq_true hr)
theorem w_153_4 {x : Int32} : dx_W (tb_Z L xs) d 153 4 lv (.int x :: st) σ Q ↔ (if x = 0 then dx_W (tb_Z L xs) d 153 16 lv st σ Q else dx_W (tb_Z L xs) d 153 7 lv st σ Q) := r_if_eq (off := 12) (t := 16) (hz_153.trans rfl) (by decide)
theorem w_153_7 : dx_W (tb_Z L xs) d 153 7 lv st σ Q ↔ wR (dx_lk lv 0) (fun y => dx_W (tb_Z L xs) d 153 8 lv (y :: st) σ Q) := r_aload_n (k := 0) (hz_153.trans rfl)
theorem w_153_8 {w : Value} : dx_W (tb_Z L xs) d 153 8 lv (w :: st) σ Q ↔ wO (dx_gf (tb_K L xs) σ w 14 0) (fun y => dx_W (tb_Z L xs) d 153 11 lv (y :: st) σ Q) := r_getfield (hz_153.trans rfl)
theorem w_153_11 : dx_W (tb_Z L xs) d 153 11 lv st σ Q ↔ wI (dx_lk lv 1) (fun y => dx_W (tb_Z L xs) d 153 12 lv (.int y :: st) σ Q) := r_iload_n (k := 1) (hz_153.trans rfl)
theorem w_153_12 {v0 v1 : Value} (hc : dx_ct st ≤ 8) : dx_W (tb_Z L xs) d 153 12 lv (v1 :: v0 :: st) σ Q ↔ dx_M (tb_Z L xs) d 158 [v0, v1] σ (wK (tb_Z L xs) d 153 15 lv st Q) := r_call (av := [v0, v1]) (hz_153.trans rfl) rfl hc rfl
theorem w_153_15 {x : Int32} (hn : narrow .char (.int x) = .int x) : dx_W (tb_Z L xs) d 153 15 lv [.int x] σ Q ↔ Q (.inl (some (.int x))) σ := r_ireturn (hz_153.trans rfl) rfl hn
theorem w_153_16 : dx_W (tb_Z L xs) d 153 16 lv st σ Q ↔ wR (dx_lk lv 0) (fun y => dx_W (tb_Z L xs) d 153 17 lv (y :: st) σ Q) := r_aload_n (k := 0) (hz_153.trans rfl)
theorem w_153_17 {w : Value} : dx_W (tb_Z L xs) d 153 17 lv (w :: st) σ Q ↔ wO (dx_gf (tb_K L xs) σ w 14 0) (fun y => dx_W (tb_Z L xs) d 153 20 lv (y :: st) σ Q) := r_getfield (hz_153.trans rfl)
theorem w_153_20 : dx_W (tb_Z L xs) d 153 20 lv st σ Q ↔ wI (dx_lk lv 1) (fun y => dx_W (tb_Z L xs) d 153 21 lv (.int y :: st) σ Q) := r_iload_n (k := 1) (hz_153.trans rfl)
theorem w_153_24 {x : Int32} (hn : narrow .char (.int x) = .int x) : dx_W (tb_Z L xs) d 153 24 lv [.int x] σ Q ↔ Q (.inl (some (.int x))) σ := r_ireturn (hz_153.trans rfl) rfl hn
theorem hz_154 {pc : Nat} : (tb_Z L xs).1 154 pc = dx_at tb_m154 pc := rfl
theorem w_154_0 : dx_W (tb_Z L xs) d 154 0 lv st σ Q ↔ dx_W (tb_Z L xs) d 154 3 lv (.int 1 :: st) σ Q := r_getstatic (hz_154.trans rfl)
theorem w_154_3 {x : Int32} : dx_W (tb_Z L xs) d 154 3 lv (.int x :: st) σ Q ↔ (if x = 0 then dx_W (tb_Z L xs) d 154 17 lv st σ Q else dx_W (tb_Z L xs) d 154 6 lv st σ Q) := r_if_eq (off := 14) (t := 17) (hz_154.trans rfl) (by decide)
theorem w_154_6 : dx_W (tb_Z L xs) d 154 6 lv st σ Q ↔ wR (dx_lk lv 0) (fun y => dx_W (tb_Z L xs) d 154 7 lv (y :: st) σ Q) := r_aload_n (k := 0) (hz_154.trans rfl)
theorem w_154_7 {w : Value} : dx_W (tb_Z L xs) d 154 7 lv (w :: st) σ Q ↔ wO (dx_gf (tb_K L xs) σ w 14 1) (fun y => dx_W (tb_Z L xs) d 154 10 lv (y :: st) σ Q) := r_getfield (hz_154.trans rfl)
theorem w_154_10 {x : Int32} : dx_W (tb_Z L xs) d 154 10 lv (.int x :: st) σ Q ↔ (if ¬ x = 0 then dx_W (tb_Z L xs) d 154 17 lv st σ Q else dx_W (tb_Z L xs) d 154 13 lv st σ Q) := r_if_ne (off := 7) (t := 17) (hz_154.trans rfl) (by decide)
theorem w_154_13 : dx_W (tb_Z L xs) d 154 13 lv st σ Q ↔ dx_W (tb_Z L xs) d 154 14 lv (.int 1 :: st) σ Q := r_iconst (n := 1) (hz_154.trans rfl)
theorem w_154_14 : dx_W (tb_Z L xs) d 154 14 lv st σ Q ↔ dx_W (tb_Z L xs) d 154 18 lv st σ Q := r_goto (off := 4) (t := 18) (hz_154.trans rfl) (by decide)
theorem w_154_17 : dx_W (tb_Z L xs) d 154 17 lv st σ Q ↔ dx_W (tb_Z L xs) d 154 18 lv (.int 0 :: st) σ Q := r_iconst (n := 0) (hz_154.trans rfl)
theorem w_154_18 {x : Int32} (hn : narrow .boolean (.int x) = .int x) : dx_W (tb_Z L xs) d 154 18 lv [.int x] σ Q ↔ Q (.inl (some (.int x))) σ := r_ireturn (hz_154.trans rfl) rfl hn
theorem hz_155 {pc : Nat} : (tb_Z L xs).1 155 pc = dx_at tb_m155 pc := rfl
theorem w_155_0 : dx_W (tb_Z L xs) d 155 0 lv st σ Q ↔ wI (dx_lk lv 0) (fun y => dx_W (tb_Z L xs) d 155 1 lv (.int y :: st) σ Q) := r_iload_n (k := 0) (hz_155.trans rfl)
theorem w_155_1 : dx_W (tb_Z L xs) d 155 1 lv st σ Q ↔ wI (dx_lk lv 1) (fun y => dx_W (tb_Z L xs) d 155 2 lv (.int y :: st) σ Q) := r_iload_n (k := 1) (hz_155.trans rfl)
theorem w_155_2 : dx_W (tb_Z L xs) d 155 2 lv st σ Q ↔ dx_W (tb_Z L xs) d 155 5 lv (.retAddr 1 :: st) σ Q := r_getstatic (hz_155.trans rfl)
theorem w_155_5 {v0 v1 v2 : Value} (hc : dx_ct st ≤ 8) : dx_W (tb_Z L xs) d 155 5 lv (v2 :: v1 :: v0 :: st) σ Q ↔ dx_M (tb_Z L xs) d 162 [v0, v1, v2] σ (wK (tb_Z L xs) d 155 8 lv st Q) := r_call (av := [v0, v1, v2]) (hz_155.trans rfl) rfl hc rfl
theorem w_155_8_int {x : Int32} : dx_W (tb_Z L xs) d 155 8 lv (.int x :: st) σ Q ↔ dx_W (tb_Z L xs) d 155 9 lv st σ Q := r_pop_int (hz_155.trans rfl)
theorem w_155_8_ref {x : Nat} : dx_W (tb_Z L xs) d 155 8 lv (.ref x :: st) σ Q ↔ dx_W (tb_Z L xs) d 155 9 lv st σ Q := r_pop_ref (hz_155.trans rfl)
theorem w_155_8_retAddr {x : Nat} : dx_W (tb_Z L xs) d 155 8 lv (.retAddr x :: st) σ Q ↔ dx_W (tb_Z L xs) d 155 9 lv st σ Q := r_pop_retAddr (hz_155.trans rfl)
theorem w_155_9 : dx_W (tb_Z L xs) d 155 9 lv [] σ Q ↔ Q (.inl none) σ := r_return (hz_155.trans rfl) rfl
theorem hz_156 {pc : Nat} : (tb_Z L xs).1 156 pc = dx_at tb_m156 pc := rfl
theorem w_156_0 : dx_W (tb_Z L xs) d 156 0 lv st σ Q ↔ wR (dx_lk lv 0) (fun y => dx_W (tb_Z L xs) d 156 1 lv (y :: st) σ Q) := r_aload_n (k := 0) (hz_156.trans rfl)
theorem w_156_1 : dx_W (tb_Z L xs) d 156 1 lv st σ Q ↔ wI (dx_lk lv 1) (fun y => dx_W (tb_Z L xs) d 156 2 lv (.int y :: st) σ Q) := r_iload_n (k := 1) (hz_156.trans rfl)
theorem w_156_2 : dx_W (tb_Z L xs) d 156 2 lv st σ Q ↔ dx_W (tb_Z L xs) d 156 3 lv (.int 0 :: st) σ Q := r_iconst (n := 0) (hz_156.trans rfl)
theorem w_156_3 {v0 v1 v2 : Value} (hc : dx_ct st ≤ 8) (hr : dx_ci (tb_K L xs) σ v0 = some 14) : dx_W (tb_Z L xs) d 156 3 lv (v2 :: v1 :: v0 :: st) σ Q ↔ dx_M (tb_Z L xs) d 157 [v0, v1, v2] σ (wK (tb_Z L xs) d 156 6 lv st Q) := r_call (av := [v0, v1, v2]) (hz_156.trans rfl) rfl hc (decide_eq_true hr)
theorem w_156_6 {x : Int32} : dx_W (tb_Z L xs) d 156 6 lv [.int x] σ Q ↔ Q (.inl (some (.int x))) σ := r_ireturn (hz_156.trans rfl) rfl rfl
theorem hz_157 {pc : Nat} : (tb_Z L xs).1 157 pc = dx_at tb_m157 pc := rfl
theorem w_157_0 : dx_W (tb_Z L xs) d 157 0 lv st σ Q ↔ wR (dx_lk lv 0) (fun y => dx_W (tb_Z L xs) d 157 1 lv (y :: st) σ Q) := r_aload_n (k := 0) (hz_157.trans rfl)
theorem w_157_1 {v0 : Value} (hc : dx_ct st ≤ 8) (hr : dx_ci (tb_K L xs) σ v0 = some 14) : dx_W (tb_Z L xs) d 157 1 lv (v0 :: st) σ Q ↔ dx_M (tb_Z L xs) d 154 [v0] σ (wK (tb_Z L xs) d 157 4 lv st Q) := r_call (av := [v0]) (hz_157.trans rfl) rfl hc (decide_eq_true hr)
theorem w_157_4 {x : Int32} : dx_W (tb_Z L xs) d 157 4 lv (.int x :: st) σ Q ↔ (if x = 0 then dx_W (tb_Z L xs) d 157 23 lv st σ Q else dx_W (tb_Z L xs) d 157 7 lv st σ Q) := r_if_eq (off := 19) (t := 23) (hz_157.trans rfl) (by decide)
theorem w_157_7 : dx_W (tb_Z L xs) d 157 7 lv st σ Q ↔ wR (dx_lk lv 0) (fun y => dx_W (tb_Z L xs) d 157 8 lv (y :: st) σ Q) := r_aload_n (k := 0) (hz_157.trans rfl)
theorem w_157_8 {w : Value} : dx_W (tb_Z L xs) d 157 8 lv (w :: st) σ Q ↔ wO (dx_gf (tb_K L xs) σ w 14 0) (fun y => dx_W (tb_Z L xs) d 157 11 lv (y :: st) σ Q) := r_getfield (hz_157.trans rfl)
theorem w_157_11 : dx_W (tb_Z L xs) d 157 11 lv st σ Q ↔ wI (dx_lk lv 1) (fun y => dx_W (tb_Z L xs) d 157 12 lv (.int y :: st) σ Q) := r_iload_n (k := 1) (hz_157.trans rfl)
theorem w_157_12 : dx_W (tb_Z L xs) d 157 12 lv st σ Q ↔ wI (dx_lk lv 2) (fun y => dx_W (tb_Z L xs) d 157 13 lv (.int y :: st) σ Q) := r_iload_n (k := 2) (hz_157.trans rfl)
theorem w_157_13 : dx_W (tb_Z L xs) d 157 13 lv st σ Q ↔ wR (dx_lk lv 0) (fun y => dx_W (tb_Z L xs) d 157 14 lv (y :: st) σ Q) := r_aload_n (k := 0) (hz_157.trans rfl)
theorem w_157_14 {v0 : Value} (hc : dx_ct st ≤ 8) (hr : dx_ci (tb_K L xs) σ v0 = some 14) : dx_W (tb_Z L xs) d 157 14 lv (v0 :: st) σ Q ↔ dx_M (tb_Z L xs) d 151 [v0] σ (wK (tb_Z L xs) d 157 17 lv st Q) := r_call (av := [v0]) (hz_157.trans rfl) rfl hc (decide_eq_true hr)
theorem w_157_17 {v0 v1 v2 v3 : Value} (hc : dx_ct st ≤ 8) : dx_W (tb_Z L xs) d 157 17 lv (v3 :: v2 :: v1 :: v0 :: st) σ Q ↔ dx_M (tb_Z L xs) d 159 [v0, v1, v2, v3] σ (wK (tb_Z L xs) d 157 20 lv st Q) := r_call (av := [v0, v1, v2, v3]) (hz_157.trans rfl) rfl hc rfl
theorem w_157_20 : dx_W (tb_Z L xs) d 157 20 lv st σ Q ↔ dx_W (tb_Z L xs) d 157 36 lv st σ Q := r_goto (off := 16) (t := 36) (hz_157.trans rfl) (by decide)
theorem w_157_23 : dx_W (tb_Z L xs) d 157 23 lv st σ Q ↔ wR (dx_lk lv 0) (fun y => dx_W (tb_Z L xs) d 157 24 lv (y :: st) σ Q) := r_aload_n (k := 0) (hz_157.trans rfl)
theorem w_157_24 {w : Value} : dx_W (tb_Z L xs) d 157 24 lv (w :: st) σ Q ↔ wO (dx_gf (tb_K L xs) σ w 14 0) (fun y => dx_W (tb_Z L xs) d 157 27 lv (y :: st) σ Q) := r_getfield (hz_157.trans rfl)
theorem w_157_27 : dx_W (tb_Z L xs) d 157 27 lv st σ Q ↔ wI (dx_lk lv 1) (fun y => dx_W (tb_Z L xs) d 157 28 lv (.int y :: st) σ Q) := r_iload_n (k := 1) (hz_157.trans rfl)
theorem w_157_28 : dx_W (tb_Z L xs) d 157 28 lv st σ Q ↔ wI (dx_lk lv 2) (fun y => dx_W (tb_Z L xs) d 157 29 lv (.int y :: st) σ Q) := r_iload_n (k := 2) (hz_157.trans rfl)
theorem w_157_29 : dx_W (tb_Z L xs) d 157 29 lv st σ Q ↔ wR (dx_lk lv 0) (fun y => dx_W (tb_Z L xs) d 157 30 lv (y :: st) σ Q) := r_aload_n (k := 0) (hz_157.trans rfl)
theorem w_157_30 {v0 : Value} (hc : dx_ct st ≤ 8) (hr : dx_ci (tb_K L xs) σ v0 = some 14) : dx_W (tb_Z L xs) d 157 30 lv (v0 :: st) σ Q ↔ dx_M (tb_Z L xs) d 151 [v0] σ (wK (tb_Z L xs) d 157 33 lv st Q) := r_call (av := [v0]) (hz_157.trans rfl) rfl hc (decide_eq_true hr)
theorem w_157_36 {x : Int32} : dx_W (tb_Z L xs) d 157 36 lv [.int x] σ Q ↔ Q (.inl (some (.int x))) σ := r_ireturn (hz_157.trans rfl) rfl rfl
end W16
/-! Printed by program: the rules of every instruction of java/lang/StringLatin1. -/
section W17
variable {L : Nat} {xs : Nat → Int32} {d : Nat} {lv : dx_L} {st : List Value} {σ : dx_S} {Q : dx_O → dx_S → Prop}
theorem hz_158 {pc : Nat} : (tb_Z L xs).1 158 pc = dx_at tb_m158 pc := rfl
theorem w_158_0 : dx_W (tb_Z L xs) d 158 0 lv st σ Q ↔ wI (dx_lk lv 1) (fun y => dx_W (tb_Z L xs) d 158 1 lv (.int y :: st) σ Q) := r_iload_n (k := 1) (hz_158.trans rfl)
theorem w_158_1 : dx_W (tb_Z L xs) d 158 1 lv st σ Q ↔ wR (dx_lk lv 0) (fun y => dx_W (tb_Z L xs) d 158 2 lv (y :: st) σ Q) := r_aload_n (k := 0) (hz_158.trans rfl)
theorem w_158_2 {w : Value} : dx_W (tb_Z L xs) d 158 2 lv (w :: st) σ Q ↔ wO (dx_in (tb_K L xs) σ w) (fun u => dx_W (tb_Z L xs) d 158 3 lv (.int u :: st) σ Q) := r_arraylength (hz_158.trans rfl)
theorem w_158_3 {v0 v1 : Value} (hc : dx_ct st ≤ 8) : dx_W (tb_Z L xs) d 158 3 lv (v1 :: v0 :: st) σ Q ↔ dx_M (tb_Z L xs) d 155 [v0, v1] σ (wK (tb_Z L xs) d 158 6 lv st Q) := r_call (av := [v0, v1]) (hz_158.trans rfl) rfl hc rfl
theorem w_158_6 : dx_W (tb_Z L xs) d 158 6 lv st σ Q ↔ wR (dx_lk lv 0) (fun y => dx_W (tb_Z L xs) d 158 7 lv (y :: st) σ Q) := r_aload_n (k := 0) (hz_158.trans rfl)
theorem w_158_7 : dx_W (tb_Z L xs) d 158 7 lv st σ Q ↔ wI (dx_lk lv 1) (fun y => dx_W (tb_Z L xs) d 158 8 lv (.int y :: st) σ Q) := r_iload_n (k := 1) (hz_158.trans rfl)
theorem w_158_8 {w : Value} {y : Int32} : dx_W (tb_Z L xs) d 158 8 lv (.int y :: w :: st) σ Q ↔ wO (dx_ei (tb_K L xs) σ 3 w y) (fun u => dx_W (tb_Z L xs) d 158 9 lv (.int u :: st) σ Q) := r_baload (hz_158.trans rfl)
theorem w_158_9 : dx_W (tb_Z L xs) d 158 9 lv st σ Q ↔ dx_W (tb_Z L xs) d 158 12 lv (.int 255 :: st) σ Q := r_sipush (n := 255) (hz_158.trans rfl)
theorem w_158_12 {x y : Int32} : dx_W (tb_Z L xs) d 158 12 lv (.int y :: .int x :: st) σ Q ↔ dx_W (tb_Z L xs) d 158 13 lv (.int (x &&& y) :: st) σ Q := r_iand (hz_158.trans rfl)
theorem w_158_13 {x : Int32} : dx_W (tb_Z L xs) d 158 13 lv (.int x :: st) σ Q ↔ dx_W (tb_Z L xs) d 158 14 lv (.int (x.toUInt32 % 65536).toInt32 :: st) σ Q := r_i2c (hz_158.trans rfl)
theorem w_158_14 {x : Int32} (hn : narrow .char (.int x) = .int x) : dx_W (tb_Z L xs) d 158 14 lv [.int x] σ Q ↔ Q (.inl (some (.int x))) σ := r_ireturn (hz_158.trans rfl) rfl hn
theorem hz_159 {pc : Nat} : (tb_Z L xs).1 159 pc = dx_at tb_m159 pc := rfl
theorem w_159_0 : dx_W (tb_Z L xs) d 159 0 lv st σ Q ↔ wI (dx_lk lv 1) (fun y => dx_W (tb_Z L xs) d 159 1 lv (.int y :: st) σ Q) := r_iload_n (k := 1) (hz_159.trans rfl)
theorem w_159_1 {v0 : Value} (hc : dx_ct st ≤ 8) : dx_W (tb_Z L xs) d 159 1 lv (v0 :: st) σ Q ↔ dx_M (tb_Z L xs) d 160 [v0] σ (wK (tb_Z L xs) d 159 4 lv st Q) := r_call (av := [v0]) (hz_159.trans rfl) rfl hc rfl
theorem w_159_4 {x : Int32} : dx_W (tb_Z L xs) d 159 4 lv (.int x :: st) σ Q ↔ (if ¬ x = 0 then dx_W (tb_Z L xs) d 159 9 lv st σ Q else dx_W (tb_Z L xs) d 159 7 lv st σ Q) := r_if_ne (off := 5) (t := 9) (hz_159.trans rfl) (by decide)
theorem w_159_7 : dx_W (tb_Z L xs) d 159 7 lv st σ Q ↔ dx_W (tb_Z L xs) d 159 8 lv (.int (-1) :: st) σ Q := r_iconst (n := (-1)) (hz_159.trans rfl)
theorem w_159_8 {x : Int32} : dx_W (tb_Z L xs) d 159 8 lv [.int x] σ Q ↔ Q (.inl (some (.int x))) σ := r_ireturn (hz_159.trans rfl) rfl rfl
theorem w_159_9 : dx_W (tb_Z L xs) d 159 9 lv st σ Q ↔ wI (dx_lk lv 2) (fun y => dx_W (tb_Z L xs) d 159 10 lv (.int y :: st) σ Q) := r_iload_n (k := 2) (hz_159.trans rfl)
theorem w_159_10 : dx_W (tb_Z L xs) d 159 10 lv st σ Q ↔ dx_W (tb_Z L xs) d 159 11 lv (.int 0 :: st) σ Q := r_iconst (n := 0) (hz_159.trans rfl)
theorem w_159_11 {v0 v1 : Value} (hc : dx_ct st ≤ 8) : dx_W (tb_Z L xs) d 159 11 lv (v1 :: v0 :: st) σ Q ↔ dx_M (tb_Z L xs) d 145 [v0, v1] σ (wK (tb_Z L xs) d 159 14 lv st Q) := r_call (av := [v0, v1]) (hz_159.trans rfl) rfl hc rfl
theorem w_159_14 {x : Int32} : dx_W (tb_Z L xs) d 159 14 lv (.int x :: st) σ Q ↔ dx_W (tb_Z L xs) d 159 15 (dx_s1 lv 2 (.int x)) st σ Q := r_istore_n (k := 2) (hz_159.trans rfl) (show 2 < tb_l 159 by decide)
theorem w_159_15 : dx_W (tb_Z L xs) d 159 15 lv st σ Q ↔ wI (dx_lk lv 3) (fun y => dx_W (tb_Z L xs) d 159 16 lv (.int y :: st) σ Q) := r_iload_n (k := 3) (hz_159.trans rfl)
theorem w_159_16 : dx_W (tb_Z L xs) d 159 16 lv st σ Q ↔ wR (dx_lk lv 0) (fun y => dx_W (tb_Z L xs) d 159 17 lv (y :: st) σ Q) := r_aload_n (k := 0) (hz_159.trans rfl)
theorem w_159_17 {w : Value} : dx_W (tb_Z L xs) d 159 17 lv (w :: st) σ Q ↔ wO (dx_in (tb_K L xs) σ w) (fun u => dx_W (tb_Z L xs) d 159 18 lv (.int u :: st) σ Q) := r_arraylength (hz_159.trans rfl)
theorem w_159_18 {v0 v1 : Value} (hc : dx_ct st ≤ 8) : dx_W (tb_Z L xs) d 159 18 lv (v1 :: v0 :: st) σ Q ↔ dx_M (tb_Z L xs) d 144 [v0, v1] σ (wK (tb_Z L xs) d 159 21 lv st Q) := r_call (av := [v0, v1]) (hz_159.trans rfl) rfl hc rfl
theorem w_159_21 {x : Int32} : dx_W (tb_Z L xs) d 159 21 lv (.int x :: st) σ Q ↔ dx_W (tb_Z L xs) d 159 22 (dx_s1 lv 3 (.int x)) st σ Q := r_istore_n (k := 3) (hz_159.trans rfl) (show 3 < tb_l 159 by decide)
theorem w_159_22 : dx_W (tb_Z L xs) d 159 22 lv st σ Q ↔ wI (dx_lk lv 2) (fun y => dx_W (tb_Z L xs) d 159 23 lv (.int y :: st) σ Q) := r_iload_n (k := 2) (hz_159.trans rfl)
theorem w_159_23 : dx_W (tb_Z L xs) d 159 23 lv st σ Q ↔ wI (dx_lk lv 3) (fun y => dx_W (tb_Z L xs) d 159 24 lv (.int y :: st) σ Q) := r_iload_n (k := 3) (hz_159.trans rfl)
theorem w_159_24 {x y : Int32} : dx_W (tb_Z L xs) d 159 24 lv (.int y :: .int x :: st) σ Q ↔ (if x < y then dx_W (tb_Z L xs) d 159 29 lv st σ Q else dx_W (tb_Z L xs) d 159 27 lv st σ Q) := r_ic_lt (off := 5) (t := 29) (hz_159.trans rfl) (by decide)
theorem w_159_27 : dx_W (tb_Z L xs) d 159 27 lv st σ Q ↔ dx_W (tb_Z L xs) d 159 28 lv (.int (-1) :: st) σ Q := r_iconst (n := (-1)) (hz_159.trans rfl)
theorem w_159_28 {x : Int32} : dx_W (tb_Z L xs) d 159 28 lv [.int x] σ Q ↔ Q (.inl (some (.int x))) σ := r_ireturn (hz_159.trans rfl) rfl rfl
theorem w_159_29 : dx_W (tb_Z L xs) d 159 29 lv st σ Q ↔ wR (dx_lk lv 0) (fun y => dx_W (tb_Z L xs) d 159 30 lv (y :: st) σ Q) := r_aload_n (k := 0) (hz_159.trans rfl)
theorem w_159_30 : dx_W (tb_Z L xs) d 159 30 lv st σ Q ↔ wI (dx_lk lv 1) (fun y => dx_W (tb_Z L xs) d 159 31 lv (.int y :: st) σ Q) := r_iload_n (k := 1) (hz_159.trans rfl)
theorem w_159_31 : dx_W (tb_Z L xs) d 159 31 lv st σ Q ↔ wI (dx_lk lv 2) (fun y => dx_W (tb_Z L xs) d 159 32 lv (.int y :: st) σ Q) := r_iload_n (k := 2) (hz_159.trans rfl)
theorem w_159_32 : dx_W (tb_Z L xs) d 159 32 lv st σ Q ↔ wI (dx_lk lv 3) (fun y => dx_W (tb_Z L xs) d 159 33 lv (.int y :: st) σ Q) := r_iload_n (k := 3) (hz_159.trans rfl)
theorem w_159_33 {v0 v1 v2 v3 : Value} (hc : dx_ct st ≤ 8) : dx_W (tb_Z L xs) d 159 33 lv (v3 :: v2 :: v1 :: v0 :: st) σ Q ↔ dx_M (tb_Z L xs) d 161 [v0, v1, v2, v3] σ (wK (tb_Z L xs) d 159 36 lv st Q) := r_call (av := [v0, v1, v2, v3]) (hz_159.trans rfl) rfl hc rfl
theorem w_159_36 {x : Int32} : dx_W (tb_Z L xs) d 159 36 lv [.int x] σ Q ↔ Q (.inl (some (.int x))) σ := r_ireturn (hz_159.trans rfl) rfl rfl
theorem hz_160 {pc : Nat} : (tb_Z L xs).1 160 pc = dx_at tb_m160 pc := rfl
theorem w_160_0 : dx_W (tb_Z L xs) d 160 0 lv st σ Q ↔ wI (dx_lk lv 0) (fun y => dx_W (tb_Z L xs) d 160 1 lv (.int y :: st) σ Q) := r_iload_n (k := 0) (hz_160.trans rfl)
theorem w_160_1 {x : Int32} : dx_W (tb_Z L xs) d 160 1 lv (.int x :: st) σ Q ↔ (if x < 0 then dx_W (tb_Z L xs) d 160 15 lv st σ Q else dx_W (tb_Z L xs) d 160 4 lv st σ Q) := r_if_lt (off := 14) (t := 15) (hz_160.trans rfl) (by decide)
theorem w_160_4 : dx_W (tb_Z L xs) d 160 4 lv st σ Q ↔ wI (dx_lk lv 0) (fun y => dx_W (tb_Z L xs) d 160 5 lv (.int y :: st) σ Q) := r_iload_n (k := 0) (hz_160.trans rfl)
theorem w_160_5 : dx_W (tb_Z L xs) d 160 5 lv st σ Q ↔ dx_W (tb_Z L xs) d 160 8 lv (.int 255 :: st) σ Q := r_sipush (n := 255) (hz_160.trans rfl)
theorem w_160_8 {x y : Int32} : dx_W (tb_Z L xs) d 160 8 lv (.int y :: .int x :: st) σ Q ↔ (if y < x then dx_W (tb_Z L xs) d 160 15 lv st σ Q else dx_W (tb_Z L xs) d 160 11 lv st σ Q) := r_ic_gt (off := 7) (t := 15) (hz_160.trans rfl) (by decide)
theorem w_160_11 : dx_W (tb_Z L xs) d 160 11 lv st σ Q ↔ dx_W (tb_Z L xs) d 160 12 lv (.int 1 :: st) σ Q := r_iconst (n := 1) (hz_160.trans rfl)
theorem w_160_12 : dx_W (tb_Z L xs) d 160 12 lv st σ Q ↔ dx_W (tb_Z L xs) d 160 16 lv st σ Q := r_goto (off := 4) (t := 16) (hz_160.trans rfl) (by decide)
theorem w_160_15 : dx_W (tb_Z L xs) d 160 15 lv st σ Q ↔ dx_W (tb_Z L xs) d 160 16 lv (.int 0 :: st) σ Q := r_iconst (n := 0) (hz_160.trans rfl)
theorem w_160_16 {x : Int32} (hn : narrow .boolean (.int x) = .int x) : dx_W (tb_Z L xs) d 160 16 lv [.int x] σ Q ↔ Q (.inl (some (.int x))) σ := r_ireturn (hz_160.trans rfl) rfl hn
theorem hz_161 {pc : Nat} : (tb_Z L xs).1 161 pc = dx_at tb_m161 pc := rfl
theorem w_161_0 : dx_W (tb_Z L xs) d 161 0 lv st σ Q ↔ wI (dx_lk lv 1) (fun y => dx_W (tb_Z L xs) d 161 1 lv (.int y :: st) σ Q) := r_iload_n (k := 1) (hz_161.trans rfl)
theorem w_161_1 {x : Int32} : dx_W (tb_Z L xs) d 161 1 lv (.int x :: st) σ Q ↔ dx_W (tb_Z L xs) d 161 2 lv (.int x.toInt8.toInt32 :: st) σ Q := r_i2b (hz_161.trans rfl)
theorem w_161_2 {x : Int32} : dx_W (tb_Z L xs) d 161 2 lv (.int x :: st) σ Q ↔ dx_W (tb_Z L xs) d 161 4 (dx_s1 lv 4 (.int x)) st σ Q := r_istore (k := 4) (hz_161.trans rfl) (show 4 < tb_l 161 by decide)
theorem w_161_4 : dx_W (tb_Z L xs) d 161 4 lv st σ Q ↔ wI (dx_lk lv 2) (fun y => dx_W (tb_Z L xs) d 161 5 lv (.int y :: st) σ Q) := r_iload_n (k := 2) (hz_161.trans rfl)
theorem w_161_5 {x : Int32} : dx_W (tb_Z L xs) d 161 5 lv (.int x :: st) σ Q ↔ dx_W (tb_Z L xs) d 161 7 (dx_s1 lv 5 (.int x)) st σ Q := r_istore (k := 5) (hz_161.trans rfl) (show 5 < tb_l 161 by decide)
theorem w_161_7 : dx_W (tb_Z L xs) d 161 7 lv st σ Q ↔ wI (dx_lk lv 5) (fun y => dx_W (tb_Z L xs) d 161 9 lv (.int y :: st) σ Q) := r_iload (k := 5) (hz_161.trans rfl)
theorem w_161_9 : dx_W (tb_Z L xs) d 161 9 lv st σ Q ↔ wI (dx_lk lv 3) (fun y => dx_W (tb_Z L xs) d 161 10 lv (.int y :: st) σ Q) := r_iload_n (k := 3) (hz_161.trans rfl)
theorem w_161_10 {x y : Int32} : dx_W (tb_Z L xs) d 161 10 lv (.int y :: .int x :: st) σ Q ↔ (if y ≤ x then dx_W (tb_Z L xs) d 161 31 lv st σ Q else dx_W (tb_Z L xs) d 161 13 lv st σ Q) := r_ic_ge (off := 21) (t := 31) (hz_161.trans rfl) (by decide)
theorem w_161_13 : dx_W (tb_Z L xs) d 161 13 lv st σ Q ↔ wR (dx_lk lv 0) (fun y => dx_W (tb_Z L xs) d 161 14 lv (y :: st) σ Q) := r_aload_n (k := 0) (hz_161.trans rfl)
theorem w_161_14 : dx_W (tb_Z L xs) d 161 14 lv st σ Q ↔ wI (dx_lk lv 5) (fun y => dx_W (tb_Z L xs) d 161 16 lv (.int y :: st) σ Q) := r_iload (k := 5) (hz_161.trans rfl)
theorem w_161_16 {w : Value} {y : Int32} : dx_W (tb_Z L xs) d 161 16 lv (.int y :: w :: st) σ Q ↔ wO (dx_ei (tb_K L xs) σ 3 w y) (fun u => dx_W (tb_Z L xs) d 161 17 lv (.int u :: st) σ Q) := r_baload (hz_161.trans rfl)
theorem w_161_17 : dx_W (tb_Z L xs) d 161 17 lv st σ Q ↔ wI (dx_lk lv 4) (fun y => dx_W (tb_Z L xs) d 161 19 lv (.int y :: st) σ Q) := r_iload (k := 4) (hz_161.trans rfl)
theorem w_161_19 {x y : Int32} : dx_W (tb_Z L xs) d 161 19 lv (.int y :: .int x :: st) σ Q ↔ (if ¬ x = y then dx_W (tb_Z L xs) d 161 25 lv st σ Q else dx_W (tb_Z L xs) d 161 22 lv st σ Q) := r_ic_ne (off := 6) (t := 25) (hz_161.trans rfl) (by decide)
theorem w_161_22 : dx_W (tb_Z L xs) d 161 22 lv st σ Q ↔ wI (dx_lk lv 5) (fun y => dx_W (tb_Z L xs) d 161 24 lv (.int y :: st) σ Q) := r_iload (k := 5) (hz_161.trans rfl)
theorem w_161_24 {x : Int32} : dx_W (tb_Z L xs) d 161 24 lv [.int x] σ Q ↔ Q (.inl (some (.int x))) σ := r_ireturn (hz_161.trans rfl) rfl rfl
theorem w_161_25 : dx_W (tb_Z L xs) d 161 25 lv st σ Q ↔ wI (dx_lk lv 5) (fun y => dx_W (tb_Z L xs) d 161 28 (dx_s1 lv 5 (.int (y + 1))) st σ Q) := r_iincv (k := 5) (n := 1) (hz_161.trans rfl) (show 5 < tb_l 161 by decide) (by decide)
theorem w_161_28 : dx_W (tb_Z L xs) d 161 28 lv st σ Q ↔ dx_W (tb_Z L xs) d 161 7 lv st σ Q := r_goto (off := (-21)) (t := 7) (hz_161.trans rfl) (by decide)
theorem w_161_31 : dx_W (tb_Z L xs) d 161 31 lv st σ Q ↔ dx_W (tb_Z L xs) d 161 32 lv (.int (-1) :: st) σ Q := r_iconst (n := (-1)) (hz_161.trans rfl)
theorem w_161_32 {x : Int32} : dx_W (tb_Z L xs) d 161 32 lv [.int x] σ Q ↔ Q (.inl (some (.int x))) σ := r_ireturn (hz_161.trans rfl) rfl rfl
end W17
/-! Printed by program: the rules of every instruction of jdk/internal/util/Preconditions. -/
section W18
variable {L : Nat} {xs : Nat → Int32} {d : Nat} {lv : dx_L} {st : List Value} {σ : dx_S} {Q : dx_O → dx_S → Prop}
theorem hz_162 {pc : Nat} : (tb_Z L xs).1 162 pc = dx_at tb_m162 pc := rfl
theorem w_162_0 : dx_W (tb_Z L xs) d 162 0 lv st σ Q ↔ wI (dx_lk lv 0) (fun y => dx_W (tb_Z L xs) d 162 1 lv (.int y :: st) σ Q) := r_iload_n (k := 0) (hz_162.trans rfl)
theorem w_162_1 {x : Int32} : dx_W (tb_Z L xs) d 162 1 lv (.int x :: st) σ Q ↔ (if x < 0 then dx_W (tb_Z L xs) d 162 9 lv st σ Q else dx_W (tb_Z L xs) d 162 4 lv st σ Q) := r_if_lt (off := 8) (t := 9) (hz_162.trans rfl) (by decide)
theorem w_162_4 : dx_W (tb_Z L xs) d 162 4 lv st σ Q ↔ wI (dx_lk lv 0) (fun y => dx_W (tb_Z L xs) d 162 5 lv (.int y :: st) σ Q) := r_iload_n (k := 0) (hz_162.trans rfl)
theorem w_162_5 : dx_W (tb_Z L xs) d 162 5 lv st σ Q ↔ wI (dx_lk lv 1) (fun y => dx_W (tb_Z L xs) d 162 6 lv (.int y :: st) σ Q) := r_iload_n (k := 1) (hz_162.trans rfl)
theorem w_162_6 {x y : Int32} : dx_W (tb_Z L xs) d 162 6 lv (.int y :: .int x :: st) σ Q ↔ (if x < y then dx_W (tb_Z L xs) d 162 16 lv st σ Q else dx_W (tb_Z L xs) d 162 9 lv st σ Q) := r_ic_lt (off := 10) (t := 16) (hz_162.trans rfl) (by decide)
theorem w_162_9 : dx_W (tb_Z L xs) d 162 9 lv st σ Q ↔ wR (dx_lk lv 2) (fun y => dx_W (tb_Z L xs) d 162 10 lv (y :: st) σ Q) := r_aload_n (k := 2) (hz_162.trans rfl)
theorem w_162_10 : dx_W (tb_Z L xs) d 162 10 lv st σ Q ↔ wI (dx_lk lv 0) (fun y => dx_W (tb_Z L xs) d 162 11 lv (.int y :: st) σ Q) := r_iload_n (k := 0) (hz_162.trans rfl)
theorem w_162_11 : dx_W (tb_Z L xs) d 162 11 lv st σ Q ↔ wI (dx_lk lv 1) (fun y => dx_W (tb_Z L xs) d 162 12 lv (.int y :: st) σ Q) := r_iload_n (k := 1) (hz_162.trans rfl)
theorem w_162_16 : dx_W (tb_Z L xs) d 162 16 lv st σ Q ↔ wI (dx_lk lv 0) (fun y => dx_W (tb_Z L xs) d 162 17 lv (.int y :: st) σ Q) := r_iload_n (k := 0) (hz_162.trans rfl)
theorem w_162_17 {x : Int32} : dx_W (tb_Z L xs) d 162 17 lv [.int x] σ Q ↔ Q (.inl (some (.int x))) σ := r_ireturn (hz_162.trans rfl) rfl rfl
end W18
/-! Printed by program: the rules of every instruction of DecimalRun$Text. -/
section W1
variable {L : Nat} {xs : Nat → Int32} {d : Nat} {lv : dx_L} {st : List Value} {σ : dx_S} {Q : dx_O → dx_S → Prop}
theorem hz_14 {pc : Nat} : (tb_Z L xs).1 14 pc = dx_at tb_m14 pc := rfl
theorem w_14_0 : dx_W (tb_Z L xs) d 14 0 lv st σ Q ↔ wR (dx_lk lv 0) (fun y => dx_W (tb_Z L xs) d 14 1 lv (y :: st) σ Q) := r_aload_n (k := 0) (hz_14.trans rfl)
theorem w_14_1 {w : Nat} (hc : dx_ct st ≤ 8) : dx_W (tb_Z L xs) d 14 1 lv (.ref w :: st) σ Q ↔ dx_W (tb_Z L xs) d 14 4 lv st σ Q := r_objinit (hz_14.trans rfl) hc
theorem w_14_4 : dx_W (tb_Z L xs) d 14 4 lv st σ Q ↔ wR (dx_lk lv 0) (fun y => dx_W (tb_Z L xs) d 14 5 lv (y :: st) σ Q) := r_aload_n (k := 0) (hz_14.trans rfl)
theorem w_14_5 : dx_W (tb_Z L xs) d 14 5 lv st σ Q ↔ dx_W (tb_Z L xs) d 14 8 lv (.int 200 :: st) σ Q := r_sipush (n := 200) (hz_14.trans rfl)
theorem w_14_8 {n : Int32} {y : dx_E} (hn : ¬ (n < 0 ∨ 1000000 < n.toNatClampNeg)) (hy : dx_na .char n.toNatClampNeg = some y) : dx_W (tb_Z L xs) d 14 8 lv (.int n :: st) σ Q ↔ dx_W (tb_Z L xs) d 14 10 lv (.ref σ.length :: st) (σ ++ [y]) Q := r_newarray (hz_14.trans rfl) hn hy
theorem w_14_10 {u w : Value} : dx_W (tb_Z L xs) d 14 10 lv (u :: w :: st) σ Q ↔ wO (dx_pf σ w 1 0 3 u) (fun σ1 => dx_W (tb_Z L xs) d 14 13 lv st σ1 Q) := r_putfield (f := 3) (hz_14.trans rfl)
theorem w_14_13 : dx_W (tb_Z L xs) d 14 13 lv [] σ Q ↔ Q (.inl none) σ := r_return (hz_14.trans rfl) rfl
theorem hz_15 {pc : Nat} : (tb_Z L xs).1 15 pc = dx_at tb_m15 pc := rfl
theorem w_15_0 : dx_W (tb_Z L xs) d 15 0 lv st σ Q ↔ wI (dx_lk lv 1) (fun y => dx_W (tb_Z L xs) d 15 1 lv (.int y :: st) σ Q) := r_iload_n (k := 1) (hz_15.trans rfl)
theorem w_15_1 {v0 : Value} (hc : dx_ct st ≤ 8) : dx_W (tb_Z L xs) d 15 1 lv (v0 :: st) σ Q ↔ dx_M (tb_Z L xs) d 16 [v0] σ (wK (tb_Z L xs) d 15 4 lv st Q) := r_call (av := [v0]) (hz_15.trans rfl) rfl hc rfl
theorem w_15_4 {x : Int32} : dx_W (tb_Z L xs) d 15 4 lv (.int x :: st) σ Q ↔ dx_W (tb_Z L xs) d 15 5 (dx_s1 lv 2 (.int x)) st σ Q := r_istore_n (k := 2) (hz_15.trans rfl) (show 2 < tb_l 15 by decide)
theorem w_15_5 : dx_W (tb_Z L xs) d 15 5 lv st σ Q ↔ wR (dx_lk lv 0) (fun y => dx_W (tb_Z L xs) d 15 6 lv (y :: st) σ Q) := r_aload_n (k := 0) (hz_15.trans rfl)
theorem w_15_6 {w : Value} : dx_W (tb_Z L xs) d 15 6 lv (w :: st) σ Q ↔ wO (dx_gf (tb_K L xs) σ w 1 1) (fun y => dx_W (tb_Z L xs) d 15 9 lv (y :: st) σ Q) := r_getfield (hz_15.trans rfl)
theorem w_15_9 : dx_W (tb_Z L xs) d 15 9 lv st σ Q ↔ wI (dx_lk lv 2) (fun y => dx_W (tb_Z L xs) d 15 10 lv (.int y :: st) σ Q) := r_iload_n (k := 2) (hz_15.trans rfl)
theorem w_15_10 {x y : Int32} : dx_W (tb_Z L xs) d 15 10 lv (.int y :: .int x :: st) σ Q ↔ dx_W (tb_Z L xs) d 15 11 lv (.int (x + y) :: st) σ Q := r_iadd (hz_15.trans rfl)
theorem w_15_11 : dx_W (tb_Z L xs) d 15 11 lv st σ Q ↔ dx_W (tb_Z L xs) d 15 14 lv (.int 200 :: st) σ Q := r_sipush (n := 200) (hz_15.trans rfl)
theorem w_15_14 {x y : Int32} : dx_W (tb_Z L xs) d 15 14 lv (.int y :: .int x :: st) σ Q ↔ (if x ≤ y then dx_W (tb_Z L xs) d 15 19 lv st σ Q else dx_W (tb_Z L xs) d 15 17 lv st σ Q) := r_ic_le (off := 5) (t := 19) (hz_15.trans rfl) (by decide)
theorem w_15_17 : dx_W (tb_Z L xs) d 15 17 lv st σ Q ↔ dx_W (tb_Z L xs) d 15 18 lv (.int (-1) :: st) σ Q := r_iconst (n := (-1)) (hz_15.trans rfl)
theorem w_15_18 {x : Int32} : dx_W (tb_Z L xs) d 15 18 lv [.int x] σ Q ↔ Q (.inl (some (.int x))) σ := r_ireturn (hz_15.trans rfl) rfl rfl
theorem w_15_19 : dx_W (tb_Z L xs) d 15 19 lv st σ Q ↔ dx_W (tb_Z L xs) d 15 20 lv (.int 0 :: st) σ Q := r_iconst (n := 0) (hz_15.trans rfl)
theorem w_15_20 {x : Int32} : dx_W (tb_Z L xs) d 15 20 lv (.int x :: st) σ Q ↔ dx_W (tb_Z L xs) d 15 21 (dx_s1 lv 3 (.int x)) st σ Q := r_istore_n (k := 3) (hz_15.trans rfl) (show 3 < tb_l 15 by decide)
theorem w_15_21 : dx_W (tb_Z L xs) d 15 21 lv st σ Q ↔ wI (dx_lk lv 3) (fun y => dx_W (tb_Z L xs) d 15 22 lv (.int y :: st) σ Q) := r_iload_n (k := 3) (hz_15.trans rfl)
theorem w_15_22 : dx_W (tb_Z L xs) d 15 22 lv st σ Q ↔ wI (dx_lk lv 2) (fun y => dx_W (tb_Z L xs) d 15 23 lv (.int y :: st) σ Q) := r_iload_n (k := 2) (hz_15.trans rfl)
theorem w_15_23 {x y : Int32} : dx_W (tb_Z L xs) d 15 23 lv (.int y :: .int x :: st) σ Q ↔ (if y ≤ x then dx_W (tb_Z L xs) d 15 54 lv st σ Q else dx_W (tb_Z L xs) d 15 26 lv st σ Q) := r_ic_ge (off := 31) (t := 54) (hz_15.trans rfl) (by decide)
theorem w_15_26 : dx_W (tb_Z L xs) d 15 26 lv st σ Q ↔ wR (dx_lk lv 0) (fun y => dx_W (tb_Z L xs) d 15 27 lv (y :: st) σ Q) := r_aload_n (k := 0) (hz_15.trans rfl)
theorem w_15_27 {w : Value} : dx_W (tb_Z L xs) d 15 27 lv (w :: st) σ Q ↔ wO (dx_gf (tb_K L xs) σ w 1 0) (fun y => dx_W (tb_Z L xs) d 15 30 lv (y :: st) σ Q) := r_getfield (hz_15.trans rfl)
theorem w_15_30 : dx_W (tb_Z L xs) d 15 30 lv st σ Q ↔ wR (dx_lk lv 0) (fun y => dx_W (tb_Z L xs) d 15 31 lv (y :: st) σ Q) := r_aload_n (k := 0) (hz_15.trans rfl)
theorem w_15_31 {w : Value} : dx_W (tb_Z L xs) d 15 31 lv (w :: st) σ Q ↔ wO (dx_gf (tb_K L xs) σ w 1 1) (fun y => dx_W (tb_Z L xs) d 15 34 lv (y :: st) σ Q) := r_getfield (hz_15.trans rfl)
theorem w_15_34 : dx_W (tb_Z L xs) d 15 34 lv st σ Q ↔ wI (dx_lk lv 3) (fun y => dx_W (tb_Z L xs) d 15 35 lv (.int y :: st) σ Q) := r_iload_n (k := 3) (hz_15.trans rfl)
theorem w_15_35 {x y : Int32} : dx_W (tb_Z L xs) d 15 35 lv (.int y :: .int x :: st) σ Q ↔ dx_W (tb_Z L xs) d 15 36 lv (.int (x + y) :: st) σ Q := r_iadd (hz_15.trans rfl)
theorem w_15_36 : dx_W (tb_Z L xs) d 15 36 lv st σ Q ↔ wI (dx_lk lv 1) (fun y => dx_W (tb_Z L xs) d 15 37 lv (.int y :: st) σ Q) := r_iload_n (k := 1) (hz_15.trans rfl)
theorem w_15_37 : dx_W (tb_Z L xs) d 15 37 lv st σ Q ↔ dx_W (tb_Z L xs) d 15 39 lv (.int 8 :: st) σ Q := r_bipush (n := 8) (hz_15.trans rfl)
theorem w_15_39 : dx_W (tb_Z L xs) d 15 39 lv st σ Q ↔ wI (dx_lk lv 3) (fun y => dx_W (tb_Z L xs) d 15 40 lv (.int y :: st) σ Q) := r_iload_n (k := 3) (hz_15.trans rfl)
theorem w_15_40 {x y : Int32} : dx_W (tb_Z L xs) d 15 40 lv (.int y :: .int x :: st) σ Q ↔ dx_W (tb_Z L xs) d 15 41 lv (.int (x * y) :: st) σ Q := r_imul (hz_15.trans rfl)
theorem w_15_41 {x y : Int32} : dx_W (tb_Z L xs) d 15 41 lv (.int y :: .int x :: st) σ Q ↔ dx_W (tb_Z L xs) d 15 42 lv (.int (x >>> (y &&& 31)) :: st) σ Q := r_ishr (hz_15.trans rfl)
theorem w_15_42 : dx_W (tb_Z L xs) d 15 42 lv st σ Q ↔ dx_W (tb_Z L xs) d 15 45 lv (.int 255 :: st) σ Q := r_sipush (n := 255) (hz_15.trans rfl)
theorem w_15_45 {x y : Int32} : dx_W (tb_Z L xs) d 15 45 lv (.int y :: .int x :: st) σ Q ↔ dx_W (tb_Z L xs) d 15 46 lv (.int (x &&& y) :: st) σ Q := r_iand (hz_15.trans rfl)
theorem w_15_46 {x : Int32} : dx_W (tb_Z L xs) d 15 46 lv (.int x :: st) σ Q ↔ dx_W (tb_Z L xs) d 15 47 lv (.int (x.toUInt32 % 65536).toInt32 :: st) σ Q := r_i2c (hz_15.trans rfl)
theorem w_15_47 {w : Value} {y : Int32} {u : Int32} : dx_W (tb_Z L xs) d 15 47 lv (.int u :: .int y :: w :: st) σ Q ↔ wO (dx_pi σ 2 w y (vp_nar .char u)) (fun σ1 => dx_W (tb_Z L xs) d 15 48 lv st σ1 Q) := r_castore (hz_15.trans rfl)
theorem w_15_48 : dx_W (tb_Z L xs) d 15 48 lv st σ Q ↔ wI (dx_lk lv 3) (fun y => dx_W (tb_Z L xs) d 15 51 (dx_s1 lv 3 (.int (y + 1))) st σ Q) := r_iincv (k := 3) (n := 1) (hz_15.trans rfl) (show 3 < tb_l 15 by decide) (by decide)
theorem w_15_51 : dx_W (tb_Z L xs) d 15 51 lv st σ Q ↔ dx_W (tb_Z L xs) d 15 21 lv st σ Q := r_goto (off := (-30)) (t := 21) (hz_15.trans rfl) (by decide)
theorem w_15_54 : dx_W (tb_Z L xs) d 15 54 lv st σ Q ↔ wR (dx_lk lv 0) (fun y => dx_W (tb_Z L xs) d 15 55 lv (y :: st) σ Q) := r_aload_n (k := 0) (hz_15.trans rfl)
theorem w_15_55_int {x : Int32} : dx_W (tb_Z L xs) d 15 55 lv (.int x :: st) σ Q ↔ dx_W (tb_Z L xs) d 15 56 lv (.int x :: .int x :: st) σ Q := r_dup_int (hz_15.trans rfl)
theorem w_15_55_ref {x : Nat} : dx_W (tb_Z L xs) d 15 55 lv (.ref x :: st) σ Q ↔ dx_W (tb_Z L xs) d 15 56 lv (.ref x :: .ref x :: st) σ Q := r_dup_ref (hz_15.trans rfl)
theorem w_15_55_retAddr {x : Nat} : dx_W (tb_Z L xs) d 15 55 lv (.retAddr x :: st) σ Q ↔ dx_W (tb_Z L xs) d 15 56 lv (.retAddr x :: .retAddr x :: st) σ Q := r_dup_retAddr (hz_15.trans rfl)
theorem w_15_56 {w : Value} : dx_W (tb_Z L xs) d 15 56 lv (w :: st) σ Q ↔ wO (dx_gf (tb_K L xs) σ w 1 1) (fun y => dx_W (tb_Z L xs) d 15 59 lv (y :: st) σ Q) := r_getfield (hz_15.trans rfl)
theorem w_15_59 : dx_W (tb_Z L xs) d 15 59 lv st σ Q ↔ wI (dx_lk lv 2) (fun y => dx_W (tb_Z L xs) d 15 60 lv (.int y :: st) σ Q) := r_iload_n (k := 2) (hz_15.trans rfl)
theorem w_15_60 {x y : Int32} : dx_W (tb_Z L xs) d 15 60 lv (.int y :: .int x :: st) σ Q ↔ dx_W (tb_Z L xs) d 15 61 lv (.int (x + y) :: st) σ Q := r_iadd (hz_15.trans rfl)
theorem w_15_61 {u w : Value} : dx_W (tb_Z L xs) d 15 61 lv (u :: w :: st) σ Q ↔ wO (dx_pf σ w 1 1 0 u) (fun σ1 => dx_W (tb_Z L xs) d 15 64 lv st σ1 Q) := r_putfield (f := 0) (hz_15.trans rfl)
theorem w_15_64 : dx_W (tb_Z L xs) d 15 64 lv st σ Q ↔ wI (dx_lk lv 2) (fun y => dx_W (tb_Z L xs) d 15 65 lv (.int y :: st) σ Q) := r_iload_n (k := 2) (hz_15.trans rfl)
theorem w_15_65 {x : Int32} : dx_W (tb_Z L xs) d 15 65 lv [.int x] σ Q ↔ Q (.inl (some (.int x))) σ := r_ireturn (hz_15.trans rfl) rfl rfl
theorem hz_16 {pc : Nat} : (tb_Z L xs).1 16 pc = dx_at tb_m16 pc := rfl
theorem w_16_0 : dx_W (tb_Z L xs) d 16 0 lv st σ Q ↔ dx_W (tb_Z L xs) d 16 1 lv (.int 0 :: st) σ Q := r_iconst (n := 0) (hz_16.trans rfl)
theorem w_16_1 {x : Int32} : dx_W (tb_Z L xs) d 16 1 lv (.int x :: st) σ Q ↔ dx_W (tb_Z L xs) d 16 2 (dx_s1 lv 1 (.int x)) st σ Q := r_istore_n (k := 1) (hz_16.trans rfl) (show 1 < tb_l 16 by decide)
theorem w_16_2 : dx_W (tb_Z L xs) d 16 2 lv st σ Q ↔ wI (dx_lk lv 1) (fun y => dx_W (tb_Z L xs) d 16 3 lv (.int y :: st) σ Q) := r_iload_n (k := 1) (hz_16.trans rfl)
theorem w_16_3 : dx_W (tb_Z L xs) d 16 3 lv st σ Q ↔ dx_W (tb_Z L xs) d 16 4 lv (.int 4 :: st) σ Q := r_iconst (n := 4) (hz_16.trans rfl)
theorem w_16_4 {x y : Int32} : dx_W (tb_Z L xs) d 16 4 lv (.int y :: .int x :: st) σ Q ↔ (if y ≤ x then dx_W (tb_Z L xs) d 16 26 lv st σ Q else dx_W (tb_Z L xs) d 16 7 lv st σ Q) := r_ic_ge (off := 22) (t := 26) (hz_16.trans rfl) (by decide)
theorem w_16_7 : dx_W (tb_Z L xs) d 16 7 lv st σ Q ↔ wI (dx_lk lv 0) (fun y => dx_W (tb_Z L xs) d 16 8 lv (.int y :: st) σ Q) := r_iload_n (k := 0) (hz_16.trans rfl)
theorem w_16_8 : dx_W (tb_Z L xs) d 16 8 lv st σ Q ↔ dx_W (tb_Z L xs) d 16 10 lv (.int 8 :: st) σ Q := r_bipush (n := 8) (hz_16.trans rfl)
theorem w_16_10 : dx_W (tb_Z L xs) d 16 10 lv st σ Q ↔ wI (dx_lk lv 1) (fun y => dx_W (tb_Z L xs) d 16 11 lv (.int y :: st) σ Q) := r_iload_n (k := 1) (hz_16.trans rfl)
theorem w_16_11 {x y : Int32} : dx_W (tb_Z L xs) d 16 11 lv (.int y :: .int x :: st) σ Q ↔ dx_W (tb_Z L xs) d 16 12 lv (.int (x * y) :: st) σ Q := r_imul (hz_16.trans rfl)
theorem w_16_12 {x y : Int32} : dx_W (tb_Z L xs) d 16 12 lv (.int y :: .int x :: st) σ Q ↔ dx_W (tb_Z L xs) d 16 13 lv (.int (x >>> (y &&& 31)) :: st) σ Q := r_ishr (hz_16.trans rfl)
theorem w_16_13 : dx_W (tb_Z L xs) d 16 13 lv st σ Q ↔ dx_W (tb_Z L xs) d 16 16 lv (.int 255 :: st) σ Q := r_sipush (n := 255) (hz_16.trans rfl)
theorem w_16_16 {x y : Int32} : dx_W (tb_Z L xs) d 16 16 lv (.int y :: .int x :: st) σ Q ↔ dx_W (tb_Z L xs) d 16 17 lv (.int (x &&& y) :: st) σ Q := r_iand (hz_16.trans rfl)
theorem w_16_17 {x : Int32} : dx_W (tb_Z L xs) d 16 17 lv (.int x :: st) σ Q ↔ (if x = 0 then dx_W (tb_Z L xs) d 16 26 lv st σ Q else dx_W (tb_Z L xs) d 16 20 lv st σ Q) := r_if_eq (off := 9) (t := 26) (hz_16.trans rfl) (by decide)
theorem w_16_20 : dx_W (tb_Z L xs) d 16 20 lv st σ Q ↔ wI (dx_lk lv 1) (fun y => dx_W (tb_Z L xs) d 16 23 (dx_s1 lv 1 (.int (y + 1))) st σ Q) := r_iincv (k := 1) (n := 1) (hz_16.trans rfl) (show 1 < tb_l 16 by decide) (by decide)
theorem w_16_23 : dx_W (tb_Z L xs) d 16 23 lv st σ Q ↔ dx_W (tb_Z L xs) d 16 2 lv st σ Q := r_goto (off := (-21)) (t := 2) (hz_16.trans rfl) (by decide)
theorem w_16_26 : dx_W (tb_Z L xs) d 16 26 lv st σ Q ↔ wI (dx_lk lv 1) (fun y => dx_W (tb_Z L xs) d 16 27 lv (.int y :: st) σ Q) := r_iload_n (k := 1) (hz_16.trans rfl)
theorem w_16_27 {x : Int32} : dx_W (tb_Z L xs) d 16 27 lv [.int x] σ Q ↔ Q (.inl (some (.int x))) σ := r_ireturn (hz_16.trans rfl) rfl rfl
theorem hz_17 {pc : Nat} : (tb_Z L xs).1 17 pc = dx_at tb_m17 pc := rfl
theorem w_17_0 : dx_W (tb_Z L xs) d 17 0 lv st σ Q ↔ wI (dx_lk lv 1) (fun y => dx_W (tb_Z L xs) d 17 1 lv (.int y :: st) σ Q) := r_iload_n (k := 1) (hz_17.trans rfl)
theorem w_17_1 {x : Int32} : dx_W (tb_Z L xs) d 17 1 lv (.int x :: st) σ Q ↔ (if x < 0 then dx_W (tb_Z L xs) d 17 21 lv st σ Q else dx_W (tb_Z L xs) d 17 4 lv st σ Q) := r_if_lt (off := 20) (t := 21) (hz_17.trans rfl) (by decide)
theorem w_17_4 : dx_W (tb_Z L xs) d 17 4 lv st σ Q ↔ wI (dx_lk lv 1) (fun y => dx_W (tb_Z L xs) d 17 5 lv (.int y :: st) σ Q) := r_iload_n (k := 1) (hz_17.trans rfl)
theorem w_17_5 : dx_W (tb_Z L xs) d 17 5 lv st σ Q ↔ wR (dx_lk lv 0) (fun y => dx_W (tb_Z L xs) d 17 6 lv (y :: st) σ Q) := r_aload_n (k := 0) (hz_17.trans rfl)
theorem w_17_6 {w : Value} : dx_W (tb_Z L xs) d 17 6 lv (w :: st) σ Q ↔ wO (dx_gf (tb_K L xs) σ w 1 1) (fun y => dx_W (tb_Z L xs) d 17 9 lv (y :: st) σ Q) := r_getfield (hz_17.trans rfl)
theorem w_17_9 {x y : Int32} : dx_W (tb_Z L xs) d 17 9 lv (.int y :: .int x :: st) σ Q ↔ (if y ≤ x then dx_W (tb_Z L xs) d 17 21 lv st σ Q else dx_W (tb_Z L xs) d 17 12 lv st σ Q) := r_ic_ge (off := 12) (t := 21) (hz_17.trans rfl) (by decide)
theorem w_17_12 : dx_W (tb_Z L xs) d 17 12 lv st σ Q ↔ wR (dx_lk lv 0) (fun y => dx_W (tb_Z L xs) d 17 13 lv (y :: st) σ Q) := r_aload_n (k := 0) (hz_17.trans rfl)
theorem w_17_13 {w : Value} : dx_W (tb_Z L xs) d 17 13 lv (w :: st) σ Q ↔ wO (dx_gf (tb_K L xs) σ w 1 0) (fun y => dx_W (tb_Z L xs) d 17 16 lv (y :: st) σ Q) := r_getfield (hz_17.trans rfl)
theorem w_17_16 : dx_W (tb_Z L xs) d 17 16 lv st σ Q ↔ wI (dx_lk lv 1) (fun y => dx_W (tb_Z L xs) d 17 17 lv (.int y :: st) σ Q) := r_iload_n (k := 1) (hz_17.trans rfl)
theorem w_17_17 {w : Value} {y : Int32} : dx_W (tb_Z L xs) d 17 17 lv (.int y :: w :: st) σ Q ↔ wO (dx_ei (tb_K L xs) σ 2 w y) (fun u => dx_W (tb_Z L xs) d 17 18 lv (.int u :: st) σ Q) := r_caload (hz_17.trans rfl)
theorem w_17_18 : dx_W (tb_Z L xs) d 17 18 lv st σ Q ↔ dx_W (tb_Z L xs) d 17 22 lv st σ Q := r_goto (off := 4) (t := 22) (hz_17.trans rfl) (by decide)
theorem w_17_21 : dx_W (tb_Z L xs) d 17 21 lv st σ Q ↔ dx_W (tb_Z L xs) d 17 22 lv (.int 0 :: st) σ Q := r_iconst (n := 0) (hz_17.trans rfl)
theorem w_17_22 {x : Int32} (hn : narrow .char (.int x) = .int x) : dx_W (tb_Z L xs) d 17 22 lv [.int x] σ Q ↔ Q (.inl (some (.int x))) σ := r_ireturn (hz_17.trans rfl) rfl hn
end W1
/-! Printed by program: the rules of every instruction of DecimalRun$Memory. -/
section W2
variable {L : Nat} {xs : Nat → Int32} {d : Nat} {lv : dx_L} {st : List Value} {σ : dx_S} {Q : dx_O → dx_S → Prop}
theorem hz_18 {pc : Nat} : (tb_Z L xs).1 18 pc = dx_at tb_m18 pc := rfl
theorem w_18_0 : dx_W (tb_Z L xs) d 18 0 lv st σ Q ↔ wR (dx_lk lv 0) (fun y => dx_W (tb_Z L xs) d 18 1 lv (y :: st) σ Q) := r_aload_n (k := 0) (hz_18.trans rfl)
theorem w_18_1 {w : Nat} (hc : dx_ct st ≤ 8) : dx_W (tb_Z L xs) d 18 1 lv (.ref w :: st) σ Q ↔ dx_W (tb_Z L xs) d 18 4 lv st σ Q := r_objinit (hz_18.trans rfl) hc
theorem w_18_4 : dx_W (tb_Z L xs) d 18 4 lv st σ Q ↔ wR (dx_lk lv 0) (fun y => dx_W (tb_Z L xs) d 18 5 lv (y :: st) σ Q) := r_aload_n (k := 0) (hz_18.trans rfl)
theorem w_18_5 : dx_W (tb_Z L xs) d 18 5 lv st σ Q ↔ dx_W (tb_Z L xs) d 18 7 lv (.int 26 :: st) σ Q := r_bipush (n := 26) (hz_18.trans rfl)
theorem w_18_7 {n : Int32} {y : dx_E} (hn : ¬ (n < 0 ∨ 1000000 < n.toNatClampNeg)) (hy : dx_na .long n.toNatClampNeg = some y) : dx_W (tb_Z L xs) d 18 7 lv (.int n :: st) σ Q ↔ dx_W (tb_Z L xs) d 18 9 lv (.ref σ.length :: st) (σ ++ [y]) Q := r_newarray (hz_18.trans rfl) hn hy
theorem w_18_9 {u w : Value} : dx_W (tb_Z L xs) d 18 9 lv (u :: w :: st) σ Q ↔ wO (dx_pf σ w 2 0 3 u) (fun σ1 => dx_W (tb_Z L xs) d 18 12 lv st σ1 Q) := r_putfield (f := 3) (hz_18.trans rfl)
theorem w_18_12 : dx_W (tb_Z L xs) d 18 12 lv [] σ Q ↔ Q (.inl none) σ := r_return (hz_18.trans rfl) rfl
theorem hz_19 {pc : Nat} : (tb_Z L xs).1 19 pc = dx_at tb_m19 pc := rfl
theorem w_19_0 : dx_W (tb_Z L xs) d 19 0 lv st σ Q ↔ wR (dx_lk lv 0) (fun y => dx_W (tb_Z L xs) d 19 1 lv (y :: st) σ Q) := r_aload_n (k := 0) (hz_19.trans rfl)
theorem w_19_1 {w : Value} : dx_W (tb_Z L xs) d 19 1 lv (w :: st) σ Q ↔ wO (dx_gf (tb_K L xs) σ w 2 0) (fun y => dx_W (tb_Z L xs) d 19 4 lv (y :: st) σ Q) := r_getfield (hz_19.trans rfl)
theorem w_19_4 : dx_W (tb_Z L xs) d 19 4 lv st σ Q ↔ dx_W (tb_Z L xs) d 19 5 lv (.long 0 :: st) σ Q := r_lconst (n := 0) (hz_19.trans rfl)
theorem w_19_5 {v0 v1 : Value} (hc : dx_ct st ≤ 8) : dx_W (tb_Z L xs) d 19 5 lv (v1 :: v0 :: st) σ Q ↔ dx_M (tb_Z L xs) d 149 [v0, v1] σ (wK (tb_Z L xs) d 19 8 lv st Q) := r_call (av := [v0, v1]) (hz_19.trans rfl) rfl hc rfl
theorem w_19_8 : dx_W (tb_Z L xs) d 19 8 lv st σ Q ↔ wR (dx_lk lv 0) (fun y => dx_W (tb_Z L xs) d 19 9 lv (y :: st) σ Q) := r_aload_n (k := 0) (hz_19.trans rfl)
theorem w_19_9 : dx_W (tb_Z L xs) d 19 9 lv st σ Q ↔ dx_W (tb_Z L xs) d 19 10 lv (.int 0 :: st) σ Q := r_iconst (n := 0) (hz_19.trans rfl)
theorem w_19_10 {u w : Value} : dx_W (tb_Z L xs) d 19 10 lv (u :: w :: st) σ Q ↔ wO (dx_pf σ w 2 1 0 u) (fun σ1 => dx_W (tb_Z L xs) d 19 13 lv st σ1 Q) := r_putfield (f := 0) (hz_19.trans rfl)
theorem w_19_13 : dx_W (tb_Z L xs) d 19 13 lv [] σ Q ↔ Q (.inl none) σ := r_return (hz_19.trans rfl) rfl
end W2
/-! Printed by program: the rules of every instruction of DecimalRun$Outcome. -/
section W3
variable {L : Nat} {xs : Nat → Int32} {d : Nat} {lv : dx_L} {st : List Value} {σ : dx_S} {Q : dx_O → dx_S → Prop}
theorem hz_20 {pc : Nat} : (tb_Z L xs).1 20 pc = dx_at tb_m20 pc := rfl
theorem w_20_0 : dx_W (tb_Z L xs) d 20 0 lv st σ Q ↔ wR (dx_lk lv 0) (fun y => dx_W (tb_Z L xs) d 20 1 lv (y :: st) σ Q) := r_aload_n (k := 0) (hz_20.trans rfl)
theorem w_20_1 {w : Nat} (hc : dx_ct st ≤ 8) : dx_W (tb_Z L xs) d 20 1 lv (.ref w :: st) σ Q ↔ dx_W (tb_Z L xs) d 20 4 lv st σ Q := r_objinit (hz_20.trans rfl) hc
theorem w_20_4 : dx_W (tb_Z L xs) d 20 4 lv st σ Q ↔ wR (dx_lk lv 0) (fun y => dx_W (tb_Z L xs) d 20 5 lv (y :: st) σ Q) := r_aload_n (k := 0) (hz_20.trans rfl)
theorem w_20_5 : dx_W (tb_Z L xs) d 20 5 lv st σ Q ↔ dx_W (tb_Z L xs) d 20 8 lv (.int 300 :: st) σ Q := r_sipush (n := 300) (hz_20.trans rfl)
theorem w_20_8 {n : Int32} {y : dx_E} (hn : ¬ (n < 0 ∨ 1000000 < n.toNatClampNeg)) (hy : dx_na .char n.toNatClampNeg = some y) : dx_W (tb_Z L xs) d 20 8 lv (.int n :: st) σ Q ↔ dx_W (tb_Z L xs) d 20 10 lv (.ref σ.length :: st) (σ ++ [y]) Q := r_newarray (hz_20.trans rfl) hn hy
theorem w_20_10 {u w : Value} : dx_W (tb_Z L xs) d 20 10 lv (u :: w :: st) σ Q ↔ wO (dx_pf σ w 3 0 3 u) (fun σ1 => dx_W (tb_Z L xs) d 20 13 lv st σ1 Q) := r_putfield (f := 3) (hz_20.trans rfl)
theorem w_20_13 : dx_W (tb_Z L xs) d 20 13 lv [] σ Q ↔ Q (.inl none) σ := r_return (hz_20.trans rfl) rfl
theorem hz_21 {pc : Nat} : (tb_Z L xs).1 21 pc = dx_at tb_m21 pc := rfl
theorem w_21_0 : dx_W (tb_Z L xs) d 21 0 lv st σ Q ↔ wR (dx_lk lv 0) (fun y => dx_W (tb_Z L xs) d 21 1 lv (y :: st) σ Q) := r_aload_n (k := 0) (hz_21.trans rfl)
theorem w_21_1 : dx_W (tb_Z L xs) d 21 1 lv st σ Q ↔ dx_W (tb_Z L xs) d 21 2 lv (.int 0 :: st) σ Q := r_iconst (n := 0) (hz_21.trans rfl)
theorem w_21_2 {u w : Value} : dx_W (tb_Z L xs) d 21 2 lv (u :: w :: st) σ Q ↔ wO (dx_pf σ w 3 1 0 u) (fun σ1 => dx_W (tb_Z L xs) d 21 5 lv st σ1 Q) := r_putfield (f := 0) (hz_21.trans rfl)
theorem w_21_5 : dx_W (tb_Z L xs) d 21 5 lv st σ Q ↔ wR (dx_lk lv 0) (fun y => dx_W (tb_Z L xs) d 21 6 lv (y :: st) σ Q) := r_aload_n (k := 0) (hz_21.trans rfl)
theorem w_21_6 : dx_W (tb_Z L xs) d 21 6 lv st σ Q ↔ dx_W (tb_Z L xs) d 21 7 lv (.int 0 :: st) σ Q := r_iconst (n := 0) (hz_21.trans rfl)
theorem w_21_7 {u w : Value} : dx_W (tb_Z L xs) d 21 7 lv (u :: w :: st) σ Q ↔ wO (dx_pf σ w 3 2 0 u) (fun σ1 => dx_W (tb_Z L xs) d 21 10 lv st σ1 Q) := r_putfield (f := 0) (hz_21.trans rfl)
theorem w_21_10 : dx_W (tb_Z L xs) d 21 10 lv st σ Q ↔ wR (dx_lk lv 0) (fun y => dx_W (tb_Z L xs) d 21 11 lv (y :: st) σ Q) := r_aload_n (k := 0) (hz_21.trans rfl)
theorem w_21_11 : dx_W (tb_Z L xs) d 21 11 lv st σ Q ↔ dx_W (tb_Z L xs) d 21 12 lv (.int 0 :: st) σ Q := r_iconst (n := 0) (hz_21.trans rfl)
theorem w_21_12 {u w : Value} : dx_W (tb_Z L xs) d 21 12 lv (u :: w :: st) σ Q ↔ wO (dx_pf σ w 3 3 0 u) (fun σ1 => dx_W (tb_Z L xs) d 21 15 lv st σ1 Q) := r_putfield (f := 0) (hz_21.trans rfl)
theorem w_21_15 : dx_W (tb_Z L xs) d 21 15 lv st σ Q ↔ wR (dx_lk lv 0) (fun y => dx_W (tb_Z L xs) d 21 16 lv (y :: st) σ Q) := r_aload_n (k := 0) (hz_21.trans rfl)
theorem w_21_16 : dx_W (tb_Z L xs) d 21 16 lv st σ Q ↔ wI (dx_lk lv 1) (fun y => dx_W (tb_Z L xs) d 21 17 lv (.int y :: st) σ Q) := r_iload_n (k := 1) (hz_21.trans rfl)
theorem w_21_17 {u w : Value} : dx_W (tb_Z L xs) d 21 17 lv (u :: w :: st) σ Q ↔ wO (dx_pf σ w 3 4 0 u) (fun σ1 => dx_W (tb_Z L xs) d 21 20 lv st σ1 Q) := r_putfield (f := 0) (hz_21.trans rfl)
theorem w_21_20 : dx_W (tb_Z L xs) d 21 20 lv [] σ Q ↔ Q (.inl none) σ := r_return (hz_21.trans rfl) rfl
theorem hz_22 {pc : Nat} : (tb_Z L xs).1 22 pc = dx_at tb_m22 pc := rfl
theorem w_22_0 : dx_W (tb_Z L xs) d 22 0 lv st σ Q ↔ wR (dx_lk lv 0) (fun y => dx_W (tb_Z L xs) d 22 1 lv (y :: st) σ Q) := r_aload_n (k := 0) (hz_22.trans rfl)
theorem w_22_1 : dx_W (tb_Z L xs) d 22 1 lv st σ Q ↔ wI (dx_lk lv 1) (fun y => dx_W (tb_Z L xs) d 22 2 lv (.int y :: st) σ Q) := r_iload_n (k := 1) (hz_22.trans rfl)
theorem w_22_2 {u w : Value} : dx_W (tb_Z L xs) d 22 2 lv (u :: w :: st) σ Q ↔ wO (dx_pf σ w 3 2 0 u) (fun σ1 => dx_W (tb_Z L xs) d 22 5 lv st σ1 Q) := r_putfield (f := 0) (hz_22.trans rfl)
theorem w_22_5 : dx_W (tb_Z L xs) d 22 5 lv st σ Q ↔ wI (dx_lk lv 1) (fun y => dx_W (tb_Z L xs) d 22 6 lv (.int y :: st) σ Q) := r_iload_n (k := 1) (hz_22.trans rfl)
theorem w_22_6 : dx_W (tb_Z L xs) d 22 6 lv st σ Q ↔ dx_W (tb_Z L xs) d 22 7 lv (.int 1 :: st) σ Q := r_iconst (n := 1) (hz_22.trans rfl)
theorem w_22_7 {x y : Int32} : dx_W (tb_Z L xs) d 22 7 lv (.int y :: .int x :: st) σ Q ↔ (if ¬ x = y then dx_W (tb_Z L xs) d 22 18 lv st σ Q else dx_W (tb_Z L xs) d 22 10 lv st σ Q) := r_ic_ne (off := 11) (t := 18) (hz_22.trans rfl) (by decide)
theorem w_22_10 (hc : dx_ct st ≤ 8) : dx_W (tb_Z L xs) d 22 10 lv st σ Q ↔ Q (.inr σ.length) (σ ++ [.inr (10, [])]) := r_throw (hz_22.trans rfl) hc
theorem w_22_13_int {x : Int32} : dx_W (tb_Z L xs) d 22 13 lv (.int x :: st) σ Q ↔ dx_W (tb_Z L xs) d 22 14 lv (.int x :: .int x :: st) σ Q := r_dup_int (hz_22.trans rfl)
theorem w_22_13_ref {x : Nat} : dx_W (tb_Z L xs) d 22 13 lv (.ref x :: st) σ Q ↔ dx_W (tb_Z L xs) d 22 14 lv (.ref x :: .ref x :: st) σ Q := r_dup_ref (hz_22.trans rfl)
theorem w_22_13_retAddr {x : Nat} : dx_W (tb_Z L xs) d 22 13 lv (.retAddr x :: st) σ Q ↔ dx_W (tb_Z L xs) d 22 14 lv (.retAddr x :: .retAddr x :: st) σ Q := r_dup_retAddr (hz_22.trans rfl)
theorem w_22_18 : dx_W (tb_Z L xs) d 22 18 lv st σ Q ↔ wI (dx_lk lv 1) (fun y => dx_W (tb_Z L xs) d 22 19 lv (.int y :: st) σ Q) := r_iload_n (k := 1) (hz_22.trans rfl)
theorem w_22_19 : dx_W (tb_Z L xs) d 22 19 lv st σ Q ↔ dx_W (tb_Z L xs) d 22 20 lv (.int 2 :: st) σ Q := r_iconst (n := 2) (hz_22.trans rfl)
theorem w_22_20 {x y : Int32} : dx_W (tb_Z L xs) d 22 20 lv (.int y :: .int x :: st) σ Q ↔ (if x = y then dx_W (tb_Z L xs) d 22 33 lv st σ Q else dx_W (tb_Z L xs) d 22 23 lv st σ Q) := r_ic_eq (off := 13) (t := 33) (hz_22.trans rfl) (by decide)
theorem w_22_23 : dx_W (tb_Z L xs) d 22 23 lv st σ Q ↔ wI (dx_lk lv 1) (fun y => dx_W (tb_Z L xs) d 22 24 lv (.int y :: st) σ Q) := r_iload_n (k := 1) (hz_22.trans rfl)
theorem w_22_24 : dx_W (tb_Z L xs) d 22 24 lv st σ Q ↔ dx_W (tb_Z L xs) d 22 25 lv (.int 3 :: st) σ Q := r_iconst (n := 3) (hz_22.trans rfl)
theorem w_22_25 {x y : Int32} : dx_W (tb_Z L xs) d 22 25 lv (.int y :: .int x :: st) σ Q ↔ (if x = y then dx_W (tb_Z L xs) d 22 33 lv st σ Q else dx_W (tb_Z L xs) d 22 28 lv st σ Q) := r_ic_eq (off := 8) (t := 33) (hz_22.trans rfl) (by decide)
theorem w_22_28 : dx_W (tb_Z L xs) d 22 28 lv st σ Q ↔ wI (dx_lk lv 1) (fun y => dx_W (tb_Z L xs) d 22 29 lv (.int y :: st) σ Q) := r_iload_n (k := 1) (hz_22.trans rfl)
theorem w_22_29 : dx_W (tb_Z L xs) d 22 29 lv st σ Q ↔ dx_W (tb_Z L xs) d 22 30 lv (.int 5 :: st) σ Q := r_iconst (n := 5) (hz_22.trans rfl)
theorem w_22_30 {x y : Int32} : dx_W (tb_Z L xs) d 22 30 lv (.int y :: .int x :: st) σ Q ↔ (if ¬ x = y then dx_W (tb_Z L xs) d 22 41 lv st σ Q else dx_W (tb_Z L xs) d 22 33 lv st σ Q) := r_ic_ne (off := 11) (t := 41) (hz_22.trans rfl) (by decide)
theorem w_22_33 (hc : dx_ct st ≤ 8) : dx_W (tb_Z L xs) d 22 33 lv st σ Q ↔ Q (.inr σ.length) (σ ++ [.inr (11, [])]) := r_throw (hz_22.trans rfl) hc
theorem w_22_36_int {x : Int32} : dx_W (tb_Z L xs) d 22 36 lv (.int x :: st) σ Q ↔ dx_W (tb_Z L xs) d 22 37 lv (.int x :: .int x :: st) σ Q := r_dup_int (hz_22.trans rfl)
theorem w_22_36_ref {x : Nat} : dx_W (tb_Z L xs) d 22 36 lv (.ref x :: st) σ Q ↔ dx_W (tb_Z L xs) d 22 37 lv (.ref x :: .ref x :: st) σ Q := r_dup_ref (hz_22.trans rfl)
theorem w_22_36_retAddr {x : Nat} : dx_W (tb_Z L xs) d 22 36 lv (.retAddr x :: st) σ Q ↔ dx_W (tb_Z L xs) d 22 37 lv (.retAddr x :: .retAddr x :: st) σ Q := r_dup_retAddr (hz_22.trans rfl)
theorem w_22_41 (hc : dx_ct st ≤ 8) : dx_W (tb_Z L xs) d 22 41 lv st σ Q ↔ Q (.inr σ.length) (σ ++ [.inr (12, [])]) := r_throw (hz_22.trans rfl) hc
theorem w_22_44_int {x : Int32} : dx_W (tb_Z L xs) d 22 44 lv (.int x :: st) σ Q ↔ dx_W (tb_Z L xs) d 22 45 lv (.int x :: .int x :: st) σ Q := r_dup_int (hz_22.trans rfl)
theorem w_22_44_ref {x : Nat} : dx_W (tb_Z L xs) d 22 44 lv (.ref x :: st) σ Q ↔ dx_W (tb_Z L xs) d 22 45 lv (.ref x :: .ref x :: st) σ Q := r_dup_ref (hz_22.trans rfl)
theorem w_22_44_retAddr {x : Nat} : dx_W (tb_Z L xs) d 22 44 lv (.retAddr x :: st) σ Q ↔ dx_W (tb_Z L xs) d 22 45 lv (.retAddr x :: .retAddr x :: st) σ Q := r_dup_retAddr (hz_22.trans rfl)
theorem hz_23 {pc : Nat} : (tb_Z L xs).1 23 pc = dx_at tb_m23 pc := rfl
theorem w_23_0 : dx_W (tb_Z L xs) d 23 0 lv st σ Q ↔ wR (dx_lk lv 0) (fun y => dx_W (tb_Z L xs) d 23 1 lv (y :: st) σ Q) := r_aload_n (k := 0) (hz_23.trans rfl)
theorem w_23_1 {w : Value} : dx_W (tb_Z L xs) d 23 1 lv (w :: st) σ Q ↔ wO (dx_gf (tb_K L xs) σ w 3 3) (fun y => dx_W (tb_Z L xs) d 23 4 lv (y :: st) σ Q) := r_getfield (hz_23.trans rfl)
theorem w_23_4 : dx_W (tb_Z L xs) d 23 4 lv st σ Q ↔ wR (dx_lk lv 0) (fun y => dx_W (tb_Z L xs) d 23 5 lv (y :: st) σ Q) := r_aload_n (k := 0) (hz_23.trans rfl)
theorem w_23_5 {w : Value} : dx_W (tb_Z L xs) d 23 5 lv (w :: st) σ Q ↔ wO (dx_gf (tb_K L xs) σ w 3 4) (fun y => dx_W (tb_Z L xs) d 23 8 lv (y :: st) σ Q) := r_getfield (hz_23.trans rfl)
theorem w_23_8 {x y : Int32} : dx_W (tb_Z L xs) d 23 8 lv (.int y :: .int x :: st) σ Q ↔ (if x < y then dx_W (tb_Z L xs) d 23 16 lv st σ Q else dx_W (tb_Z L xs) d 23 11 lv st σ Q) := r_ic_lt (off := 8) (t := 16) (hz_23.trans rfl) (by decide)
theorem w_23_11 : dx_W (tb_Z L xs) d 23 11 lv st σ Q ↔ wR (dx_lk lv 0) (fun y => dx_W (tb_Z L xs) d 23 12 lv (y :: st) σ Q) := r_aload_n (k := 0) (hz_23.trans rfl)
theorem w_23_12 : dx_W (tb_Z L xs) d 23 12 lv st σ Q ↔ dx_W (tb_Z L xs) d 23 13 lv (.int 4 :: st) σ Q := r_iconst (n := 4) (hz_23.trans rfl)
theorem w_23_13 {v0 v1 : Value} (hc : dx_ct st ≤ 8) (hr : dx_ci (tb_K L xs) σ v0 = some 3) : dx_W (tb_Z L xs) d 23 13 lv (v1 :: v0 :: st) σ Q ↔ dx_M (tb_Z L xs) d 22 [v0, v1] σ (wK (tb_Z L xs) d 23 16 lv st Q) := r_call (av := [v0, v1]) (hz_23.trans rfl) rfl hc (decide_eq_true hr)
theorem w_23_16 : dx_W (tb_Z L xs) d 23 16 lv st σ Q ↔ wR (dx_lk lv 0) (fun y => dx_W (tb_Z L xs) d 23 17 lv (y :: st) σ Q) := r_aload_n (k := 0) (hz_23.trans rfl)
theorem w_23_17_int {x : Int32} : dx_W (tb_Z L xs) d 23 17 lv (.int x :: st) σ Q ↔ dx_W (tb_Z L xs) d 23 18 lv (.int x :: .int x :: st) σ Q := r_dup_int (hz_23.trans rfl)
theorem w_23_17_ref {x : Nat} : dx_W (tb_Z L xs) d 23 17 lv (.ref x :: st) σ Q ↔ dx_W (tb_Z L xs) d 23 18 lv (.ref x :: .ref x :: st) σ Q := r_dup_ref (hz_23.trans rfl)
theorem w_23_17_retAddr {x : Nat} : dx_W (tb_Z L xs) d 23 17 lv (.retAddr x :: st) σ Q ↔ dx_W (tb_Z L xs) d 23 18 lv (.retAddr x :: .retAddr x :: st) σ Q := r_dup_retAddr (hz_23.trans rfl)
theorem w_23_18 {w : Value} : dx_W (tb_Z L xs) d 23 18 lv (w :: st) σ Q ↔ wO (dx_gf (tb_K L xs) σ w 3 3) (fun y => dx_W (tb_Z L xs) d 23 21 lv (y :: st) σ Q) := r_getfield (hz_23.trans rfl)
theorem w_23_21 : dx_W (tb_Z L xs) d 23 21 lv st σ Q ↔ dx_W (tb_Z L xs) d 23 22 lv (.int 1 :: st) σ Q := r_iconst (n := 1) (hz_23.trans rfl)
theorem w_23_22 {x y : Int32} : dx_W (tb_Z L xs) d 23 22 lv (.int y :: .int x :: st) σ Q ↔ dx_W (tb_Z L xs) d 23 23 lv (.int (x + y) :: st) σ Q := r_iadd (hz_23.trans rfl)
theorem w_23_23 {u w : Value} : dx_W (tb_Z L xs) d 23 23 lv (u :: w :: st) σ Q ↔ wO (dx_pf σ w 3 3 0 u) (fun σ1 => dx_W (tb_Z L xs) d 23 26 lv st σ1 Q) := r_putfield (f := 0) (hz_23.trans rfl)
theorem w_23_26 : dx_W (tb_Z L xs) d 23 26 lv [] σ Q ↔ Q (.inl none) σ := r_return (hz_23.trans rfl) rfl
theorem hz_24 {pc : Nat} : (tb_Z L xs).1 24 pc = dx_at tb_m24 pc := rfl
theorem w_24_0 : dx_W (tb_Z L xs) d 24 0 lv st σ Q ↔ wJ (dx_lk lv 1) (fun y => dx_W (tb_Z L xs) d 24 1 lv (.long y :: st) σ Q) := r_lload_n (k := 1) (hz_24.trans rfl)
theorem w_24_1 {v0 : Value} (hc : dx_ct st ≤ 8) : dx_W (tb_Z L xs) d 24 1 lv (v0 :: st) σ Q ↔ dx_M (tb_Z L xs) d 79 [v0] σ (wK (tb_Z L xs) d 24 4 lv st Q) := r_call (av := [v0]) (hz_24.trans rfl) rfl hc rfl
theorem w_24_4 {x : Int64} : dx_W (tb_Z L xs) d 24 4 lv (.long x :: st) σ Q ↔ dx_W (tb_Z L xs) d 24 5 (dx_s2 lv 3 (.long x)) st σ Q := r_lstore_n (k := 3) (hz_24.trans rfl) (show 3 + 1 < tb_l 24 by decide)
theorem w_24_5 : dx_W (tb_Z L xs) d 24 5 lv st σ Q ↔ wJ (dx_lk lv 1) (fun y => dx_W (tb_Z L xs) d 24 6 lv (.long y :: st) σ Q) := r_lload_n (k := 1) (hz_24.trans rfl)
theorem w_24_6 {v0 : Value} (hc : dx_ct st ≤ 8) : dx_W (tb_Z L xs) d 24 6 lv (v0 :: st) σ Q ↔ dx_M (tb_Z L xs) d 80 [v0] σ (wK (tb_Z L xs) d 24 9 lv st Q) := r_call (av := [v0]) (hz_24.trans rfl) rfl hc rfl
theorem w_24_9 {x : Int32} : dx_W (tb_Z L xs) d 24 9 lv (.int x :: st) σ Q ↔ dx_W (tb_Z L xs) d 24 11 (dx_s1 lv 5 (.int x)) st σ Q := r_istore (k := 5) (hz_24.trans rfl) (show 5 < tb_l 24 by decide)
theorem w_24_11 : dx_W (tb_Z L xs) d 24 11 lv st σ Q ↔ wI (dx_lk lv 5) (fun y => dx_W (tb_Z L xs) d 24 13 lv (.int y :: st) σ Q) := r_iload (k := 5) (hz_24.trans rfl)
theorem w_24_13 : dx_W (tb_Z L xs) d 24 13 lv st σ Q ↔ dx_W (tb_Z L xs) d 24 14 lv (.int 1 :: st) σ Q := r_iconst (n := 1) (hz_24.trans rfl)
theorem w_24_14 {x y : Int32} : dx_W (tb_Z L xs) d 24 14 lv (.int y :: .int x :: st) σ Q ↔ dx_W (tb_Z L xs) d 24 15 lv (.int (x + y) :: st) σ Q := r_iadd (hz_24.trans rfl)
theorem w_24_15 : dx_W (tb_Z L xs) d 24 15 lv st σ Q ↔ wJ (dx_lk lv 3) (fun y => dx_W (tb_Z L xs) d 24 16 lv (.long y :: st) σ Q) := r_lload_n (k := 3) (hz_24.trans rfl)
theorem w_24_16 {v0 : Value} (hc : dx_ct st ≤ 8) : dx_W (tb_Z L xs) d 24 16 lv (v0 :: st) σ Q ↔ dx_M (tb_Z L xs) d 146 [v0] σ (wK (tb_Z L xs) d 24 19 lv st Q) := r_call (av := [v0]) (hz_24.trans rfl) rfl hc rfl
theorem w_24_19 {v0 : Value} (hc : dx_ct st ≤ 8) : dx_W (tb_Z L xs) d 24 19 lv (v0 :: st) σ Q ↔ dx_M (tb_Z L xs) d 25 [v0] σ (wK (tb_Z L xs) d 24 22 lv st Q) := r_call (av := [v0]) (hz_24.trans rfl) rfl hc rfl
theorem w_24_22 {v0 v1 : Value} (hc : dx_ct st ≤ 8) : dx_W (tb_Z L xs) d 24 22 lv (v1 :: v0 :: st) σ Q ↔ dx_M (tb_Z L xs) d 145 [v0, v1] σ (wK (tb_Z L xs) d 24 25 lv st Q) := r_call (av := [v0, v1]) (hz_24.trans rfl) rfl hc rfl
theorem w_24_25 {x : Int32} : dx_W (tb_Z L xs) d 24 25 lv (.int x :: st) σ Q ↔ dx_W (tb_Z L xs) d 24 27 (dx_s1 lv 6 (.int x)) st σ Q := r_istore (k := 6) (hz_24.trans rfl) (show 6 < tb_l 24 by decide)
theorem w_24_27 : dx_W (tb_Z L xs) d 24 27 lv st σ Q ↔ wR (dx_lk lv 0) (fun y => dx_W (tb_Z L xs) d 24 28 lv (y :: st) σ Q) := r_aload_n (k := 0) (hz_24.trans rfl)
theorem w_24_28 {w : Value} : dx_W (tb_Z L xs) d 24 28 lv (w :: st) σ Q ↔ wO (dx_gf (tb_K L xs) σ w 3 1) (fun y => dx_W (tb_Z L xs) d 24 31 lv (y :: st) σ Q) := r_getfield (hz_24.trans rfl)
theorem w_24_31 : dx_W (tb_Z L xs) d 24 31 lv st σ Q ↔ wI (dx_lk lv 6) (fun y => dx_W (tb_Z L xs) d 24 33 lv (.int y :: st) σ Q) := r_iload (k := 6) (hz_24.trans rfl)
theorem w_24_33 {x y : Int32} : dx_W (tb_Z L xs) d 24 33 lv (.int y :: .int x :: st) σ Q ↔ dx_W (tb_Z L xs) d 24 34 lv (.int (x + y) :: st) σ Q := r_iadd (hz_24.trans rfl)
theorem w_24_34 : dx_W (tb_Z L xs) d 24 34 lv st σ Q ↔ wJ (dx_lk lv 3) (fun y => dx_W (tb_Z L xs) d 24 35 lv (.long y :: st) σ Q) := r_lload_n (k := 3) (hz_24.trans rfl)
theorem w_24_35 : dx_W (tb_Z L xs) d 24 35 lv st σ Q ↔ dx_W (tb_Z L xs) d 24 36 lv (.long 0 :: st) σ Q := r_lconst (n := 0) (hz_24.trans rfl)
theorem w_24_36 {x y : Int64} : dx_W (tb_Z L xs) d 24 36 lv (.long y :: .long x :: st) σ Q ↔ dx_W (tb_Z L xs) d 24 37 lv (.int (lg_cmp x y) :: st) σ Q := r_lcmp (hz_24.trans rfl)
theorem w_24_37 {x : Int32} : dx_W (tb_Z L xs) d 24 37 lv (.int x :: st) σ Q ↔ (if 0 ≤ x then dx_W (tb_Z L xs) d 24 44 lv st σ Q else dx_W (tb_Z L xs) d 24 40 lv st σ Q) := r_if_ge (off := 7) (t := 44) (hz_24.trans rfl) (by decide)
theorem w_24_40 : dx_W (tb_Z L xs) d 24 40 lv st σ Q ↔ dx_W (tb_Z L xs) d 24 41 lv (.int 1 :: st) σ Q := r_iconst (n := 1) (hz_24.trans rfl)
theorem w_24_41 : dx_W (tb_Z L xs) d 24 41 lv st σ Q ↔ dx_W (tb_Z L xs) d 24 45 lv st σ Q := r_goto (off := 4) (t := 45) (hz_24.trans rfl) (by decide)
theorem w_24_44 : dx_W (tb_Z L xs) d 24 44 lv st σ Q ↔ dx_W (tb_Z L xs) d 24 45 lv (.int 0 :: st) σ Q := r_iconst (n := 0) (hz_24.trans rfl)
theorem w_24_45 {x y : Int32} : dx_W (tb_Z L xs) d 24 45 lv (.int y :: .int x :: st) σ Q ↔ dx_W (tb_Z L xs) d 24 46 lv (.int (x + y) :: st) σ Q := r_iadd (hz_24.trans rfl)
theorem w_24_46 : dx_W (tb_Z L xs) d 24 46 lv st σ Q ↔ wI (dx_lk lv 5) (fun y => dx_W (tb_Z L xs) d 24 48 lv (.int y :: st) σ Q) := r_iload (k := 5) (hz_24.trans rfl)
theorem w_24_48 {x : Int32} : dx_W (tb_Z L xs) d 24 48 lv (.int x :: st) σ Q ↔ (if x ≤ 0 then dx_W (tb_Z L xs) d 24 55 lv st σ Q else dx_W (tb_Z L xs) d 24 51 lv st σ Q) := r_if_le (off := 7) (t := 55) (hz_24.trans rfl) (by decide)
theorem w_24_51 : dx_W (tb_Z L xs) d 24 51 lv st σ Q ↔ dx_W (tb_Z L xs) d 24 52 lv (.int 1 :: st) σ Q := r_iconst (n := 1) (hz_24.trans rfl)
theorem w_24_52 : dx_W (tb_Z L xs) d 24 52 lv st σ Q ↔ dx_W (tb_Z L xs) d 24 56 lv st σ Q := r_goto (off := 4) (t := 56) (hz_24.trans rfl) (by decide)
theorem w_24_55 : dx_W (tb_Z L xs) d 24 55 lv st σ Q ↔ dx_W (tb_Z L xs) d 24 56 lv (.int 0 :: st) σ Q := r_iconst (n := 0) (hz_24.trans rfl)
theorem w_24_56 {x y : Int32} : dx_W (tb_Z L xs) d 24 56 lv (.int y :: .int x :: st) σ Q ↔ dx_W (tb_Z L xs) d 24 57 lv (.int (x + y) :: st) σ Q := r_iadd (hz_24.trans rfl)
theorem w_24_57 : dx_W (tb_Z L xs) d 24 57 lv st σ Q ↔ dx_W (tb_Z L xs) d 24 58 lv (.int 1 :: st) σ Q := r_iconst (n := 1) (hz_24.trans rfl)
theorem w_24_58 {x y : Int32} : dx_W (tb_Z L xs) d 24 58 lv (.int y :: .int x :: st) σ Q ↔ dx_W (tb_Z L xs) d 24 59 lv (.int (x + y) :: st) σ Q := r_iadd (hz_24.trans rfl)
theorem w_24_59 {x : Int32} : dx_W (tb_Z L xs) d 24 59 lv (.int x :: st) σ Q ↔ dx_W (tb_Z L xs) d 24 61 (dx_s1 lv 7 (.int x)) st σ Q := r_istore (k := 7) (hz_24.trans rfl) (show 7 < tb_l 24 by decide)
theorem w_24_61 : dx_W (tb_Z L xs) d 24 61 lv st σ Q ↔ wI (dx_lk lv 7) (fun y => dx_W (tb_Z L xs) d 24 63 lv (.int y :: st) σ Q) := r_iload (k := 7) (hz_24.trans rfl)
theorem w_24_63 : dx_W (tb_Z L xs) d 24 63 lv st σ Q ↔ dx_W (tb_Z L xs) d 24 66 lv (.int 300 :: st) σ Q := r_sipush (n := 300) (hz_24.trans rfl)
theorem w_24_66 {x y : Int32} : dx_W (tb_Z L xs) d 24 66 lv (.int y :: .int x :: st) σ Q ↔ (if x ≤ y then dx_W (tb_Z L xs) d 24 75 lv st σ Q else dx_W (tb_Z L xs) d 24 69 lv st σ Q) := r_ic_le (off := 9) (t := 75) (hz_24.trans rfl) (by decide)
theorem w_24_69 : dx_W (tb_Z L xs) d 24 69 lv st σ Q ↔ wR (dx_lk lv 0) (fun y => dx_W (tb_Z L xs) d 24 70 lv (y :: st) σ Q) := r_aload_n (k := 0) (hz_24.trans rfl)
theorem w_24_70 : dx_W (tb_Z L xs) d 24 70 lv st σ Q ↔ dx_W (tb_Z L xs) d 24 72 lv (.int 8 :: st) σ Q := r_bipush (n := 8) (hz_24.trans rfl)
theorem w_24_72 {v0 v1 : Value} (hc : dx_ct st ≤ 8) (hr : dx_ci (tb_K L xs) σ v0 = some 3) : dx_W (tb_Z L xs) d 24 72 lv (v1 :: v0 :: st) σ Q ↔ dx_M (tb_Z L xs) d 22 [v0, v1] σ (wK (tb_Z L xs) d 24 75 lv st Q) := r_call (av := [v0, v1]) (hz_24.trans rfl) rfl hc (decide_eq_true hr)
theorem w_24_75 : dx_W (tb_Z L xs) d 24 75 lv st σ Q ↔ wI (dx_lk lv 7) (fun y => dx_W (tb_Z L xs) d 24 77 lv (.int y :: st) σ Q) := r_iload (k := 7) (hz_24.trans rfl)
theorem w_24_77 : dx_W (tb_Z L xs) d 24 77 lv st σ Q ↔ dx_W (tb_Z L xs) d 24 78 lv (.int 1 :: st) σ Q := r_iconst (n := 1) (hz_24.trans rfl)
theorem w_24_78 {x y : Int32} : dx_W (tb_Z L xs) d 24 78 lv (.int y :: .int x :: st) σ Q ↔ dx_W (tb_Z L xs) d 24 79 lv (.int (x - y) :: st) σ Q := r_isub (hz_24.trans rfl)
theorem w_24_79 {x : Int32} : dx_W (tb_Z L xs) d 24 79 lv (.int x :: st) σ Q ↔ dx_W (tb_Z L xs) d 24 81 (dx_s1 lv 8 (.int x)) st σ Q := r_istore (k := 8) (hz_24.trans rfl) (show 8 < tb_l 24 by decide)
theorem w_24_81 : dx_W (tb_Z L xs) d 24 81 lv st σ Q ↔ wR (dx_lk lv 0) (fun y => dx_W (tb_Z L xs) d 24 82 lv (y :: st) σ Q) := r_aload_n (k := 0) (hz_24.trans rfl)
theorem w_24_82 {w : Value} : dx_W (tb_Z L xs) d 24 82 lv (w :: st) σ Q ↔ wO (dx_gf (tb_K L xs) σ w 3 0) (fun y => dx_W (tb_Z L xs) d 24 85 lv (y :: st) σ Q) := r_getfield (hz_24.trans rfl)
theorem w_24_85 : dx_W (tb_Z L xs) d 24 85 lv st σ Q ↔ wI (dx_lk lv 8) (fun y => dx_W (tb_Z L xs) d 24 87 lv (.int y :: st) σ Q) := r_iload (k := 8) (hz_24.trans rfl)
theorem w_24_87 : dx_W (tb_Z L xs) d 24 87 lv st σ Q ↔ wI (dx_lk lv 8) (fun y => dx_W (tb_Z L xs) d 24 90 (dx_s1 lv 8 (.int (y + (-1)))) st σ Q) := r_iincv (k := 8) (n := (-1)) (hz_24.trans rfl) (show 8 < tb_l 24 by decide) (by decide)
theorem w_24_90 : dx_W (tb_Z L xs) d 24 90 lv st σ Q ↔ dx_W (tb_Z L xs) d 24 92 lv (.int 10 :: st) σ Q := r_bipush (n := 10) (hz_24.trans rfl)
theorem w_24_92 {w : Value} {y : Int32} {u : Int32} : dx_W (tb_Z L xs) d 24 92 lv (.int u :: .int y :: w :: st) σ Q ↔ wO (dx_pi σ 2 w y (vp_nar .char u)) (fun σ1 => dx_W (tb_Z L xs) d 24 93 lv st σ1 Q) := r_castore (hz_24.trans rfl)
theorem w_24_93 : dx_W (tb_Z L xs) d 24 93 lv st σ Q ↔ wJ (dx_lk lv 3) (fun y => dx_W (tb_Z L xs) d 24 94 lv (.long y :: st) σ Q) := r_lload_n (k := 3) (hz_24.trans rfl)
theorem w_24_94 {v0 : Value} (hc : dx_ct st ≤ 8) : dx_W (tb_Z L xs) d 24 94 lv (v0 :: st) σ Q ↔ dx_M (tb_Z L xs) d 146 [v0] σ (wK (tb_Z L xs) d 24 97 lv st Q) := r_call (av := [v0]) (hz_24.trans rfl) rfl hc rfl
theorem w_24_97 {x : Int64} : dx_W (tb_Z L xs) d 24 97 lv (.long x :: st) σ Q ↔ dx_W (tb_Z L xs) d 24 99 (dx_s2 lv 9 (.long x)) st σ Q := r_lstore (k := 9) (hz_24.trans rfl) (show 9 + 1 < tb_l 24 by decide)
theorem w_24_99 : dx_W (tb_Z L xs) d 24 99 lv st σ Q ↔ dx_W (tb_Z L xs) d 24 100 lv (.int 0 :: st) σ Q := r_iconst (n := 0) (hz_24.trans rfl)
theorem w_24_100 {x : Int32} : dx_W (tb_Z L xs) d 24 100 lv (.int x :: st) σ Q ↔ dx_W (tb_Z L xs) d 24 102 (dx_s1 lv 11 (.int x)) st σ Q := r_istore (k := 11) (hz_24.trans rfl) (show 11 < tb_l 24 by decide)
theorem w_24_102 : dx_W (tb_Z L xs) d 24 102 lv st σ Q ↔ wI (dx_lk lv 11) (fun y => dx_W (tb_Z L xs) d 24 104 lv (.int y :: st) σ Q) := r_iload (k := 11) (hz_24.trans rfl)
theorem w_24_104 : dx_W (tb_Z L xs) d 24 104 lv st σ Q ↔ wI (dx_lk lv 6) (fun y => dx_W (tb_Z L xs) d 24 106 lv (.int y :: st) σ Q) := r_iload (k := 6) (hz_24.trans rfl)
theorem w_24_106 {x y : Int32} : dx_W (tb_Z L xs) d 24 106 lv (.int y :: .int x :: st) σ Q ↔ (if y ≤ x then dx_W (tb_Z L xs) d 24 169 lv st σ Q else dx_W (tb_Z L xs) d 24 109 lv st σ Q) := r_ic_ge (off := 63) (t := 169) (hz_24.trans rfl) (by decide)
theorem w_24_109 : dx_W (tb_Z L xs) d 24 109 lv st σ Q ↔ wI (dx_lk lv 11) (fun y => dx_W (tb_Z L xs) d 24 111 lv (.int y :: st) σ Q) := r_iload (k := 11) (hz_24.trans rfl)
theorem w_24_111 {x : Int32} : dx_W (tb_Z L xs) d 24 111 lv (.int x :: st) σ Q ↔ (if x ≤ 0 then dx_W (tb_Z L xs) d 24 133 lv st σ Q else dx_W (tb_Z L xs) d 24 114 lv st σ Q) := r_if_le (off := 22) (t := 133) (hz_24.trans rfl) (by decide)
theorem w_24_114 : dx_W (tb_Z L xs) d 24 114 lv st σ Q ↔ wI (dx_lk lv 11) (fun y => dx_W (tb_Z L xs) d 24 116 lv (.int y :: st) σ Q) := r_iload (k := 11) (hz_24.trans rfl)
theorem w_24_116 : dx_W (tb_Z L xs) d 24 116 lv st σ Q ↔ wI (dx_lk lv 5) (fun y => dx_W (tb_Z L xs) d 24 118 lv (.int y :: st) σ Q) := r_iload (k := 5) (hz_24.trans rfl)
theorem w_24_118 {x y : Int32} : dx_W (tb_Z L xs) d 24 118 lv (.int y :: .int x :: st) σ Q ↔ (if ¬ x = y then dx_W (tb_Z L xs) d 24 133 lv st σ Q else dx_W (tb_Z L xs) d 24 121 lv st σ Q) := r_ic_ne (off := 15) (t := 133) (hz_24.trans rfl) (by decide)
theorem w_24_121 : dx_W (tb_Z L xs) d 24 121 lv st σ Q ↔ wR (dx_lk lv 0) (fun y => dx_W (tb_Z L xs) d 24 122 lv (y :: st) σ Q) := r_aload_n (k := 0) (hz_24.trans rfl)
theorem w_24_122 {w : Value} : dx_W (tb_Z L xs) d 24 122 lv (w :: st) σ Q ↔ wO (dx_gf (tb_K L xs) σ w 3 0) (fun y => dx_W (tb_Z L xs) d 24 125 lv (y :: st) σ Q) := r_getfield (hz_24.trans rfl)
theorem w_24_125 : dx_W (tb_Z L xs) d 24 125 lv st σ Q ↔ wI (dx_lk lv 8) (fun y => dx_W (tb_Z L xs) d 24 127 lv (.int y :: st) σ Q) := r_iload (k := 8) (hz_24.trans rfl)
theorem w_24_127 : dx_W (tb_Z L xs) d 24 127 lv st σ Q ↔ wI (dx_lk lv 8) (fun y => dx_W (tb_Z L xs) d 24 130 (dx_s1 lv 8 (.int (y + (-1)))) st σ Q) := r_iincv (k := 8) (n := (-1)) (hz_24.trans rfl) (show 8 < tb_l 24 by decide) (by decide)
theorem w_24_130 : dx_W (tb_Z L xs) d 24 130 lv st σ Q ↔ dx_W (tb_Z L xs) d 24 132 lv (.int 46 :: st) σ Q := r_bipush (n := 46) (hz_24.trans rfl)
theorem w_24_132 {w : Value} {y : Int32} {u : Int32} : dx_W (tb_Z L xs) d 24 132 lv (.int u :: .int y :: w :: st) σ Q ↔ wO (dx_pi σ 2 w y (vp_nar .char u)) (fun σ1 => dx_W (tb_Z L xs) d 24 133 lv st σ1 Q) := r_castore (hz_24.trans rfl)
theorem w_24_133 : dx_W (tb_Z L xs) d 24 133 lv st σ Q ↔ wR (dx_lk lv 0) (fun y => dx_W (tb_Z L xs) d 24 134 lv (y :: st) σ Q) := r_aload_n (k := 0) (hz_24.trans rfl)
theorem w_24_134 {w : Value} : dx_W (tb_Z L xs) d 24 134 lv (w :: st) σ Q ↔ wO (dx_gf (tb_K L xs) σ w 3 0) (fun y => dx_W (tb_Z L xs) d 24 137 lv (y :: st) σ Q) := r_getfield (hz_24.trans rfl)
theorem w_24_137 : dx_W (tb_Z L xs) d 24 137 lv st σ Q ↔ wI (dx_lk lv 8) (fun y => dx_W (tb_Z L xs) d 24 139 lv (.int y :: st) σ Q) := r_iload (k := 8) (hz_24.trans rfl)
theorem w_24_139 : dx_W (tb_Z L xs) d 24 139 lv st σ Q ↔ wI (dx_lk lv 8) (fun y => dx_W (tb_Z L xs) d 24 142 (dx_s1 lv 8 (.int (y + (-1)))) st σ Q) := r_iincv (k := 8) (n := (-1)) (hz_24.trans rfl) (show 8 < tb_l 24 by decide) (by decide)
theorem w_24_142 : dx_W (tb_Z L xs) d 24 142 lv st σ Q ↔ dx_W (tb_Z L xs) d 24 145 lv (.long 48 :: st) σ Q := r_ldc2_w (hz_24.trans rfl)
theorem w_24_145 : dx_W (tb_Z L xs) d 24 145 lv st σ Q ↔ wJ (dx_lk lv 9) (fun y => dx_W (tb_Z L xs) d 24 147 lv (.long y :: st) σ Q) := r_lload (k := 9) (hz_24.trans rfl)
theorem w_24_147 : dx_W (tb_Z L xs) d 24 147 lv st σ Q ↔ dx_W (tb_Z L xs) d 24 150 lv (.long 10 :: st) σ Q := r_ldc2_w (hz_24.trans rfl)
theorem w_24_150 {x y : Int64} (hy : ¬ y = 0) : dx_W (tb_Z L xs) d 24 150 lv (.long y :: .long x :: st) σ Q ↔ dx_W (tb_Z L xs) d 24 151 lv (.long (x - x / y * y) :: st) σ Q := r_lrem (hz_24.trans rfl) hy
theorem w_24_151 {x y : Int64} : dx_W (tb_Z L xs) d 24 151 lv (.long y :: .long x :: st) σ Q ↔ dx_W (tb_Z L xs) d 24 152 lv (.long (x + y) :: st) σ Q := r_ladd (hz_24.trans rfl)
theorem w_24_152 {x : Int64} : dx_W (tb_Z L xs) d 24 152 lv (.long x :: st) σ Q ↔ dx_W (tb_Z L xs) d 24 153 lv (.int x.toInt32 :: st) σ Q := r_l2i (hz_24.trans rfl)
theorem w_24_153 {x : Int32} : dx_W (tb_Z L xs) d 24 153 lv (.int x :: st) σ Q ↔ dx_W (tb_Z L xs) d 24 154 lv (.int (x.toUInt32 % 65536).toInt32 :: st) σ Q := r_i2c (hz_24.trans rfl)
theorem w_24_154 {w : Value} {y : Int32} {u : Int32} : dx_W (tb_Z L xs) d 24 154 lv (.int u :: .int y :: w :: st) σ Q ↔ wO (dx_pi σ 2 w y (vp_nar .char u)) (fun σ1 => dx_W (tb_Z L xs) d 24 155 lv st σ1 Q) := r_castore (hz_24.trans rfl)
theorem w_24_155 : dx_W (tb_Z L xs) d 24 155 lv st σ Q ↔ wJ (dx_lk lv 9) (fun y => dx_W (tb_Z L xs) d 24 157 lv (.long y :: st) σ Q) := r_lload (k := 9) (hz_24.trans rfl)
theorem w_24_157 : dx_W (tb_Z L xs) d 24 157 lv st σ Q ↔ dx_W (tb_Z L xs) d 24 160 lv (.long 10 :: st) σ Q := r_ldc2_w (hz_24.trans rfl)
theorem w_24_160 {x y : Int64} (hy : ¬ y = 0) : dx_W (tb_Z L xs) d 24 160 lv (.long y :: .long x :: st) σ Q ↔ dx_W (tb_Z L xs) d 24 161 lv (.long (x / y) :: st) σ Q := r_ldiv (hz_24.trans rfl) hy
theorem w_24_161 {x : Int64} : dx_W (tb_Z L xs) d 24 161 lv (.long x :: st) σ Q ↔ dx_W (tb_Z L xs) d 24 163 (dx_s2 lv 9 (.long x)) st σ Q := r_lstore (k := 9) (hz_24.trans rfl) (show 9 + 1 < tb_l 24 by decide)
theorem w_24_163 : dx_W (tb_Z L xs) d 24 163 lv st σ Q ↔ wI (dx_lk lv 11) (fun y => dx_W (tb_Z L xs) d 24 166 (dx_s1 lv 11 (.int (y + 1))) st σ Q) := r_iincv (k := 11) (n := 1) (hz_24.trans rfl) (show 11 < tb_l 24 by decide) (by decide)
theorem w_24_166 : dx_W (tb_Z L xs) d 24 166 lv st σ Q ↔ dx_W (tb_Z L xs) d 24 102 lv st σ Q := r_goto (off := (-64)) (t := 102) (hz_24.trans rfl) (by decide)
theorem w_24_169 : dx_W (tb_Z L xs) d 24 169 lv st σ Q ↔ wJ (dx_lk lv 3) (fun y => dx_W (tb_Z L xs) d 24 170 lv (.long y :: st) σ Q) := r_lload_n (k := 3) (hz_24.trans rfl)
theorem w_24_170 : dx_W (tb_Z L xs) d 24 170 lv st σ Q ↔ dx_W (tb_Z L xs) d 24 171 lv (.long 0 :: st) σ Q := r_lconst (n := 0) (hz_24.trans rfl)
theorem w_24_171 {x y : Int64} : dx_W (tb_Z L xs) d 24 171 lv (.long y :: .long x :: st) σ Q ↔ dx_W (tb_Z L xs) d 24 172 lv (.int (lg_cmp x y) :: st) σ Q := r_lcmp (hz_24.trans rfl)
theorem w_24_172 {x : Int32} : dx_W (tb_Z L xs) d 24 172 lv (.int x :: st) σ Q ↔ (if 0 ≤ x then dx_W (tb_Z L xs) d 24 184 lv st σ Q else dx_W (tb_Z L xs) d 24 175 lv st σ Q) := r_if_ge (off := 12) (t := 184) (hz_24.trans rfl) (by decide)
theorem w_24_175 : dx_W (tb_Z L xs) d 24 175 lv st σ Q ↔ wR (dx_lk lv 0) (fun y => dx_W (tb_Z L xs) d 24 176 lv (y :: st) σ Q) := r_aload_n (k := 0) (hz_24.trans rfl)
theorem w_24_176 {w : Value} : dx_W (tb_Z L xs) d 24 176 lv (w :: st) σ Q ↔ wO (dx_gf (tb_K L xs) σ w 3 0) (fun y => dx_W (tb_Z L xs) d 24 179 lv (y :: st) σ Q) := r_getfield (hz_24.trans rfl)
theorem w_24_179 : dx_W (tb_Z L xs) d 24 179 lv st σ Q ↔ wI (dx_lk lv 8) (fun y => dx_W (tb_Z L xs) d 24 181 lv (.int y :: st) σ Q) := r_iload (k := 8) (hz_24.trans rfl)
theorem w_24_181 : dx_W (tb_Z L xs) d 24 181 lv st σ Q ↔ dx_W (tb_Z L xs) d 24 183 lv (.int 45 :: st) σ Q := r_bipush (n := 45) (hz_24.trans rfl)
theorem w_24_183 {w : Value} {y : Int32} {u : Int32} : dx_W (tb_Z L xs) d 24 183 lv (.int u :: .int y :: w :: st) σ Q ↔ wO (dx_pi σ 2 w y (vp_nar .char u)) (fun σ1 => dx_W (tb_Z L xs) d 24 184 lv st σ1 Q) := r_castore (hz_24.trans rfl)
theorem w_24_184 : dx_W (tb_Z L xs) d 24 184 lv st σ Q ↔ wR (dx_lk lv 0) (fun y => dx_W (tb_Z L xs) d 24 185 lv (y :: st) σ Q) := r_aload_n (k := 0) (hz_24.trans rfl)
theorem w_24_185 : dx_W (tb_Z L xs) d 24 185 lv st σ Q ↔ wI (dx_lk lv 7) (fun y => dx_W (tb_Z L xs) d 24 187 lv (.int y :: st) σ Q) := r_iload (k := 7) (hz_24.trans rfl)
theorem w_24_187 {u w : Value} : dx_W (tb_Z L xs) d 24 187 lv (u :: w :: st) σ Q ↔ wO (dx_pf σ w 3 1 0 u) (fun σ1 => dx_W (tb_Z L xs) d 24 190 lv st σ1 Q) := r_putfield (f := 0) (hz_24.trans rfl)
theorem w_24_190 : dx_W (tb_Z L xs) d 24 190 lv [] σ Q ↔ Q (.inl none) σ := r_return (hz_24.trans rfl) rfl
theorem hz_25 {pc : Nat} : (tb_Z L xs).1 25 pc = dx_at tb_m25 pc := rfl
theorem w_25_0 : dx_W (tb_Z L xs) d 25 0 lv st σ Q ↔ dx_W (tb_Z L xs) d 25 1 lv (.int 1 :: st) σ Q := r_iconst (n := 1) (hz_25.trans rfl)
theorem w_25_1 {x : Int32} : dx_W (tb_Z L xs) d 25 1 lv (.int x :: st) σ Q ↔ dx_W (tb_Z L xs) d 25 2 (dx_s1 lv 2 (.int x)) st σ Q := r_istore_n (k := 2) (hz_25.trans rfl) (show 2 < tb_l 25 by decide)
theorem w_25_2 : dx_W (tb_Z L xs) d 25 2 lv st σ Q ↔ wI (dx_lk lv 2) (fun y => dx_W (tb_Z L xs) d 25 3 lv (.int y :: st) σ Q) := r_iload_n (k := 2) (hz_25.trans rfl)
theorem w_25_3 : dx_W (tb_Z L xs) d 25 3 lv st σ Q ↔ dx_W (tb_Z L xs) d 25 5 lv (.int 9 :: st) σ Q := r_bipush (n := 9) (hz_25.trans rfl)
theorem w_25_5 {x y : Int32} : dx_W (tb_Z L xs) d 25 5 lv (.int y :: .int x :: st) σ Q ↔ (if y ≤ x then dx_W (tb_Z L xs) d 25 24 lv st σ Q else dx_W (tb_Z L xs) d 25 8 lv st σ Q) := r_ic_ge (off := 19) (t := 24) (hz_25.trans rfl) (by decide)
theorem w_25_8 : dx_W (tb_Z L xs) d 25 8 lv st σ Q ↔ wJ (dx_lk lv 0) (fun y => dx_W (tb_Z L xs) d 25 9 lv (.long y :: st) σ Q) := r_lload_n (k := 0) (hz_25.trans rfl)
theorem w_25_9 : dx_W (tb_Z L xs) d 25 9 lv st σ Q ↔ dx_W (tb_Z L xs) d 25 12 lv (.retAddr 0 :: st) σ Q := r_getstatic (hz_25.trans rfl)
theorem w_25_12 : dx_W (tb_Z L xs) d 25 12 lv st σ Q ↔ wI (dx_lk lv 2) (fun y => dx_W (tb_Z L xs) d 25 13 lv (.int y :: st) σ Q) := r_iload_n (k := 2) (hz_25.trans rfl)
theorem w_25_13 {w : Value} {y : Int32} : dx_W (tb_Z L xs) d 25 13 lv (.int y :: w :: st) σ Q ↔ wO (dx_el (tb_K L xs) σ w y) (fun u => dx_W (tb_Z L xs) d 25 14 lv (.long u :: st) σ Q) := r_laload (hz_25.trans rfl)
theorem w_25_14 {x y : Int64} : dx_W (tb_Z L xs) d 25 14 lv (.long y :: .long x :: st) σ Q ↔ dx_W (tb_Z L xs) d 25 15 lv (.int (lg_cmp x y) :: st) σ Q := r_lcmp (hz_25.trans rfl)
theorem w_25_15 {x : Int32} : dx_W (tb_Z L xs) d 25 15 lv (.int x :: st) σ Q ↔ (if x < 0 then dx_W (tb_Z L xs) d 25 24 lv st σ Q else dx_W (tb_Z L xs) d 25 18 lv st σ Q) := r_if_lt (off := 9) (t := 24) (hz_25.trans rfl) (by decide)
theorem w_25_18 : dx_W (tb_Z L xs) d 25 18 lv st σ Q ↔ wI (dx_lk lv 2) (fun y => dx_W (tb_Z L xs) d 25 21 (dx_s1 lv 2 (.int (y + 1))) st σ Q) := r_iincv (k := 2) (n := 1) (hz_25.trans rfl) (show 2 < tb_l 25 by decide) (by decide)
theorem w_25_21 : dx_W (tb_Z L xs) d 25 21 lv st σ Q ↔ dx_W (tb_Z L xs) d 25 2 lv st σ Q := r_goto (off := (-19)) (t := 2) (hz_25.trans rfl) (by decide)
theorem w_25_24 : dx_W (tb_Z L xs) d 25 24 lv st σ Q ↔ wI (dx_lk lv 2) (fun y => dx_W (tb_Z L xs) d 25 25 lv (.int y :: st) σ Q) := r_iload_n (k := 2) (hz_25.trans rfl)
theorem w_25_25 {x : Int32} : dx_W (tb_Z L xs) d 25 25 lv [.int x] σ Q ↔ Q (.inl (some (.int x))) σ := r_ireturn (hz_25.trans rfl) rfl rfl
end W3
/-! Printed by program: the rules of every instruction of DecimalRun$Code. -/
section W4
variable {L : Nat} {xs : Nat → Int32} {d : Nat} {lv : dx_L} {st : List Value} {σ : dx_S} {Q : dx_O → dx_S → Prop}
theorem hz_26 {pc : Nat} : (tb_Z L xs).1 26 pc = dx_at tb_m26 pc := rfl
theorem w_26_0 : dx_W (tb_Z L xs) d 26 0 lv st σ Q ↔ wR (dx_lk lv 0) (fun y => dx_W (tb_Z L xs) d 26 1 lv (y :: st) σ Q) := r_aload_n (k := 0) (hz_26.trans rfl)
theorem w_26_1 {w : Nat} (hc : dx_ct st ≤ 8) : dx_W (tb_Z L xs) d 26 1 lv (.ref w :: st) σ Q ↔ dx_W (tb_Z L xs) d 26 4 lv st σ Q := r_objinit (hz_26.trans rfl) hc
theorem w_26_4 : dx_W (tb_Z L xs) d 26 4 lv st σ Q ↔ wR (dx_lk lv 0) (fun y => dx_W (tb_Z L xs) d 26 5 lv (y :: st) σ Q) := r_aload_n (k := 0) (hz_26.trans rfl)
theorem w_26_5 : dx_W (tb_Z L xs) d 26 5 lv st σ Q ↔ dx_W (tb_Z L xs) d 26 8 lv (.int 600 :: st) σ Q := r_sipush (n := 600) (hz_26.trans rfl)
theorem w_26_8 {n : Int32} {y : dx_E} (hn : ¬ (n < 0 ∨ 1000000 < n.toNatClampNeg)) (hy : dx_na .int n.toNatClampNeg = some y) : dx_W (tb_Z L xs) d 26 8 lv (.int n :: st) σ Q ↔ dx_W (tb_Z L xs) d 26 10 lv (.ref σ.length :: st) (σ ++ [y]) Q := r_newarray (hz_26.trans rfl) hn hy
theorem w_26_10 {u w : Value} : dx_W (tb_Z L xs) d 26 10 lv (u :: w :: st) σ Q ↔ wO (dx_pf σ w 4 0 3 u) (fun σ1 => dx_W (tb_Z L xs) d 26 13 lv st σ1 Q) := r_putfield (f := 3) (hz_26.trans rfl)
theorem w_26_13 : dx_W (tb_Z L xs) d 26 13 lv st σ Q ↔ wR (dx_lk lv 0) (fun y => dx_W (tb_Z L xs) d 26 14 lv (y :: st) σ Q) := r_aload_n (k := 0) (hz_26.trans rfl)
theorem w_26_14 : dx_W (tb_Z L xs) d 26 14 lv st σ Q ↔ dx_W (tb_Z L xs) d 26 17 lv (.int 600 :: st) σ Q := r_sipush (n := 600) (hz_26.trans rfl)
theorem w_26_17 {n : Int32} {y : dx_E} (hn : ¬ (n < 0 ∨ 1000000 < n.toNatClampNeg)) (hy : dx_na .long n.toNatClampNeg = some y) : dx_W (tb_Z L xs) d 26 17 lv (.int n :: st) σ Q ↔ dx_W (tb_Z L xs) d 26 19 lv (.ref σ.length :: st) (σ ++ [y]) Q := r_newarray (hz_26.trans rfl) hn hy
theorem w_26_19 {u w : Value} : dx_W (tb_Z L xs) d 26 19 lv (u :: w :: st) σ Q ↔ wO (dx_pf σ w 4 1 3 u) (fun σ1 => dx_W (tb_Z L xs) d 26 22 lv st σ1 Q) := r_putfield (f := 3) (hz_26.trans rfl)
theorem w_26_22 : dx_W (tb_Z L xs) d 26 22 lv st σ Q ↔ wR (dx_lk lv 0) (fun y => dx_W (tb_Z L xs) d 26 23 lv (y :: st) σ Q) := r_aload_n (k := 0) (hz_26.trans rfl)
theorem w_26_23 : dx_W (tb_Z L xs) d 26 23 lv st σ Q ↔ dx_W (tb_Z L xs) d 26 25 lv (.int 26 :: st) σ Q := r_bipush (n := 26) (hz_26.trans rfl)
theorem w_26_25 {n : Int32} {y : dx_E} (hn : ¬ (n < 0 ∨ 1000000 < n.toNatClampNeg)) (hy : dx_na .int n.toNatClampNeg = some y) : dx_W (tb_Z L xs) d 26 25 lv (.int n :: st) σ Q ↔ dx_W (tb_Z L xs) d 26 27 lv (.ref σ.length :: st) (σ ++ [y]) Q := r_newarray (hz_26.trans rfl) hn hy
theorem w_26_27 {u w : Value} : dx_W (tb_Z L xs) d 26 27 lv (u :: w :: st) σ Q ↔ wO (dx_pf σ w 4 2 3 u) (fun σ1 => dx_W (tb_Z L xs) d 26 30 lv st σ1 Q) := r_putfield (f := 3) (hz_26.trans rfl)
theorem w_26_30 : dx_W (tb_Z L xs) d 26 30 lv st σ Q ↔ wR (dx_lk lv 0) (fun y => dx_W (tb_Z L xs) d 26 31 lv (y :: st) σ Q) := r_aload_n (k := 0) (hz_26.trans rfl)
theorem w_26_31 : dx_W (tb_Z L xs) d 26 31 lv st σ Q ↔ dx_W (tb_Z L xs) d 26 33 lv (.int 26 :: st) σ Q := r_bipush (n := 26) (hz_26.trans rfl)
theorem w_26_33 {n : Int32} {y : dx_E} (hn : ¬ (n < 0 ∨ 1000000 < n.toNatClampNeg)) (hy : dx_na .int n.toNatClampNeg = some y) : dx_W (tb_Z L xs) d 26 33 lv (.int n :: st) σ Q ↔ dx_W (tb_Z L xs) d 26 35 lv (.ref σ.length :: st) (σ ++ [y]) Q := r_newarray (hz_26.trans rfl) hn hy
theorem w_26_35 {u w : Value} : dx_W (tb_Z L xs) d 26 35 lv (u :: w :: st) σ Q ↔ wO (dx_pf σ w 4 3 3 u) (fun σ1 => dx_W (tb_Z L xs) d 26 38 lv st σ1 Q) := r_putfield (f := 3) (hz_26.trans rfl)
theorem w_26_38 : dx_W (tb_Z L xs) d 26 38 lv [] σ Q ↔ Q (.inl none) σ := r_return (hz_26.trans rfl) rfl
theorem hz_27 {pc : Nat} : (tb_Z L xs).1 27 pc = dx_at tb_m27 pc := rfl
theorem w_27_0 : dx_W (tb_Z L xs) d 27 0 lv st σ Q ↔ wR (dx_lk lv 0) (fun y => dx_W (tb_Z L xs) d 27 1 lv (y :: st) σ Q) := r_aload_n (k := 0) (hz_27.trans rfl)
theorem w_27_1 : dx_W (tb_Z L xs) d 27 1 lv st σ Q ↔ dx_W (tb_Z L xs) d 27 2 lv (.int 0 :: st) σ Q := r_iconst (n := 0) (hz_27.trans rfl)
theorem w_27_2 {u w : Value} : dx_W (tb_Z L xs) d 27 2 lv (u :: w :: st) σ Q ↔ wO (dx_pf σ w 4 4 0 u) (fun σ1 => dx_W (tb_Z L xs) d 27 5 lv st σ1 Q) := r_putfield (f := 0) (hz_27.trans rfl)
theorem w_27_5 : dx_W (tb_Z L xs) d 27 5 lv st σ Q ↔ wR (dx_lk lv 0) (fun y => dx_W (tb_Z L xs) d 27 6 lv (y :: st) σ Q) := r_aload_n (k := 0) (hz_27.trans rfl)
theorem w_27_6 {w : Value} : dx_W (tb_Z L xs) d 27 6 lv (w :: st) σ Q ↔ wO (dx_gf (tb_K L xs) σ w 4 2) (fun y => dx_W (tb_Z L xs) d 27 9 lv (y :: st) σ Q) := r_getfield (hz_27.trans rfl)
theorem w_27_9 : dx_W (tb_Z L xs) d 27 9 lv st σ Q ↔ dx_W (tb_Z L xs) d 27 10 lv (.int (-1) :: st) σ Q := r_iconst (n := (-1)) (hz_27.trans rfl)
theorem w_27_10 {v0 v1 : Value} (hc : dx_ct st ≤ 8) : dx_W (tb_Z L xs) d 27 10 lv (v1 :: v0 :: st) σ Q ↔ dx_M (tb_Z L xs) d 150 [v0, v1] σ (wK (tb_Z L xs) d 27 13 lv st Q) := r_call (av := [v0, v1]) (hz_27.trans rfl) rfl hc rfl
theorem w_27_13 : dx_W (tb_Z L xs) d 27 13 lv [] σ Q ↔ Q (.inl none) σ := r_return (hz_27.trans rfl) rfl
theorem hz_28 {pc : Nat} : (tb_Z L xs).1 28 pc = dx_at tb_m28 pc := rfl
theorem w_28_0 : dx_W (tb_Z L xs) d 28 0 lv st σ Q ↔ wR (dx_lk lv 0) (fun y => dx_W (tb_Z L xs) d 28 1 lv (y :: st) σ Q) := r_aload_n (k := 0) (hz_28.trans rfl)
theorem w_28_1 {w : Value} : dx_W (tb_Z L xs) d 28 1 lv (w :: st) σ Q ↔ wO (dx_gf (tb_K L xs) σ w 4 2) (fun y => dx_W (tb_Z L xs) d 28 4 lv (y :: st) σ Q) := r_getfield (hz_28.trans rfl)
theorem w_28_4 : dx_W (tb_Z L xs) d 28 4 lv st σ Q ↔ wI (dx_lk lv 1) (fun y => dx_W (tb_Z L xs) d 28 5 lv (.int y :: st) σ Q) := r_iload_n (k := 1) (hz_28.trans rfl)
theorem w_28_5 {w : Value} {y : Int32} : dx_W (tb_Z L xs) d 28 5 lv (.int y :: w :: st) σ Q ↔ wO (dx_ei (tb_K L xs) σ 0 w y) (fun u => dx_W (tb_Z L xs) d 28 6 lv (.int u :: st) σ Q) := r_iaload (hz_28.trans rfl)
theorem w_28_6 : dx_W (tb_Z L xs) d 28 6 lv st σ Q ↔ dx_W (tb_Z L xs) d 28 7 lv (.int (-1) :: st) σ Q := r_iconst (n := (-1)) (hz_28.trans rfl)
theorem w_28_7 {x y : Int32} : dx_W (tb_Z L xs) d 28 7 lv (.int y :: .int x :: st) σ Q ↔ (if x = y then dx_W (tb_Z L xs) d 28 14 lv st σ Q else dx_W (tb_Z L xs) d 28 10 lv st σ Q) := r_ic_eq (off := 7) (t := 14) (hz_28.trans rfl) (by decide)
theorem w_28_10 : dx_W (tb_Z L xs) d 28 10 lv st σ Q ↔ dx_W (tb_Z L xs) d 28 11 lv (.int 1 :: st) σ Q := r_iconst (n := 1) (hz_28.trans rfl)
theorem w_28_11 : dx_W (tb_Z L xs) d 28 11 lv st σ Q ↔ dx_W (tb_Z L xs) d 28 15 lv st σ Q := r_goto (off := 4) (t := 15) (hz_28.trans rfl) (by decide)
theorem w_28_14 : dx_W (tb_Z L xs) d 28 14 lv st σ Q ↔ dx_W (tb_Z L xs) d 28 15 lv (.int 0 :: st) σ Q := r_iconst (n := 0) (hz_28.trans rfl)
theorem w_28_15 {x : Int32} (hn : narrow .boolean (.int x) = .int x) : dx_W (tb_Z L xs) d 28 15 lv [.int x] σ Q ↔ Q (.inl (some (.int x))) σ := r_ireturn (hz_28.trans rfl) rfl hn
theorem hz_29 {pc : Nat} : (tb_Z L xs).1 29 pc = dx_at tb_m29 pc := rfl
theorem w_29_0 : dx_W (tb_Z L xs) d 29 0 lv st σ Q ↔ wR (dx_lk lv 0) (fun y => dx_W (tb_Z L xs) d 29 1 lv (y :: st) σ Q) := r_aload_n (k := 0) (hz_29.trans rfl)
theorem w_29_1 {w : Value} : dx_W (tb_Z L xs) d 29 1 lv (w :: st) σ Q ↔ wO (dx_gf (tb_K L xs) σ w 4 4) (fun y => dx_W (tb_Z L xs) d 29 4 lv (y :: st) σ Q) := r_getfield (hz_29.trans rfl)
theorem w_29_4 : dx_W (tb_Z L xs) d 29 4 lv st σ Q ↔ dx_W (tb_Z L xs) d 29 7 lv (.int 600 :: st) σ Q := r_sipush (n := 600) (hz_29.trans rfl)
theorem w_29_7 {x y : Int32} : dx_W (tb_Z L xs) d 29 7 lv (.int y :: .int x :: st) σ Q ↔ (if y ≤ x then dx_W (tb_Z L xs) d 29 40 lv st σ Q else dx_W (tb_Z L xs) d 29 10 lv st σ Q) := r_ic_ge (off := 33) (t := 40) (hz_29.trans rfl) (by decide)
theorem w_29_10 : dx_W (tb_Z L xs) d 29 10 lv st σ Q ↔ wR (dx_lk lv 0) (fun y => dx_W (tb_Z L xs) d 29 11 lv (y :: st) σ Q) := r_aload_n (k := 0) (hz_29.trans rfl)
theorem w_29_11 {w : Value} : dx_W (tb_Z L xs) d 29 11 lv (w :: st) σ Q ↔ wO (dx_gf (tb_K L xs) σ w 4 0) (fun y => dx_W (tb_Z L xs) d 29 14 lv (y :: st) σ Q) := r_getfield (hz_29.trans rfl)
theorem w_29_14 : dx_W (tb_Z L xs) d 29 14 lv st σ Q ↔ wR (dx_lk lv 0) (fun y => dx_W (tb_Z L xs) d 29 15 lv (y :: st) σ Q) := r_aload_n (k := 0) (hz_29.trans rfl)
theorem w_29_15 {w : Value} : dx_W (tb_Z L xs) d 29 15 lv (w :: st) σ Q ↔ wO (dx_gf (tb_K L xs) σ w 4 4) (fun y => dx_W (tb_Z L xs) d 29 18 lv (y :: st) σ Q) := r_getfield (hz_29.trans rfl)
theorem w_29_18 : dx_W (tb_Z L xs) d 29 18 lv st σ Q ↔ wI (dx_lk lv 1) (fun y => dx_W (tb_Z L xs) d 29 19 lv (.int y :: st) σ Q) := r_iload_n (k := 1) (hz_29.trans rfl)
theorem w_29_19 {w : Value} {y : Int32} {u : Int32} : dx_W (tb_Z L xs) d 29 19 lv (.int u :: .int y :: w :: st) σ Q ↔ wO (dx_pi σ 0 w y u) (fun σ1 => dx_W (tb_Z L xs) d 29 20 lv st σ1 Q) := r_iastore (hz_29.trans rfl)
theorem w_29_20 : dx_W (tb_Z L xs) d 29 20 lv st σ Q ↔ wR (dx_lk lv 0) (fun y => dx_W (tb_Z L xs) d 29 21 lv (y :: st) σ Q) := r_aload_n (k := 0) (hz_29.trans rfl)
theorem w_29_21 {w : Value} : dx_W (tb_Z L xs) d 29 21 lv (w :: st) σ Q ↔ wO (dx_gf (tb_K L xs) σ w 4 1) (fun y => dx_W (tb_Z L xs) d 29 24 lv (y :: st) σ Q) := r_getfield (hz_29.trans rfl)
theorem w_29_24 : dx_W (tb_Z L xs) d 29 24 lv st σ Q ↔ wR (dx_lk lv 0) (fun y => dx_W (tb_Z L xs) d 29 25 lv (y :: st) σ Q) := r_aload_n (k := 0) (hz_29.trans rfl)
theorem w_29_25 {w : Value} : dx_W (tb_Z L xs) d 29 25 lv (w :: st) σ Q ↔ wO (dx_gf (tb_K L xs) σ w 4 4) (fun y => dx_W (tb_Z L xs) d 29 28 lv (y :: st) σ Q) := r_getfield (hz_29.trans rfl)
theorem w_29_28 : dx_W (tb_Z L xs) d 29 28 lv st σ Q ↔ wJ (dx_lk lv 2) (fun y => dx_W (tb_Z L xs) d 29 29 lv (.long y :: st) σ Q) := r_lload_n (k := 2) (hz_29.trans rfl)
theorem w_29_29 {w : Value} {y : Int32} {u : Int64} : dx_W (tb_Z L xs) d 29 29 lv (.long u :: .int y :: w :: st) σ Q ↔ wO (dx_pl σ w y u) (fun σ1 => dx_W (tb_Z L xs) d 29 30 lv st σ1 Q) := r_lastore (hz_29.trans rfl)
theorem w_29_30 : dx_W (tb_Z L xs) d 29 30 lv st σ Q ↔ wR (dx_lk lv 0) (fun y => dx_W (tb_Z L xs) d 29 31 lv (y :: st) σ Q) := r_aload_n (k := 0) (hz_29.trans rfl)
theorem w_29_31_int {x : Int32} : dx_W (tb_Z L xs) d 29 31 lv (.int x :: st) σ Q ↔ dx_W (tb_Z L xs) d 29 32 lv (.int x :: .int x :: st) σ Q := r_dup_int (hz_29.trans rfl)
theorem w_29_31_ref {x : Nat} : dx_W (tb_Z L xs) d 29 31 lv (.ref x :: st) σ Q ↔ dx_W (tb_Z L xs) d 29 32 lv (.ref x :: .ref x :: st) σ Q := r_dup_ref (hz_29.trans rfl)
theorem w_29_31_retAddr {x : Nat} : dx_W (tb_Z L xs) d 29 31 lv (.retAddr x :: st) σ Q ↔ dx_W (tb_Z L xs) d 29 32 lv (.retAddr x :: .retAddr x :: st) σ Q := r_dup_retAddr (hz_29.trans rfl)
theorem w_29_32 {w : Value} : dx_W (tb_Z L xs) d 29 32 lv (w :: st) σ Q ↔ wO (dx_gf (tb_K L xs) σ w 4 4) (fun y => dx_W (tb_Z L xs) d 29 35 lv (y :: st) σ Q) := r_getfield (hz_29.trans rfl)
theorem w_29_35 : dx_W (tb_Z L xs) d 29 35 lv st σ Q ↔ dx_W (tb_Z L xs) d 29 36 lv (.int 1 :: st) σ Q := r_iconst (n := 1) (hz_29.trans rfl)
theorem w_29_36 {x y : Int32} : dx_W (tb_Z L xs) d 29 36 lv (.int y :: .int x :: st) σ Q ↔ dx_W (tb_Z L xs) d 29 37 lv (.int (x + y) :: st) σ Q := r_iadd (hz_29.trans rfl)
theorem w_29_37 {u w : Value} : dx_W (tb_Z L xs) d 29 37 lv (u :: w :: st) σ Q ↔ wO (dx_pf σ w 4 4 0 u) (fun σ1 => dx_W (tb_Z L xs) d 29 40 lv st σ1 Q) := r_putfield (f := 0) (hz_29.trans rfl)
theorem w_29_40 : dx_W (tb_Z L xs) d 29 40 lv st σ Q ↔ wR (dx_lk lv 0) (fun y => dx_W (tb_Z L xs) d 29 41 lv (y :: st) σ Q) := r_aload_n (k := 0) (hz_29.trans rfl)
theorem w_29_41 {w : Value} : dx_W (tb_Z L xs) d 29 41 lv (w :: st) σ Q ↔ wO (dx_gf (tb_K L xs) σ w 4 4) (fun y => dx_W (tb_Z L xs) d 29 44 lv (y :: st) σ Q) := r_getfield (hz_29.trans rfl)
theorem w_29_44 : dx_W (tb_Z L xs) d 29 44 lv st σ Q ↔ dx_W (tb_Z L xs) d 29 45 lv (.int 1 :: st) σ Q := r_iconst (n := 1) (hz_29.trans rfl)
theorem w_29_45 {x y : Int32} : dx_W (tb_Z L xs) d 29 45 lv (.int y :: .int x :: st) σ Q ↔ dx_W (tb_Z L xs) d 29 46 lv (.int (x - y) :: st) σ Q := r_isub (hz_29.trans rfl)
theorem w_29_46 {x : Int32} : dx_W (tb_Z L xs) d 29 46 lv [.int x] σ Q ↔ Q (.inl (some (.int x))) σ := r_ireturn (hz_29.trans rfl) rfl rfl
theorem hz_30 {pc : Nat} : (tb_Z L xs).1 30 pc = dx_at tb_m30 pc := rfl
theorem w_30_0 : dx_W (tb_Z L xs) d 30 0 lv st σ Q ↔ wR (dx_lk lv 0) (fun y => dx_W (tb_Z L xs) d 30 1 lv (y :: st) σ Q) := r_aload_n (k := 0) (hz_30.trans rfl)
theorem w_30_1 {w : Value} : dx_W (tb_Z L xs) d 30 1 lv (w :: st) σ Q ↔ wO (dx_gf (tb_K L xs) σ w 4 2) (fun y => dx_W (tb_Z L xs) d 30 4 lv (y :: st) σ Q) := r_getfield (hz_30.trans rfl)
theorem w_30_4 : dx_W (tb_Z L xs) d 30 4 lv st σ Q ↔ wI (dx_lk lv 1) (fun y => dx_W (tb_Z L xs) d 30 5 lv (.int y :: st) σ Q) := r_iload_n (k := 1) (hz_30.trans rfl)
theorem w_30_5 : dx_W (tb_Z L xs) d 30 5 lv st σ Q ↔ wR (dx_lk lv 0) (fun y => dx_W (tb_Z L xs) d 30 6 lv (y :: st) σ Q) := r_aload_n (k := 0) (hz_30.trans rfl)
theorem w_30_6 {w : Value} : dx_W (tb_Z L xs) d 30 6 lv (w :: st) σ Q ↔ wO (dx_gf (tb_K L xs) σ w 4 4) (fun y => dx_W (tb_Z L xs) d 30 9 lv (y :: st) σ Q) := r_getfield (hz_30.trans rfl)
theorem w_30_9 {w : Value} {y : Int32} {u : Int32} : dx_W (tb_Z L xs) d 30 9 lv (.int u :: .int y :: w :: st) σ Q ↔ wO (dx_pi σ 0 w y u) (fun σ1 => dx_W (tb_Z L xs) d 30 10 lv st σ1 Q) := r_iastore (hz_30.trans rfl)
theorem w_30_10 : dx_W (tb_Z L xs) d 30 10 lv st σ Q ↔ wR (dx_lk lv 0) (fun y => dx_W (tb_Z L xs) d 30 11 lv (y :: st) σ Q) := r_aload_n (k := 0) (hz_30.trans rfl)
theorem w_30_11 {w : Value} : dx_W (tb_Z L xs) d 30 11 lv (w :: st) σ Q ↔ wO (dx_gf (tb_K L xs) σ w 4 3) (fun y => dx_W (tb_Z L xs) d 30 14 lv (y :: st) σ Q) := r_getfield (hz_30.trans rfl)
theorem w_30_14 : dx_W (tb_Z L xs) d 30 14 lv st σ Q ↔ wI (dx_lk lv 1) (fun y => dx_W (tb_Z L xs) d 30 15 lv (.int y :: st) σ Q) := r_iload_n (k := 1) (hz_30.trans rfl)
theorem w_30_15 : dx_W (tb_Z L xs) d 30 15 lv st σ Q ↔ wI (dx_lk lv 2) (fun y => dx_W (tb_Z L xs) d 30 16 lv (.int y :: st) σ Q) := r_iload_n (k := 2) (hz_30.trans rfl)
theorem w_30_16 {w : Value} {y : Int32} {u : Int32} : dx_W (tb_Z L xs) d 30 16 lv (.int u :: .int y :: w :: st) σ Q ↔ wO (dx_pi σ 0 w y u) (fun σ1 => dx_W (tb_Z L xs) d 30 17 lv st σ1 Q) := r_iastore (hz_30.trans rfl)
theorem w_30_17 : dx_W (tb_Z L xs) d 30 17 lv [] σ Q ↔ Q (.inl none) σ := r_return (hz_30.trans rfl) rfl
theorem hz_31 {pc : Nat} : (tb_Z L xs).1 31 pc = dx_at tb_m31 pc := rfl
theorem w_31_0 : dx_W (tb_Z L xs) d 31 0 lv st σ Q ↔ wI (dx_lk lv 1) (fun y => dx_W (tb_Z L xs) d 31 1 lv (.int y :: st) σ Q) := r_iload_n (k := 1) (hz_31.trans rfl)
theorem w_31_1 {x : Int32} : dx_W (tb_Z L xs) d 31 1 lv (.int x :: st) σ Q ↔ (if x < 0 then dx_W (tb_Z L xs) d 31 23 lv st σ Q else dx_W (tb_Z L xs) d 31 4 lv st σ Q) := r_if_lt (off := 22) (t := 23) (hz_31.trans rfl) (by decide)
theorem w_31_4 : dx_W (tb_Z L xs) d 31 4 lv st σ Q ↔ wI (dx_lk lv 1) (fun y => dx_W (tb_Z L xs) d 31 5 lv (.int y :: st) σ Q) := r_iload_n (k := 1) (hz_31.trans rfl)
theorem w_31_5 : dx_W (tb_Z L xs) d 31 5 lv st σ Q ↔ wR (dx_lk lv 0) (fun y => dx_W (tb_Z L xs) d 31 6 lv (y :: st) σ Q) := r_aload_n (k := 0) (hz_31.trans rfl)
theorem w_31_6 {w : Value} : dx_W (tb_Z L xs) d 31 6 lv (w :: st) σ Q ↔ wO (dx_gf (tb_K L xs) σ w 4 4) (fun y => dx_W (tb_Z L xs) d 31 9 lv (y :: st) σ Q) := r_getfield (hz_31.trans rfl)
theorem w_31_9 {x y : Int32} : dx_W (tb_Z L xs) d 31 9 lv (.int y :: .int x :: st) σ Q ↔ (if y ≤ x then dx_W (tb_Z L xs) d 31 23 lv st σ Q else dx_W (tb_Z L xs) d 31 12 lv st σ Q) := r_ic_ge (off := 14) (t := 23) (hz_31.trans rfl) (by decide)
theorem w_31_12 : dx_W (tb_Z L xs) d 31 12 lv st σ Q ↔ wR (dx_lk lv 0) (fun y => dx_W (tb_Z L xs) d 31 13 lv (y :: st) σ Q) := r_aload_n (k := 0) (hz_31.trans rfl)
theorem w_31_13 {w : Value} : dx_W (tb_Z L xs) d 31 13 lv (w :: st) σ Q ↔ wO (dx_gf (tb_K L xs) σ w 4 1) (fun y => dx_W (tb_Z L xs) d 31 16 lv (y :: st) σ Q) := r_getfield (hz_31.trans rfl)
theorem w_31_16 : dx_W (tb_Z L xs) d 31 16 lv st σ Q ↔ wI (dx_lk lv 1) (fun y => dx_W (tb_Z L xs) d 31 17 lv (.int y :: st) σ Q) := r_iload_n (k := 1) (hz_31.trans rfl)
theorem w_31_17 : dx_W (tb_Z L xs) d 31 17 lv st σ Q ↔ wR (dx_lk lv 0) (fun y => dx_W (tb_Z L xs) d 31 18 lv (y :: st) σ Q) := r_aload_n (k := 0) (hz_31.trans rfl)
theorem w_31_18 {w : Value} : dx_W (tb_Z L xs) d 31 18 lv (w :: st) σ Q ↔ wO (dx_gf (tb_K L xs) σ w 4 4) (fun y => dx_W (tb_Z L xs) d 31 21 lv (y :: st) σ Q) := r_getfield (hz_31.trans rfl)
theorem w_31_21 {x : Int32} : dx_W (tb_Z L xs) d 31 21 lv (.int x :: st) σ Q ↔ dx_W (tb_Z L xs) d 31 22 lv (.long x.toInt64 :: st) σ Q := r_i2l (hz_31.trans rfl)
theorem w_31_22 {w : Value} {y : Int32} {u : Int64} : dx_W (tb_Z L xs) d 31 22 lv (.long u :: .int y :: w :: st) σ Q ↔ wO (dx_pl σ w y u) (fun σ1 => dx_W (tb_Z L xs) d 31 23 lv st σ1 Q) := r_lastore (hz_31.trans rfl)
theorem w_31_23 : dx_W (tb_Z L xs) d 31 23 lv [] σ Q ↔ Q (.inl none) σ := r_return (hz_31.trans rfl) rfl
end W4
/-! Printed by program: the rules of every instruction of DecimalRun. -/
section W0
variable {L : Nat} {xs : Nat → Int32} {d : Nat} {lv : dx_L} {st : List Value} {σ : dx_S} {Q : dx_O → dx_S → Prop}
theorem hz_0 {pc : Nat} : (tb_Z L xs).1 0 pc = dx_at tb_m0 pc := rfl
theorem w_0_0 : dx_W (tb_Z L xs) d 0 0 lv st σ Q ↔ wR (dx_lk lv 0) (fun y => dx_W (tb_Z L xs) d 0 1 lv (y :: st) σ Q) := r_aload_n (k := 0) (hz_0.trans rfl)
theorem w_0_1 {w : Nat} (hc : dx_ct st ≤ 8) : dx_W (tb_Z L xs) d 0 1 lv (.ref w :: st) σ Q ↔ dx_W (tb_Z L xs) d 0 4 lv st σ Q := r_objinit (hz_0.trans rfl) hc
theorem w_0_4 : dx_W (tb_Z L xs) d 0 4 lv st σ Q ↔ wR (dx_lk lv 0) (fun y => dx_W (tb_Z L xs) d 0 5 lv (y :: st) σ Q) := r_aload_n (k := 0) (hz_0.trans rfl)
theorem w_0_5 : dx_W (tb_Z L xs) d 0 5 lv st σ Q ↔ dx_W (tb_Z L xs) d 0 8 lv (.ref σ.length :: st) (σ ++ [.inr (1, tb_d 1)]) Q := r_new (hz_0.trans rfl)
theorem w_0_8_int {x : Int32} : dx_W (tb_Z L xs) d 0 8 lv (.int x :: st) σ Q ↔ dx_W (tb_Z L xs) d 0 9 lv (.int x :: .int x :: st) σ Q := r_dup_int (hz_0.trans rfl)
theorem w_0_8_ref {x : Nat} : dx_W (tb_Z L xs) d 0 8 lv (.ref x :: st) σ Q ↔ dx_W (tb_Z L xs) d 0 9 lv (.ref x :: .ref x :: st) σ Q := r_dup_ref (hz_0.trans rfl)
theorem w_0_8_retAddr {x : Nat} : dx_W (tb_Z L xs) d 0 8 lv (.retAddr x :: st) σ Q ↔ dx_W (tb_Z L xs) d 0 9 lv (.retAddr x :: .retAddr x :: st) σ Q := r_dup_retAddr (hz_0.trans rfl)
theorem w_0_9 {w : Nat} (hc : dx_ct st ≤ 8) : dx_W (tb_Z L xs) d 0 9 lv (.ref w :: st) σ Q ↔ dx_M (tb_Z L xs) d 14 [.ref w] σ (wK (tb_Z L xs) d 0 12 lv st Q) := r_call (av := [.ref w]) (hz_0.trans rfl) rfl hc rfl
theorem w_0_12 {u w : Value} : dx_W (tb_Z L xs) d 0 12 lv (u :: w :: st) σ Q ↔ wO (dx_pf σ w 0 0 3 u) (fun σ1 => dx_W (tb_Z L xs) d 0 15 lv st σ1 Q) := r_putfield (f := 3) (hz_0.trans rfl)
theorem w_0_15 : dx_W (tb_Z L xs) d 0 15 lv st σ Q ↔ wR (dx_lk lv 0) (fun y => dx_W (tb_Z L xs) d 0 16 lv (y :: st) σ Q) := r_aload_n (k := 0) (hz_0.trans rfl)
theorem w_0_16 : dx_W (tb_Z L xs) d 0 16 lv st σ Q ↔ dx_W (tb_Z L xs) d 0 19 lv (.ref σ.length :: st) (σ ++ [.inr (2, tb_d 2)]) Q := r_new (hz_0.trans rfl)
theorem w_0_19_int {x : Int32} : dx_W (tb_Z L xs) d 0 19 lv (.int x :: st) σ Q ↔ dx_W (tb_Z L xs) d 0 20 lv (.int x :: .int x :: st) σ Q := r_dup_int (hz_0.trans rfl)
theorem w_0_19_ref {x : Nat} : dx_W (tb_Z L xs) d 0 19 lv (.ref x :: st) σ Q ↔ dx_W (tb_Z L xs) d 0 20 lv (.ref x :: .ref x :: st) σ Q := r_dup_ref (hz_0.trans rfl)
theorem w_0_19_retAddr {x : Nat} : dx_W (tb_Z L xs) d 0 19 lv (.retAddr x :: st) σ Q ↔ dx_W (tb_Z L xs) d 0 20 lv (.retAddr x :: .retAddr x :: st) σ Q := r_dup_retAddr (hz_0.trans rfl)
theorem w_0_20 {w : Nat} (hc : dx_ct st ≤ 8) : dx_W (tb_Z L xs) d 0 20 lv (.ref w :: st) σ Q ↔ dx_M (tb_Z L xs) d 18 [.ref w] σ (wK (tb_Z L xs) d 0 23 lv st Q) := r_call (av := [.ref w]) (hz_0.trans rfl) rfl hc rfl
theorem w_0_23 {u w : Value} : dx_W (tb_Z L xs) d 0 23 lv (u :: w :: st) σ Q ↔ wO (dx_pf σ w 0 1 3 u) (fun σ1 => dx_W (tb_Z L xs) d 0 26 lv st σ1 Q) := r_putfield (f := 3) (hz_0.trans rfl)
theorem w_0_26 : dx_W (tb_Z L xs) d 0 26 lv st σ Q ↔ wR (dx_lk lv 0) (fun y => dx_W (tb_Z L xs) d 0 27 lv (y :: st) σ Q) := r_aload_n (k := 0) (hz_0.trans rfl)
theorem w_0_27 : dx_W (tb_Z L xs) d 0 27 lv st σ Q ↔ dx_W (tb_Z L xs) d 0 30 lv (.ref σ.length :: st) (σ ++ [.inr (3, tb_d 3)]) Q := r_new (hz_0.trans rfl)
theorem w_0_30_int {x : Int32} : dx_W (tb_Z L xs) d 0 30 lv (.int x :: st) σ Q ↔ dx_W (tb_Z L xs) d 0 31 lv (.int x :: .int x :: st) σ Q := r_dup_int (hz_0.trans rfl)
theorem w_0_30_ref {x : Nat} : dx_W (tb_Z L xs) d 0 30 lv (.ref x :: st) σ Q ↔ dx_W (tb_Z L xs) d 0 31 lv (.ref x :: .ref x :: st) σ Q := r_dup_ref (hz_0.trans rfl)
theorem w_0_30_retAddr {x : Nat} : dx_W (tb_Z L xs) d 0 30 lv (.retAddr x :: st) σ Q ↔ dx_W (tb_Z L xs) d 0 31 lv (.retAddr x :: .retAddr x :: st) σ Q := r_dup_retAddr (hz_0.trans rfl)
theorem w_0_31 {w : Nat} (hc : dx_ct st ≤ 8) : dx_W (tb_Z L xs) d 0 31 lv (.ref w :: st) σ Q ↔ dx_M (tb_Z L xs) d 20 [.ref w] σ (wK (tb_Z L xs) d 0 34 lv st Q) := r_call (av := [.ref w]) (hz_0.trans rfl) rfl hc rfl
theorem w_0_34 {u w : Value} : dx_W (tb_Z L xs) d 0 34 lv (u :: w :: st) σ Q ↔ wO (dx_pf σ w 0 2 3 u) (fun σ1 => dx_W (tb_Z L xs) d 0 37 lv st σ1 Q) := r_putfield (f := 3) (hz_0.trans rfl)
theorem w_0_37 : dx_W (tb_Z L xs) d 0 37 lv st σ Q ↔ wR (dx_lk lv 0) (fun y => dx_W (tb_Z L xs) d 0 38 lv (y :: st) σ Q) := r_aload_n (k := 0) (hz_0.trans rfl)
theorem w_0_38 : dx_W (tb_Z L xs) d 0 38 lv st σ Q ↔ dx_W (tb_Z L xs) d 0 41 lv (.ref σ.length :: st) (σ ++ [.inr (4, tb_d 4)]) Q := r_new (hz_0.trans rfl)
theorem w_0_41_int {x : Int32} : dx_W (tb_Z L xs) d 0 41 lv (.int x :: st) σ Q ↔ dx_W (tb_Z L xs) d 0 42 lv (.int x :: .int x :: st) σ Q := r_dup_int (hz_0.trans rfl)
theorem w_0_41_ref {x : Nat} : dx_W (tb_Z L xs) d 0 41 lv (.ref x :: st) σ Q ↔ dx_W (tb_Z L xs) d 0 42 lv (.ref x :: .ref x :: st) σ Q := r_dup_ref (hz_0.trans rfl)
theorem w_0_41_retAddr {x : Nat} : dx_W (tb_Z L xs) d 0 41 lv (.retAddr x :: st) σ Q ↔ dx_W (tb_Z L xs) d 0 42 lv (.retAddr x :: .retAddr x :: st) σ Q := r_dup_retAddr (hz_0.trans rfl)
theorem w_0_42 {w : Nat} (hc : dx_ct st ≤ 8) : dx_W (tb_Z L xs) d 0 42 lv (.ref w :: st) σ Q ↔ dx_M (tb_Z L xs) d 26 [.ref w] σ (wK (tb_Z L xs) d 0 45 lv st Q) := r_call (av := [.ref w]) (hz_0.trans rfl) rfl hc rfl
theorem w_0_45 {u w : Value} : dx_W (tb_Z L xs) d 0 45 lv (u :: w :: st) σ Q ↔ wO (dx_pf σ w 0 3 3 u) (fun σ1 => dx_W (tb_Z L xs) d 0 48 lv st σ1 Q) := r_putfield (f := 3) (hz_0.trans rfl)
theorem w_0_48 : dx_W (tb_Z L xs) d 0 48 lv st σ Q ↔ wR (dx_lk lv 0) (fun y => dx_W (tb_Z L xs) d 0 49 lv (y :: st) σ Q) := r_aload_n (k := 0) (hz_0.trans rfl)
theorem w_0_49 : dx_W (tb_Z L xs) d 0 49 lv st σ Q ↔ dx_W (tb_Z L xs) d 0 52 lv (.ref σ.length :: st) (σ ++ [.inr (5, tb_d 5)]) Q := r_new (hz_0.trans rfl)
theorem w_0_52_int {x : Int32} : dx_W (tb_Z L xs) d 0 52 lv (.int x :: st) σ Q ↔ dx_W (tb_Z L xs) d 0 53 lv (.int x :: .int x :: st) σ Q := r_dup_int (hz_0.trans rfl)
theorem w_0_52_ref {x : Nat} : dx_W (tb_Z L xs) d 0 52 lv (.ref x :: st) σ Q ↔ dx_W (tb_Z L xs) d 0 53 lv (.ref x :: .ref x :: st) σ Q := r_dup_ref (hz_0.trans rfl)
theorem w_0_52_retAddr {x : Nat} : dx_W (tb_Z L xs) d 0 52 lv (.retAddr x :: st) σ Q ↔ dx_W (tb_Z L xs) d 0 53 lv (.retAddr x :: .retAddr x :: st) σ Q := r_dup_retAddr (hz_0.trans rfl)
theorem w_0_53 : dx_W (tb_Z L xs) d 0 53 lv st σ Q ↔ wR (dx_lk lv 0) (fun y => dx_W (tb_Z L xs) d 0 54 lv (y :: st) σ Q) := r_aload_n (k := 0) (hz_0.trans rfl)
theorem w_0_54 {w : Value} : dx_W (tb_Z L xs) d 0 54 lv (w :: st) σ Q ↔ wO (dx_gf (tb_K L xs) σ w 0 0) (fun y => dx_W (tb_Z L xs) d 0 57 lv (y :: st) σ Q) := r_getfield (hz_0.trans rfl)
theorem w_0_57 : dx_W (tb_Z L xs) d 0 57 lv st σ Q ↔ wR (dx_lk lv 0) (fun y => dx_W (tb_Z L xs) d 0 58 lv (y :: st) σ Q) := r_aload_n (k := 0) (hz_0.trans rfl)
theorem w_0_58 {w : Value} : dx_W (tb_Z L xs) d 0 58 lv (w :: st) σ Q ↔ wO (dx_gf (tb_K L xs) σ w 0 2) (fun y => dx_W (tb_Z L xs) d 0 61 lv (y :: st) σ Q) := r_getfield (hz_0.trans rfl)
theorem w_0_61 {w : Nat} {v1 v2 : Value} (hc : dx_ct st ≤ 8) : dx_W (tb_Z L xs) d 0 61 lv (v2 :: v1 :: .ref w :: st) σ Q ↔ dx_M (tb_Z L xs) d 32 [.ref w, v1, v2] σ (wK (tb_Z L xs) d 0 64 lv st Q) := r_call (av := [.ref w, v1, v2]) (hz_0.trans rfl) rfl hc rfl
theorem w_0_64 {u w : Value} : dx_W (tb_Z L xs) d 0 64 lv (u :: w :: st) σ Q ↔ wO (dx_pf σ w 0 4 3 u) (fun σ1 => dx_W (tb_Z L xs) d 0 67 lv st σ1 Q) := r_putfield (f := 3) (hz_0.trans rfl)
theorem w_0_67 : dx_W (tb_Z L xs) d 0 67 lv st σ Q ↔ wR (dx_lk lv 0) (fun y => dx_W (tb_Z L xs) d 0 68 lv (y :: st) σ Q) := r_aload_n (k := 0) (hz_0.trans rfl)
theorem w_0_68 : dx_W (tb_Z L xs) d 0 68 lv st σ Q ↔ dx_W (tb_Z L xs) d 0 71 lv (.ref σ.length :: st) (σ ++ [.inr (6, tb_d 6)]) Q := r_new (hz_0.trans rfl)
theorem w_0_71_int {x : Int32} : dx_W (tb_Z L xs) d 0 71 lv (.int x :: st) σ Q ↔ dx_W (tb_Z L xs) d 0 72 lv (.int x :: .int x :: st) σ Q := r_dup_int (hz_0.trans rfl)
theorem w_0_71_ref {x : Nat} : dx_W (tb_Z L xs) d 0 71 lv (.ref x :: st) σ Q ↔ dx_W (tb_Z L xs) d 0 72 lv (.ref x :: .ref x :: st) σ Q := r_dup_ref (hz_0.trans rfl)
theorem w_0_71_retAddr {x : Nat} : dx_W (tb_Z L xs) d 0 71 lv (.retAddr x :: st) σ Q ↔ dx_W (tb_Z L xs) d 0 72 lv (.retAddr x :: .retAddr x :: st) σ Q := r_dup_retAddr (hz_0.trans rfl)
theorem w_0_72 : dx_W (tb_Z L xs) d 0 72 lv st σ Q ↔ wR (dx_lk lv 0) (fun y => dx_W (tb_Z L xs) d 0 73 lv (y :: st) σ Q) := r_aload_n (k := 0) (hz_0.trans rfl)
theorem w_0_73 {w : Value} : dx_W (tb_Z L xs) d 0 73 lv (w :: st) σ Q ↔ wO (dx_gf (tb_K L xs) σ w 0 4) (fun y => dx_W (tb_Z L xs) d 0 76 lv (y :: st) σ Q) := r_getfield (hz_0.trans rfl)
theorem w_0_76 : dx_W (tb_Z L xs) d 0 76 lv st σ Q ↔ wR (dx_lk lv 0) (fun y => dx_W (tb_Z L xs) d 0 77 lv (y :: st) σ Q) := r_aload_n (k := 0) (hz_0.trans rfl)
theorem w_0_77 {w : Value} : dx_W (tb_Z L xs) d 0 77 lv (w :: st) σ Q ↔ wO (dx_gf (tb_K L xs) σ w 0 3) (fun y => dx_W (tb_Z L xs) d 0 80 lv (y :: st) σ Q) := r_getfield (hz_0.trans rfl)
theorem w_0_80 : dx_W (tb_Z L xs) d 0 80 lv st σ Q ↔ wR (dx_lk lv 0) (fun y => dx_W (tb_Z L xs) d 0 81 lv (y :: st) σ Q) := r_aload_n (k := 0) (hz_0.trans rfl)
theorem w_0_81 {w : Value} : dx_W (tb_Z L xs) d 0 81 lv (w :: st) σ Q ↔ wO (dx_gf (tb_K L xs) σ w 0 2) (fun y => dx_W (tb_Z L xs) d 0 84 lv (y :: st) σ Q) := r_getfield (hz_0.trans rfl)
theorem w_0_84 {w : Nat} {v1 v2 v3 : Value} (hc : dx_ct st ≤ 8) : dx_W (tb_Z L xs) d 0 84 lv (v3 :: v2 :: v1 :: .ref w :: st) σ Q ↔ dx_M (tb_Z L xs) d 45 [.ref w, v1, v2, v3] σ (wK (tb_Z L xs) d 0 87 lv st Q) := r_call (av := [.ref w, v1, v2, v3]) (hz_0.trans rfl) rfl hc rfl
theorem w_0_87 {u w : Value} : dx_W (tb_Z L xs) d 0 87 lv (u :: w :: st) σ Q ↔ wO (dx_pf σ w 0 5 3 u) (fun σ1 => dx_W (tb_Z L xs) d 0 90 lv st σ1 Q) := r_putfield (f := 3) (hz_0.trans rfl)
theorem w_0_90 : dx_W (tb_Z L xs) d 0 90 lv st σ Q ↔ wR (dx_lk lv 0) (fun y => dx_W (tb_Z L xs) d 0 91 lv (y :: st) σ Q) := r_aload_n (k := 0) (hz_0.trans rfl)
theorem w_0_91 : dx_W (tb_Z L xs) d 0 91 lv st σ Q ↔ dx_W (tb_Z L xs) d 0 94 lv (.ref σ.length :: st) (σ ++ [.inr (7, tb_d 7)]) Q := r_new (hz_0.trans rfl)
theorem w_0_94_int {x : Int32} : dx_W (tb_Z L xs) d 0 94 lv (.int x :: st) σ Q ↔ dx_W (tb_Z L xs) d 0 95 lv (.int x :: .int x :: st) σ Q := r_dup_int (hz_0.trans rfl)
theorem w_0_94_ref {x : Nat} : dx_W (tb_Z L xs) d 0 94 lv (.ref x :: st) σ Q ↔ dx_W (tb_Z L xs) d 0 95 lv (.ref x :: .ref x :: st) σ Q := r_dup_ref (hz_0.trans rfl)
theorem w_0_94_retAddr {x : Nat} : dx_W (tb_Z L xs) d 0 94 lv (.retAddr x :: st) σ Q ↔ dx_W (tb_Z L xs) d 0 95 lv (.retAddr x :: .retAddr x :: st) σ Q := r_dup_retAddr (hz_0.trans rfl)
theorem w_0_95 : dx_W (tb_Z L xs) d 0 95 lv st σ Q ↔ wR (dx_lk lv 0) (fun y => dx_W (tb_Z L xs) d 0 96 lv (y :: st) σ Q) := r_aload_n (k := 0) (hz_0.trans rfl)
theorem w_0_96 {w : Value} : dx_W (tb_Z L xs) d 0 96 lv (w :: st) σ Q ↔ wO (dx_gf (tb_K L xs) σ w 0 3) (fun y => dx_W (tb_Z L xs) d 0 99 lv (y :: st) σ Q) := r_getfield (hz_0.trans rfl)
theorem w_0_99 : dx_W (tb_Z L xs) d 0 99 lv st σ Q ↔ wR (dx_lk lv 0) (fun y => dx_W (tb_Z L xs) d 0 100 lv (y :: st) σ Q) := r_aload_n (k := 0) (hz_0.trans rfl)
theorem w_0_100 {w : Value} : dx_W (tb_Z L xs) d 0 100 lv (w :: st) σ Q ↔ wO (dx_gf (tb_K L xs) σ w 0 1) (fun y => dx_W (tb_Z L xs) d 0 103 lv (y :: st) σ Q) := r_getfield (hz_0.trans rfl)
theorem w_0_103 : dx_W (tb_Z L xs) d 0 103 lv st σ Q ↔ wR (dx_lk lv 0) (fun y => dx_W (tb_Z L xs) d 0 104 lv (y :: st) σ Q) := r_aload_n (k := 0) (hz_0.trans rfl)
theorem w_0_104 {w : Value} : dx_W (tb_Z L xs) d 0 104 lv (w :: st) σ Q ↔ wO (dx_gf (tb_K L xs) σ w 0 2) (fun y => dx_W (tb_Z L xs) d 0 107 lv (y :: st) σ Q) := r_getfield (hz_0.trans rfl)
theorem w_0_107 {w : Nat} {v1 v2 v3 : Value} (hc : dx_ct st ≤ 8) : dx_W (tb_Z L xs) d 0 107 lv (v3 :: v2 :: v1 :: .ref w :: st) σ Q ↔ dx_M (tb_Z L xs) d 71 [.ref w, v1, v2, v3] σ (wK (tb_Z L xs) d 0 110 lv st Q) := r_call (av := [.ref w, v1, v2, v3]) (hz_0.trans rfl) rfl hc rfl
theorem w_0_110 {u w : Value} : dx_W (tb_Z L xs) d 0 110 lv (u :: w :: st) σ Q ↔ wO (dx_pf σ w 0 6 3 u) (fun σ1 => dx_W (tb_Z L xs) d 0 113 lv st σ1 Q) := r_putfield (f := 3) (hz_0.trans rfl)
theorem w_0_113 : dx_W (tb_Z L xs) d 0 113 lv [] σ Q ↔ Q (.inl none) σ := r_return (hz_0.trans rfl) rfl
theorem hz_1 {pc : Nat} : (tb_Z L xs).1 1 pc = dx_at tb_m1 pc := rfl
theorem w_1_0 : dx_W (tb_Z L xs) d 1 0 lv st σ Q ↔ wR (dx_lk lv 0) (fun y => dx_W (tb_Z L xs) d 1 1 lv (y :: st) σ Q) := r_aload_n (k := 0) (hz_1.trans rfl)
theorem w_1_1 {w : Value} : dx_W (tb_Z L xs) d 1 1 lv (w :: st) σ Q ↔ wO (dx_gf (tb_K L xs) σ w 0 0) (fun y => dx_W (tb_Z L xs) d 1 4 lv (y :: st) σ Q) := r_getfield (hz_1.trans rfl)
theorem w_1_4 : dx_W (tb_Z L xs) d 1 4 lv st σ Q ↔ wI (dx_lk lv 1) (fun y => dx_W (tb_Z L xs) d 1 5 lv (.int y :: st) σ Q) := r_iload_n (k := 1) (hz_1.trans rfl)
theorem w_1_5 {v0 v1 : Value} (hc : dx_ct st ≤ 8) (hr : dx_ci (tb_K L xs) σ v0 = some 1) : dx_W (tb_Z L xs) d 1 5 lv (v1 :: v0 :: st) σ Q ↔ dx_M (tb_Z L xs) d 15 [v0, v1] σ (wK (tb_Z L xs) d 1 8 lv st Q) := r_call (av := [v0, v1]) (hz_1.trans rfl) rfl hc (decide_eq_true hr)
theorem w_1_8 {x : Int32} : dx_W (tb_Z L xs) d 1 8 lv [.int x] σ Q ↔ Q (.inl (some (.int x))) σ := r_ireturn (hz_1.trans rfl) rfl rfl
theorem hz_2 {pc : Nat} : (tb_Z L xs).1 2 pc = dx_at tb_m2 pc := rfl
theorem w_2_0 : dx_W (tb_Z L xs) d 2 0 lv st σ Q ↔ wR (dx_lk lv 0) (fun y => dx_W (tb_Z L xs) d 2 1 lv (y :: st) σ Q) := r_aload_n (k := 0) (hz_2.trans rfl)
theorem w_2_1 {w : Value} : dx_W (tb_Z L xs) d 2 1 lv (w :: st) σ Q ↔ wO (dx_gf (tb_K L xs) σ w 0 0) (fun y => dx_W (tb_Z L xs) d 2 4 lv (y :: st) σ Q) := r_getfield (hz_2.trans rfl)
theorem w_2_4 {w : Value} : dx_W (tb_Z L xs) d 2 4 lv (w :: st) σ Q ↔ wO (dx_gf (tb_K L xs) σ w 1 1) (fun y => dx_W (tb_Z L xs) d 2 7 lv (y :: st) σ Q) := r_getfield (hz_2.trans rfl)
theorem w_2_7 {x : Int32} : dx_W (tb_Z L xs) d 2 7 lv [.int x] σ Q ↔ Q (.inl (some (.int x))) σ := r_ireturn (hz_2.trans rfl) rfl rfl
theorem hz_3 {pc : Nat} : (tb_Z L xs).1 3 pc = dx_at tb_m3 pc := rfl
theorem w_3_0 : dx_W (tb_Z L xs) d 3 0 lv st σ Q ↔ wR (dx_lk lv 0) (fun y => dx_W (tb_Z L xs) d 3 1 lv (y :: st) σ Q) := r_aload_n (k := 0) (hz_3.trans rfl)
theorem w_3_1 {w : Value} : dx_W (tb_Z L xs) d 3 1 lv (w :: st) σ Q ↔ wO (dx_gf (tb_K L xs) σ w 0 0) (fun y => dx_W (tb_Z L xs) d 3 4 lv (y :: st) σ Q) := r_getfield (hz_3.trans rfl)
theorem w_3_4 : dx_W (tb_Z L xs) d 3 4 lv st σ Q ↔ dx_W (tb_Z L xs) d 3 5 lv (.int 0 :: st) σ Q := r_iconst (n := 0) (hz_3.trans rfl)
theorem w_3_5 {u w : Value} : dx_W (tb_Z L xs) d 3 5 lv (u :: w :: st) σ Q ↔ wO (dx_pf σ w 1 1 0 u) (fun σ1 => dx_W (tb_Z L xs) d 3 8 lv st σ1 Q) := r_putfield (f := 0) (hz_3.trans rfl)
theorem w_3_8 : dx_W (tb_Z L xs) d 3 8 lv [] σ Q ↔ Q (.inl none) σ := r_return (hz_3.trans rfl) rfl
theorem hz_4 {pc : Nat} : (tb_Z L xs).1 4 pc = dx_at tb_m4 pc := rfl
theorem w_4_0 : dx_W (tb_Z L xs) d 4 0 lv st σ Q ↔ wR (dx_lk lv 0) (fun y => dx_W (tb_Z L xs) d 4 1 lv (y :: st) σ Q) := r_aload_n (k := 0) (hz_4.trans rfl)
theorem w_4_1 {w : Value} : dx_W (tb_Z L xs) d 4 1 lv (w :: st) σ Q ↔ wO (dx_gf (tb_K L xs) σ w 0 1) (fun y => dx_W (tb_Z L xs) d 4 4 lv (y :: st) σ Q) := r_getfield (hz_4.trans rfl)
theorem w_4_4 {v0 : Value} (hc : dx_ct st ≤ 8) (hr : dx_ci (tb_K L xs) σ v0 = some 2) : dx_W (tb_Z L xs) d 4 4 lv (v0 :: st) σ Q ↔ dx_M (tb_Z L xs) d 19 [v0] σ (wK (tb_Z L xs) d 4 7 lv st Q) := r_call (av := [v0]) (hz_4.trans rfl) rfl hc (decide_eq_true hr)
theorem w_4_7 : dx_W (tb_Z L xs) d 4 7 lv [] σ Q ↔ Q (.inl none) σ := r_return (hz_4.trans rfl) rfl
theorem hz_5 {pc : Nat} : (tb_Z L xs).1 5 pc = dx_at tb_m5 pc := rfl
theorem w_5_0 : dx_W (tb_Z L xs) d 5 0 lv st σ Q ↔ wR (dx_lk lv 0) (fun y => dx_W (tb_Z L xs) d 5 1 lv (y :: st) σ Q) := r_aload_n (k := 0) (hz_5.trans rfl)
theorem w_5_1 {w : Value} : dx_W (tb_Z L xs) d 5 1 lv (w :: st) σ Q ↔ wO (dx_gf (tb_K L xs) σ w 0 2) (fun y => dx_W (tb_Z L xs) d 5 4 lv (y :: st) σ Q) := r_getfield (hz_5.trans rfl)
theorem w_5_4 {w : Value} : dx_W (tb_Z L xs) d 5 4 lv (w :: st) σ Q ↔ wO (dx_gf (tb_K L xs) σ w 3 2) (fun y => dx_W (tb_Z L xs) d 5 7 lv (y :: st) σ Q) := r_getfield (hz_5.trans rfl)
theorem w_5_7 {x : Int32} : dx_W (tb_Z L xs) d 5 7 lv [.int x] σ Q ↔ Q (.inl (some (.int x))) σ := r_ireturn (hz_5.trans rfl) rfl rfl
theorem hz_6 {pc : Nat} : (tb_Z L xs).1 6 pc = dx_at tb_m6 pc := rfl
theorem w_6_0 : dx_W (tb_Z L xs) d 6 0 lv st σ Q ↔ wR (dx_lk lv 0) (fun y => dx_W (tb_Z L xs) d 6 1 lv (y :: st) σ Q) := r_aload_n (k := 0) (hz_6.trans rfl)
theorem w_6_1 {w : Value} : dx_W (tb_Z L xs) d 6 1 lv (w :: st) σ Q ↔ wO (dx_gf (tb_K L xs) σ w 0 2) (fun y => dx_W (tb_Z L xs) d 6 4 lv (y :: st) σ Q) := r_getfield (hz_6.trans rfl)
theorem w_6_4 {w : Value} : dx_W (tb_Z L xs) d 6 4 lv (w :: st) σ Q ↔ wO (dx_gf (tb_K L xs) σ w 3 3) (fun y => dx_W (tb_Z L xs) d 6 7 lv (y :: st) σ Q) := r_getfield (hz_6.trans rfl)
theorem w_6_7 {x : Int32} : dx_W (tb_Z L xs) d 6 7 lv [.int x] σ Q ↔ Q (.inl (some (.int x))) σ := r_ireturn (hz_6.trans rfl) rfl rfl
theorem hz_7 {pc : Nat} : (tb_Z L xs).1 7 pc = dx_at tb_m7 pc := rfl
theorem w_7_0 : dx_W (tb_Z L xs) d 7 0 lv st σ Q ↔ wR (dx_lk lv 0) (fun y => dx_W (tb_Z L xs) d 7 1 lv (y :: st) σ Q) := r_aload_n (k := 0) (hz_7.trans rfl)
theorem w_7_1 {w : Value} : dx_W (tb_Z L xs) d 7 1 lv (w :: st) σ Q ↔ wO (dx_gf (tb_K L xs) σ w 0 2) (fun y => dx_W (tb_Z L xs) d 7 4 lv (y :: st) σ Q) := r_getfield (hz_7.trans rfl)
theorem w_7_4 {w : Value} : dx_W (tb_Z L xs) d 7 4 lv (w :: st) σ Q ↔ wO (dx_gf (tb_K L xs) σ w 3 1) (fun y => dx_W (tb_Z L xs) d 7 7 lv (y :: st) σ Q) := r_getfield (hz_7.trans rfl)
theorem w_7_7 {x : Int32} : dx_W (tb_Z L xs) d 7 7 lv [.int x] σ Q ↔ Q (.inl (some (.int x))) σ := r_ireturn (hz_7.trans rfl) rfl rfl
theorem hz_8 {pc : Nat} : (tb_Z L xs).1 8 pc = dx_at tb_m8 pc := rfl
theorem w_8_0 : dx_W (tb_Z L xs) d 8 0 lv st σ Q ↔ wI (dx_lk lv 1) (fun y => dx_W (tb_Z L xs) d 8 1 lv (.int y :: st) σ Q) := r_iload_n (k := 1) (hz_8.trans rfl)
theorem w_8_1 {x : Int32} : dx_W (tb_Z L xs) d 8 1 lv (.int x :: st) σ Q ↔ (if x < 0 then dx_W (tb_Z L xs) d 8 27 lv st σ Q else dx_W (tb_Z L xs) d 8 4 lv st σ Q) := r_if_lt (off := 26) (t := 27) (hz_8.trans rfl) (by decide)
theorem w_8_4 : dx_W (tb_Z L xs) d 8 4 lv st σ Q ↔ wI (dx_lk lv 1) (fun y => dx_W (tb_Z L xs) d 8 5 lv (.int y :: st) σ Q) := r_iload_n (k := 1) (hz_8.trans rfl)
theorem w_8_5 : dx_W (tb_Z L xs) d 8 5 lv st σ Q ↔ wR (dx_lk lv 0) (fun y => dx_W (tb_Z L xs) d 8 6 lv (y :: st) σ Q) := r_aload_n (k := 0) (hz_8.trans rfl)
theorem w_8_6 {w : Value} : dx_W (tb_Z L xs) d 8 6 lv (w :: st) σ Q ↔ wO (dx_gf (tb_K L xs) σ w 0 2) (fun y => dx_W (tb_Z L xs) d 8 9 lv (y :: st) σ Q) := r_getfield (hz_8.trans rfl)
theorem w_8_9 {w : Value} : dx_W (tb_Z L xs) d 8 9 lv (w :: st) σ Q ↔ wO (dx_gf (tb_K L xs) σ w 3 1) (fun y => dx_W (tb_Z L xs) d 8 12 lv (y :: st) σ Q) := r_getfield (hz_8.trans rfl)
theorem w_8_12 {x y : Int32} : dx_W (tb_Z L xs) d 8 12 lv (.int y :: .int x :: st) σ Q ↔ (if y ≤ x then dx_W (tb_Z L xs) d 8 27 lv st σ Q else dx_W (tb_Z L xs) d 8 15 lv st σ Q) := r_ic_ge (off := 15) (t := 27) (hz_8.trans rfl) (by decide)
theorem w_8_15 : dx_W (tb_Z L xs) d 8 15 lv st σ Q ↔ wR (dx_lk lv 0) (fun y => dx_W (tb_Z L xs) d 8 16 lv (y :: st) σ Q) := r_aload_n (k := 0) (hz_8.trans rfl)
theorem w_8_16 {w : Value} : dx_W (tb_Z L xs) d 8 16 lv (w :: st) σ Q ↔ wO (dx_gf (tb_K L xs) σ w 0 2) (fun y => dx_W (tb_Z L xs) d 8 19 lv (y :: st) σ Q) := r_getfield (hz_8.trans rfl)
theorem w_8_19 {w : Value} : dx_W (tb_Z L xs) d 8 19 lv (w :: st) σ Q ↔ wO (dx_gf (tb_K L xs) σ w 3 0) (fun y => dx_W (tb_Z L xs) d 8 22 lv (y :: st) σ Q) := r_getfield (hz_8.trans rfl)
theorem w_8_22 : dx_W (tb_Z L xs) d 8 22 lv st σ Q ↔ wI (dx_lk lv 1) (fun y => dx_W (tb_Z L xs) d 8 23 lv (.int y :: st) σ Q) := r_iload_n (k := 1) (hz_8.trans rfl)
theorem w_8_23 {w : Value} {y : Int32} : dx_W (tb_Z L xs) d 8 23 lv (.int y :: w :: st) σ Q ↔ wO (dx_ei (tb_K L xs) σ 2 w y) (fun u => dx_W (tb_Z L xs) d 8 24 lv (.int u :: st) σ Q) := r_caload (hz_8.trans rfl)
theorem w_8_24 : dx_W (tb_Z L xs) d 8 24 lv st σ Q ↔ dx_W (tb_Z L xs) d 8 28 lv st σ Q := r_goto (off := 4) (t := 28) (hz_8.trans rfl) (by decide)
theorem w_8_27 : dx_W (tb_Z L xs) d 8 27 lv st σ Q ↔ dx_W (tb_Z L xs) d 8 28 lv (.int (-1) :: st) σ Q := r_iconst (n := (-1)) (hz_8.trans rfl)
theorem w_8_28 {x : Int32} : dx_W (tb_Z L xs) d 8 28 lv [.int x] σ Q ↔ Q (.inl (some (.int x))) σ := r_ireturn (hz_8.trans rfl) rfl rfl
theorem hz_9 {pc : Nat} : (tb_Z L xs).1 9 pc = dx_at tb_m9 pc := rfl
theorem w_9_0 : dx_W (tb_Z L xs) d 9 0 lv st σ Q ↔ wI (dx_lk lv 1) (fun y => dx_W (tb_Z L xs) d 9 1 lv (.int y :: st) σ Q) := r_iload_n (k := 1) (hz_9.trans rfl)
theorem w_9_1 {v0 : Value} (hc : dx_ct st ≤ 8) : dx_W (tb_Z L xs) d 9 1 lv (v0 :: st) σ Q ↔ dx_M (tb_Z L xs) d 10 [v0] σ (wK (tb_Z L xs) d 9 4 lv st Q) := r_call (av := [v0]) (hz_9.trans rfl) rfl hc rfl
theorem w_9_4 {x : Int32} : dx_W (tb_Z L xs) d 9 4 lv (.int x :: st) σ Q ↔ (if x = 0 then dx_W (tb_Z L xs) d 9 23 lv st σ Q else dx_W (tb_Z L xs) d 9 7 lv st σ Q) := r_if_eq (off := 19) (t := 23) (hz_9.trans rfl) (by decide)
theorem w_9_7 : dx_W (tb_Z L xs) d 9 7 lv st σ Q ↔ wR (dx_lk lv 0) (fun y => dx_W (tb_Z L xs) d 9 8 lv (y :: st) σ Q) := r_aload_n (k := 0) (hz_9.trans rfl)
theorem w_9_8 {w : Value} : dx_W (tb_Z L xs) d 9 8 lv (w :: st) σ Q ↔ wO (dx_gf (tb_K L xs) σ w 0 1) (fun y => dx_W (tb_Z L xs) d 9 11 lv (y :: st) σ Q) := r_getfield (hz_9.trans rfl)
theorem w_9_11 {w : Value} : dx_W (tb_Z L xs) d 9 11 lv (w :: st) σ Q ↔ wO (dx_gf (tb_K L xs) σ w 2 0) (fun y => dx_W (tb_Z L xs) d 9 14 lv (y :: st) σ Q) := r_getfield (hz_9.trans rfl)
theorem w_9_14 : dx_W (tb_Z L xs) d 9 14 lv st σ Q ↔ wI (dx_lk lv 1) (fun y => dx_W (tb_Z L xs) d 9 15 lv (.int y :: st) σ Q) := r_iload_n (k := 1) (hz_9.trans rfl)
theorem w_9_15 {w : Value} {y : Int32} : dx_W (tb_Z L xs) d 9 15 lv (.int y :: w :: st) σ Q ↔ wO (dx_el (tb_K L xs) σ w y) (fun u => dx_W (tb_Z L xs) d 9 16 lv (.long u :: st) σ Q) := r_laload (hz_9.trans rfl)
theorem w_9_16 {v0 : Value} (hc : dx_ct st ≤ 8) : dx_W (tb_Z L xs) d 9 16 lv (v0 :: st) σ Q ↔ dx_M (tb_Z L xs) d 79 [v0] σ (wK (tb_Z L xs) d 9 19 lv st Q) := r_call (av := [v0]) (hz_9.trans rfl) rfl hc rfl
theorem w_9_19 {x : Int64} : dx_W (tb_Z L xs) d 9 19 lv (.long x :: st) σ Q ↔ dx_W (tb_Z L xs) d 9 20 lv (.int x.toInt32 :: st) σ Q := r_l2i (hz_9.trans rfl)
theorem w_9_20 : dx_W (tb_Z L xs) d 9 20 lv st σ Q ↔ dx_W (tb_Z L xs) d 9 24 lv st σ Q := r_goto (off := 4) (t := 24) (hz_9.trans rfl) (by decide)
theorem w_9_23 : dx_W (tb_Z L xs) d 9 23 lv st σ Q ↔ dx_W (tb_Z L xs) d 9 24 lv (.int 0 :: st) σ Q := r_iconst (n := 0) (hz_9.trans rfl)
theorem w_9_24 {x : Int32} : dx_W (tb_Z L xs) d 9 24 lv [.int x] σ Q ↔ Q (.inl (some (.int x))) σ := r_ireturn (hz_9.trans rfl) rfl rfl
theorem hz_10 {pc : Nat} : (tb_Z L xs).1 10 pc = dx_at tb_m10 pc := rfl
theorem w_10_0 : dx_W (tb_Z L xs) d 10 0 lv st σ Q ↔ wI (dx_lk lv 0) (fun y => dx_W (tb_Z L xs) d 10 1 lv (.int y :: st) σ Q) := r_iload_n (k := 0) (hz_10.trans rfl)
theorem w_10_1 {x : Int32} : dx_W (tb_Z L xs) d 10 1 lv (.int x :: st) σ Q ↔ (if x < 0 then dx_W (tb_Z L xs) d 10 14 lv st σ Q else dx_W (tb_Z L xs) d 10 4 lv st σ Q) := r_if_lt (off := 13) (t := 14) (hz_10.trans rfl) (by decide)
theorem w_10_4 : dx_W (tb_Z L xs) d 10 4 lv st σ Q ↔ wI (dx_lk lv 0) (fun y => dx_W (tb_Z L xs) d 10 5 lv (.int y :: st) σ Q) := r_iload_n (k := 0) (hz_10.trans rfl)
theorem w_10_5 : dx_W (tb_Z L xs) d 10 5 lv st σ Q ↔ dx_W (tb_Z L xs) d 10 7 lv (.int 26 :: st) σ Q := r_bipush (n := 26) (hz_10.trans rfl)
theorem w_10_7 {x y : Int32} : dx_W (tb_Z L xs) d 10 7 lv (.int y :: .int x :: st) σ Q ↔ (if y ≤ x then dx_W (tb_Z L xs) d 10 14 lv st σ Q else dx_W (tb_Z L xs) d 10 10 lv st σ Q) := r_ic_ge (off := 7) (t := 14) (hz_10.trans rfl) (by decide)
theorem w_10_10 : dx_W (tb_Z L xs) d 10 10 lv st σ Q ↔ dx_W (tb_Z L xs) d 10 11 lv (.int 1 :: st) σ Q := r_iconst (n := 1) (hz_10.trans rfl)
theorem w_10_11 : dx_W (tb_Z L xs) d 10 11 lv st σ Q ↔ dx_W (tb_Z L xs) d 10 15 lv st σ Q := r_goto (off := 4) (t := 15) (hz_10.trans rfl) (by decide)
theorem w_10_14 : dx_W (tb_Z L xs) d 10 14 lv st σ Q ↔ dx_W (tb_Z L xs) d 10 15 lv (.int 0 :: st) σ Q := r_iconst (n := 0) (hz_10.trans rfl)
theorem w_10_15 {x : Int32} (hn : narrow .boolean (.int x) = .int x) : dx_W (tb_Z L xs) d 10 15 lv [.int x] σ Q ↔ Q (.inl (some (.int x))) σ := r_ireturn (hz_10.trans rfl) rfl hn
theorem hz_11 {pc : Nat} : (tb_Z L xs).1 11 pc = dx_at tb_m11 pc := rfl
theorem w_11_0 : dx_W (tb_Z L xs) d 11 0 lv st σ Q ↔ wI (dx_lk lv 1) (fun y => dx_W (tb_Z L xs) d 11 1 lv (.int y :: st) σ Q) := r_iload_n (k := 1) (hz_11.trans rfl)
theorem w_11_1 {v0 : Value} (hc : dx_ct st ≤ 8) : dx_W (tb_Z L xs) d 11 1 lv (v0 :: st) σ Q ↔ dx_M (tb_Z L xs) d 10 [v0] σ (wK (tb_Z L xs) d 11 4 lv st Q) := r_call (av := [v0]) (hz_11.trans rfl) rfl hc rfl
theorem w_11_4 {x : Int32} : dx_W (tb_Z L xs) d 11 4 lv (.int x :: st) σ Q ↔ (if x = 0 then dx_W (tb_Z L xs) d 11 22 lv st σ Q else dx_W (tb_Z L xs) d 11 7 lv st σ Q) := r_if_eq (off := 18) (t := 22) (hz_11.trans rfl) (by decide)
theorem w_11_7 : dx_W (tb_Z L xs) d 11 7 lv st σ Q ↔ wR (dx_lk lv 0) (fun y => dx_W (tb_Z L xs) d 11 8 lv (y :: st) σ Q) := r_aload_n (k := 0) (hz_11.trans rfl)
theorem w_11_8 {w : Value} : dx_W (tb_Z L xs) d 11 8 lv (w :: st) σ Q ↔ wO (dx_gf (tb_K L xs) σ w 0 1) (fun y => dx_W (tb_Z L xs) d 11 11 lv (y :: st) σ Q) := r_getfield (hz_11.trans rfl)
theorem w_11_11 {w : Value} : dx_W (tb_Z L xs) d 11 11 lv (w :: st) σ Q ↔ wO (dx_gf (tb_K L xs) σ w 2 0) (fun y => dx_W (tb_Z L xs) d 11 14 lv (y :: st) σ Q) := r_getfield (hz_11.trans rfl)
theorem w_11_14 : dx_W (tb_Z L xs) d 11 14 lv st σ Q ↔ wI (dx_lk lv 1) (fun y => dx_W (tb_Z L xs) d 11 15 lv (.int y :: st) σ Q) := r_iload_n (k := 1) (hz_11.trans rfl)
theorem w_11_15 {w : Value} {y : Int32} : dx_W (tb_Z L xs) d 11 15 lv (.int y :: w :: st) σ Q ↔ wO (dx_el (tb_K L xs) σ w y) (fun u => dx_W (tb_Z L xs) d 11 16 lv (.long u :: st) σ Q) := r_laload (hz_11.trans rfl)
theorem w_11_16 {v0 : Value} (hc : dx_ct st ≤ 8) : dx_W (tb_Z L xs) d 11 16 lv (v0 :: st) σ Q ↔ dx_M (tb_Z L xs) d 80 [v0] σ (wK (tb_Z L xs) d 11 19 lv st Q) := r_call (av := [v0]) (hz_11.trans rfl) rfl hc rfl
theorem w_11_19 : dx_W (tb_Z L xs) d 11 19 lv st σ Q ↔ dx_W (tb_Z L xs) d 11 23 lv st σ Q := r_goto (off := 4) (t := 23) (hz_11.trans rfl) (by decide)
theorem w_11_22 : dx_W (tb_Z L xs) d 11 22 lv st σ Q ↔ dx_W (tb_Z L xs) d 11 23 lv (.int (-1) :: st) σ Q := r_iconst (n := (-1)) (hz_11.trans rfl)
theorem w_11_23 {x : Int32} : dx_W (tb_Z L xs) d 11 23 lv [.int x] σ Q ↔ Q (.inl (some (.int x))) σ := r_ireturn (hz_11.trans rfl) rfl rfl
theorem hz_12 {pc : Nat} : (tb_Z L xs).1 12 pc = dx_at tb_m12 pc := rfl
theorem w_12_0 : dx_W (tb_Z L xs) d 12 0 lv st σ Q ↔ wR (dx_lk lv 0) (fun y => dx_W (tb_Z L xs) d 12 1 lv (y :: st) σ Q) := r_aload_n (k := 0) (hz_12.trans rfl)
theorem w_12_1 {w : Value} : dx_W (tb_Z L xs) d 12 1 lv (w :: st) σ Q ↔ wO (dx_gf (tb_K L xs) σ w 0 1) (fun y => dx_W (tb_Z L xs) d 12 4 lv (y :: st) σ Q) := r_getfield (hz_12.trans rfl)
theorem w_12_4 {w : Value} : dx_W (tb_Z L xs) d 12 4 lv (w :: st) σ Q ↔ wO (dx_gf (tb_K L xs) σ w 2 1) (fun y => dx_W (tb_Z L xs) d 12 7 lv (y :: st) σ Q) := r_getfield (hz_12.trans rfl)
theorem w_12_7 {x : Int32} : dx_W (tb_Z L xs) d 12 7 lv [.int x] σ Q ↔ Q (.inl (some (.int x))) σ := r_ireturn (hz_12.trans rfl) rfl rfl
theorem hz_13 {pc : Nat} : (tb_Z L xs).1 13 pc = dx_at tb_m13 pc := rfl
theorem w_13_0 : dx_W (tb_Z L xs) d 13 0 lv st σ Q ↔ wR (dx_lk lv 0) (fun y => dx_W (tb_Z L xs) d 13 1 lv (y :: st) σ Q) := r_aload_n (k := 0) (hz_13.trans rfl)
theorem w_13_1 {w : Value} : dx_W (tb_Z L xs) d 13 1 lv (w :: st) σ Q ↔ wO (dx_gf (tb_K L xs) σ w 0 2) (fun y => dx_W (tb_Z L xs) d 13 4 lv (y :: st) σ Q) := r_getfield (hz_13.trans rfl)
theorem w_13_4 : dx_W (tb_Z L xs) d 13 4 lv st σ Q ↔ dx_W (tb_Z L xs) d 13 5 lv (.int 0 :: st) σ Q := r_iconst (n := 0) (hz_13.trans rfl)
theorem w_13_5 : dx_W (tb_Z L xs) d 13 5 lv st σ Q ↔ wI (dx_lk lv 1) (fun y => dx_W (tb_Z L xs) d 13 6 lv (.int y :: st) σ Q) := r_iload_n (k := 1) (hz_13.trans rfl)
theorem w_13_6 : dx_W (tb_Z L xs) d 13 6 lv st σ Q ↔ dx_W (tb_Z L xs) d 13 9 lv (.int 2000 :: st) σ Q := r_sipush (n := 2000) (hz_13.trans rfl)
theorem w_13_9 {v0 v1 : Value} (hc : dx_ct st ≤ 8) : dx_W (tb_Z L xs) d 13 9 lv (v1 :: v0 :: st) σ Q ↔ dx_M (tb_Z L xs) d 144 [v0, v1] σ (wK (tb_Z L xs) d 13 12 lv st Q) := r_call (av := [v0, v1]) (hz_13.trans rfl) rfl hc rfl
theorem w_13_12 {v0 v1 : Value} (hc : dx_ct st ≤ 8) : dx_W (tb_Z L xs) d 13 12 lv (v1 :: v0 :: st) σ Q ↔ dx_M (tb_Z L xs) d 145 [v0, v1] σ (wK (tb_Z L xs) d 13 15 lv st Q) := r_call (av := [v0, v1]) (hz_13.trans rfl) rfl hc rfl
theorem w_13_15 {v0 v1 : Value} (hc : dx_ct st ≤ 8) (hr : dx_ci (tb_K L xs) σ v0 = some 3) : dx_W (tb_Z L xs) d 13 15 lv (v1 :: v0 :: st) σ Q ↔ dx_M (tb_Z L xs) d 21 [v0, v1] σ (wK (tb_Z L xs) d 13 18 lv st Q) := r_call (av := [v0, v1]) (hz_13.trans rfl) rfl hc (decide_eq_true hr)
theorem w_13_18 : dx_W (tb_Z L xs) d 13 18 lv st σ Q ↔ wR (dx_lk lv 0) (fun y => dx_W (tb_Z L xs) d 13 19 lv (y :: st) σ Q) := r_aload_n (k := 0) (hz_13.trans rfl)
theorem w_13_19 {w : Value} : dx_W (tb_Z L xs) d 13 19 lv (w :: st) σ Q ↔ wO (dx_gf (tb_K L xs) σ w 0 4) (fun y => dx_W (tb_Z L xs) d 13 22 lv (y :: st) σ Q) := r_getfield (hz_13.trans rfl)
theorem w_13_22 {v0 : Value} (hc : dx_ct st ≤ 8) (hr : dx_ci (tb_K L xs) σ v0 = some 5) : dx_W (tb_Z L xs) d 13 22 lv (v0 :: st) σ Q ↔ dx_M (tb_Z L xs) d 33 [v0] σ (wK (tb_Z L xs) d 13 25 lv st Q) := r_call (av := [v0]) (hz_13.trans rfl) rfl hc (decide_eq_true hr)
theorem w_13_25 : dx_W (tb_Z L xs) d 13 25 lv st σ Q ↔ wR (dx_lk lv 0) (fun y => dx_W (tb_Z L xs) d 13 26 lv (y :: st) σ Q) := r_aload_n (k := 0) (hz_13.trans rfl)
theorem w_13_26 {w : Value} : dx_W (tb_Z L xs) d 13 26 lv (w :: st) σ Q ↔ wO (dx_gf (tb_K L xs) σ w 0 5) (fun y => dx_W (tb_Z L xs) d 13 29 lv (y :: st) σ Q) := r_getfield (hz_13.trans rfl)
theorem w_13_29 {v0 : Value} (hc : dx_ct st ≤ 8) (hr : dx_ci (tb_K L xs) σ v0 = some 6) : dx_W (tb_Z L xs) d 13 29 lv (v0 :: st) σ Q ↔ dx_M (tb_Z L xs) d 46 [v0] σ (wK (tb_Z L xs) d 13 32 lv st Q) := r_call (av := [v0]) (hz_13.trans rfl) rfl hc (decide_eq_true hr)
theorem w_13_32 : dx_W (tb_Z L xs) d 13 32 lv st σ Q ↔ wR (dx_lk lv 0) (fun y => dx_W (tb_Z L xs) d 13 33 lv (y :: st) σ Q) := r_aload_n (k := 0) (hz_13.trans rfl)
theorem w_13_33 {w : Value} : dx_W (tb_Z L xs) d 13 33 lv (w :: st) σ Q ↔ wO (dx_gf (tb_K L xs) σ w 0 6) (fun y => dx_W (tb_Z L xs) d 13 36 lv (y :: st) σ Q) := r_getfield (hz_13.trans rfl)
theorem w_13_36 {v0 : Value} (hc : dx_ct st ≤ 8) (hr : dx_ci (tb_K L xs) σ v0 = some 7) : dx_W (tb_Z L xs) d 13 36 lv (v0 :: st) σ Q ↔ dx_M (tb_Z L xs) d 72 [v0] σ (wK (tb_Z L xs) d 13 39 lv st Q) := r_call (av := [v0]) (hz_13.trans rfl) rfl hc (decide_eq_true hr)
theorem w_13_39 : dx_W (tb_Z L xs) d 13 39 lv st σ Q ↔ wR (dx_lk lv 0) (fun y => dx_W (tb_Z L xs) d 13 40 lv (y :: st) σ Q) := r_aload_n (k := 0) (hz_13.trans rfl)
theorem w_13_40 {w : Value} : dx_W (tb_Z L xs) d 13 40 lv (w :: st) σ Q ↔ wO (dx_gf (tb_K L xs) σ w 0 2) (fun y => dx_W (tb_Z L xs) d 13 43 lv (y :: st) σ Q) := r_getfield (hz_13.trans rfl)
theorem w_13_43 {w : Value} : dx_W (tb_Z L xs) d 13 43 lv (w :: st) σ Q ↔ wO (dx_gf (tb_K L xs) σ w 3 3) (fun y => dx_W (tb_Z L xs) d 13 46 lv (y :: st) σ Q) := r_getfield (hz_13.trans rfl)
theorem w_13_46 {x : Int32} : dx_W (tb_Z L xs) d 13 46 lv [.int x] σ Q ↔ Q (.inl (some (.int x))) σ := r_ireturn (hz_13.trans rfl) rfl rfl
end W0
