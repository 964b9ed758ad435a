/-! Printed by program: the rules of every instruction of DecimalRunModel. -/
section W9
variable {L : Nat} {xs : Nat → Int32} {d : Nat} {lv : dx_L} {st : List Value} {σ : dx_S} {Q : dx_O → dx_S → Prop}
theorem hz_94 {pc : Nat} : (tb_Z L xs).1 94 pc = dx_at tb_m94 pc := rfl
theorem w_94_0 : dx_W (tb_Z L xs) d 94 0 lv st σ Q ↔ wR (dx_lk lv 0) (fun y => dx_W (tb_Z L xs) d 94 1 lv (y :: st) σ Q) := r_aload_n (k := 0) (hz_94.trans rfl)
theorem w_94_1 {w : Nat} : dx_W (tb_Z L xs) d 94 1 lv (.ref w :: st) σ Q ↔ dx_ct st ≤ 8 ∧ dx_W (tb_Z L xs) d 94 4 lv st σ Q := c_objinit (hz_94.trans rfl)
theorem w_94_4 : dx_W (tb_Z L xs) d 94 4 lv st σ Q ↔ wR (dx_lk lv 0) (fun y => dx_W (tb_Z L xs) d 94 5 lv (y :: st) σ Q) := r_aload_n (k := 0) (hz_94.trans rfl)
theorem w_94_5 : dx_W (tb_Z L xs) d 94 5 lv st σ Q ↔ dx_W (tb_Z L xs) d 94 8 lv (.int 200 :: st) σ Q := r_sipush (n := 200) (hz_94.trans rfl)
theorem w_94_8 {n : Int32} {y : dx_E} (hn : ¬ (n < 0 ∨ 1000000 < n.toNatClampNeg)) (hy : dx_na .int n.toNatClampNeg = some y) : dx_W (tb_Z L xs) d 94 8 lv (.int n :: st) σ Q ↔ dx_W (tb_Z L xs) d 94 10 lv (.ref σ.length :: st) (σ ++ [y]) Q := r_newarray (hz_94.trans rfl) hn hy
theorem w_94_10 {u w : Value} : dx_W (tb_Z L xs) d 94 10 lv (u :: w :: st) σ Q ↔ wO (dx_pf σ w 9 0 3 u) (fun σ1 => dx_W (tb_Z L xs) d 94 13 lv st σ1 Q) := r_putfield (f := 3) (hz_94.trans rfl)
theorem w_94_13 : dx_W (tb_Z L xs) d 94 13 lv st σ Q ↔ wR (dx_lk lv 0) (fun y => dx_W (tb_Z L xs) d 94 14 lv (y :: st) σ Q) := r_aload_n (k := 0) (hz_94.trans rfl)
theorem w_94_14 : dx_W (tb_Z L xs) d 94 14 lv st σ Q ↔ dx_W (tb_Z L xs) d 94 16 lv (.int 26 :: st) σ Q := r_bipush (n := 26) (hz_94.trans rfl)
theorem w_94_16 {n : Int32} {y : dx_E} (hn : ¬ (n < 0 ∨ 1000000 < n.toNatClampNeg)) (hy : dx_na .int n.toNatClampNeg = some y) : dx_W (tb_Z L xs) d 94 16 lv (.int n :: st) σ Q ↔ dx_W (tb_Z L xs) d 94 18 lv (.ref σ.length :: st) (σ ++ [y]) Q := r_newarray (hz_94.trans rfl) hn hy
theorem w_94_18 {u w : Value} : dx_W (tb_Z L xs) d 94 18 lv (u :: w :: st) σ Q ↔ wO (dx_pf σ w 9 2 3 u) (fun σ1 => dx_W (tb_Z L xs) d 94 21 lv st σ1 Q) := r_putfield (f := 3) (hz_94.trans rfl)
theorem w_94_21 : dx_W (tb_Z L xs) d 94 21 lv st σ Q ↔ wR (dx_lk lv 0) (fun y => dx_W (tb_Z L xs) d 94 22 lv (y :: st) σ Q) := r_aload_n (k := 0) (hz_94.trans rfl)
theorem w_94_22 : dx_W (tb_Z L xs) d 94 22 lv st σ Q ↔ dx_W (tb_Z L xs) d 94 24 lv (.int 26 :: st) σ Q := r_bipush (n := 26) (hz_94.trans rfl)
theorem w_94_24 {n : Int32} {y : dx_E} (hn : ¬ (n < 0 ∨ 1000000 < n.toNatClampNeg)) (hy : dx_na .int n.toNatClampNeg = some y) : dx_W (tb_Z L xs) d 94 24 lv (.int n :: st) σ Q ↔ dx_W (tb_Z L xs) d 94 26 lv (.ref σ.length :: st) (σ ++ [y]) Q := r_newarray (hz_94.trans rfl) hn hy
theorem w_94_26 {u w : Value} : dx_W (tb_Z L xs) d 94 26 lv (u :: w :: st) σ Q ↔ wO (dx_pf σ w 9 3 3 u) (fun σ1 => dx_W (tb_Z L xs) d 94 29 lv st σ1 Q) := r_putfield (f := 3) (hz_94.trans rfl)
theorem w_94_29 : dx_W (tb_Z L xs) d 94 29 lv st σ Q ↔ wR (dx_lk lv 0) (fun y => dx_W (tb_Z L xs) d 94 30 lv (y :: st) σ Q) := r_aload_n (k := 0) (hz_94.trans rfl)
theorem w_94_30 : dx_W (tb_Z L xs) d 94 30 lv st σ Q ↔ dx_W (tb_Z L xs) d 94 33 lv (.int 210 :: st) σ Q := r_sipush (n := 210) (hz_94.trans rfl)
theorem w_94_33 {n : Int32} {y : dx_E} (hn : ¬ (n < 0 ∨ 1000000 < n.toNatClampNeg)) (hy : dx_na .int n.toNatClampNeg = some y) : dx_W (tb_Z L xs) d 94 33 lv (.int n :: st) σ Q ↔ dx_W (tb_Z L xs) d 94 35 lv (.ref σ.length :: st) (σ ++ [y]) Q := r_newarray (hz_94.trans rfl) hn hy
theorem w_94_35 {u w : Value} : dx_W (tb_Z L xs) d 94 35 lv (u :: w :: st) σ Q ↔ wO (dx_pf σ w 9 5 3 u) (fun σ1 => dx_W (tb_Z L xs) d 94 38 lv st σ1 Q) := r_putfield (f := 3) (hz_94.trans rfl)
theorem w_94_38 : dx_W (tb_Z L xs) d 94 38 lv st σ Q ↔ wR (dx_lk lv 0) (fun y => dx_W (tb_Z L xs) d 94 39 lv (y :: st) σ Q) := r_aload_n (k := 0) (hz_94.trans rfl)
theorem w_94_39 : dx_W (tb_Z L xs) d 94 39 lv st σ Q ↔ dx_W (tb_Z L xs) d 94 42 lv (.int 210 :: st) σ Q := r_sipush (n := 210) (hz_94.trans rfl)
theorem w_94_42 {n : Int32} {y : dx_E} (hn : ¬ (n < 0 ∨ 1000000 < n.toNatClampNeg)) (hy : dx_na .int n.toNatClampNeg = some y) : dx_W (tb_Z L xs) d 94 42 lv (.int n :: st) σ Q ↔ dx_W (tb_Z L xs) d 94 44 lv (.ref σ.length :: st) (σ ++ [y]) Q := r_newarray (hz_94.trans rfl) hn hy
theorem w_94_44 {u w : Value} : dx_W (tb_Z L xs) d 94 44 lv (u :: w :: st) σ Q ↔ wO (dx_pf σ w 9 6 3 u) (fun σ1 => dx_W (tb_Z L xs) d 94 47 lv st σ1 Q) := r_putfield (f := 3) (hz_94.trans rfl)
theorem w_94_47 : dx_W (tb_Z L xs) d 94 47 lv st σ Q ↔ wR (dx_lk lv 0) (fun y => dx_W (tb_Z L xs) d 94 48 lv (y :: st) σ Q) := r_aload_n (k := 0) (hz_94.trans rfl)
theorem w_94_48 : dx_W (tb_Z L xs) d 94 48 lv st σ Q ↔ dx_W (tb_Z L xs) d 94 51 lv (.int 210 :: st) σ Q := r_sipush (n := 210) (hz_94.trans rfl)
theorem w_94_51 {n : Int32} {y : dx_E} (hn : ¬ (n < 0 ∨ 1000000 < n.toNatClampNeg)) (hy : dx_na .int n.toNatClampNeg = some y) : dx_W (tb_Z L xs) d 94 51 lv (.int n :: st) σ Q ↔ dx_W (tb_Z L xs) d 94 53 lv (.ref σ.length :: st) (σ ++ [y]) Q := r_newarray (hz_94.trans rfl) hn hy
theorem w_94_53 {u w : Value} : dx_W (tb_Z L xs) d 94 53 lv (u :: w :: st) σ Q ↔ wO (dx_pf σ w 9 7 3 u) (fun σ1 => dx_W (tb_Z L xs) d 94 56 lv st σ1 Q) := r_putfield (f := 3) (hz_94.trans rfl)
theorem w_94_56 : dx_W (tb_Z L xs) d 94 56 lv st σ Q ↔ wR (dx_lk lv 0) (fun y => dx_W (tb_Z L xs) d 94 57 lv (y :: st) σ Q) := r_aload_n (k := 0) (hz_94.trans rfl)
theorem w_94_57 : dx_W (tb_Z L xs) d 94 57 lv st σ Q ↔ dx_W (tb_Z L xs) d 94 60 lv (.int 1200 :: st) σ Q := r_sipush (n := 1200) (hz_94.trans rfl)
theorem w_94_60 {n : Int32} {y : dx_E} (hn : ¬ (n < 0 ∨ 1000000 < n.toNatClampNeg)) (hy : dx_na .int n.toNatClampNeg = some y) : dx_W (tb_Z L xs) d 94 60 lv (.int n :: st) σ Q ↔ dx_W (tb_Z L xs) d 94 62 lv (.ref σ.length :: st) (σ ++ [y]) Q := r_newarray (hz_94.trans rfl) hn hy
theorem w_94_62 {u w : Value} : dx_W (tb_Z L xs) d 94 62 lv (u :: w :: st) σ Q ↔ wO (dx_pf σ w 9 11 3 u) (fun σ1 => dx_W (tb_Z L xs) d 94 65 lv st σ1 Q) := r_putfield (f := 3) (hz_94.trans rfl)
theorem w_94_65 : dx_W (tb_Z L xs) d 94 65 lv st σ Q ↔ wR (dx_lk lv 0) (fun y => dx_W (tb_Z L xs) d 94 66 lv (y :: st) σ Q) := r_aload_n (k := 0) (hz_94.trans rfl)
theorem w_94_66 : dx_W (tb_Z L xs) d 94 66 lv st σ Q ↔ dx_W (tb_Z L xs) d 94 69 lv (.int 1200 :: st) σ Q := r_sipush (n := 1200) (hz_94.trans rfl)
theorem w_94_69 {n : Int32} {y : dx_E} (hn : ¬ (n < 0 ∨ 1000000 < n.toNatClampNeg)) (hy : dx_na .int n.toNatClampNeg = some y) : dx_W (tb_Z L xs) d 94 69 lv (.int n :: st) σ Q ↔ dx_W (tb_Z L xs) d 94 71 lv (.ref σ.length :: st) (σ ++ [y]) Q := r_newarray (hz_94.trans rfl) hn hy
theorem w_94_71 {u w : Value} : dx_W (tb_Z L xs) d 94 71 lv (u :: w :: st) σ Q ↔ wO (dx_pf σ w 9 12 3 u) (fun σ1 => dx_W (tb_Z L xs) d 94 74 lv st σ1 Q) := r_putfield (f := 3) (hz_94.trans rfl)
theorem w_94_74 : dx_W (tb_Z L xs) d 94 74 lv st σ Q ↔ wR (dx_lk lv 0) (fun y => dx_W (tb_Z L xs) d 94 75 lv (y :: st) σ Q) := r_aload_n (k := 0) (hz_94.trans rfl)
theorem w_94_75 : dx_W (tb_Z L xs) d 94 75 lv st σ Q ↔ dx_W (tb_Z L xs) d 94 78 lv (.int 1200 :: st) σ Q := r_sipush (n := 1200) (hz_94.trans rfl)
theorem w_94_78 {n : Int32} {y : dx_E} (hn : ¬ (n < 0 ∨ 1000000 < n.toNatClampNeg)) (hy : dx_na .int n.toNatClampNeg = some y) : dx_W (tb_Z L xs) d 94 78 lv (.int n :: st) σ Q ↔ dx_W (tb_Z L xs) d 94 80 lv (.ref σ.length :: st) (σ ++ [y]) Q := r_newarray (hz_94.trans rfl) hn hy
theorem w_94_80 {u w : Value} : dx_W (tb_Z L xs) d 94 80 lv (u :: w :: st) σ Q ↔ wO (dx_pf σ w 9 13 3 u) (fun σ1 => dx_W (tb_Z L xs) d 94 83 lv st σ1 Q) := r_putfield (f := 3) (hz_94.trans rfl)
theorem w_94_83 : dx_W (tb_Z L xs) d 94 83 lv st σ Q ↔ wR (dx_lk lv 0) (fun y => dx_W (tb_Z L xs) d 94 84 lv (y :: st) σ Q) := r_aload_n (k := 0) (hz_94.trans rfl)
theorem w_94_84 : dx_W (tb_Z L xs) d 94 84 lv st σ Q ↔ dx_W (tb_Z L xs) d 94 86 lv (.int 26 :: st) σ Q := r_bipush (n := 26) (hz_94.trans rfl)
theorem w_94_86 {n : Int32} {y : dx_E} (hn : ¬ (n < 0 ∨ 1000000 < n.toNatClampNeg)) (hy : dx_na .int n.toNatClampNeg = some y) : dx_W (tb_Z L xs) d 94 86 lv (.int n :: st) σ Q ↔ dx_W (tb_Z L xs) d 94 88 lv (.ref σ.length :: st) (σ ++ [y]) Q := r_newarray (hz_94.trans rfl) hn hy
theorem w_94_88 {u w : Value} : dx_W (tb_Z L xs) d 94 88 lv (u :: w :: st) σ Q ↔ wO (dx_pf σ w 9 15 3 u) (fun σ1 => dx_W (tb_Z L xs) d 94 91 lv st σ1 Q) := r_putfield (f := 3) (hz_94.trans rfl)
theorem w_94_91 : dx_W (tb_Z L xs) d 94 91 lv st σ Q ↔ wR (dx_lk lv 0) (fun y => dx_W (tb_Z L xs) d 94 92 lv (y :: st) σ Q) := r_aload_n (k := 0) (hz_94.trans rfl)
theorem w_94_92 : dx_W (tb_Z L xs) d 94 92 lv st σ Q ↔ dx_W (tb_Z L xs) d 94 94 lv (.int 26 :: st) σ Q := r_bipush (n := 26) (hz_94.trans rfl)
theorem w_94_94 {n : Int32} {y : dx_E} (hn : ¬ (n < 0 ∨ 1000000 < n.toNatClampNeg)) (hy : dx_na .int n.toNatClampNeg = some y) : dx_W (tb_Z L xs) d 94 94 lv (.int n :: st) σ Q ↔ dx_W (tb_Z L xs) d 94 96 lv (.ref σ.length :: st) (σ ++ [y]) Q := r_newarray (hz_94.trans rfl) hn hy
theorem w_94_96 {u w : Value} : dx_W (tb_Z L xs) d 94 96 lv (u :: w :: st) σ Q ↔ wO (dx_pf σ w 9 16 3 u) (fun σ1 => dx_W (tb_Z L xs) d 94 99 lv st σ1 Q) := r_putfield (f := 3) (hz_94.trans rfl)
theorem w_94_99 : dx_W (tb_Z L xs) d 94 99 lv st σ Q ↔ wR (dx_lk lv 0) (fun y => dx_W (tb_Z L xs) d 94 100 lv (y :: st) σ Q) := r_aload_n (k := 0) (hz_94.trans rfl)
theorem w_94_100 : dx_W (tb_Z L xs) d 94 100 lv st σ Q ↔ dx_W (tb_Z L xs) d 94 103 lv (.int 600 :: st) σ Q := r_sipush (n := 600) (hz_94.trans rfl)
theorem w_94_103 {n : Int32} {y : dx_E} (hn : ¬ (n < 0 ∨ 1000000 < n.toNatClampNeg)) (hy : dx_na .int n.toNatClampNeg = some y) : dx_W (tb_Z L xs) d 94 103 lv (.int n :: st) σ Q ↔ dx_W (tb_Z L xs) d 94 105 lv (.ref σ.length :: st) (σ ++ [y]) Q := r_newarray (hz_94.trans rfl) hn hy
theorem w_94_105 {u w : Value} : dx_W (tb_Z L xs) d 94 105 lv (u :: w :: st) σ Q ↔ wO (dx_pf σ w 9 17 3 u) (fun σ1 => dx_W (tb_Z L xs) d 94 108 lv st σ1 Q) := r_putfield (f := 3) (hz_94.trans rfl)
theorem w_94_108 : dx_W (tb_Z L xs) d 94 108 lv st σ Q ↔ wR (dx_lk lv 0) (fun y => dx_W (tb_Z L xs) d 94 109 lv (y :: st) σ Q) := r_aload_n (k := 0) (hz_94.trans rfl)
theorem w_94_109 : dx_W (tb_Z L xs) d 94 109 lv st σ Q ↔ dx_W (tb_Z L xs) d 94 112 lv (.int 600 :: st) σ Q := r_sipush (n := 600) (hz_94.trans rfl)
theorem w_94_112 {n : Int32} {y : dx_E} (hn : ¬ (n < 0 ∨ 1000000 < n.toNatClampNeg)) (hy : dx_na .int n.toNatClampNeg = some y) : dx_W (tb_Z L xs) d 94 112 lv (.int n :: st) σ Q ↔ dx_W (tb_Z L xs) d 94 114 lv (.ref σ.length :: st) (σ ++ [y]) Q := r_newarray (hz_94.trans rfl) hn hy
theorem w_94_114 {u w : Value} : dx_W (tb_Z L xs) d 94 114 lv (u :: w :: st) σ Q ↔ wO (dx_pf σ w 9 18 3 u) (fun σ1 => dx_W (tb_Z L xs) d 94 117 lv st σ1 Q) := r_putfield (f := 3) (hz_94.trans rfl)
theorem w_94_117 : dx_W (tb_Z L xs) d 94 117 lv st σ Q ↔ wR (dx_lk lv 0) (fun y => dx_W (tb_Z L xs) d 94 118 lv (y :: st) σ Q) := r_aload_n (k := 0) (hz_94.trans rfl)
theorem w_94_118 : dx_W (tb_Z L xs) d 94 118 lv st σ Q ↔ dx_W (tb_Z L xs) d 94 121 lv (.int 600 :: st) σ Q := r_sipush (n := 600) (hz_94.trans rfl)
theorem w_94_121 {n : Int32} {y : dx_E} (hn : ¬ (n < 0 ∨ 1000000 < n.toNatClampNeg)) (hy : dx_na .int n.toNatClampNeg = some y) : dx_W (tb_Z L xs) d 94 121 lv (.int n :: st) σ Q ↔ dx_W (tb_Z L xs) d 94 123 lv (.ref σ.length :: st) (σ ++ [y]) Q := r_newarray (hz_94.trans rfl) hn hy
theorem w_94_123 {u w : Value} : dx_W (tb_Z L xs) d 94 123 lv (u :: w :: st) σ Q ↔ wO (dx_pf σ w 9 19 3 u) (fun σ1 => dx_W (tb_Z L xs) d 94 126 lv st σ1 Q) := r_putfield (f := 3) (hz_94.trans rfl)
theorem w_94_126 : dx_W (tb_Z L xs) d 94 126 lv st σ Q ↔ wR (dx_lk lv 0) (fun y => dx_W (tb_Z L xs) d 94 127 lv (y :: st) σ Q) := r_aload_n (k := 0) (hz_94.trans rfl)
theorem w_94_127 : dx_W (tb_Z L xs) d 94 127 lv st σ Q ↔ dx_W (tb_Z L xs) d 94 130 lv (.int 300 :: st) σ Q := r_sipush (n := 300) (hz_94.trans rfl)
theorem w_94_130 {n : Int32} {y : dx_E} (hn : ¬ (n < 0 ∨ 1000000 < n.toNatClampNeg)) (hy : dx_na .int n.toNatClampNeg = some y) : dx_W (tb_Z L xs) d 94 130 lv (.int n :: st) σ Q ↔ dx_W (tb_Z L xs) d 94 132 lv (.ref σ.length :: st) (σ ++ [y]) Q := r_newarray (hz_94.trans rfl) hn hy
theorem w_94_132 {u w : Value} : dx_W (tb_Z L xs) d 94 132 lv (u :: w :: st) σ Q ↔ wO (dx_pf σ w 9 23 3 u) (fun σ1 => dx_W (tb_Z L xs) d 94 135 lv st σ1 Q) := r_putfield (f := 3) (hz_94.trans rfl)
theorem w_94_135 : dx_W (tb_Z L xs) d 94 135 lv st σ Q ↔ wR (dx_lk lv 0) (fun y => dx_W (tb_Z L xs) d 94 136 lv (y :: st) σ Q) := r_aload_n (k := 0) (hz_94.trans rfl)
theorem w_94_136 : dx_W (tb_Z L xs) d 94 136 lv st σ Q ↔ dx_W (tb_Z L xs) d 94 139 lv (.int 300 :: st) σ Q := r_sipush (n := 300) (hz_94.trans rfl)
theorem w_94_139 {n : Int32} {y : dx_E} (hn : ¬ (n < 0 ∨ 1000000 < n.toNatClampNeg)) (hy : dx_na .int n.toNatClampNeg = some y) : dx_W (tb_Z L xs) d 94 139 lv (.int n :: st) σ Q ↔ dx_W (tb_Z L xs) d 94 141 lv (.ref σ.length :: st) (σ ++ [y]) Q := r_newarray (hz_94.trans rfl) hn hy
theorem w_94_141 {u w : Value} : dx_W (tb_Z L xs) d 94 141 lv (u :: w :: st) σ Q ↔ wO (dx_pf σ w 9 24 3 u) (fun σ1 => dx_W (tb_Z L xs) d 94 144 lv st σ1 Q) := r_putfield (f := 3) (hz_94.trans rfl)
theorem w_94_144 : dx_W (tb_Z L xs) d 94 144 lv st σ Q ↔ wR (dx_lk lv 0) (fun y => dx_W (tb_Z L xs) d 94 145 lv (y :: st) σ Q) := r_aload_n (k := 0) (hz_94.trans rfl)
theorem w_94_145 : dx_W (tb_Z L xs) d 94 145 lv st σ Q ↔ dx_W (tb_Z L xs) d 94 146 lv (.int 5 :: st) σ Q := r_iconst (n := 5) (hz_94.trans rfl)
theorem w_94_146 {n : Int32} {y : dx_E} (hn : ¬ (n < 0 ∨ 1000000 < n.toNatClampNeg)) (hy : dx_na .int n.toNatClampNeg = some y) : dx_W (tb_Z L xs) d 94 146 lv (.int n :: st) σ Q ↔ dx_W (tb_Z L xs) d 94 148 lv (.ref σ.length :: st) (σ ++ [y]) Q := r_newarray (hz_94.trans rfl) hn hy
theorem w_94_148 {u w : Value} : dx_W (tb_Z L xs) d 94 148 lv (u :: w :: st) σ Q ↔ wO (dx_pf σ w 9 25 3 u) (fun σ1 => dx_W (tb_Z L xs) d 94 151 lv st σ1 Q) := r_putfield (f := 3) (hz_94.trans rfl)
theorem w_94_151 : dx_W (tb_Z L xs) d 94 151 lv st σ Q ↔ wR (dx_lk lv 0) (fun y => dx_W (tb_Z L xs) d 94 152 lv (y :: st) σ Q) := r_aload_n (k := 0) (hz_94.trans rfl)
theorem w_94_152 : dx_W (tb_Z L xs) d 94 152 lv st σ Q ↔ dx_W (tb_Z L xs) d 94 153 lv (.int 5 :: st) σ Q := r_iconst (n := 5) (hz_94.trans rfl)
theorem w_94_153 {n : Int32} {y : dx_E} (hn : ¬ (n < 0 ∨ 1000000 < n.toNatClampNeg)) (hy : dx_na .int n.toNatClampNeg = some y) : dx_W (tb_Z L xs) d 94 153 lv (.int n :: st) σ Q ↔ dx_W (tb_Z L xs) d 94 155 lv (.ref σ.length :: st) (σ ++ [y]) Q := r_newarray (hz_94.trans rfl) hn hy
theorem w_94_155 {u w : Value} : dx_W (tb_Z L xs) d 94 155 lv (u :: w :: st) σ Q ↔ wO (dx_pf σ w 9 26 3 u) (fun σ1 => dx_W (tb_Z L xs) d 94 158 lv st σ1 Q) := r_putfield (f := 3) (hz_94.trans rfl)
theorem w_94_158 : dx_W (tb_Z L xs) d 94 158 lv st σ Q ↔ wR (dx_lk lv 0) (fun y => dx_W (tb_Z L xs) d 94 159 lv (y :: st) σ Q) := r_aload_n (k := 0) (hz_94.trans rfl)
theorem w_94_159 : dx_W (tb_Z L xs) d 94 159 lv st σ Q ↔ dx_W (tb_Z L xs) d 94 160 lv (.int 5 :: st) σ Q := r_iconst (n := 5) (hz_94.trans rfl)
theorem w_94_160 {n : Int32} {y : dx_E} (hn : ¬ (n < 0 ∨ 1000000 < n.toNatClampNeg)) (hy : dx_na .int n.toNatClampNeg = some y) : dx_W (tb_Z L xs) d 94 160 lv (.int n :: st) σ Q ↔ dx_W (tb_Z L xs) d 94 162 lv (.ref σ.length :: st) (σ ++ [y]) Q := r_newarray (hz_94.trans rfl) hn hy
theorem w_94_162 {u w : Value} : dx_W (tb_Z L xs) d 94 162 lv (u :: w :: st) σ Q ↔ wO (dx_pf σ w 9 27 3 u) (fun σ1 => dx_W (tb_Z L xs) d 94 165 lv st σ1 Q) := r_putfield (f := 3) (hz_94.trans rfl)
theorem w_94_165 : dx_W (tb_Z L xs) d 94 165 lv st σ Q ↔ wR (dx_lk lv 0) (fun y => dx_W (tb_Z L xs) d 94 166 lv (y :: st) σ Q) := r_aload_n (k := 0) (hz_94.trans rfl)
theorem w_94_166 : dx_W (tb_Z L xs) d 94 166 lv st σ Q ↔ dx_W (tb_Z L xs) d 94 167 lv (.int 5 :: st) σ Q := r_iconst (n := 5) (hz_94.trans rfl)
theorem w_94_167 {n : Int32} {y : dx_E} (hn : ¬ (n < 0 ∨ 1000000 < n.toNatClampNeg)) (hy : dx_na .int n.toNatClampNeg = some y) : dx_W (tb_Z L xs) d 94 167 lv (.int n :: st) σ Q ↔ dx_W (tb_Z L xs) d 94 169 lv (.ref σ.length :: st) (σ ++ [y]) Q := r_newarray (hz_94.trans rfl) hn hy
theorem w_94_169 {u w : Value} : dx_W (tb_Z L xs) d 94 169 lv (u :: w :: st) σ Q ↔ wO (dx_pf σ w 9 28 3 u) (fun σ1 => dx_W (tb_Z L xs) d 94 172 lv st σ1 Q) := r_putfield (f := 3) (hz_94.trans rfl)
theorem w_94_172 : dx_W (tb_Z L xs) d 94 172 lv st σ Q ↔ wR (dx_lk lv 0) (fun y => dx_W (tb_Z L xs) d 94 173 lv (y :: st) σ Q) := r_aload_n (k := 0) (hz_94.trans rfl)
theorem w_94_173 : dx_W (tb_Z L xs) d 94 173 lv st σ Q ↔ dx_W (tb_Z L xs) d 94 174 lv (.int 5 :: st) σ Q := r_iconst (n := 5) (hz_94.trans rfl)
theorem w_94_174 {n : Int32} {y : dx_E} (hn : ¬ (n < 0 ∨ 1000000 < n.toNatClampNeg)) (hy : dx_na .int n.toNatClampNeg = some y) : dx_W (tb_Z L xs) d 94 174 lv (.int n :: st) σ Q ↔ dx_W (tb_Z L xs) d 94 176 lv (.ref σ.length :: st) (σ ++ [y]) Q := r_newarray (hz_94.trans rfl) hn hy
theorem w_94_176 {u w : Value} : dx_W (tb_Z L xs) d 94 176 lv (u :: w :: st) σ Q ↔ wO (dx_pf σ w 9 29 3 u) (fun σ1 => dx_W (tb_Z L xs) d 94 179 lv st σ1 Q) := r_putfield (f := 3) (hz_94.trans rfl)
theorem w_94_179 : dx_W (tb_Z L xs) d 94 179 lv st σ Q ↔ wR (dx_lk lv 0) (fun y => dx_W (tb_Z L xs) d 94 180 lv (y :: st) σ Q) := r_aload_n (k := 0) (hz_94.trans rfl)
theorem w_94_180 : dx_W (tb_Z L xs) d 94 180 lv st σ Q ↔ dx_W (tb_Z L xs) d 94 183 lv (.int 300 :: st) σ Q := r_sipush (n := 300) (hz_94.trans rfl)
theorem w_94_183 {n : Int32} {y : dx_E} (hn : ¬ (n < 0 ∨ 1000000 < n.toNatClampNeg)) (hy : dx_na .int n.toNatClampNeg = some y) : dx_W (tb_Z L xs) d 94 183 lv (.int n :: st) σ Q ↔ dx_W (tb_Z L xs) d 94 185 lv (.ref σ.length :: st) (σ ++ [y]) Q := r_newarray (hz_94.trans rfl) hn hy
theorem w_94_185 {u w : Value} : dx_W (tb_Z L xs) d 94 185 lv (u :: w :: st) σ Q ↔ wO (dx_pf σ w 9 36 3 u) (fun σ1 => dx_W (tb_Z L xs) d 94 188 lv st σ1 Q) := r_putfield (f := 3) (hz_94.trans rfl)
theorem w_94_188 : dx_W (tb_Z L xs) d 94 188 lv st σ Q ↔ wR (dx_lk lv 0) (fun y => dx_W (tb_Z L xs) d 94 189 lv (y :: st) σ Q) := r_aload_n (k := 0) (hz_94.trans rfl)
theorem w_94_189 : dx_W (tb_Z L xs) d 94 189 lv st σ Q ↔ dx_W (tb_Z L xs) d 94 190 lv (.int 0 :: st) σ Q := r_iconst (n := 0) (hz_94.trans rfl)
theorem w_94_190 {u w : Value} : dx_W (tb_Z L xs) d 94 190 lv (u :: w :: st) σ Q ↔ wO (dx_pf σ w 9 4 0 u) (fun σ1 => dx_W (tb_Z L xs) d 94 193 lv st σ1 Q) := r_putfield (f := 0) (hz_94.trans rfl)
theorem w_94_193 : dx_W (tb_Z L xs) d 94 193 lv [] σ Q ↔ Q (.inl none) σ := r_return (hz_94.trans rfl) rfl
theorem hz_95 {pc : Nat} : (tb_Z L xs).1 95 pc = dx_at tb_m95 pc := rfl
theorem w_95_0 : dx_W (tb_Z L xs) d 95 0 lv st σ Q ↔ dx_W (tb_Z L xs) d 95 1 lv (.int 0 :: st) σ Q := r_iconst (n := 0) (hz_95.trans rfl)
theorem w_95_1 {x : Int32} : dx_W (tb_Z L xs) d 95 1 lv (.int x :: st) σ Q ↔ dx_W (tb_Z L xs) d 95 2 (dx_s1 lv 2 (.int x)) st σ Q := r_istore_n (k := 2) (hz_95.trans rfl) (show 2 < tb_l 95 by decide)
theorem w_95_2 : dx_W (tb_Z L xs) d 95 2 lv st σ Q ↔ wI (dx_lk lv 2) (fun y => dx_W (tb_Z L xs) d 95 3 lv (.int y :: st) σ Q) := r_iload_n (k := 2) (hz_95.trans rfl)
theorem w_95_3 : dx_W (tb_Z L xs) d 95 3 lv st σ Q ↔ dx_W (tb_Z L xs) d 95 4 lv (.int 4 :: st) σ Q := r_iconst (n := 4) (hz_95.trans rfl)
theorem w_95_4 {x y : Int32} : dx_W (tb_Z L xs) d 95 4 lv (.int y :: .int x :: st) σ Q ↔ (if y ≤ x then dx_W (tb_Z L xs) d 95 26 lv st σ Q else dx_W (tb_Z L xs) d 95 7 lv st σ Q) := r_ic_ge (off := 22) (t := 26) (hz_95.trans rfl) (by decide)
theorem w_95_7 : dx_W (tb_Z L xs) d 95 7 lv st σ Q ↔ wI (dx_lk lv 1) (fun y => dx_W (tb_Z L xs) d 95 8 lv (.int y :: st) σ Q) := r_iload_n (k := 1) (hz_95.trans rfl)
theorem w_95_8 : dx_W (tb_Z L xs) d 95 8 lv st σ Q ↔ dx_W (tb_Z L xs) d 95 10 lv (.int 8 :: st) σ Q := r_bipush (n := 8) (hz_95.trans rfl)
theorem w_95_10 : dx_W (tb_Z L xs) d 95 10 lv st σ Q ↔ wI (dx_lk lv 2) (fun y => dx_W (tb_Z L xs) d 95 11 lv (.int y :: st) σ Q) := r_iload_n (k := 2) (hz_95.trans rfl)
theorem w_95_11 {x y : Int32} : dx_W (tb_Z L xs) d 95 11 lv (.int y :: .int x :: st) σ Q ↔ dx_W (tb_Z L xs) d 95 12 lv (.int (x * y) :: st) σ Q := r_imul (hz_95.trans rfl)
theorem w_95_12 {x y : Int32} : dx_W (tb_Z L xs) d 95 12 lv (.int y :: .int x :: st) σ Q ↔ dx_W (tb_Z L xs) d 95 13 lv (.int (x >>> (y &&& 31)) :: st) σ Q := r_ishr (hz_95.trans rfl)
theorem w_95_13 : dx_W (tb_Z L xs) d 95 13 lv st σ Q ↔ dx_W (tb_Z L xs) d 95 16 lv (.int 255 :: st) σ Q := r_sipush (n := 255) (hz_95.trans rfl)
theorem w_95_16 {x y : Int32} : dx_W (tb_Z L xs) d 95 16 lv (.int y :: .int x :: st) σ Q ↔ dx_W (tb_Z L xs) d 95 17 lv (.int (x &&& y) :: st) σ Q := r_iand (hz_95.trans rfl)
theorem w_95_17 {x : Int32} : dx_W (tb_Z L xs) d 95 17 lv (.int x :: st) σ Q ↔ (if x = 0 then dx_W (tb_Z L xs) d 95 26 lv st σ Q else dx_W (tb_Z L xs) d 95 20 lv st σ Q) := r_if_eq (off := 9) (t := 26) (hz_95.trans rfl) (by decide)
theorem w_95_20 : dx_W (tb_Z L xs) d 95 20 lv st σ Q ↔ wI (dx_lk lv 2) (fun y => dx_W (tb_Z L xs) d 95 23 (dx_s1 lv 2 (.int (y + 1))) st σ Q) := r_iincv (k := 2) (n := 1) (hz_95.trans rfl) (show 2 < tb_l 95 by decide) (by decide)
theorem w_95_23 : dx_W (tb_Z L xs) d 95 23 lv st σ Q ↔ dx_W (tb_Z L xs) d 95 2 lv st σ Q := r_goto (off := (-21)) (t := 2) (hz_95.trans rfl) (by decide)
theorem w_95_26 : dx_W (tb_Z L xs) d 95 26 lv st σ Q ↔ wR (dx_lk lv 0) (fun y => dx_W (tb_Z L xs) d 95 27 lv (y :: st) σ Q) := r_aload_n (k := 0) (hz_95.trans rfl)
theorem w_95_27 {w : Value} : dx_W (tb_Z L xs) d 95 27 lv (w :: st) σ Q ↔ wO (dx_gf (tb_K L xs) σ w 9 1) (fun y => dx_W (tb_Z L xs) d 95 30 lv (y :: st) σ Q) := r_getfield (hz_95.trans rfl)
theorem w_95_30 : dx_W (tb_Z L xs) d 95 30 lv st σ Q ↔ wI (dx_lk lv 2) (fun y => dx_W (tb_Z L xs) d 95 31 lv (.int y :: st) σ Q) := r_iload_n (k := 2) (hz_95.trans rfl)
theorem w_95_31 {x y : Int32} : dx_W (tb_Z L xs) d 95 31 lv (.int y :: .int x :: st) σ Q ↔ dx_W (tb_Z L xs) d 95 32 lv (.int (x + y) :: st) σ Q := r_iadd (hz_95.trans rfl)
theorem w_95_32 : dx_W (tb_Z L xs) d 95 32 lv st σ Q ↔ dx_W (tb_Z L xs) d 95 35 lv (.int 200 :: st) σ Q := r_sipush (n := 200) (hz_95.trans rfl)
theorem w_95_35 {x y : Int32} : dx_W (tb_Z L xs) d 95 35 lv (.int y :: .int x :: st) σ Q ↔ (if x ≤ y then dx_W (tb_Z L xs) d 95 40 lv st σ Q else dx_W (tb_Z L xs) d 95 38 lv st σ Q) := r_ic_le (off := 5) (t := 40) (hz_95.trans rfl) (by decide)
theorem w_95_38 : dx_W (tb_Z L xs) d 95 38 lv st σ Q ↔ dx_W (tb_Z L xs) d 95 39 lv (.int (-1) :: st) σ Q := r_iconst (n := (-1)) (hz_95.trans rfl)
theorem w_95_39 {x : Int32} : dx_W (tb_Z L xs) d 95 39 lv [.int x] σ Q ↔ Q (.inl (some (.int x))) σ := r_ireturn (hz_95.trans rfl) rfl rfl
theorem w_95_40 : dx_W (tb_Z L xs) d 95 40 lv st σ Q ↔ dx_W (tb_Z L xs) d 95 41 lv (.int 0 :: st) σ Q := r_iconst (n := 0) (hz_95.trans rfl)
theorem w_95_41 {x : Int32} : dx_W (tb_Z L xs) d 95 41 lv (.int x :: st) σ Q ↔ dx_W (tb_Z L xs) d 95 42 (dx_s1 lv 3 (.int x)) st σ Q := r_istore_n (k := 3) (hz_95.trans rfl) (show 3 < tb_l 95 by decide)
theorem w_95_42 : dx_W (tb_Z L xs) d 95 42 lv st σ Q ↔ wI (dx_lk lv 3) (fun y => dx_W (tb_Z L xs) d 95 43 lv (.int y :: st) σ Q) := r_iload_n (k := 3) (hz_95.trans rfl)
theorem w_95_43 : dx_W (tb_Z L xs) d 95 43 lv st σ Q ↔ wI (dx_lk lv 2) (fun y => dx_W (tb_Z L xs) d 95 44 lv (.int y :: st) σ Q) := r_iload_n (k := 2) (hz_95.trans rfl)
theorem w_95_44 {x y : Int32} : dx_W (tb_Z L xs) d 95 44 lv (.int y :: .int x :: st) σ Q ↔ (if y ≤ x then dx_W (tb_Z L xs) d 95 74 lv st σ Q else dx_W (tb_Z L xs) d 95 47 lv st σ Q) := r_ic_ge (off := 30) (t := 74) (hz_95.trans rfl) (by decide)
theorem w_95_47 : dx_W (tb_Z L xs) d 95 47 lv st σ Q ↔ wR (dx_lk lv 0) (fun y => dx_W (tb_Z L xs) d 95 48 lv (y :: st) σ Q) := r_aload_n (k := 0) (hz_95.trans rfl)
theorem w_95_48 {w : Value} : dx_W (tb_Z L xs) d 95 48 lv (w :: st) σ Q ↔ wO (dx_gf (tb_K L xs) σ w 9 0) (fun y => dx_W (tb_Z L xs) d 95 51 lv (y :: st) σ Q) := r_getfield (hz_95.trans rfl)
theorem w_95_51 : dx_W (tb_Z L xs) d 95 51 lv st σ Q ↔ wR (dx_lk lv 0) (fun y => dx_W (tb_Z L xs) d 95 52 lv (y :: st) σ Q) := r_aload_n (k := 0) (hz_95.trans rfl)
theorem w_95_52 {w : Value} : dx_W (tb_Z L xs) d 95 52 lv (w :: st) σ Q ↔ wO (dx_gf (tb_K L xs) σ w 9 1) (fun y => dx_W (tb_Z L xs) d 95 55 lv (y :: st) σ Q) := r_getfield (hz_95.trans rfl)
theorem w_95_55 : dx_W (tb_Z L xs) d 95 55 lv st σ Q ↔ wI (dx_lk lv 3) (fun y => dx_W (tb_Z L xs) d 95 56 lv (.int y :: st) σ Q) := r_iload_n (k := 3) (hz_95.trans rfl)
theorem w_95_56 {x y : Int32} : dx_W (tb_Z L xs) d 95 56 lv (.int y :: .int x :: st) σ Q ↔ dx_W (tb_Z L xs) d 95 57 lv (.int (x + y) :: st) σ Q := r_iadd (hz_95.trans rfl)
theorem w_95_57 : dx_W (tb_Z L xs) d 95 57 lv st σ Q ↔ wI (dx_lk lv 1) (fun y => dx_W (tb_Z L xs) d 95 58 lv (.int y :: st) σ Q) := r_iload_n (k := 1) (hz_95.trans rfl)
theorem w_95_58 : dx_W (tb_Z L xs) d 95 58 lv st σ Q ↔ dx_W (tb_Z L xs) d 95 60 lv (.int 8 :: st) σ Q := r_bipush (n := 8) (hz_95.trans rfl)
theorem w_95_60 : dx_W (tb_Z L xs) d 95 60 lv st σ Q ↔ wI (dx_lk lv 3) (fun y => dx_W (tb_Z L xs) d 95 61 lv (.int y :: st) σ Q) := r_iload_n (k := 3) (hz_95.trans rfl)
theorem w_95_61 {x y : Int32} : dx_W (tb_Z L xs) d 95 61 lv (.int y :: .int x :: st) σ Q ↔ dx_W (tb_Z L xs) d 95 62 lv (.int (x * y) :: st) σ Q := r_imul (hz_95.trans rfl)
theorem w_95_62 {x y : Int32} : dx_W (tb_Z L xs) d 95 62 lv (.int y :: .int x :: st) σ Q ↔ dx_W (tb_Z L xs) d 95 63 lv (.int (x >>> (y &&& 31)) :: st) σ Q := r_ishr (hz_95.trans rfl)
theorem w_95_63 : dx_W (tb_Z L xs) d 95 63 lv st σ Q ↔ dx_W (tb_Z L xs) d 95 66 lv (.int 255 :: st) σ Q := r_sipush (n := 255) (hz_95.trans rfl)
theorem w_95_66 {x y : Int32} : dx_W (tb_Z L xs) d 95 66 lv (.int y :: .int x :: st) σ Q ↔ dx_W (tb_Z L xs) d 95 67 lv (.int (x &&& y) :: st) σ Q := r_iand (hz_95.trans rfl)
theorem w_95_67 {w : Value} {y : Int32} {u : Int32} : dx_W (tb_Z L xs) d 95 67 lv (.int u :: .int y :: w :: st) σ Q ↔ wO (dx_pi σ 0 w y u) (fun σ1 => dx_W (tb_Z L xs) d 95 68 lv st σ1 Q) := r_iastore (hz_95.trans rfl)
theorem w_95_68 : dx_W (tb_Z L xs) d 95 68 lv st σ Q ↔ wI (dx_lk lv 3) (fun y => dx_W (tb_Z L xs) d 95 71 (dx_s1 lv 3 (.int (y + 1))) st σ Q) := r_iincv (k := 3) (n := 1) (hz_95.trans rfl) (show 3 < tb_l 95 by decide) (by decide)
theorem w_95_71 : dx_W (tb_Z L xs) d 95 71 lv st σ Q ↔ dx_W (tb_Z L xs) d 95 42 lv st σ Q := r_goto (off := (-29)) (t := 42) (hz_95.trans rfl) (by decide)
theorem w_95_74 : dx_W (tb_Z L xs) d 95 74 lv st σ Q ↔ wR (dx_lk lv 0) (fun y => dx_W (tb_Z L xs) d 95 75 lv (y :: st) σ Q) := r_aload_n (k := 0) (hz_95.trans rfl)
theorem w_95_75_int {x : Int32} : dx_W (tb_Z L xs) d 95 75 lv (.int x :: st) σ Q ↔ dx_W (tb_Z L xs) d 95 76 lv (.int x :: .int x :: st) σ Q := r_dup_int (hz_95.trans rfl)
theorem w_95_75_ref {x : Nat} : dx_W (tb_Z L xs) d 95 75 lv (.ref x :: st) σ Q ↔ dx_W (tb_Z L xs) d 95 76 lv (.ref x :: .ref x :: st) σ Q := r_dup_ref (hz_95.trans rfl)
theorem w_95_75_retAddr {x : Nat} : dx_W (tb_Z L xs) d 95 75 lv (.retAddr x :: st) σ Q ↔ dx_W (tb_Z L xs) d 95 76 lv (.retAddr x :: .retAddr x :: st) σ Q := r_dup_retAddr (hz_95.trans rfl)
theorem w_95_76 {w : Value} : dx_W (tb_Z L xs) d 95 76 lv (w :: st) σ Q ↔ wO (dx_gf (tb_K L xs) σ w 9 1) (fun y => dx_W (tb_Z L xs) d 95 79 lv (y :: st) σ Q) := r_getfield (hz_95.trans rfl)
theorem w_95_79 : dx_W (tb_Z L xs) d 95 79 lv st σ Q ↔ wI (dx_lk lv 2) (fun y => dx_W (tb_Z L xs) d 95 80 lv (.int y :: st) σ Q) := r_iload_n (k := 2) (hz_95.trans rfl)
theorem w_95_80 {x y : Int32} : dx_W (tb_Z L xs) d 95 80 lv (.int y :: .int x :: st) σ Q ↔ dx_W (tb_Z L xs) d 95 81 lv (.int (x + y) :: st) σ Q := r_iadd (hz_95.trans rfl)
theorem w_95_81 {u w : Value} : dx_W (tb_Z L xs) d 95 81 lv (u :: w :: st) σ Q ↔ wO (dx_pf σ w 9 1 0 u) (fun σ1 => dx_W (tb_Z L xs) d 95 84 lv st σ1 Q) := r_putfield (f := 0) (hz_95.trans rfl)
theorem w_95_84 : dx_W (tb_Z L xs) d 95 84 lv st σ Q ↔ wI (dx_lk lv 2) (fun y => dx_W (tb_Z L xs) d 95 85 lv (.int y :: st) σ Q) := r_iload_n (k := 2) (hz_95.trans rfl)
theorem w_95_85 {x : Int32} : dx_W (tb_Z L xs) d 95 85 lv [.int x] σ Q ↔ Q (.inl (some (.int x))) σ := r_ireturn (hz_95.trans rfl) rfl rfl
theorem hz_96 {pc : Nat} : (tb_Z L xs).1 96 pc = dx_at tb_m96 pc := rfl
theorem w_96_0 : dx_W (tb_Z L xs) d 96 0 lv st σ Q ↔ wR (dx_lk lv 0) (fun y => dx_W (tb_Z L xs) d 96 1 lv (y :: st) σ Q) := r_aload_n (k := 0) (hz_96.trans rfl)
theorem w_96_1 {w : Value} : dx_W (tb_Z L xs) d 96 1 lv (w :: st) σ Q ↔ wO (dx_gf (tb_K L xs) σ w 9 1) (fun y => dx_W (tb_Z L xs) d 96 4 lv (y :: st) σ Q) := r_getfield (hz_96.trans rfl)
theorem w_96_4 {x : Int32} : dx_W (tb_Z L xs) d 96 4 lv [.int x] σ Q ↔ Q (.inl (some (.int x))) σ := r_ireturn (hz_96.trans rfl) rfl rfl
theorem hz_97 {pc : Nat} : (tb_Z L xs).1 97 pc = dx_at tb_m97 pc := rfl
theorem w_97_0 : dx_W (tb_Z L xs) d 97 0 lv st σ Q ↔ wR (dx_lk lv 0) (fun y => dx_W (tb_Z L xs) d 97 1 lv (y :: st) σ Q) := r_aload_n (k := 0) (hz_97.trans rfl)
theorem w_97_1 : dx_W (tb_Z L xs) d 97 1 lv st σ Q ↔ dx_W (tb_Z L xs) d 97 2 lv (.int 0 :: st) σ Q := r_iconst (n := 0) (hz_97.trans rfl)
theorem w_97_2 {u w : Value} : dx_W (tb_Z L xs) d 97 2 lv (u :: w :: st) σ Q ↔ wO (dx_pf σ w 9 1 0 u) (fun σ1 => dx_W (tb_Z L xs) d 97 5 lv st σ1 Q) := r_putfield (f := 0) (hz_97.trans rfl)
theorem w_97_5 : dx_W (tb_Z L xs) d 97 5 lv [] σ Q ↔ Q (.inl none) σ := r_return (hz_97.trans rfl) rfl
theorem hz_98 {pc : Nat} : (tb_Z L xs).1 98 pc = dx_at tb_m98 pc := rfl
theorem w_98_0 : dx_W (tb_Z L xs) d 98 0 lv st σ Q ↔ dx_W (tb_Z L xs) d 98 1 lv (.int 0 :: st) σ Q := r_iconst (n := 0) (hz_98.trans rfl)
theorem w_98_1 {x : Int32} : dx_W (tb_Z L xs) d 98 1 lv (.int x :: st) σ Q ↔ dx_W (tb_Z L xs) d 98 2 (dx_s1 lv 1 (.int x)) st σ Q := r_istore_n (k := 1) (hz_98.trans rfl) (show 1 < tb_l 98 by decide)
theorem w_98_2 : dx_W (tb_Z L xs) d 98 2 lv st σ Q ↔ wI (dx_lk lv 1) (fun y => dx_W (tb_Z L xs) d 98 3 lv (.int y :: st) σ Q) := r_iload_n (k := 1) (hz_98.trans rfl)
theorem w_98_3 : dx_W (tb_Z L xs) d 98 3 lv st σ Q ↔ dx_W (tb_Z L xs) d 98 5 lv (.int 26 :: st) σ Q := r_bipush (n := 26) (hz_98.trans rfl)
theorem w_98_5 {x y : Int32} : dx_W (tb_Z L xs) d 98 5 lv (.int y :: .int x :: st) σ Q ↔ (if y ≤ x then dx_W (tb_Z L xs) d 98 28 lv st σ Q else dx_W (tb_Z L xs) d 98 8 lv st σ Q) := r_ic_ge (off := 23) (t := 28) (hz_98.trans rfl) (by decide)
theorem w_98_8 : dx_W (tb_Z L xs) d 98 8 lv st σ Q ↔ wR (dx_lk lv 0) (fun y => dx_W (tb_Z L xs) d 98 9 lv (y :: st) σ Q) := r_aload_n (k := 0) (hz_98.trans rfl)
theorem w_98_9 {w : Value} : dx_W (tb_Z L xs) d 98 9 lv (w :: st) σ Q ↔ wO (dx_gf (tb_K L xs) σ w 9 2) (fun y => dx_W (tb_Z L xs) d 98 12 lv (y :: st) σ Q) := r_getfield (hz_98.trans rfl)
theorem w_98_12 : dx_W (tb_Z L xs) d 98 12 lv st σ Q ↔ wI (dx_lk lv 1) (fun y => dx_W (tb_Z L xs) d 98 13 lv (.int y :: st) σ Q) := r_iload_n (k := 1) (hz_98.trans rfl)
theorem w_98_13 : dx_W (tb_Z L xs) d 98 13 lv st σ Q ↔ dx_W (tb_Z L xs) d 98 14 lv (.int 0 :: st) σ Q := r_iconst (n := 0) (hz_98.trans rfl)
theorem w_98_14 {w : Value} {y : Int32} {u : Int32} : dx_W (tb_Z L xs) d 98 14 lv (.int u :: .int y :: w :: st) σ Q ↔ wO (dx_pi σ 0 w y u) (fun σ1 => dx_W (tb_Z L xs) d 98 15 lv st σ1 Q) := r_iastore (hz_98.trans rfl)
theorem w_98_15 : dx_W (tb_Z L xs) d 98 15 lv st σ Q ↔ wR (dx_lk lv 0) (fun y => dx_W (tb_Z L xs) d 98 16 lv (y :: st) σ Q) := r_aload_n (k := 0) (hz_98.trans rfl)
theorem w_98_16 {w : Value} : dx_W (tb_Z L xs) d 98 16 lv (w :: st) σ Q ↔ wO (dx_gf (tb_K L xs) σ w 9 3) (fun y => dx_W (tb_Z L xs) d 98 19 lv (y :: st) σ Q) := r_getfield (hz_98.trans rfl)
theorem w_98_19 : dx_W (tb_Z L xs) d 98 19 lv st σ Q ↔ wI (dx_lk lv 1) (fun y => dx_W (tb_Z L xs) d 98 20 lv (.int y :: st) σ Q) := r_iload_n (k := 1) (hz_98.trans rfl)
theorem w_98_20 : dx_W (tb_Z L xs) d 98 20 lv st σ Q ↔ dx_W (tb_Z L xs) d 98 21 lv (.int 0 :: st) σ Q := r_iconst (n := 0) (hz_98.trans rfl)
theorem w_98_21 {w : Value} {y : Int32} {u : Int32} : dx_W (tb_Z L xs) d 98 21 lv (.int u :: .int y :: w :: st) σ Q ↔ wO (dx_pi σ 0 w y u) (fun σ1 => dx_W (tb_Z L xs) d 98 22 lv st σ1 Q) := r_iastore (hz_98.trans rfl)
theorem w_98_22 : dx_W (tb_Z L xs) d 98 22 lv st σ Q ↔ wI (dx_lk lv 1) (fun y => dx_W (tb_Z L xs) d 98 25 (dx_s1 lv 1 (.int (y + 1))) st σ Q) := r_iincv (k := 1) (n := 1) (hz_98.trans rfl) (show 1 < tb_l 98 by decide) (by decide)
theorem w_98_25 : dx_W (tb_Z L xs) d 98 25 lv st σ Q ↔ dx_W (tb_Z L xs) d 98 2 lv st σ Q := r_goto (off := (-23)) (t := 2) (hz_98.trans rfl) (by decide)
theorem w_98_28 : dx_W (tb_Z L xs) d 98 28 lv st σ Q ↔ wR (dx_lk lv 0) (fun y => dx_W (tb_Z L xs) d 98 29 lv (y :: st) σ Q) := r_aload_n (k := 0) (hz_98.trans rfl)
theorem w_98_29 : dx_W (tb_Z L xs) d 98 29 lv st σ Q ↔ dx_W (tb_Z L xs) d 98 30 lv (.int 0 :: st) σ Q := r_iconst (n := 0) (hz_98.trans rfl)
theorem w_98_30 {u w : Value} : dx_W (tb_Z L xs) d 98 30 lv (u :: w :: st) σ Q ↔ wO (dx_pf σ w 9 4 0 u) (fun σ1 => dx_W (tb_Z L xs) d 98 33 lv st σ1 Q) := r_putfield (f := 0) (hz_98.trans rfl)
theorem w_98_33 : dx_W (tb_Z L xs) d 98 33 lv [] σ Q ↔ Q (.inl none) σ := r_return (hz_98.trans rfl) rfl
theorem hz_99 {pc : Nat} : (tb_Z L xs).1 99 pc = dx_at tb_m99 pc := rfl
theorem w_99_0 : dx_W (tb_Z L xs) d 99 0 lv st σ Q ↔ wR (dx_lk lv 0) (fun y => dx_W (tb_Z L xs) d 99 1 lv (y :: st) σ Q) := r_aload_n (k := 0) (hz_99.trans rfl)
theorem w_99_1 : dx_W (tb_Z L xs) d 99 1 lv st σ Q ↔ wI (dx_lk lv 1) (fun y => dx_W (tb_Z L xs) d 99 2 lv (.int y :: st) σ Q) := r_iload_n (k := 1) (hz_99.trans rfl)
theorem w_99_2 {x : Int32} : dx_W (tb_Z L xs) d 99 2 lv (.int x :: st) σ Q ↔ (if 0 ≤ x then dx_W (tb_Z L xs) d 99 9 lv st σ Q else dx_W (tb_Z L xs) d 99 5 lv st σ Q) := r_if_ge (off := 7) (t := 9) (hz_99.trans rfl) (by decide)
theorem w_99_5 : dx_W (tb_Z L xs) d 99 5 lv st σ Q ↔ dx_W (tb_Z L xs) d 99 6 lv (.int 0 :: st) σ Q := r_iconst (n := 0) (hz_99.trans rfl)
theorem w_99_6 : dx_W (tb_Z L xs) d 99 6 lv st σ Q ↔ dx_W (tb_Z L xs) d 99 23 lv st σ Q := r_goto (off := 17) (t := 23) (hz_99.trans rfl) (by decide)
theorem w_99_9 : dx_W (tb_Z L xs) d 99 9 lv st σ Q ↔ wI (dx_lk lv 1) (fun y => dx_W (tb_Z L xs) d 99 10 lv (.int y :: st) σ Q) := r_iload_n (k := 1) (hz_99.trans rfl)
theorem w_99_10 : dx_W (tb_Z L xs) d 99 10 lv st σ Q ↔ dx_W (tb_Z L xs) d 99 13 lv (.int 2000 :: st) σ Q := r_sipush (n := 2000) (hz_99.trans rfl)
theorem w_99_13 {x y : Int32} : dx_W (tb_Z L xs) d 99 13 lv (.int y :: .int x :: st) σ Q ↔ (if x ≤ y then dx_W (tb_Z L xs) d 99 22 lv st σ Q else dx_W (tb_Z L xs) d 99 16 lv st σ Q) := r_ic_le (off := 9) (t := 22) (hz_99.trans rfl) (by decide)
theorem w_99_16 : dx_W (tb_Z L xs) d 99 16 lv st σ Q ↔ dx_W (tb_Z L xs) d 99 19 lv (.int 2000 :: st) σ Q := r_sipush (n := 2000) (hz_99.trans rfl)
theorem w_99_19 : dx_W (tb_Z L xs) d 99 19 lv st σ Q ↔ dx_W (tb_Z L xs) d 99 23 lv st σ Q := r_goto (off := 4) (t := 23) (hz_99.trans rfl) (by decide)
theorem w_99_22 : dx_W (tb_Z L xs) d 99 22 lv st σ Q ↔ wI (dx_lk lv 1) (fun y => dx_W (tb_Z L xs) d 99 23 lv (.int y :: st) σ Q) := r_iload_n (k := 1) (hz_99.trans rfl)
theorem w_99_23 {u w : Value} : dx_W (tb_Z L xs) d 99 23 lv (u :: w :: st) σ Q ↔ wO (dx_pf σ w 9 32 0 u) (fun σ1 => dx_W (tb_Z L xs) d 99 26 lv st σ1 Q) := r_putfield (f := 0) (hz_99.trans rfl)
theorem w_99_26 : dx_W (tb_Z L xs) d 99 26 lv st σ Q ↔ wR (dx_lk lv 0) (fun y => dx_W (tb_Z L xs) d 99 27 lv (y :: st) σ Q) := r_aload_n (k := 0) (hz_99.trans rfl)
theorem w_99_27 : dx_W (tb_Z L xs) d 99 27 lv st σ Q ↔ dx_W (tb_Z L xs) d 99 28 lv (.int 0 :: st) σ Q := r_iconst (n := 0) (hz_99.trans rfl)
theorem w_99_28 {u w : Value} : dx_W (tb_Z L xs) d 99 28 lv (u :: w :: st) σ Q ↔ wO (dx_pf σ w 9 33 0 u) (fun σ1 => dx_W (tb_Z L xs) d 99 31 lv st σ1 Q) := r_putfield (f := 0) (hz_99.trans rfl)
theorem w_99_31 : dx_W (tb_Z L xs) d 99 31 lv st σ Q ↔ wR (dx_lk lv 0) (fun y => dx_W (tb_Z L xs) d 99 32 lv (y :: st) σ Q) := r_aload_n (k := 0) (hz_99.trans rfl)
theorem w_99_32 : dx_W (tb_Z L xs) d 99 32 lv st σ Q ↔ dx_W (tb_Z L xs) d 99 33 lv (.int 0 :: st) σ Q := r_iconst (n := 0) (hz_99.trans rfl)
theorem w_99_33 {u w : Value} : dx_W (tb_Z L xs) d 99 33 lv (u :: w :: st) σ Q ↔ wO (dx_pf σ w 9 37 0 u) (fun σ1 => dx_W (tb_Z L xs) d 99 36 lv st σ1 Q) := r_putfield (f := 0) (hz_99.trans rfl)
theorem w_99_36 : dx_W (tb_Z L xs) d 99 36 lv st σ Q ↔ wR (dx_lk lv 0) (fun y => dx_W (tb_Z L xs) d 99 37 lv (y :: st) σ Q) := r_aload_n (k := 0) (hz_99.trans rfl)
theorem w_99_37 : dx_W (tb_Z L xs) d 99 37 lv st σ Q ↔ dx_W (tb_Z L xs) d 99 38 lv (.int 0 :: st) σ Q := r_iconst (n := 0) (hz_99.trans rfl)
theorem w_99_38 {u w : Value} : dx_W (tb_Z L xs) d 99 38 lv (u :: w :: st) σ Q ↔ wO (dx_pf σ w 9 34 0 u) (fun σ1 => dx_W (tb_Z L xs) d 99 41 lv st σ1 Q) := r_putfield (f := 0) (hz_99.trans rfl)
theorem w_99_41 : dx_W (tb_Z L xs) d 99 41 lv st σ Q ↔ wR (dx_lk lv 0) (fun y => dx_W (tb_Z L xs) d 99 42 lv (y :: st) σ Q) := r_aload_n (k := 0) (hz_99.trans rfl)
theorem w_99_42 : dx_W (tb_Z L xs) d 99 42 lv st σ Q ↔ dx_W (tb_Z L xs) d 99 43 lv (.int 0 :: st) σ Q := r_iconst (n := 0) (hz_99.trans rfl)
theorem w_99_43 {u w : Value} : dx_W (tb_Z L xs) d 99 43 lv (u :: w :: st) σ Q ↔ wO (dx_pf σ w 9 35 0 u) (fun σ1 => dx_W (tb_Z L xs) d 99 46 lv st σ1 Q) := r_putfield (f := 0) (hz_99.trans rfl)
theorem w_99_46 : dx_W (tb_Z L xs) d 99 46 lv st σ Q ↔ wR (dx_lk lv 0) (fun y => dx_W (tb_Z L xs) d 99 47 lv (y :: st) σ Q) := r_aload_n (k := 0) (hz_99.trans rfl)
theorem w_99_47 : dx_W (tb_Z L xs) d 99 47 lv st σ Q ↔ dx_W (tb_Z L xs) d 99 48 lv (.int 0 :: st) σ Q := r_iconst (n := 0) (hz_99.trans rfl)
theorem w_99_48 {u w : Value} : dx_W (tb_Z L xs) d 99 48 lv (u :: w :: st) σ Q ↔ wO (dx_pf σ w 9 10 2 u) (fun σ1 => dx_W (tb_Z L xs) d 99 51 lv st σ1 Q) := r_putfield (f := 2) (hz_99.trans rfl)
theorem w_99_51 : dx_W (tb_Z L xs) d 99 51 lv st σ Q ↔ wR (dx_lk lv 0) (fun y => dx_W (tb_Z L xs) d 99 52 lv (y :: st) σ Q) := r_aload_n (k := 0) (hz_99.trans rfl)
theorem w_99_52 {v0 : Value}  : dx_W (tb_Z L xs) d 99 52 lv (v0 :: st) σ Q ↔ (dx_ct st ≤ 8 ∧ dx_ci (tb_K L xs) σ v0 = some 9) ∧ dx_M (tb_Z L xs) d 100 [v0] σ (wK (tb_Z L xs) d 99 55 lv st Q) := c_callv (av := []) (hz_99.trans rfl)
theorem w_99_55 : dx_W (tb_Z L xs) d 99 55 lv st σ Q ↔ wR (dx_lk lv 0) (fun y => dx_W (tb_Z L xs) d 99 56 lv (y :: st) σ Q) := r_aload_n (k := 0) (hz_99.trans rfl)
theorem w_99_56 {w : Value} : dx_W (tb_Z L xs) d 99 56 lv (w :: st) σ Q ↔ wO (dx_gf (tb_K L xs) σ w 9 10) (fun y => dx_W (tb_Z L xs) d 99 59 lv (y :: st) σ Q) := r_getfield (hz_99.trans rfl)
theorem w_99_59 {x : Int32} : dx_W (tb_Z L xs) d 99 59 lv (.int x :: st) σ Q ↔ (if ¬ x = 0 then dx_W (tb_Z L xs) d 99 66 lv st σ Q else dx_W (tb_Z L xs) d 99 62 lv st σ Q) := r_if_ne (off := 7) (t := 66) (hz_99.trans rfl) (by decide)
theorem w_99_62 : dx_W (tb_Z L xs) d 99 62 lv st σ Q ↔ wR (dx_lk lv 0) (fun y => dx_W (tb_Z L xs) d 99 63 lv (y :: st) σ Q) := r_aload_n (k := 0) (hz_99.trans rfl)
theorem w_99_63 {v0 : Value}  : dx_W (tb_Z L xs) d 99 63 lv (v0 :: st) σ Q ↔ (dx_ct st ≤ 8 ∧ dx_ci (tb_K L xs) σ v0 = some 9) ∧ dx_M (tb_Z L xs) d 108 [v0] σ (wK (tb_Z L xs) d 99 66 lv st Q) := c_callv (av := []) (hz_99.trans rfl)
theorem w_99_66 : dx_W (tb_Z L xs) d 99 66 lv st σ Q ↔ wR (dx_lk lv 0) (fun y => dx_W (tb_Z L xs) d 99 67 lv (y :: st) σ Q) := r_aload_n (k := 0) (hz_99.trans rfl)
theorem w_99_67 {w : Value} : dx_W (tb_Z L xs) d 99 67 lv (w :: st) σ Q ↔ wO (dx_gf (tb_K L xs) σ w 9 10) (fun y => dx_W (tb_Z L xs) d 99 70 lv (y :: st) σ Q) := r_getfield (hz_99.trans rfl)
theorem w_99_70 {x : Int32} : dx_W (tb_Z L xs) d 99 70 lv (.int x :: st) σ Q ↔ (if x = 0 then dx_W (tb_Z L xs) d 99 85 lv st σ Q else dx_W (tb_Z L xs) d 99 73 lv st σ Q) := r_if_eq (off := 15) (t := 85) (hz_99.trans rfl) (by decide)
theorem w_99_73 : dx_W (tb_Z L xs) d 99 73 lv st σ Q ↔ wR (dx_lk lv 0) (fun y => dx_W (tb_Z L xs) d 99 74 lv (y :: st) σ Q) := r_aload_n (k := 0) (hz_99.trans rfl)
theorem w_99_74 : dx_W (tb_Z L xs) d 99 74 lv st σ Q ↔ dx_W (tb_Z L xs) d 99 75 lv (.int 1 :: st) σ Q := r_iconst (n := 1) (hz_99.trans rfl)
theorem w_99_75 {u w : Value} : dx_W (tb_Z L xs) d 99 75 lv (u :: w :: st) σ Q ↔ wO (dx_pf σ w 9 34 0 u) (fun σ1 => dx_W (tb_Z L xs) d 99 78 lv st σ1 Q) := r_putfield (f := 0) (hz_99.trans rfl)
theorem w_99_78 : dx_W (tb_Z L xs) d 99 78 lv st σ Q ↔ wR (dx_lk lv 0) (fun y => dx_W (tb_Z L xs) d 99 79 lv (y :: st) σ Q) := r_aload_n (k := 0) (hz_99.trans rfl)
theorem w_99_79 : dx_W (tb_Z L xs) d 99 79 lv st σ Q ↔ dx_W (tb_Z L xs) d 99 80 lv (.int 1 :: st) σ Q := r_iconst (n := 1) (hz_99.trans rfl)
theorem w_99_80 {u w : Value} : dx_W (tb_Z L xs) d 99 80 lv (u :: w :: st) σ Q ↔ wO (dx_pf σ w 9 35 0 u) (fun σ1 => dx_W (tb_Z L xs) d 99 83 lv st σ1 Q) := r_putfield (f := 0) (hz_99.trans rfl)
theorem w_99_83 : dx_W (tb_Z L xs) d 99 83 lv st σ Q ↔ dx_W (tb_Z L xs) d 99 84 lv (.int 0 :: st) σ Q := r_iconst (n := 0) (hz_99.trans rfl)
theorem w_99_84 {x : Int32} : dx_W (tb_Z L xs) d 99 84 lv [.int x] σ Q ↔ Q (.inl (some (.int x))) σ := r_ireturn (hz_99.trans rfl) rfl rfl
theorem w_99_85 : dx_W (tb_Z L xs) d 99 85 lv st σ Q ↔ wR (dx_lk lv 0) (fun y => dx_W (tb_Z L xs) d 99 86 lv (y :: st) σ Q) := r_aload_n (k := 0) (hz_99.trans rfl)
theorem w_99_86 : dx_W (tb_Z L xs) d 99 86 lv st σ Q ↔ dx_W (tb_Z L xs) d 99 87 lv (.int 0 :: st) σ Q := r_iconst (n := 0) (hz_99.trans rfl)
theorem w_99_87 {u w : Value} : dx_W (tb_Z L xs) d 99 87 lv (u :: w :: st) σ Q ↔ wO (dx_pf σ w 9 30 0 u) (fun σ1 => dx_W (tb_Z L xs) d 99 90 lv st σ1 Q) := r_putfield (f := 0) (hz_99.trans rfl)
theorem w_99_90 : dx_W (tb_Z L xs) d 99 90 lv st σ Q ↔ wR (dx_lk lv 0) (fun y => dx_W (tb_Z L xs) d 99 91 lv (y :: st) σ Q) := r_aload_n (k := 0) (hz_99.trans rfl)
theorem w_99_91 : dx_W (tb_Z L xs) d 99 91 lv st σ Q ↔ dx_W (tb_Z L xs) d 99 92 lv (.int 0 :: st) σ Q := r_iconst (n := 0) (hz_99.trans rfl)
theorem w_99_92 {u w : Value} : dx_W (tb_Z L xs) d 99 92 lv (u :: w :: st) σ Q ↔ wO (dx_pf σ w 9 31 0 u) (fun σ1 => dx_W (tb_Z L xs) d 99 95 lv st σ1 Q) := r_putfield (f := 0) (hz_99.trans rfl)
theorem w_99_95 : dx_W (tb_Z L xs) d 99 95 lv st σ Q ↔ dx_W (tb_Z L xs) d 99 96 lv (.int 0 :: st) σ Q := r_iconst (n := 0) (hz_99.trans rfl)
theorem w_99_96 {x : Int32} : dx_W (tb_Z L xs) d 99 96 lv (.int x :: st) σ Q ↔ dx_W (tb_Z L xs) d 99 97 (dx_s1 lv 2 (.int x)) st σ Q := r_istore_n (k := 2) (hz_99.trans rfl) (show 2 < tb_l 99 by decide)
theorem w_99_97 : dx_W (tb_Z L xs) d 99 97 lv st σ Q ↔ dx_W (tb_Z L xs) d 99 98 lv (.int 0 :: st) σ Q := r_iconst (n := 0) (hz_99.trans rfl)
theorem w_99_98 {x : Int32} : dx_W (tb_Z L xs) d 99 98 lv (.int x :: st) σ Q ↔ dx_W (tb_Z L xs) d 99 99 (dx_s1 lv 3 (.int x)) st σ Q := r_istore_n (k := 3) (hz_99.trans rfl) (show 3 < tb_l 99 by decide)
theorem w_99_99 : dx_W (tb_Z L xs) d 99 99 lv st σ Q ↔ wI (dx_lk lv 3) (fun y => dx_W (tb_Z L xs) d 99 100 lv (.int y :: st) σ Q) := r_iload_n (k := 3) (hz_99.trans rfl)
theorem w_99_100 : dx_W (tb_Z L xs) d 99 100 lv st σ Q ↔ dx_W (tb_Z L xs) d 99 103 lv (.int 100000000 :: st) σ Q := r_ldc_w (hz_99.trans rfl)
theorem w_99_103 {x y : Int32} : dx_W (tb_Z L xs) d 99 103 lv (.int y :: .int x :: st) σ Q ↔ (if y ≤ x then dx_W (tb_Z L xs) d 99 122 lv st σ Q else dx_W (tb_Z L xs) d 99 106 lv st σ Q) := r_ic_ge (off := 19) (t := 122) (hz_99.trans rfl) (by decide)
theorem w_99_106 : dx_W (tb_Z L xs) d 99 106 lv st σ Q ↔ wI (dx_lk lv 2) (fun y => dx_W (tb_Z L xs) d 99 107 lv (.int y :: st) σ Q) := r_iload_n (k := 2) (hz_99.trans rfl)
theorem w_99_107 {x : Int32} : dx_W (tb_Z L xs) d 99 107 lv (.int x :: st) σ Q ↔ (if x < 0 then dx_W (tb_Z L xs) d 99 122 lv st σ Q else dx_W (tb_Z L xs) d 99 110 lv st σ Q) := r_if_lt (off := 15) (t := 122) (hz_99.trans rfl) (by decide)
theorem w_99_110 : dx_W (tb_Z L xs) d 99 110 lv st σ Q ↔ wR (dx_lk lv 0) (fun y => dx_W (tb_Z L xs) d 99 111 lv (y :: st) σ Q) := r_aload_n (k := 0) (hz_99.trans rfl)
theorem w_99_111 : dx_W (tb_Z L xs) d 99 111 lv st σ Q ↔ wI (dx_lk lv 2) (fun y => dx_W (tb_Z L xs) d 99 112 lv (.int y :: st) σ Q) := r_iload_n (k := 2) (hz_99.trans rfl)
theorem w_99_112 {v0 v1 : Value}  : dx_W (tb_Z L xs) d 99 112 lv (v1 :: v0 :: st) σ Q ↔ (dx_ct st ≤ 8 ∧ dx_ci (tb_K L xs) σ v0 = some 9) ∧ dx_M (tb_Z L xs) d 121 [v0, v1] σ (wK (tb_Z L xs) d 99 115 lv st Q) := c_callv (av := [v1]) (hz_99.trans rfl)
theorem w_99_115 {x : Int32} : dx_W (tb_Z L xs) d 99 115 lv (.int x :: st) σ Q ↔ dx_W (tb_Z L xs) d 99 116 (dx_s1 lv 2 (.int x)) st σ Q := r_istore_n (k := 2) (hz_99.trans rfl) (show 2 < tb_l 99 by decide)
theorem w_99_116 : dx_W (tb_Z L xs) d 99 116 lv st σ Q ↔ wI (dx_lk lv 3) (fun y => dx_W (tb_Z L xs) d 99 119 (dx_s1 lv 3 (.int (y + 1))) st σ Q) := r_iincv (k := 3) (n := 1) (hz_99.trans rfl) (show 3 < tb_l 99 by decide) (by decide)
theorem w_99_119 : dx_W (tb_Z L xs) d 99 119 lv st σ Q ↔ dx_W (tb_Z L xs) d 99 99 lv st σ Q := r_goto (off := (-20)) (t := 99) (hz_99.trans rfl) (by decide)
theorem w_99_122 : dx_W (tb_Z L xs) d 99 122 lv st σ Q ↔ wR (dx_lk lv 0) (fun y => dx_W (tb_Z L xs) d 99 123 lv (y :: st) σ Q) := r_aload_n (k := 0) (hz_99.trans rfl)
theorem w_99_123 {w : Value} : dx_W (tb_Z L xs) d 99 123 lv (w :: st) σ Q ↔ wO (dx_gf (tb_K L xs) σ w 9 34) (fun y => dx_W (tb_Z L xs) d 99 126 lv (y :: st) σ Q) := r_getfield (hz_99.trans rfl)
theorem w_99_126 {x : Int32} : dx_W (tb_Z L xs) d 99 126 lv (.int x :: st) σ Q ↔ (if x = 0 then dx_W (tb_Z L xs) d 99 162 lv st σ Q else dx_W (tb_Z L xs) d 99 129 lv st σ Q) := r_if_eq (off := 36) (t := 162) (hz_99.trans rfl) (by decide)
theorem w_99_129 : dx_W (tb_Z L xs) d 99 129 lv st σ Q ↔ wR (dx_lk lv 0) (fun y => dx_W (tb_Z L xs) d 99 130 lv (y :: st) σ Q) := r_aload_n (k := 0) (hz_99.trans rfl)
theorem w_99_130 : dx_W (tb_Z L xs) d 99 130 lv st σ Q ↔ wR (dx_lk lv 0) (fun y => dx_W (tb_Z L xs) d 99 131 lv (y :: st) σ Q) := r_aload_n (k := 0) (hz_99.trans rfl)
theorem w_99_131 {w : Value} : dx_W (tb_Z L xs) d 99 131 lv (w :: st) σ Q ↔ wO (dx_gf (tb_K L xs) σ w 9 34) (fun y => dx_W (tb_Z L xs) d 99 134 lv (y :: st) σ Q) := r_getfield (hz_99.trans rfl)
theorem w_99_134 : dx_W (tb_Z L xs) d 99 134 lv st σ Q ↔ dx_W (tb_Z L xs) d 99 135 lv (.int 2 :: st) σ Q := r_iconst (n := 2) (hz_99.trans rfl)
theorem w_99_135 {x y : Int32} : dx_W (tb_Z L xs) d 99 135 lv (.int y :: .int x :: st) σ Q ↔ (if x = y then dx_W (tb_Z L xs) d 99 154 lv st σ Q else dx_W (tb_Z L xs) d 99 138 lv st σ Q) := r_ic_eq (off := 19) (t := 154) (hz_99.trans rfl) (by decide)
theorem w_99_138 : dx_W (tb_Z L xs) d 99 138 lv st σ Q ↔ wR (dx_lk lv 0) (fun y => dx_W (tb_Z L xs) d 99 139 lv (y :: st) σ Q) := r_aload_n (k := 0) (hz_99.trans rfl)
theorem w_99_139 {w : Value} : dx_W (tb_Z L xs) d 99 139 lv (w :: st) σ Q ↔ wO (dx_gf (tb_K L xs) σ w 9 34) (fun y => dx_W (tb_Z L xs) d 99 142 lv (y :: st) σ Q) := r_getfield (hz_99.trans rfl)
theorem w_99_142 : dx_W (tb_Z L xs) d 99 142 lv st σ Q ↔ dx_W (tb_Z L xs) d 99 143 lv (.int 3 :: st) σ Q := r_iconst (n := 3) (hz_99.trans rfl)
theorem w_99_143 {x y : Int32} : dx_W (tb_Z L xs) d 99 143 lv (.int y :: .int x :: st) σ Q ↔ (if x = y then dx_W (tb_Z L xs) d 99 154 lv st σ Q else dx_W (tb_Z L xs) d 99 146 lv st σ Q) := r_ic_eq (off := 11) (t := 154) (hz_99.trans rfl) (by decide)
theorem w_99_146 : dx_W (tb_Z L xs) d 99 146 lv st σ Q ↔ wR (dx_lk lv 0) (fun y => dx_W (tb_Z L xs) d 99 147 lv (y :: st) σ Q) := r_aload_n (k := 0) (hz_99.trans rfl)
theorem w_99_147 {w : Value} : dx_W (tb_Z L xs) d 99 147 lv (w :: st) σ Q ↔ wO (dx_gf (tb_K L xs) σ w 9 34) (fun y => dx_W (tb_Z L xs) d 99 150 lv (y :: st) σ Q) := r_getfield (hz_99.trans rfl)
theorem w_99_150 : dx_W (tb_Z L xs) d 99 150 lv st σ Q ↔ dx_W (tb_Z L xs) d 99 151 lv (.int 5 :: st) σ Q := r_iconst (n := 5) (hz_99.trans rfl)
theorem w_99_151 {x y : Int32} : dx_W (tb_Z L xs) d 99 151 lv (.int y :: .int x :: st) σ Q ↔ (if ¬ x = y then dx_W (tb_Z L xs) d 99 158 lv st σ Q else dx_W (tb_Z L xs) d 99 154 lv st σ Q) := r_ic_ne (off := 7) (t := 158) (hz_99.trans rfl) (by decide)
theorem w_99_154 : dx_W (tb_Z L xs) d 99 154 lv st σ Q ↔ dx_W (tb_Z L xs) d 99 155 lv (.int 2 :: st) σ Q := r_iconst (n := 2) (hz_99.trans rfl)
theorem w_99_155 : dx_W (tb_Z L xs) d 99 155 lv st σ Q ↔ dx_W (tb_Z L xs) d 99 159 lv st σ Q := r_goto (off := 4) (t := 159) (hz_99.trans rfl) (by decide)
theorem w_99_158 : dx_W (tb_Z L xs) d 99 158 lv st σ Q ↔ dx_W (tb_Z L xs) d 99 159 lv (.int 3 :: st) σ Q := r_iconst (n := 3) (hz_99.trans rfl)
theorem w_99_159 {u w : Value} : dx_W (tb_Z L xs) d 99 159 lv (u :: w :: st) σ Q ↔ wO (dx_pf σ w 9 35 0 u) (fun σ1 => dx_W (tb_Z L xs) d 99 162 lv st σ1 Q) := r_putfield (f := 0) (hz_99.trans rfl)
theorem w_99_162 : dx_W (tb_Z L xs) d 99 162 lv st σ Q ↔ wR (dx_lk lv 0) (fun y => dx_W (tb_Z L xs) d 99 163 lv (y :: st) σ Q) := r_aload_n (k := 0) (hz_99.trans rfl)
theorem w_99_163 {w : Value} : dx_W (tb_Z L xs) d 99 163 lv (w :: st) σ Q ↔ wO (dx_gf (tb_K L xs) σ w 9 34) (fun y => dx_W (tb_Z L xs) d 99 166 lv (y :: st) σ Q) := r_getfield (hz_99.trans rfl)
theorem w_99_166 {x : Int32} : dx_W (tb_Z L xs) d 99 166 lv (.int x :: st) σ Q ↔ (if x = 0 then dx_W (tb_Z L xs) d 99 173 lv st σ Q else dx_W (tb_Z L xs) d 99 169 lv st σ Q) := r_if_eq (off := 7) (t := 173) (hz_99.trans rfl) (by decide)
theorem w_99_169 : dx_W (tb_Z L xs) d 99 169 lv st σ Q ↔ dx_W (tb_Z L xs) d 99 170 lv (.int 0 :: st) σ Q := r_iconst (n := 0) (hz_99.trans rfl)
theorem w_99_170 : dx_W (tb_Z L xs) d 99 170 lv st σ Q ↔ dx_W (tb_Z L xs) d 99 177 lv st σ Q := r_goto (off := 7) (t := 177) (hz_99.trans rfl) (by decide)
theorem w_99_173 : dx_W (tb_Z L xs) d 99 173 lv st σ Q ↔ wR (dx_lk lv 0) (fun y => dx_W (tb_Z L xs) d 99 174 lv (y :: st) σ Q) := r_aload_n (k := 0) (hz_99.trans rfl)
theorem w_99_174 {w : Value} : dx_W (tb_Z L xs) d 99 174 lv (w :: st) σ Q ↔ wO (dx_gf (tb_K L xs) σ w 9 33) (fun y => dx_W (tb_Z L xs) d 99 177 lv (y :: st) σ Q) := r_getfield (hz_99.trans rfl)
theorem w_99_177 {x : Int32} : dx_W (tb_Z L xs) d 99 177 lv [.int x] σ Q ↔ Q (.inl (some (.int x))) σ := r_ireturn (hz_99.trans rfl) rfl rfl
theorem hz_100 {pc : Nat} : (tb_Z L xs).1 100 pc = dx_at tb_m100 pc := rfl
theorem w_100_0 : dx_W (tb_Z L xs) d 100 0 lv st σ Q ↔ wR (dx_lk lv 0) (fun y => dx_W (tb_Z L xs) d 100 1 lv (y :: st) σ Q) := r_aload_n (k := 0) (hz_100.trans rfl)
theorem w_100_1 : dx_W (tb_Z L xs) d 100 1 lv st σ Q ↔ dx_W (tb_Z L xs) d 100 2 lv (.int 0 :: st) σ Q := r_iconst (n := 0) (hz_100.trans rfl)
theorem w_100_2 {u w : Value} : dx_W (tb_Z L xs) d 100 2 lv (u :: w :: st) σ Q ↔ wO (dx_pf σ w 9 8 0 u) (fun σ1 => dx_W (tb_Z L xs) d 100 5 lv st σ1 Q) := r_putfield (f := 0) (hz_100.trans rfl)
theorem w_100_5 : dx_W (tb_Z L xs) d 100 5 lv st σ Q ↔ dx_W (tb_Z L xs) d 100 6 lv (.int 0 :: st) σ Q := r_iconst (n := 0) (hz_100.trans rfl)
theorem w_100_6 {x : Int32} : dx_W (tb_Z L xs) d 100 6 lv (.int x :: st) σ Q ↔ dx_W (tb_Z L xs) d 100 7 (dx_s1 lv 1 (.int x)) st σ Q := r_istore_n (k := 1) (hz_100.trans rfl) (show 1 < tb_l 100 by decide)
theorem w_100_7 : dx_W (tb_Z L xs) d 100 7 lv st σ Q ↔ wI (dx_lk lv 1) (fun y => dx_W (tb_Z L xs) d 100 8 lv (.int y :: st) σ Q) := r_iload_n (k := 1) (hz_100.trans rfl)
theorem w_100_8 : dx_W (tb_Z L xs) d 100 8 lv st σ Q ↔ wR (dx_lk lv 0) (fun y => dx_W (tb_Z L xs) d 100 9 lv (y :: st) σ Q) := r_aload_n (k := 0) (hz_100.trans rfl)
theorem w_100_9 {w : Value} : dx_W (tb_Z L xs) d 100 9 lv (w :: st) σ Q ↔ wO (dx_gf (tb_K L xs) σ w 9 1) (fun y => dx_W (tb_Z L xs) d 100 12 lv (y :: st) σ Q) := r_getfield (hz_100.trans rfl)
theorem w_100_12 {x y : Int32} : dx_W (tb_Z L xs) d 100 12 lv (.int y :: .int x :: st) σ Q ↔ (if y ≤ x then dx_W (tb_Z L xs) d 100 196 lv st σ Q else dx_W (tb_Z L xs) d 100 15 lv st σ Q) := r_ic_ge (off := 184) (t := 196) (hz_100.trans rfl) (by decide)
theorem w_100_15 : dx_W (tb_Z L xs) d 100 15 lv st σ Q ↔ wR (dx_lk lv 0) (fun y => dx_W (tb_Z L xs) d 100 16 lv (y :: st) σ Q) := r_aload_n (k := 0) (hz_100.trans rfl)
theorem w_100_16 {w : Value} : dx_W (tb_Z L xs) d 100 16 lv (w :: st) σ Q ↔ wO (dx_gf (tb_K L xs) σ w 9 10) (fun y => dx_W (tb_Z L xs) d 100 19 lv (y :: st) σ Q) := r_getfield (hz_100.trans rfl)
theorem w_100_19 {x : Int32} : dx_W (tb_Z L xs) d 100 19 lv (.int x :: st) σ Q ↔ (if ¬ x = 0 then dx_W (tb_Z L xs) d 100 196 lv st σ Q else dx_W (tb_Z L xs) d 100 22 lv st σ Q) := r_if_ne (off := 177) (t := 196) (hz_100.trans rfl) (by decide)
theorem w_100_22 : dx_W (tb_Z L xs) d 100 22 lv st σ Q ↔ wR (dx_lk lv 0) (fun y => dx_W (tb_Z L xs) d 100 23 lv (y :: st) σ Q) := r_aload_n (k := 0) (hz_100.trans rfl)
theorem w_100_23 : dx_W (tb_Z L xs) d 100 23 lv st σ Q ↔ wI (dx_lk lv 1) (fun y => dx_W (tb_Z L xs) d 100 24 lv (.int y :: st) σ Q) := r_iload_n (k := 1) (hz_100.trans rfl)
theorem w_100_24 {v0 v1 : Value}  : dx_W (tb_Z L xs) d 100 24 lv (v1 :: v0 :: st) σ Q ↔ (dx_ct st ≤ 8 ∧ dx_ci (tb_K L xs) σ v0 = some 9) ∧ dx_M (tb_Z L xs) d 101 [v0, v1] σ (wK (tb_Z L xs) d 100 27 lv st Q) := c_callv (av := [v1]) (hz_100.trans rfl)
theorem w_100_27 {x : Int32} : dx_W (tb_Z L xs) d 100 27 lv (.int x :: st) σ Q ↔ dx_W (tb_Z L xs) d 100 28 (dx_s1 lv 2 (.int x)) st σ Q := r_istore_n (k := 2) (hz_100.trans rfl) (show 2 < tb_l 100 by decide)
theorem w_100_28 : dx_W (tb_Z L xs) d 100 28 lv st σ Q ↔ wI (dx_lk lv 2) (fun y => dx_W (tb_Z L xs) d 100 29 lv (.int y :: st) σ Q) := r_iload_n (k := 2) (hz_100.trans rfl)
theorem w_100_29 : dx_W (tb_Z L xs) d 100 29 lv st σ Q ↔ dx_W (tb_Z L xs) d 100 31 lv (.int 32 :: st) σ Q := r_bipush (n := 32) (hz_100.trans rfl)
theorem w_100_31 {x y : Int32} : dx_W (tb_Z L xs) d 100 31 lv (.int y :: .int x :: st) σ Q ↔ (if ¬ x = y then dx_W (tb_Z L xs) d 100 40 lv st σ Q else dx_W (tb_Z L xs) d 100 34 lv st σ Q) := r_ic_ne (off := 9) (t := 40) (hz_100.trans rfl) (by decide)
theorem w_100_34 : dx_W (tb_Z L xs) d 100 34 lv st σ Q ↔ wI (dx_lk lv 1) (fun y => dx_W (tb_Z L xs) d 100 37 (dx_s1 lv 1 (.int (y + 1))) st σ Q) := r_iincv (k := 1) (n := 1) (hz_100.trans rfl) (show 1 < tb_l 100 by decide) (by decide)
theorem w_100_37 : dx_W (tb_Z L xs) d 100 37 lv st σ Q ↔ dx_W (tb_Z L xs) d 100 193 lv st σ Q := r_goto (off := 156) (t := 193) (hz_100.trans rfl) (by decide)
theorem w_100_40 : dx_W (tb_Z L xs) d 100 40 lv st σ Q ↔ wI (dx_lk lv 2) (fun y => dx_W (tb_Z L xs) d 100 41 lv (.int y :: st) σ Q) := r_iload_n (k := 2) (hz_100.trans rfl)
theorem w_100_41 {v0 : Value}  : dx_W (tb_Z L xs) d 100 41 lv (v0 :: st) σ Q ↔ dx_ct st ≤ 8 ∧ dx_M (tb_Z L xs) d 102 [v0] σ (wK (tb_Z L xs) d 100 44 lv st Q) := c_calls (av := [v0]) (hz_100.trans rfl)
theorem w_100_44 {x : Int32} : dx_W (tb_Z L xs) d 100 44 lv (.int x :: st) σ Q ↔ (if x = 0 then dx_W (tb_Z L xs) d 100 69 lv st σ Q else dx_W (tb_Z L xs) d 100 47 lv st σ Q) := r_if_eq (off := 25) (t := 69) (hz_100.trans rfl) (by decide)
theorem w_100_47 : dx_W (tb_Z L xs) d 100 47 lv st σ Q ↔ wR (dx_lk lv 0) (fun y => dx_W (tb_Z L xs) d 100 48 lv (y :: st) σ Q) := r_aload_n (k := 0) (hz_100.trans rfl)
theorem w_100_48 : dx_W (tb_Z L xs) d 100 48 lv st σ Q ↔ wI (dx_lk lv 1) (fun y => dx_W (tb_Z L xs) d 100 49 lv (.int y :: st) σ Q) := r_iload_n (k := 1) (hz_100.trans rfl)
theorem w_100_49 {v0 v1 : Value}  : dx_W (tb_Z L xs) d 100 49 lv (v1 :: v0 :: st) σ Q ↔ (dx_ct st ≤ 8 ∧ dx_ci (tb_K L xs) σ v0 = some 9) ∧ dx_M (tb_Z L xs) d 103 [v0, v1] σ (wK (tb_Z L xs) d 100 52 lv st Q) := c_callv (av := [v1]) (hz_100.trans rfl)
theorem w_100_52 {x : Int32} : dx_W (tb_Z L xs) d 100 52 lv (.int x :: st) σ Q ↔ dx_W (tb_Z L xs) d 100 53 (dx_s1 lv 1 (.int x)) st σ Q := r_istore_n (k := 1) (hz_100.trans rfl) (show 1 < tb_l 100 by decide)
theorem w_100_53 : dx_W (tb_Z L xs) d 100 53 lv st σ Q ↔ wR (dx_lk lv 0) (fun y => dx_W (tb_Z L xs) d 100 54 lv (y :: st) σ Q) := r_aload_n (k := 0) (hz_100.trans rfl)
theorem w_100_54 : dx_W (tb_Z L xs) d 100 54 lv st σ Q ↔ wI (dx_lk lv 1) (fun y => dx_W (tb_Z L xs) d 100 55 lv (.int y :: st) σ Q) := r_iload_n (k := 1) (hz_100.trans rfl)
theorem w_100_55 {x : Int32} : dx_W (tb_Z L xs) d 100 55 lv (.int x :: st) σ Q ↔ (if ¬ x = 0 then dx_W (tb_Z L xs) d 100 62 lv st σ Q else dx_W (tb_Z L xs) d 100 58 lv st σ Q) := r_if_ne (off := 7) (t := 62) (hz_100.trans rfl) (by decide)
theorem w_100_58 : dx_W (tb_Z L xs) d 100 58 lv st σ Q ↔ dx_W (tb_Z L xs) d 100 59 lv (.int 1 :: st) σ Q := r_iconst (n := 1) (hz_100.trans rfl)
theorem w_100_59 : dx_W (tb_Z L xs) d 100 59 lv st σ Q ↔ dx_W (tb_Z L xs) d 100 63 lv st σ Q := r_goto (off := 4) (t := 63) (hz_100.trans rfl) (by decide)
theorem w_100_62 : dx_W (tb_Z L xs) d 100 62 lv st σ Q ↔ dx_W (tb_Z L xs) d 100 63 lv (.int 0 :: st) σ Q := r_iconst (n := 0) (hz_100.trans rfl)
theorem w_100_63 {u w : Value} : dx_W (tb_Z L xs) d 100 63 lv (u :: w :: st) σ Q ↔ wO (dx_pf σ w 9 10 2 u) (fun σ1 => dx_W (tb_Z L xs) d 100 66 lv st σ1 Q) := r_putfield (f := 2) (hz_100.trans rfl)
theorem w_100_66 : dx_W (tb_Z L xs) d 100 66 lv st σ Q ↔ dx_W (tb_Z L xs) d 100 193 lv st σ Q := r_goto (off := 127) (t := 193) (hz_100.trans rfl) (by decide)
theorem w_100_69 : dx_W (tb_Z L xs) d 100 69 lv st σ Q ↔ wI (dx_lk lv 2) (fun y => dx_W (tb_Z L xs) d 100 70 lv (.int y :: st) σ Q) := r_iload_n (k := 2) (hz_100.trans rfl)
theorem w_100_70 {v0 : Value}  : dx_W (tb_Z L xs) d 100 70 lv (v0 :: st) σ Q ↔ dx_ct st ≤ 8 ∧ dx_M (tb_Z L xs) d 105 [v0] σ (wK (tb_Z L xs) d 100 73 lv st Q) := c_calls (av := [v0]) (hz_100.trans rfl)
theorem w_100_73 {x : Int32} : dx_W (tb_Z L xs) d 100 73 lv (.int x :: st) σ Q ↔ (if x = 0 then dx_W (tb_Z L xs) d 100 135 lv st σ Q else dx_W (tb_Z L xs) d 100 76 lv st σ Q) := r_if_eq (off := 62) (t := 135) (hz_100.trans rfl) (by decide)
theorem w_100_76 : dx_W (tb_Z L xs) d 100 76 lv st σ Q ↔ wI (dx_lk lv 1) (fun y => dx_W (tb_Z L xs) d 100 77 lv (.int y :: st) σ Q) := r_iload_n (k := 1) (hz_100.trans rfl)
theorem w_100_77 {x : Int32} : dx_W (tb_Z L xs) d 100 77 lv (.int x :: st) σ Q ↔ dx_W (tb_Z L xs) d 100 78 (dx_s1 lv 3 (.int x)) st σ Q := r_istore_n (k := 3) (hz_100.trans rfl) (show 3 < tb_l 100 by decide)
theorem w_100_78 : dx_W (tb_Z L xs) d 100 78 lv st σ Q ↔ wR (dx_lk lv 0) (fun y => dx_W (tb_Z L xs) d 100 79 lv (y :: st) σ Q) := r_aload_n (k := 0) (hz_100.trans rfl)
theorem w_100_79 : dx_W (tb_Z L xs) d 100 79 lv st σ Q ↔ wI (dx_lk lv 3) (fun y => dx_W (tb_Z L xs) d 100 80 lv (.int y :: st) σ Q) := r_iload_n (k := 3) (hz_100.trans rfl)
theorem w_100_80 {v0 v1 : Value}  : dx_W (tb_Z L xs) d 100 80 lv (v1 :: v0 :: st) σ Q ↔ (dx_ct st ≤ 8 ∧ dx_ci (tb_K L xs) σ v0 = some 9) ∧ dx_M (tb_Z L xs) d 101 [v0, v1] σ (wK (tb_Z L xs) d 100 83 lv st Q) := c_callv (av := [v1]) (hz_100.trans rfl)
theorem w_100_83 {v0 : Value}  : dx_W (tb_Z L xs) d 100 83 lv (v0 :: st) σ Q ↔ dx_ct st ≤ 8 ∧ dx_M (tb_Z L xs) d 105 [v0] σ (wK (tb_Z L xs) d 100 86 lv st Q) := c_calls (av := [v0]) (hz_100.trans rfl)
theorem w_100_86 {x : Int32} : dx_W (tb_Z L xs) d 100 86 lv (.int x :: st) σ Q ↔ (if x = 0 then dx_W (tb_Z L xs) d 100 95 lv st σ Q else dx_W (tb_Z L xs) d 100 89 lv st σ Q) := r_if_eq (off := 9) (t := 95) (hz_100.trans rfl) (by decide)
theorem w_100_89 : dx_W (tb_Z L xs) d 100 89 lv st σ Q ↔ wI (dx_lk lv 3) (fun y => dx_W (tb_Z L xs) d 100 92 (dx_s1 lv 3 (.int (y + 1))) st σ Q) := r_iincv (k := 3) (n := 1) (hz_100.trans rfl) (show 3 < tb_l 100 by decide) (by decide)
theorem w_100_92 : dx_W (tb_Z L xs) d 100 92 lv st σ Q ↔ dx_W (tb_Z L xs) d 100 78 lv st σ Q := r_goto (off := (-14)) (t := 78) (hz_100.trans rfl) (by decide)
theorem w_100_95 : dx_W (tb_Z L xs) d 100 95 lv st σ Q ↔ wR (dx_lk lv 0) (fun y => dx_W (tb_Z L xs) d 100 96 lv (y :: st) σ Q) := r_aload_n (k := 0) (hz_100.trans rfl)
theorem w_100_96 : dx_W (tb_Z L xs) d 100 96 lv st σ Q ↔ wI (dx_lk lv 1) (fun y => dx_W (tb_Z L xs) d 100 97 lv (.int y :: st) σ Q) := r_iload_n (k := 1) (hz_100.trans rfl)
theorem w_100_97 : dx_W (tb_Z L xs) d 100 97 lv st σ Q ↔ wI (dx_lk lv 3) (fun y => dx_W (tb_Z L xs) d 100 98 lv (.int y :: st) σ Q) := r_iload_n (k := 3) (hz_100.trans rfl)
theorem w_100_98 : dx_W (tb_Z L xs) d 100 98 lv st σ Q ↔ wI (dx_lk lv 1) (fun y => dx_W (tb_Z L xs) d 100 99 lv (.int y :: st) σ Q) := r_iload_n (k := 1) (hz_100.trans rfl)
theorem w_100_99 {x y : Int32} : dx_W (tb_Z L xs) d 100 99 lv (.int y :: .int x :: st) σ Q ↔ dx_W (tb_Z L xs) d 100 100 lv (.int (x - y) :: st) σ Q := r_isub (hz_100.trans rfl)
theorem w_100_100 {v0 v1 v2 : Value}  : dx_W (tb_Z L xs) d 100 100 lv (v2 :: v1 :: v0 :: st) σ Q ↔ (dx_ct st ≤ 8 ∧ dx_ci (tb_K L xs) σ v0 = some 9) ∧ dx_M (tb_Z L xs) d 106 [v0, v1, v2] σ (wK (tb_Z L xs) d 100 103 lv st Q) := c_callv (av := [v1, v2]) (hz_100.trans rfl)
theorem w_100_103 {x : Int32} : dx_W (tb_Z L xs) d 100 103 lv (.int x :: st) σ Q ↔ dx_W (tb_Z L xs) d 100 105 (dx_s1 lv 4 (.int x)) st σ Q := r_istore (k := 4) (hz_100.trans rfl) (show 4 < tb_l 100 by decide)
theorem w_100_105 : dx_W (tb_Z L xs) d 100 105 lv st σ Q ↔ wR (dx_lk lv 0) (fun y => dx_W (tb_Z L xs) d 100 106 lv (y :: st) σ Q) := r_aload_n (k := 0) (hz_100.trans rfl)
theorem w_100_106 : dx_W (tb_Z L xs) d 100 106 lv st σ Q ↔ wI (dx_lk lv 4) (fun y => dx_W (tb_Z L xs) d 100 108 lv (.int y :: st) σ Q) := r_iload (k := 4) (hz_100.trans rfl)
theorem w_100_108 {x : Int32} : dx_W (tb_Z L xs) d 100 108 lv (.int x :: st) σ Q ↔ (if ¬ x = 0 then dx_W (tb_Z L xs) d 100 115 lv st σ Q else dx_W (tb_Z L xs) d 100 111 lv st σ Q) := r_if_ne (off := 7) (t := 115) (hz_100.trans rfl) (by decide)
theorem w_100_111 : dx_W (tb_Z L xs) d 100 111 lv st σ Q ↔ dx_W (tb_Z L xs) d 100 112 lv (.int 1 :: st) σ Q := r_iconst (n := 1) (hz_100.trans rfl)
theorem w_100_112 : dx_W (tb_Z L xs) d 100 112 lv st σ Q ↔ dx_W (tb_Z L xs) d 100 116 lv st σ Q := r_goto (off := 4) (t := 116) (hz_100.trans rfl) (by decide)
theorem w_100_115 : dx_W (tb_Z L xs) d 100 115 lv st σ Q ↔ dx_W (tb_Z L xs) d 100 116 lv (.int 0 :: st) σ Q := r_iconst (n := 0) (hz_100.trans rfl)
theorem w_100_116 {u w : Value} : dx_W (tb_Z L xs) d 100 116 lv (u :: w :: st) σ Q ↔ wO (dx_pf σ w 9 10 2 u) (fun σ1 => dx_W (tb_Z L xs) d 100 119 lv st σ1 Q) := r_putfield (f := 2) (hz_100.trans rfl)
theorem w_100_119 : dx_W (tb_Z L xs) d 100 119 lv st σ Q ↔ wR (dx_lk lv 0) (fun y => dx_W (tb_Z L xs) d 100 120 lv (y :: st) σ Q) := r_aload_n (k := 0) (hz_100.trans rfl)
theorem w_100_120 : dx_W (tb_Z L xs) d 100 120 lv st σ Q ↔ wI (dx_lk lv 4) (fun y => dx_W (tb_Z L xs) d 100 122 lv (.int y :: st) σ Q) := r_iload (k := 4) (hz_100.trans rfl)
theorem w_100_122 : dx_W (tb_Z L xs) d 100 122 lv st σ Q ↔ wI (dx_lk lv 2) (fun y => dx_W (tb_Z L xs) d 100 123 lv (.int y :: st) σ Q) := r_iload_n (k := 2) (hz_100.trans rfl)
theorem w_100_123 : dx_W (tb_Z L xs) d 100 123 lv st σ Q ↔ dx_W (tb_Z L xs) d 100 125 lv (.int 97 :: st) σ Q := r_bipush (n := 97) (hz_100.trans rfl)
theorem w_100_125 {x y : Int32} : dx_W (tb_Z L xs) d 100 125 lv (.int y :: .int x :: st) σ Q ↔ dx_W (tb_Z L xs) d 100 126 lv (.int (x - y) :: st) σ Q := r_isub (hz_100.trans rfl)
theorem w_100_126 : dx_W (tb_Z L xs) d 100 126 lv st σ Q ↔ dx_W (tb_Z L xs) d 100 127 lv (.int 0 :: st) σ Q := r_iconst (n := 0) (hz_100.trans rfl)
theorem w_100_127 {v0 v1 v2 v3 : Value}  : dx_W (tb_Z L xs) d 100 127 lv (v3 :: v2 :: v1 :: v0 :: st) σ Q ↔ (dx_ct st ≤ 8 ∧ dx_ci (tb_K L xs) σ v0 = some 9) ∧ dx_M (tb_Z L xs) d 104 [v0, v1, v2, v3] σ (wK (tb_Z L xs) d 100 130 lv st Q) := c_callv (av := [v1, v2, v3]) (hz_100.trans rfl)
theorem w_100_130 : dx_W (tb_Z L xs) d 100 130 lv st σ Q ↔ wI (dx_lk lv 3) (fun y => dx_W (tb_Z L xs) d 100 131 lv (.int y :: st) σ Q) := r_iload_n (k := 3) (hz_100.trans rfl)
theorem w_100_131 {x : Int32} : dx_W (tb_Z L xs) d 100 131 lv (.int x :: st) σ Q ↔ dx_W (tb_Z L xs) d 100 132 (dx_s1 lv 1 (.int x)) st σ Q := r_istore_n (k := 1) (hz_100.trans rfl) (show 1 < tb_l 100 by decide)
theorem w_100_132 : dx_W (tb_Z L xs) d 100 132 lv st σ Q ↔ dx_W (tb_Z L xs) d 100 193 lv st σ Q := r_goto (off := 61) (t := 193) (hz_100.trans rfl) (by decide)
theorem w_100_135 : dx_W (tb_Z L xs) d 100 135 lv st σ Q ↔ wR (dx_lk lv 0) (fun y => dx_W (tb_Z L xs) d 100 136 lv (y :: st) σ Q) := r_aload_n (k := 0) (hz_100.trans rfl)
theorem w_100_136 : dx_W (tb_Z L xs) d 100 136 lv st σ Q ↔ wI (dx_lk lv 1) (fun y => dx_W (tb_Z L xs) d 100 137 lv (.int y :: st) σ Q) := r_iload_n (k := 1) (hz_100.trans rfl)
theorem w_100_137 {v0 v1 : Value}  : dx_W (tb_Z L xs) d 100 137 lv (v1 :: v0 :: st) σ Q ↔ (dx_ct st ≤ 8 ∧ dx_ci (tb_K L xs) σ v0 = some 9) ∧ dx_M (tb_Z L xs) d 107 [v0, v1] σ (wK (tb_Z L xs) d 100 140 lv st Q) := c_callv (av := [v1]) (hz_100.trans rfl)
theorem w_100_140 {x : Int32} : dx_W (tb_Z L xs) d 100 140 lv (.int x :: st) σ Q ↔ dx_W (tb_Z L xs) d 100 141 (dx_s1 lv 3 (.int x)) st σ Q := r_istore_n (k := 3) (hz_100.trans rfl) (show 3 < tb_l 100 by decide)
theorem w_100_141 : dx_W (tb_Z L xs) d 100 141 lv st σ Q ↔ wR (dx_lk lv 0) (fun y => dx_W (tb_Z L xs) d 100 142 lv (y :: st) σ Q) := r_aload_n (k := 0) (hz_100.trans rfl)
theorem w_100_142 : dx_W (tb_Z L xs) d 100 142 lv st σ Q ↔ wI (dx_lk lv 3) (fun y => dx_W (tb_Z L xs) d 100 143 lv (.int y :: st) σ Q) := r_iload_n (k := 3) (hz_100.trans rfl)
theorem w_100_143 {x : Int32} : dx_W (tb_Z L xs) d 100 143 lv (.int x :: st) σ Q ↔ (if ¬ x = 0 then dx_W (tb_Z L xs) d 100 150 lv st σ Q else dx_W (tb_Z L xs) d 100 146 lv st σ Q) := r_if_ne (off := 7) (t := 150) (hz_100.trans rfl) (by decide)
theorem w_100_146 : dx_W (tb_Z L xs) d 100 146 lv st σ Q ↔ dx_W (tb_Z L xs) d 100 147 lv (.int 1 :: st) σ Q := r_iconst (n := 1) (hz_100.trans rfl)
theorem w_100_147 : dx_W (tb_Z L xs) d 100 147 lv st σ Q ↔ dx_W (tb_Z L xs) d 100 151 lv st σ Q := r_goto (off := 4) (t := 151) (hz_100.trans rfl) (by decide)
theorem w_100_150 : dx_W (tb_Z L xs) d 100 150 lv st σ Q ↔ dx_W (tb_Z L xs) d 100 151 lv (.int 0 :: st) σ Q := r_iconst (n := 0) (hz_100.trans rfl)
theorem w_100_151 {u w : Value} : dx_W (tb_Z L xs) d 100 151 lv (u :: w :: st) σ Q ↔ wO (dx_pf σ w 9 10 2 u) (fun σ1 => dx_W (tb_Z L xs) d 100 154 lv st σ1 Q) := r_putfield (f := 2) (hz_100.trans rfl)
theorem w_100_154 : dx_W (tb_Z L xs) d 100 154 lv st σ Q ↔ wR (dx_lk lv 0) (fun y => dx_W (tb_Z L xs) d 100 155 lv (y :: st) σ Q) := r_aload_n (k := 0) (hz_100.trans rfl)
theorem w_100_155 : dx_W (tb_Z L xs) d 100 155 lv st σ Q ↔ wI (dx_lk lv 3) (fun y => dx_W (tb_Z L xs) d 100 156 lv (.int y :: st) σ Q) := r_iload_n (k := 3) (hz_100.trans rfl)
theorem w_100_156 : dx_W (tb_Z L xs) d 100 156 lv st σ Q ↔ dx_W (tb_Z L xs) d 100 157 lv (.int 0 :: st) σ Q := r_iconst (n := 0) (hz_100.trans rfl)
theorem w_100_157 : dx_W (tb_Z L xs) d 100 157 lv st σ Q ↔ dx_W (tb_Z L xs) d 100 158 lv (.int 0 :: st) σ Q := r_iconst (n := 0) (hz_100.trans rfl)
theorem w_100_158 {v0 v1 v2 v3 : Value}  : dx_W (tb_Z L xs) d 100 158 lv (v3 :: v2 :: v1 :: v0 :: st) σ Q ↔ (dx_ct st ≤ 8 ∧ dx_ci (tb_K L xs) σ v0 = some 9) ∧ dx_M (tb_Z L xs) d 104 [v0, v1, v2, v3] σ (wK (tb_Z L xs) d 100 161 lv st Q) := c_callv (av := [v1, v2, v3]) (hz_100.trans rfl)
theorem w_100_161 : dx_W (tb_Z L xs) d 100 161 lv st σ Q ↔ wI (dx_lk lv 1) (fun y => dx_W (tb_Z L xs) d 100 162 lv (.int y :: st) σ Q) := r_iload_n (k := 1) (hz_100.trans rfl)
theorem w_100_162 : dx_W (tb_Z L xs) d 100 162 lv st σ Q ↔ wI (dx_lk lv 3) (fun y => dx_W (tb_Z L xs) d 100 163 lv (.int y :: st) σ Q) := r_iload_n (k := 3) (hz_100.trans rfl)
theorem w_100_163 : dx_W (tb_Z L xs) d 100 163 lv st σ Q ↔ dx_W (tb_Z L xs) d 100 165 lv (.int 76 :: st) σ Q := r_bipush (n := 76) (hz_100.trans rfl)
theorem w_100_165 {x y : Int32} : dx_W (tb_Z L xs) d 100 165 lv (.int y :: .int x :: st) σ Q ↔ (if x = y then dx_W (tb_Z L xs) d 100 186 lv st σ Q else dx_W (tb_Z L xs) d 100 168 lv st σ Q) := r_ic_eq (off := 21) (t := 186) (hz_100.trans rfl) (by decide)
theorem w_100_168 : dx_W (tb_Z L xs) d 100 168 lv st σ Q ↔ wI (dx_lk lv 3) (fun y => dx_W (tb_Z L xs) d 100 169 lv (.int y :: st) σ Q) := r_iload_n (k := 3) (hz_100.trans rfl)
theorem w_100_169 : dx_W (tb_Z L xs) d 100 169 lv st σ Q ↔ dx_W (tb_Z L xs) d 100 171 lv (.int 71 :: st) σ Q := r_bipush (n := 71) (hz_100.trans rfl)
theorem w_100_171 {x y : Int32} : dx_W (tb_Z L xs) d 100 171 lv (.int y :: .int x :: st) σ Q ↔ (if x = y then dx_W (tb_Z L xs) d 100 186 lv st σ Q else dx_W (tb_Z L xs) d 100 174 lv st σ Q) := r_ic_eq (off := 15) (t := 186) (hz_100.trans rfl) (by decide)
theorem w_100_174 : dx_W (tb_Z L xs) d 100 174 lv st σ Q ↔ wI (dx_lk lv 3) (fun y => dx_W (tb_Z L xs) d 100 175 lv (.int y :: st) σ Q) := r_iload_n (k := 3) (hz_100.trans rfl)
theorem w_100_175 : dx_W (tb_Z L xs) d 100 175 lv st σ Q ↔ dx_W (tb_Z L xs) d 100 177 lv (.int 69 :: st) σ Q := r_bipush (n := 69) (hz_100.trans rfl)
theorem w_100_177 {x y : Int32} : dx_W (tb_Z L xs) d 100 177 lv (.int y :: .int x :: st) σ Q ↔ (if x = y then dx_W (tb_Z L xs) d 100 186 lv st σ Q else dx_W (tb_Z L xs) d 100 180 lv st σ Q) := r_ic_eq (off := 9) (t := 186) (hz_100.trans rfl) (by decide)
theorem w_100_180 : dx_W (tb_Z L xs) d 100 180 lv st σ Q ↔ wI (dx_lk lv 3) (fun y => dx_W (tb_Z L xs) d 100 181 lv (.int y :: st) σ Q) := r_iload_n (k := 3) (hz_100.trans rfl)
theorem w_100_181 : dx_W (tb_Z L xs) d 100 181 lv st σ Q ↔ dx_W (tb_Z L xs) d 100 183 lv (.int 78 :: st) σ Q := r_bipush (n := 78) (hz_100.trans rfl)
theorem w_100_183 {x y : Int32} : dx_W (tb_Z L xs) d 100 183 lv (.int y :: .int x :: st) σ Q ↔ (if ¬ x = y then dx_W (tb_Z L xs) d 100 190 lv st σ Q else dx_W (tb_Z L xs) d 100 186 lv st σ Q) := r_ic_ne (off := 7) (t := 190) (hz_100.trans rfl) (by decide)
theorem w_100_186 : dx_W (tb_Z L xs) d 100 186 lv st σ Q ↔ dx_W (tb_Z L xs) d 100 187 lv (.int 2 :: st) σ Q := r_iconst (n := 2) (hz_100.trans rfl)
theorem w_100_187 : dx_W (tb_Z L xs) d 100 187 lv st σ Q ↔ dx_W (tb_Z L xs) d 100 191 lv st σ Q := r_goto (off := 4) (t := 191) (hz_100.trans rfl) (by decide)
theorem w_100_190 : dx_W (tb_Z L xs) d 100 190 lv st σ Q ↔ dx_W (tb_Z L xs) d 100 191 lv (.int 1 :: st) σ Q := r_iconst (n := 1) (hz_100.trans rfl)
theorem w_100_191 {x y : Int32} : dx_W (tb_Z L xs) d 100 191 lv (.int y :: .int x :: st) σ Q ↔ dx_W (tb_Z L xs) d 100 192 lv (.int (x + y) :: st) σ Q := r_iadd (hz_100.trans rfl)
theorem w_100_192 {x : Int32} : dx_W (tb_Z L xs) d 100 192 lv (.int x :: st) σ Q ↔ dx_W (tb_Z L xs) d 100 193 (dx_s1 lv 1 (.int x)) st σ Q := r_istore_n (k := 1) (hz_100.trans rfl) (show 1 < tb_l 100 by decide)
theorem w_100_193 : dx_W (tb_Z L xs) d 100 193 lv st σ Q ↔ dx_W (tb_Z L xs) d 100 7 lv st σ Q := r_goto (off := (-186)) (t := 7) (hz_100.trans rfl) (by decide)
theorem w_100_196 : dx_W (tb_Z L xs) d 100 196 lv st σ Q ↔ wR (dx_lk lv 0) (fun y => dx_W (tb_Z L xs) d 100 197 lv (y :: st) σ Q) := r_aload_n (k := 0) (hz_100.trans rfl)
theorem w_100_197 {w : Value} : dx_W (tb_Z L xs) d 100 197 lv (w :: st) σ Q ↔ wO (dx_gf (tb_K L xs) σ w 9 5) (fun y => dx_W (tb_Z L xs) d 100 200 lv (y :: st) σ Q) := r_getfield (hz_100.trans rfl)
theorem w_100_200 : dx_W (tb_Z L xs) d 100 200 lv st σ Q ↔ wR (dx_lk lv 0) (fun y => dx_W (tb_Z L xs) d 100 201 lv (y :: st) σ Q) := r_aload_n (k := 0) (hz_100.trans rfl)
theorem w_100_201 {w : Value} : dx_W (tb_Z L xs) d 100 201 lv (w :: st) σ Q ↔ wO (dx_gf (tb_K L xs) σ w 9 8) (fun y => dx_W (tb_Z L xs) d 100 204 lv (y :: st) σ Q) := r_getfield (hz_100.trans rfl)
theorem w_100_204 : dx_W (tb_Z L xs) d 100 204 lv st σ Q ↔ dx_W (tb_Z L xs) d 100 205 lv (.int 0 :: st) σ Q := r_iconst (n := 0) (hz_100.trans rfl)
theorem w_100_205 {w : Value} {y : Int32} {u : Int32} : dx_W (tb_Z L xs) d 100 205 lv (.int u :: .int y :: w :: st) σ Q ↔ wO (dx_pi σ 0 w y u) (fun σ1 => dx_W (tb_Z L xs) d 100 206 lv st σ1 Q) := r_iastore (hz_100.trans rfl)
theorem w_100_206 : dx_W (tb_Z L xs) d 100 206 lv st σ Q ↔ wR (dx_lk lv 0) (fun y => dx_W (tb_Z L xs) d 100 207 lv (y :: st) σ Q) := r_aload_n (k := 0) (hz_100.trans rfl)
theorem w_100_207 {w : Value} : dx_W (tb_Z L xs) d 100 207 lv (w :: st) σ Q ↔ wO (dx_gf (tb_K L xs) σ w 9 5) (fun y => dx_W (tb_Z L xs) d 100 210 lv (y :: st) σ Q) := r_getfield (hz_100.trans rfl)
theorem w_100_210 : dx_W (tb_Z L xs) d 100 210 lv st σ Q ↔ wR (dx_lk lv 0) (fun y => dx_W (tb_Z L xs) d 100 211 lv (y :: st) σ Q) := r_aload_n (k := 0) (hz_100.trans rfl)
theorem w_100_211 {w : Value} : dx_W (tb_Z L xs) d 100 211 lv (w :: st) σ Q ↔ wO (dx_gf (tb_K L xs) σ w 9 8) (fun y => dx_W (tb_Z L xs) d 100 214 lv (y :: st) σ Q) := r_getfield (hz_100.trans rfl)
theorem w_100_214 : dx_W (tb_Z L xs) d 100 214 lv st σ Q ↔ dx_W (tb_Z L xs) d 100 215 lv (.int 1 :: st) σ Q := r_iconst (n := 1) (hz_100.trans rfl)
theorem w_100_215 {x y : Int32} : dx_W (tb_Z L xs) d 100 215 lv (.int y :: .int x :: st) σ Q ↔ dx_W (tb_Z L xs) d 100 216 lv (.int (x + y) :: st) σ Q := r_iadd (hz_100.trans rfl)
theorem w_100_216 : dx_W (tb_Z L xs) d 100 216 lv st σ Q ↔ dx_W (tb_Z L xs) d 100 217 lv (.int 0 :: st) σ Q := r_iconst (n := 0) (hz_100.trans rfl)
theorem w_100_217 {w : Value} {y : Int32} {u : Int32} : dx_W (tb_Z L xs) d 100 217 lv (.int u :: .int y :: w :: st) σ Q ↔ wO (dx_pi σ 0 w y u) (fun σ1 => dx_W (tb_Z L xs) d 100 218 lv st σ1 Q) := r_iastore (hz_100.trans rfl)
theorem w_100_218 : dx_W (tb_Z L xs) d 100 218 lv [] σ Q ↔ Q (.inl none) σ := r_return (hz_100.trans rfl) rfl
theorem hz_101 {pc : Nat} : (tb_Z L xs).1 101 pc = dx_at tb_m101 pc := rfl
theorem w_101_0 : dx_W (tb_Z L xs) d 101 0 lv st σ Q ↔ wI (dx_lk lv 1) (fun y => dx_W (tb_Z L xs) d 101 1 lv (.int y :: st) σ Q) := r_iload_n (k := 1) (hz_101.trans rfl)
theorem w_101_1 : dx_W (tb_Z L xs) d 101 1 lv st σ Q ↔ wR (dx_lk lv 0) (fun y => dx_W (tb_Z L xs) d 101 2 lv (y :: st) σ Q) := r_aload_n (k := 0) (hz_101.trans rfl)
theorem w_101_2 {w : Value} : dx_W (tb_Z L xs) d 101 2 lv (w :: st) σ Q ↔ wO (dx_gf (tb_K L xs) σ w 9 1) (fun y => dx_W (tb_Z L xs) d 101 5 lv (y :: st) σ Q) := r_getfield (hz_101.trans rfl)
theorem w_101_5 {x y : Int32} : dx_W (tb_Z L xs) d 101 5 lv (.int y :: .int x :: st) σ Q ↔ (if y ≤ x then dx_W (tb_Z L xs) d 101 17 lv st σ Q else dx_W (tb_Z L xs) d 101 8 lv st σ Q) := r_ic_ge (off := 12) (t := 17) (hz_101.trans rfl) (by decide)
theorem w_101_8 : dx_W (tb_Z L xs) d 101 8 lv st σ Q ↔ wR (dx_lk lv 0) (fun y => dx_W (tb_Z L xs) d 101 9 lv (y :: st) σ Q) := r_aload_n (k := 0) (hz_101.trans rfl)
theorem w_101_9 {w : Value} : dx_W (tb_Z L xs) d 101 9 lv (w :: st) σ Q ↔ wO (dx_gf (tb_K L xs) σ w 9 0) (fun y => dx_W (tb_Z L xs) d 101 12 lv (y :: st) σ Q) := r_getfield (hz_101.trans rfl)
theorem w_101_12 : dx_W (tb_Z L xs) d 101 12 lv st σ Q ↔ wI (dx_lk lv 1) (fun y => dx_W (tb_Z L xs) d 101 13 lv (.int y :: st) σ Q) := r_iload_n (k := 1) (hz_101.trans rfl)
theorem w_101_13 {w : Value} {y : Int32} : dx_W (tb_Z L xs) d 101 13 lv (.int y :: w :: st) σ Q ↔ wO (dx_ei (tb_K L xs) σ 0 w y) (fun u => dx_W (tb_Z L xs) d 101 14 lv (.int u :: st) σ Q) := r_iaload (hz_101.trans rfl)
theorem w_101_14 : dx_W (tb_Z L xs) d 101 14 lv st σ Q ↔ dx_W (tb_Z L xs) d 101 18 lv st σ Q := r_goto (off := 4) (t := 18) (hz_101.trans rfl) (by decide)
theorem w_101_17 : dx_W (tb_Z L xs) d 101 17 lv st σ Q ↔ dx_W (tb_Z L xs) d 101 18 lv (.int 0 :: st) σ Q := r_iconst (n := 0) (hz_101.trans rfl)
theorem w_101_18 {x : Int32} : dx_W (tb_Z L xs) d 101 18 lv [.int x] σ Q ↔ Q (.inl (some (.int x))) σ := r_ireturn (hz_101.trans rfl) rfl rfl
theorem hz_102 {pc : Nat} : (tb_Z L xs).1 102 pc = dx_at tb_m102 pc := rfl
theorem w_102_0 : dx_W (tb_Z L xs) d 102 0 lv st σ Q ↔ wI (dx_lk lv 0) (fun y => dx_W (tb_Z L xs) d 102 1 lv (.int y :: st) σ Q) := r_iload_n (k := 0) (hz_102.trans rfl)
theorem w_102_1 : dx_W (tb_Z L xs) d 102 1 lv st σ Q ↔ dx_W (tb_Z L xs) d 102 3 lv (.int 48 :: st) σ Q := r_bipush (n := 48) (hz_102.trans rfl)
theorem w_102_3 {x y : Int32} : dx_W (tb_Z L xs) d 102 3 lv (.int y :: .int x :: st) σ Q ↔ (if x < y then dx_W (tb_Z L xs) d 102 16 lv st σ Q else dx_W (tb_Z L xs) d 102 6 lv st σ Q) := r_ic_lt (off := 13) (t := 16) (hz_102.trans rfl) (by decide)
theorem w_102_6 : dx_W (tb_Z L xs) d 102 6 lv st σ Q ↔ wI (dx_lk lv 0) (fun y => dx_W (tb_Z L xs) d 102 7 lv (.int y :: st) σ Q) := r_iload_n (k := 0) (hz_102.trans rfl)
theorem w_102_7 : dx_W (tb_Z L xs) d 102 7 lv st σ Q ↔ dx_W (tb_Z L xs) d 102 9 lv (.int 57 :: st) σ Q := r_bipush (n := 57) (hz_102.trans rfl)
theorem w_102_9 {x y : Int32} : dx_W (tb_Z L xs) d 102 9 lv (.int y :: .int x :: st) σ Q ↔ (if y < x then dx_W (tb_Z L xs) d 102 16 lv st σ Q else dx_W (tb_Z L xs) d 102 12 lv st σ Q) := r_ic_gt (off := 7) (t := 16) (hz_102.trans rfl) (by decide)
theorem w_102_12 : dx_W (tb_Z L xs) d 102 12 lv st σ Q ↔ dx_W (tb_Z L xs) d 102 13 lv (.int 1 :: st) σ Q := r_iconst (n := 1) (hz_102.trans rfl)
theorem w_102_13 : dx_W (tb_Z L xs) d 102 13 lv st σ Q ↔ dx_W (tb_Z L xs) d 102 17 lv st σ Q := r_goto (off := 4) (t := 17) (hz_102.trans rfl) (by decide)
theorem w_102_16 : dx_W (tb_Z L xs) d 102 16 lv st σ Q ↔ dx_W (tb_Z L xs) d 102 17 lv (.int 0 :: st) σ Q := r_iconst (n := 0) (hz_102.trans rfl)
theorem w_102_17 {x : Int32} : dx_W (tb_Z L xs) d 102 17 lv [.int x] σ Q ↔ narrow .boolean (.int x) = .int x ∧ Q (.inl (some (.int x))) σ := c_ireturn (hz_102.trans rfl) rfl
theorem hz_103 {pc : Nat} : (tb_Z L xs).1 103 pc = dx_at tb_m103 pc := rfl
theorem w_103_0 : dx_W (tb_Z L xs) d 103 0 lv st σ Q ↔ wI (dx_lk lv 1) (fun y => dx_W (tb_Z L xs) d 103 1 lv (.int y :: st) σ Q) := r_iload_n (k := 1) (hz_103.trans rfl)
theorem w_103_1 {x : Int32} : dx_W (tb_Z L xs) d 103 1 lv (.int x :: st) σ Q ↔ dx_W (tb_Z L xs) d 103 2 (dx_s1 lv 2 (.int x)) st σ Q := r_istore_n (k := 2) (hz_103.trans rfl) (show 2 < tb_l 103 by decide)
theorem w_103_2 : dx_W (tb_Z L xs) d 103 2 lv st σ Q ↔ dx_W (tb_Z L xs) d 103 3 lv (.int 0 :: st) σ Q := r_iconst (n := 0) (hz_103.trans rfl)
theorem w_103_3 {x : Int32} : dx_W (tb_Z L xs) d 103 3 lv (.int x :: st) σ Q ↔ dx_W (tb_Z L xs) d 103 4 (dx_s1 lv 3 (.int x)) st σ Q := r_istore_n (k := 3) (hz_103.trans rfl) (show 3 < tb_l 103 by decide)
theorem w_103_4 : dx_W (tb_Z L xs) d 103 4 lv st σ Q ↔ dx_W (tb_Z L xs) d 103 5 lv (.int 0 :: st) σ Q := r_iconst (n := 0) (hz_103.trans rfl)
theorem w_103_5 {x : Int32} : dx_W (tb_Z L xs) d 103 5 lv (.int x :: st) σ Q ↔ dx_W (tb_Z L xs) d 103 7 (dx_s1 lv 4 (.int x)) st σ Q := r_istore (k := 4) (hz_103.trans rfl) (show 4 < tb_l 103 by decide)
theorem w_103_7 : dx_W (tb_Z L xs) d 103 7 lv st σ Q ↔ dx_W (tb_Z L xs) d 103 8 lv (.int 0 :: st) σ Q := r_iconst (n := 0) (hz_103.trans rfl)
theorem w_103_8 {x : Int32} : dx_W (tb_Z L xs) d 103 8 lv (.int x :: st) σ Q ↔ dx_W (tb_Z L xs) d 103 10 (dx_s1 lv 5 (.int x)) st σ Q := r_istore (k := 5) (hz_103.trans rfl) (show 5 < tb_l 103 by decide)
theorem w_103_10 : dx_W (tb_Z L xs) d 103 10 lv st σ Q ↔ wR (dx_lk lv 0) (fun y => dx_W (tb_Z L xs) d 103 11 lv (y :: st) σ Q) := r_aload_n (k := 0) (hz_103.trans rfl)
theorem w_103_11 : dx_W (tb_Z L xs) d 103 11 lv st σ Q ↔ wI (dx_lk lv 2) (fun y => dx_W (tb_Z L xs) d 103 12 lv (.int y :: st) σ Q) := r_iload_n (k := 2) (hz_103.trans rfl)
theorem w_103_12 {v0 v1 : Value}  : dx_W (tb_Z L xs) d 103 12 lv (v1 :: v0 :: st) σ Q ↔ (dx_ct st ≤ 8 ∧ dx_ci (tb_K L xs) σ v0 = some 9) ∧ dx_M (tb_Z L xs) d 101 [v0, v1] σ (wK (tb_Z L xs) d 103 15 lv st Q) := c_callv (av := [v1]) (hz_103.trans rfl)
theorem w_103_15 {v0 : Value}  : dx_W (tb_Z L xs) d 103 15 lv (v0 :: st) σ Q ↔ dx_ct st ≤ 8 ∧ dx_M (tb_Z L xs) d 102 [v0] σ (wK (tb_Z L xs) d 103 18 lv st Q) := c_calls (av := [v0]) (hz_103.trans rfl)
theorem w_103_18 {x : Int32} : dx_W (tb_Z L xs) d 103 18 lv (.int x :: st) σ Q ↔ (if x = 0 then dx_W (tb_Z L xs) d 103 51 lv st σ Q else dx_W (tb_Z L xs) d 103 21 lv st σ Q) := r_if_eq (off := 33) (t := 51) (hz_103.trans rfl) (by decide)
theorem w_103_21 : dx_W (tb_Z L xs) d 103 21 lv st σ Q ↔ wI (dx_lk lv 4) (fun y => dx_W (tb_Z L xs) d 103 23 lv (.int y :: st) σ Q) := r_iload (k := 4) (hz_103.trans rfl)
theorem w_103_23 : dx_W (tb_Z L xs) d 103 23 lv st σ Q ↔ dx_W (tb_Z L xs) d 103 25 lv (.int 9 :: st) σ Q := r_bipush (n := 9) (hz_103.trans rfl)
theorem w_103_25 {x y : Int32} : dx_W (tb_Z L xs) d 103 25 lv (.int y :: .int x :: st) σ Q ↔ (if y ≤ x then dx_W (tb_Z L xs) d 103 42 lv st σ Q else dx_W (tb_Z L xs) d 103 28 lv st σ Q) := r_ic_ge (off := 17) (t := 42) (hz_103.trans rfl) (by decide)
theorem w_103_28 : dx_W (tb_Z L xs) d 103 28 lv st σ Q ↔ dx_W (tb_Z L xs) d 103 30 lv (.int 10 :: st) σ Q := r_bipush (n := 10) (hz_103.trans rfl)
theorem w_103_30 : dx_W (tb_Z L xs) d 103 30 lv st σ Q ↔ wI (dx_lk lv 3) (fun y => dx_W (tb_Z L xs) d 103 31 lv (.int y :: st) σ Q) := r_iload_n (k := 3) (hz_103.trans rfl)
theorem w_103_31 {x y : Int32} : dx_W (tb_Z L xs) d 103 31 lv (.int y :: .int x :: st) σ Q ↔ dx_W (tb_Z L xs) d 103 32 lv (.int (x * y) :: st) σ Q := r_imul (hz_103.trans rfl)
theorem w_103_32 : dx_W (tb_Z L xs) d 103 32 lv st σ Q ↔ wR (dx_lk lv 0) (fun y => dx_W (tb_Z L xs) d 103 33 lv (y :: st) σ Q) := r_aload_n (k := 0) (hz_103.trans rfl)
theorem w_103_33 : dx_W (tb_Z L xs) d 103 33 lv st σ Q ↔ wI (dx_lk lv 2) (fun y => dx_W (tb_Z L xs) d 103 34 lv (.int y :: st) σ Q) := r_iload_n (k := 2) (hz_103.trans rfl)
theorem w_103_34 {v0 v1 : Value}  : dx_W (tb_Z L xs) d 103 34 lv (v1 :: v0 :: st) σ Q ↔ (dx_ct st ≤ 8 ∧ dx_ci (tb_K L xs) σ v0 = some 9) ∧ dx_M (tb_Z L xs) d 101 [v0, v1] σ (wK (tb_Z L xs) d 103 37 lv st Q) := c_callv (av := [v1]) (hz_103.trans rfl)
theorem w_103_37 {x y : Int32} : dx_W (tb_Z L xs) d 103 37 lv (.int y :: .int x :: st) σ Q ↔ dx_W (tb_Z L xs) d 103 38 lv (.int (x + y) :: st) σ Q := r_iadd (hz_103.trans rfl)
theorem w_103_38 : dx_W (tb_Z L xs) d 103 38 lv st σ Q ↔ dx_W (tb_Z L xs) d 103 40 lv (.int 48 :: st) σ Q := r_bipush (n := 48) (hz_103.trans rfl)
theorem w_103_40 {x y : Int32} : dx_W (tb_Z L xs) d 103 40 lv (.int y :: .int x :: st) σ Q ↔ dx_W (tb_Z L xs) d 103 41 lv (.int (x - y) :: st) σ Q := r_isub (hz_103.trans rfl)
theorem w_103_41 {x : Int32} : dx_W (tb_Z L xs) d 103 41 lv (.int x :: st) σ Q ↔ dx_W (tb_Z L xs) d 103 42 (dx_s1 lv 3 (.int x)) st σ Q := r_istore_n (k := 3) (hz_103.trans rfl) (show 3 < tb_l 103 by decide)
theorem w_103_42 : dx_W (tb_Z L xs) d 103 42 lv st σ Q ↔ wI (dx_lk lv 4) (fun y => dx_W (tb_Z L xs) d 103 45 (dx_s1 lv 4 (.int (y + 1))) st σ Q) := r_iincv (k := 4) (n := 1) (hz_103.trans rfl) (show 4 < tb_l 103 by decide) (by decide)
theorem w_103_45 : dx_W (tb_Z L xs) d 103 45 lv st σ Q ↔ wI (dx_lk lv 2) (fun y => dx_W (tb_Z L xs) d 103 48 (dx_s1 lv 2 (.int (y + 1))) st σ Q) := r_iincv (k := 2) (n := 1) (hz_103.trans rfl) (show 2 < tb_l 103 by decide) (by decide)
theorem w_103_48 : dx_W (tb_Z L xs) d 103 48 lv st σ Q ↔ dx_W (tb_Z L xs) d 103 10 lv st σ Q := r_goto (off := (-38)) (t := 10) (hz_103.trans rfl) (by decide)
theorem w_103_51 : dx_W (tb_Z L xs) d 103 51 lv st σ Q ↔ wR (dx_lk lv 0) (fun y => dx_W (tb_Z L xs) d 103 52 lv (y :: st) σ Q) := r_aload_n (k := 0) (hz_103.trans rfl)
theorem w_103_52 : dx_W (tb_Z L xs) d 103 52 lv st σ Q ↔ wI (dx_lk lv 2) (fun y => dx_W (tb_Z L xs) d 103 53 lv (.int y :: st) σ Q) := r_iload_n (k := 2) (hz_103.trans rfl)
theorem w_103_53 {v0 v1 : Value}  : dx_W (tb_Z L xs) d 103 53 lv (v1 :: v0 :: st) σ Q ↔ (dx_ct st ≤ 8 ∧ dx_ci (tb_K L xs) σ v0 = some 9) ∧ dx_M (tb_Z L xs) d 101 [v0, v1] σ (wK (tb_Z L xs) d 103 56 lv st Q) := c_callv (av := [v1]) (hz_103.trans rfl)
theorem w_103_56 : dx_W (tb_Z L xs) d 103 56 lv st σ Q ↔ dx_W (tb_Z L xs) d 103 58 lv (.int 46 :: st) σ Q := r_bipush (n := 46) (hz_103.trans rfl)
theorem w_103_58 {x y : Int32} : dx_W (tb_Z L xs) d 103 58 lv (.int y :: .int x :: st) σ Q ↔ (if ¬ x = y then dx_W (tb_Z L xs) d 103 121 lv st σ Q else dx_W (tb_Z L xs) d 103 61 lv st σ Q) := r_ic_ne (off := 63) (t := 121) (hz_103.trans rfl) (by decide)
theorem w_103_61 : dx_W (tb_Z L xs) d 103 61 lv st σ Q ↔ wR (dx_lk lv 0) (fun y => dx_W (tb_Z L xs) d 103 62 lv (y :: st) σ Q) := r_aload_n (k := 0) (hz_103.trans rfl)
theorem w_103_62 : dx_W (tb_Z L xs) d 103 62 lv st σ Q ↔ wI (dx_lk lv 2) (fun y => dx_W (tb_Z L xs) d 103 63 lv (.int y :: st) σ Q) := r_iload_n (k := 2) (hz_103.trans rfl)
theorem w_103_63 : dx_W (tb_Z L xs) d 103 63 lv st σ Q ↔ dx_W (tb_Z L xs) d 103 64 lv (.int 1 :: st) σ Q := r_iconst (n := 1) (hz_103.trans rfl)
theorem w_103_64 {x y : Int32} : dx_W (tb_Z L xs) d 103 64 lv (.int y :: .int x :: st) σ Q ↔ dx_W (tb_Z L xs) d 103 65 lv (.int (x + y) :: st) σ Q := r_iadd (hz_103.trans rfl)
theorem w_103_65 {v0 v1 : Value}  : dx_W (tb_Z L xs) d 103 65 lv (v1 :: v0 :: st) σ Q ↔ (dx_ct st ≤ 8 ∧ dx_ci (tb_K L xs) σ v0 = some 9) ∧ dx_M (tb_Z L xs) d 101 [v0, v1] σ (wK (tb_Z L xs) d 103 68 lv st Q) := c_callv (av := [v1]) (hz_103.trans rfl)
theorem w_103_68 {v0 : Value}  : dx_W (tb_Z L xs) d 103 68 lv (v0 :: st) σ Q ↔ dx_ct st ≤ 8 ∧ dx_M (tb_Z L xs) d 102 [v0] σ (wK (tb_Z L xs) d 103 71 lv st Q) := c_calls (av := [v0]) (hz_103.trans rfl)
theorem w_103_71 {x : Int32} : dx_W (tb_Z L xs) d 103 71 lv (.int x :: st) σ Q ↔ (if x = 0 then dx_W (tb_Z L xs) d 103 121 lv st σ Q else dx_W (tb_Z L xs) d 103 74 lv st σ Q) := r_if_eq (off := 50) (t := 121) (hz_103.trans rfl) (by decide)
theorem w_103_74 : dx_W (tb_Z L xs) d 103 74 lv st σ Q ↔ wI (dx_lk lv 2) (fun y => dx_W (tb_Z L xs) d 103 77 (dx_s1 lv 2 (.int (y + 1))) st σ Q) := r_iincv (k := 2) (n := 1) (hz_103.trans rfl) (show 2 < tb_l 103 by decide) (by decide)
theorem w_103_77 : dx_W (tb_Z L xs) d 103 77 lv st σ Q ↔ wR (dx_lk lv 0) (fun y => dx_W (tb_Z L xs) d 103 78 lv (y :: st) σ Q) := r_aload_n (k := 0) (hz_103.trans rfl)
theorem w_103_78 : dx_W (tb_Z L xs) d 103 78 lv st σ Q ↔ wI (dx_lk lv 2) (fun y => dx_W (tb_Z L xs) d 103 79 lv (.int y :: st) σ Q) := r_iload_n (k := 2) (hz_103.trans rfl)
theorem w_103_79 {v0 v1 : Value}  : dx_W (tb_Z L xs) d 103 79 lv (v1 :: v0 :: st) σ Q ↔ (dx_ct st ≤ 8 ∧ dx_ci (tb_K L xs) σ v0 = some 9) ∧ dx_M (tb_Z L xs) d 101 [v0, v1] σ (wK (tb_Z L xs) d 103 82 lv st Q) := c_callv (av := [v1]) (hz_103.trans rfl)
theorem w_103_82 {v0 : Value}  : dx_W (tb_Z L xs) d 103 82 lv (v0 :: st) σ Q ↔ dx_ct st ≤ 8 ∧ dx_M (tb_Z L xs) d 102 [v0] σ (wK (tb_Z L xs) d 103 85 lv st Q) := c_calls (av := [v0]) (hz_103.trans rfl)
theorem w_103_85 {x : Int32} : dx_W (tb_Z L xs) d 103 85 lv (.int x :: st) σ Q ↔ (if x = 0 then dx_W (tb_Z L xs) d 103 121 lv st σ Q else dx_W (tb_Z L xs) d 103 88 lv st σ Q) := r_if_eq (off := 36) (t := 121) (hz_103.trans rfl) (by decide)
theorem w_103_88 : dx_W (tb_Z L xs) d 103 88 lv st σ Q ↔ wI (dx_lk lv 4) (fun y => dx_W (tb_Z L xs) d 103 90 lv (.int y :: st) σ Q) := r_iload (k := 4) (hz_103.trans rfl)
theorem w_103_90 : dx_W (tb_Z L xs) d 103 90 lv st σ Q ↔ dx_W (tb_Z L xs) d 103 92 lv (.int 9 :: st) σ Q := r_bipush (n := 9) (hz_103.trans rfl)
theorem w_103_92 {x y : Int32} : dx_W (tb_Z L xs) d 103 92 lv (.int y :: .int x :: st) σ Q ↔ (if y ≤ x then dx_W (tb_Z L xs) d 103 109 lv st σ Q else dx_W (tb_Z L xs) d 103 95 lv st σ Q) := r_ic_ge (off := 17) (t := 109) (hz_103.trans rfl) (by decide)
theorem w_103_95 : dx_W (tb_Z L xs) d 103 95 lv st σ Q ↔ dx_W (tb_Z L xs) d 103 97 lv (.int 10 :: st) σ Q := r_bipush (n := 10) (hz_103.trans rfl)
theorem w_103_97 : dx_W (tb_Z L xs) d 103 97 lv st σ Q ↔ wI (dx_lk lv 3) (fun y => dx_W (tb_Z L xs) d 103 98 lv (.int y :: st) σ Q) := r_iload_n (k := 3) (hz_103.trans rfl)
theorem w_103_98 {x y : Int32} : dx_W (tb_Z L xs) d 103 98 lv (.int y :: .int x :: st) σ Q ↔ dx_W (tb_Z L xs) d 103 99 lv (.int (x * y) :: st) σ Q := r_imul (hz_103.trans rfl)
theorem w_103_99 : dx_W (tb_Z L xs) d 103 99 lv st σ Q ↔ wR (dx_lk lv 0) (fun y => dx_W (tb_Z L xs) d 103 100 lv (y :: st) σ Q) := r_aload_n (k := 0) (hz_103.trans rfl)
theorem w_103_100 : dx_W (tb_Z L xs) d 103 100 lv st σ Q ↔ wI (dx_lk lv 2) (fun y => dx_W (tb_Z L xs) d 103 101 lv (.int y :: st) σ Q) := r_iload_n (k := 2) (hz_103.trans rfl)
theorem w_103_101 {v0 v1 : Value}  : dx_W (tb_Z L xs) d 103 101 lv (v1 :: v0 :: st) σ Q ↔ (dx_ct st ≤ 8 ∧ dx_ci (tb_K L xs) σ v0 = some 9) ∧ dx_M (tb_Z L xs) d 101 [v0, v1] σ (wK (tb_Z L xs) d 103 104 lv st Q) := c_callv (av := [v1]) (hz_103.trans rfl)
theorem w_103_104 {x y : Int32} : dx_W (tb_Z L xs) d 103 104 lv (.int y :: .int x :: st) σ Q ↔ dx_W (tb_Z L xs) d 103 105 lv (.int (x + y) :: st) σ Q := r_iadd (hz_103.trans rfl)
theorem w_103_105 : dx_W (tb_Z L xs) d 103 105 lv st σ Q ↔ dx_W (tb_Z L xs) d 103 107 lv (.int 48 :: st) σ Q := r_bipush (n := 48) (hz_103.trans rfl)
theorem w_103_107 {x y : Int32} : dx_W (tb_Z L xs) d 103 107 lv (.int y :: .int x :: st) σ Q ↔ dx_W (tb_Z L xs) d 103 108 lv (.int (x - y) :: st) σ Q := r_isub (hz_103.trans rfl)
theorem w_103_108 {x : Int32} : dx_W (tb_Z L xs) d 103 108 lv (.int x :: st) σ Q ↔ dx_W (tb_Z L xs) d 103 109 (dx_s1 lv 3 (.int x)) st σ Q := r_istore_n (k := 3) (hz_103.trans rfl) (show 3 < tb_l 103 by decide)
theorem w_103_109 : dx_W (tb_Z L xs) d 103 109 lv st σ Q ↔ wI (dx_lk lv 4) (fun y => dx_W (tb_Z L xs) d 103 112 (dx_s1 lv 4 (.int (y + 1))) st σ Q) := r_iincv (k := 4) (n := 1) (hz_103.trans rfl) (show 4 < tb_l 103 by decide) (by decide)
theorem w_103_112 : dx_W (tb_Z L xs) d 103 112 lv st σ Q ↔ wI (dx_lk lv 5) (fun y => dx_W (tb_Z L xs) d 103 115 (dx_s1 lv 5 (.int (y + 1))) st σ Q) := r_iincv (k := 5) (n := 1) (hz_103.trans rfl) (show 5 < tb_l 103 by decide) (by decide)
theorem w_103_115 : dx_W (tb_Z L xs) d 103 115 lv st σ Q ↔ wI (dx_lk lv 2) (fun y => dx_W (tb_Z L xs) d 103 118 (dx_s1 lv 2 (.int (y + 1))) st σ Q) := r_iincv (k := 2) (n := 1) (hz_103.trans rfl) (show 2 < tb_l 103 by decide) (by decide)
theorem w_103_118 : dx_W (tb_Z L xs) d 103 118 lv st σ Q ↔ dx_W (tb_Z L xs) d 103 77 lv st σ Q := r_goto (off := (-41)) (t := 77) (hz_103.trans rfl) (by decide)
theorem w_103_121 : dx_W (tb_Z L xs) d 103 121 lv st σ Q ↔ wI (dx_lk lv 4) (fun y => dx_W (tb_Z L xs) d 103 123 lv (.int y :: st) σ Q) := r_iload (k := 4) (hz_103.trans rfl)
theorem w_103_123 : dx_W (tb_Z L xs) d 103 123 lv st σ Q ↔ dx_W (tb_Z L xs) d 103 125 lv (.int 9 :: st) σ Q := r_bipush (n := 9) (hz_103.trans rfl)
theorem w_103_125 {x y : Int32} : dx_W (tb_Z L xs) d 103 125 lv (.int y :: .int x :: st) σ Q ↔ (if y < x then dx_W (tb_Z L xs) d 103 134 lv st σ Q else dx_W (tb_Z L xs) d 103 128 lv st σ Q) := r_ic_gt (off := 9) (t := 134) (hz_103.trans rfl) (by decide)
theorem w_103_128 : dx_W (tb_Z L xs) d 103 128 lv st σ Q ↔ wI (dx_lk lv 5) (fun y => dx_W (tb_Z L xs) d 103 130 lv (.int y :: st) σ Q) := r_iload (k := 5) (hz_103.trans rfl)
theorem w_103_130 : dx_W (tb_Z L xs) d 103 130 lv st σ Q ↔ dx_W (tb_Z L xs) d 103 131 lv (.int 4 :: st) σ Q := r_iconst (n := 4) (hz_103.trans rfl)
theorem w_103_131 {x y : Int32} : dx_W (tb_Z L xs) d 103 131 lv (.int y :: .int x :: st) σ Q ↔ (if x ≤ y then dx_W (tb_Z L xs) d 103 136 lv st σ Q else dx_W (tb_Z L xs) d 103 134 lv st σ Q) := r_ic_le (off := 5) (t := 136) (hz_103.trans rfl) (by decide)
theorem w_103_134 : dx_W (tb_Z L xs) d 103 134 lv st σ Q ↔ dx_W (tb_Z L xs) d 103 135 lv (.int 0 :: st) σ Q := r_iconst (n := 0) (hz_103.trans rfl)
theorem w_103_135 {x : Int32} : dx_W (tb_Z L xs) d 103 135 lv [.int x] σ Q ↔ Q (.inl (some (.int x))) σ := r_ireturn (hz_103.trans rfl) rfl rfl
theorem w_103_136 : dx_W (tb_Z L xs) d 103 136 lv st σ Q ↔ wR (dx_lk lv 0) (fun y => dx_W (tb_Z L xs) d 103 137 lv (y :: st) σ Q) := r_aload_n (k := 0) (hz_103.trans rfl)
theorem w_103_137 : dx_W (tb_Z L xs) d 103 137 lv st σ Q ↔ dx_W (tb_Z L xs) d 103 139 lv (.int 110 :: st) σ Q := r_bipush (n := 110) (hz_103.trans rfl)
theorem w_103_139 : dx_W (tb_Z L xs) d 103 139 lv st σ Q ↔ wI (dx_lk lv 3) (fun y => dx_W (tb_Z L xs) d 103 140 lv (.int y :: st) σ Q) := r_iload_n (k := 3) (hz_103.trans rfl)
theorem w_103_140 : dx_W (tb_Z L xs) d 103 140 lv st σ Q ↔ wI (dx_lk lv 5) (fun y => dx_W (tb_Z L xs) d 103 142 lv (.int y :: st) σ Q) := r_iload (k := 5) (hz_103.trans rfl)
theorem w_103_142 {v0 v1 v2 v3 : Value}  : dx_W (tb_Z L xs) d 103 142 lv (v3 :: v2 :: v1 :: v0 :: st) σ Q ↔ (dx_ct st ≤ 8 ∧ dx_ci (tb_K L xs) σ v0 = some 9) ∧ dx_M (tb_Z L xs) d 104 [v0, v1, v2, v3] σ (wK (tb_Z L xs) d 103 145 lv st Q) := c_callv (av := [v1, v2, v3]) (hz_103.trans rfl)
theorem w_103_145 : dx_W (tb_Z L xs) d 103 145 lv st σ Q ↔ wI (dx_lk lv 2) (fun y => dx_W (tb_Z L xs) d 103 146 lv (.int y :: st) σ Q) := r_iload_n (k := 2) (hz_103.trans rfl)
theorem w_103_146 {x : Int32} : dx_W (tb_Z L xs) d 103 146 lv [.int x] σ Q ↔ Q (.inl (some (.int x))) σ := r_ireturn (hz_103.trans rfl) rfl rfl
theorem hz_104 {pc : Nat} : (tb_Z L xs).1 104 pc = dx_at tb_m104 pc := rfl
theorem w_104_0 : dx_W (tb_Z L xs) d 104 0 lv st σ Q ↔ wR (dx_lk lv 0) (fun y => dx_W (tb_Z L xs) d 104 1 lv (y :: st) σ Q) := r_aload_n (k := 0) (hz_104.trans rfl)
theorem w_104_1 {w : Value} : dx_W (tb_Z L xs) d 104 1 lv (w :: st) σ Q ↔ wO (dx_gf (tb_K L xs) σ w 9 5) (fun y => dx_W (tb_Z L xs) d 104 4 lv (y :: st) σ Q) := r_getfield (hz_104.trans rfl)
theorem w_104_4 : dx_W (tb_Z L xs) d 104 4 lv st σ Q ↔ wR (dx_lk lv 0) (fun y => dx_W (tb_Z L xs) d 104 5 lv (y :: st) σ Q) := r_aload_n (k := 0) (hz_104.trans rfl)
theorem w_104_5 {w : Value} : dx_W (tb_Z L xs) d 104 5 lv (w :: st) σ Q ↔ wO (dx_gf (tb_K L xs) σ w 9 8) (fun y => dx_W (tb_Z L xs) d 104 8 lv (y :: st) σ Q) := r_getfield (hz_104.trans rfl)
theorem w_104_8 : dx_W (tb_Z L xs) d 104 8 lv st σ Q ↔ wI (dx_lk lv 1) (fun y => dx_W (tb_Z L xs) d 104 9 lv (.int y :: st) σ Q) := r_iload_n (k := 1) (hz_104.trans rfl)
theorem w_104_9 {w : Value} {y : Int32} {u : Int32} : dx_W (tb_Z L xs) d 104 9 lv (.int u :: .int y :: w :: st) σ Q ↔ wO (dx_pi σ 0 w y u) (fun σ1 => dx_W (tb_Z L xs) d 104 10 lv st σ1 Q) := r_iastore (hz_104.trans rfl)
theorem w_104_10 : dx_W (tb_Z L xs) d 104 10 lv st σ Q ↔ wR (dx_lk lv 0) (fun y => dx_W (tb_Z L xs) d 104 11 lv (y :: st) σ Q) := r_aload_n (k := 0) (hz_104.trans rfl)
theorem w_104_11 {w : Value} : dx_W (tb_Z L xs) d 104 11 lv (w :: st) σ Q ↔ wO (dx_gf (tb_K L xs) σ w 9 6) (fun y => dx_W (tb_Z L xs) d 104 14 lv (y :: st) σ Q) := r_getfield (hz_104.trans rfl)
theorem w_104_14 : dx_W (tb_Z L xs) d 104 14 lv st σ Q ↔ wR (dx_lk lv 0) (fun y => dx_W (tb_Z L xs) d 104 15 lv (y :: st) σ Q) := r_aload_n (k := 0) (hz_104.trans rfl)
theorem w_104_15 {w : Value} : dx_W (tb_Z L xs) d 104 15 lv (w :: st) σ Q ↔ wO (dx_gf (tb_K L xs) σ w 9 8) (fun y => dx_W (tb_Z L xs) d 104 18 lv (y :: st) σ Q) := r_getfield (hz_104.trans rfl)
theorem w_104_18 : dx_W (tb_Z L xs) d 104 18 lv st σ Q ↔ wI (dx_lk lv 2) (fun y => dx_W (tb_Z L xs) d 104 19 lv (.int y :: st) σ Q) := r_iload_n (k := 2) (hz_104.trans rfl)
theorem w_104_19 {w : Value} {y : Int32} {u : Int32} : dx_W (tb_Z L xs) d 104 19 lv (.int u :: .int y :: w :: st) σ Q ↔ wO (dx_pi σ 0 w y u) (fun σ1 => dx_W (tb_Z L xs) d 104 20 lv st σ1 Q) := r_iastore (hz_104.trans rfl)
theorem w_104_20 : dx_W (tb_Z L xs) d 104 20 lv st σ Q ↔ wR (dx_lk lv 0) (fun y => dx_W (tb_Z L xs) d 104 21 lv (y :: st) σ Q) := r_aload_n (k := 0) (hz_104.trans rfl)
theorem w_104_21 {w : Value} : dx_W (tb_Z L xs) d 104 21 lv (w :: st) σ Q ↔ wO (dx_gf (tb_K L xs) σ w 9 7) (fun y => dx_W (tb_Z L xs) d 104 24 lv (y :: st) σ Q) := r_getfield (hz_104.trans rfl)
theorem w_104_24 : dx_W (tb_Z L xs) d 104 24 lv st σ Q ↔ wR (dx_lk lv 0) (fun y => dx_W (tb_Z L xs) d 104 25 lv (y :: st) σ Q) := r_aload_n (k := 0) (hz_104.trans rfl)
theorem w_104_25 {w : Value} : dx_W (tb_Z L xs) d 104 25 lv (w :: st) σ Q ↔ wO (dx_gf (tb_K L xs) σ w 9 8) (fun y => dx_W (tb_Z L xs) d 104 28 lv (y :: st) σ Q) := r_getfield (hz_104.trans rfl)
theorem w_104_28 : dx_W (tb_Z L xs) d 104 28 lv st σ Q ↔ wI (dx_lk lv 3) (fun y => dx_W (tb_Z L xs) d 104 29 lv (.int y :: st) σ Q) := r_iload_n (k := 3) (hz_104.trans rfl)
theorem w_104_29 {w : Value} {y : Int32} {u : Int32} : dx_W (tb_Z L xs) d 104 29 lv (.int u :: .int y :: w :: st) σ Q ↔ wO (dx_pi σ 0 w y u) (fun σ1 => dx_W (tb_Z L xs) d 104 30 lv st σ1 Q) := r_iastore (hz_104.trans rfl)
theorem w_104_30 : dx_W (tb_Z L xs) d 104 30 lv st σ Q ↔ wR (dx_lk lv 0) (fun y => dx_W (tb_Z L xs) d 104 31 lv (y :: st) σ Q) := r_aload_n (k := 0) (hz_104.trans rfl)
theorem w_104_31_int {x : Int32} : dx_W (tb_Z L xs) d 104 31 lv (.int x :: st) σ Q ↔ dx_W (tb_Z L xs) d 104 32 lv (.int x :: .int x :: st) σ Q := r_dup_int (hz_104.trans rfl)
theorem w_104_31_ref {x : Nat} : dx_W (tb_Z L xs) d 104 31 lv (.ref x :: st) σ Q ↔ dx_W (tb_Z L xs) d 104 32 lv (.ref x :: .ref x :: st) σ Q := r_dup_ref (hz_104.trans rfl)
theorem w_104_31_retAddr {x : Nat} : dx_W (tb_Z L xs) d 104 31 lv (.retAddr x :: st) σ Q ↔ dx_W (tb_Z L xs) d 104 32 lv (.retAddr x :: .retAddr x :: st) σ Q := r_dup_retAddr (hz_104.trans rfl)
theorem w_104_32 {w : Value} : dx_W (tb_Z L xs) d 104 32 lv (w :: st) σ Q ↔ wO (dx_gf (tb_K L xs) σ w 9 8) (fun y => dx_W (tb_Z L xs) d 104 35 lv (y :: st) σ Q) := r_getfield (hz_104.trans rfl)
theorem w_104_35 : dx_W (tb_Z L xs) d 104 35 lv st σ Q ↔ dx_W (tb_Z L xs) d 104 36 lv (.int 1 :: st) σ Q := r_iconst (n := 1) (hz_104.trans rfl)
theorem w_104_36 {x y : Int32} : dx_W (tb_Z L xs) d 104 36 lv (.int y :: .int x :: st) σ Q ↔ dx_W (tb_Z L xs) d 104 37 lv (.int (x + y) :: st) σ Q := r_iadd (hz_104.trans rfl)
theorem w_104_37 {u w : Value} : dx_W (tb_Z L xs) d 104 37 lv (u :: w :: st) σ Q ↔ wO (dx_pf σ w 9 8 0 u) (fun σ1 => dx_W (tb_Z L xs) d 104 40 lv st σ1 Q) := r_putfield (f := 0) (hz_104.trans rfl)
theorem w_104_40 : dx_W (tb_Z L xs) d 104 40 lv [] σ Q ↔ Q (.inl none) σ := r_return (hz_104.trans rfl) rfl
theorem hz_105 {pc : Nat} : (tb_Z L xs).1 105 pc = dx_at tb_m105 pc := rfl
theorem w_105_0 : dx_W (tb_Z L xs) d 105 0 lv st σ Q ↔ wI (dx_lk lv 0) (fun y => dx_W (tb_Z L xs) d 105 1 lv (.int y :: st) σ Q) := r_iload_n (k := 0) (hz_105.trans rfl)
theorem w_105_1 : dx_W (tb_Z L xs) d 105 1 lv st σ Q ↔ dx_W (tb_Z L xs) d 105 3 lv (.int 97 :: st) σ Q := r_bipush (n := 97) (hz_105.trans rfl)
theorem w_105_3 {x y : Int32} : dx_W (tb_Z L xs) d 105 3 lv (.int y :: .int x :: st) σ Q ↔ (if x < y then dx_W (tb_Z L xs) d 105 16 lv st σ Q else dx_W (tb_Z L xs) d 105 6 lv st σ Q) := r_ic_lt (off := 13) (t := 16) (hz_105.trans rfl) (by decide)
theorem w_105_6 : dx_W (tb_Z L xs) d 105 6 lv st σ Q ↔ wI (dx_lk lv 0) (fun y => dx_W (tb_Z L xs) d 105 7 lv (.int y :: st) σ Q) := r_iload_n (k := 0) (hz_105.trans rfl)
theorem w_105_7 : dx_W (tb_Z L xs) d 105 7 lv st σ Q ↔ dx_W (tb_Z L xs) d 105 9 lv (.int 122 :: st) σ Q := r_bipush (n := 122) (hz_105.trans rfl)
theorem w_105_9 {x y : Int32} : dx_W (tb_Z L xs) d 105 9 lv (.int y :: .int x :: st) σ Q ↔ (if y < x then dx_W (tb_Z L xs) d 105 16 lv st σ Q else dx_W (tb_Z L xs) d 105 12 lv st σ Q) := r_ic_gt (off := 7) (t := 16) (hz_105.trans rfl) (by decide)
theorem w_105_12 : dx_W (tb_Z L xs) d 105 12 lv st σ Q ↔ dx_W (tb_Z L xs) d 105 13 lv (.int 1 :: st) σ Q := r_iconst (n := 1) (hz_105.trans rfl)
theorem w_105_13 : dx_W (tb_Z L xs) d 105 13 lv st σ Q ↔ dx_W (tb_Z L xs) d 105 17 lv st σ Q := r_goto (off := 4) (t := 17) (hz_105.trans rfl) (by decide)
theorem w_105_16 : dx_W (tb_Z L xs) d 105 16 lv st σ Q ↔ dx_W (tb_Z L xs) d 105 17 lv (.int 0 :: st) σ Q := r_iconst (n := 0) (hz_105.trans rfl)
theorem w_105_17 {x : Int32} : dx_W (tb_Z L xs) d 105 17 lv [.int x] σ Q ↔ narrow .boolean (.int x) = .int x ∧ Q (.inl (some (.int x))) σ := c_ireturn (hz_105.trans rfl) rfl
theorem hz_106 {pc : Nat} : (tb_Z L xs).1 106 pc = dx_at tb_m106 pc := rfl
set_option maxRecDepth 8000 in
theorem w_106_0 : dx_W (tb_Z L xs) d 106 0 lv st σ Q ↔ wR (dx_lk lv 0) (fun y => dx_W (tb_Z L xs) d 106 1 lv (y :: st) σ Q) := r_aload_n (k := 0) (hz_106.trans rfl)
set_option maxRecDepth 8000 in
theorem w_106_1 : dx_W (tb_Z L xs) d 106 1 lv st σ Q ↔ wI (dx_lk lv 1) (fun y => dx_W (tb_Z L xs) d 106 2 lv (.int y :: st) σ Q) := r_iload_n (k := 1) (hz_106.trans rfl)
set_option maxRecDepth 8000 in
theorem w_106_2 {v0 v1 : Value}  : dx_W (tb_Z L xs) d 106 2 lv (v1 :: v0 :: st) σ Q ↔ (dx_ct st ≤ 8 ∧ dx_ci (tb_K L xs) σ v0 = some 9) ∧ dx_M (tb_Z L xs) d 101 [v0, v1] σ (wK (tb_Z L xs) d 106 5 lv st Q) := c_callv (av := [v1]) (hz_106.trans rfl)
set_option maxRecDepth 8000 in
theorem w_106_5 {x : Int32} : dx_W (tb_Z L xs) d 106 5 lv (.int x :: st) σ Q ↔ dx_W (tb_Z L xs) d 106 6 (dx_s1 lv 3 (.int x)) st σ Q := r_istore_n (k := 3) (hz_106.trans rfl) (show 3 < tb_l 106 by decide)
set_option maxRecDepth 8000 in
theorem w_106_6 : dx_W (tb_Z L xs) d 106 6 lv st σ Q ↔ wI (dx_lk lv 2) (fun y => dx_W (tb_Z L xs) d 106 7 lv (.int y :: st) σ Q) := r_iload_n (k := 2) (hz_106.trans rfl)
set_option maxRecDepth 8000 in
theorem w_106_7 : dx_W (tb_Z L xs) d 106 7 lv st σ Q ↔ dx_W (tb_Z L xs) d 106 8 lv (.int 1 :: st) σ Q := r_iconst (n := 1) (hz_106.trans rfl)
set_option maxRecDepth 8000 in
theorem w_106_8 {x y : Int32} : dx_W (tb_Z L xs) d 106 8 lv (.int y :: .int x :: st) σ Q ↔ (if ¬ x = y then dx_W (tb_Z L xs) d 106 14 lv st σ Q else dx_W (tb_Z L xs) d 106 11 lv st σ Q) := r_ic_ne (off := 6) (t := 14) (hz_106.trans rfl) (by decide)
set_option maxRecDepth 8000 in
theorem w_106_11 : dx_W (tb_Z L xs) d 106 11 lv st σ Q ↔ dx_W (tb_Z L xs) d 106 13 lv (.int 97 :: st) σ Q := r_bipush (n := 97) (hz_106.trans rfl)
set_option maxRecDepth 8000 in
theorem w_106_13 {x : Int32} : dx_W (tb_Z L xs) d 106 13 lv [.int x] σ Q ↔ Q (.inl (some (.int x))) σ := r_ireturn (hz_106.trans rfl) rfl rfl
set_option maxRecDepth 8000 in
theorem w_106_14 : dx_W (tb_Z L xs) d 106 14 lv st σ Q ↔ wI (dx_lk lv 2) (fun y => dx_W (tb_Z L xs) d 106 15 lv (.int y :: st) σ Q) := r_iload_n (k := 2) (hz_106.trans rfl)
set_option maxRecDepth 8000 in
theorem w_106_15 : dx_W (tb_Z L xs) d 106 15 lv st σ Q ↔ dx_W (tb_Z L xs) d 106 16 lv (.int 2 :: st) σ Q := r_iconst (n := 2) (hz_106.trans rfl)
set_option maxRecDepth 8000 in
theorem w_106_16 {x y : Int32} : dx_W (tb_Z L xs) d 106 16 lv (.int y :: .int x :: st) σ Q ↔ (if ¬ x = y then dx_W (tb_Z L xs) d 106 44 lv st σ Q else dx_W (tb_Z L xs) d 106 19 lv st σ Q) := r_ic_ne (off := 28) (t := 44) (hz_106.trans rfl) (by decide)
set_option maxRecDepth 8000 in
theorem w_106_19 : dx_W (tb_Z L xs) d 106 19 lv st σ Q ↔ wI (dx_lk lv 3) (fun y => dx_W (tb_Z L xs) d 106 20 lv (.int y :: st) σ Q) := r_iload_n (k := 3) (hz_106.trans rfl)
set_option maxRecDepth 8000 in
theorem w_106_20 : dx_W (tb_Z L xs) d 106 20 lv st σ Q ↔ dx_W (tb_Z L xs) d 106 22 lv (.int 105 :: st) σ Q := r_bipush (n := 105) (hz_106.trans rfl)
set_option maxRecDepth 8000 in
theorem w_106_22 {x y : Int32} : dx_W (tb_Z L xs) d 106 22 lv (.int y :: .int x :: st) σ Q ↔ (if ¬ x = y then dx_W (tb_Z L xs) d 106 42 lv st σ Q else dx_W (tb_Z L xs) d 106 25 lv st σ Q) := r_ic_ne (off := 20) (t := 42) (hz_106.trans rfl) (by decide)
set_option maxRecDepth 8000 in
theorem w_106_25 : dx_W (tb_Z L xs) d 106 25 lv st σ Q ↔ wR (dx_lk lv 0) (fun y => dx_W (tb_Z L xs) d 106 26 lv (y :: st) σ Q) := r_aload_n (k := 0) (hz_106.trans rfl)
set_option maxRecDepth 8000 in
theorem w_106_26 : dx_W (tb_Z L xs) d 106 26 lv st σ Q ↔ wI (dx_lk lv 1) (fun y => dx_W (tb_Z L xs) d 106 27 lv (.int y :: st) σ Q) := r_iload_n (k := 1) (hz_106.trans rfl)
set_option maxRecDepth 8000 in
theorem w_106_27 : dx_W (tb_Z L xs) d 106 27 lv st σ Q ↔ dx_W (tb_Z L xs) d 106 28 lv (.int 1 :: st) σ Q := r_iconst (n := 1) (hz_106.trans rfl)
set_option maxRecDepth 8000 in
theorem w_106_28 {x y : Int32} : dx_W (tb_Z L xs) d 106 28 lv (.int y :: .int x :: st) σ Q ↔ dx_W (tb_Z L xs) d 106 29 lv (.int (x + y) :: st) σ Q := r_iadd (hz_106.trans rfl)
set_option maxRecDepth 8000 in
theorem w_106_29 {v0 v1 : Value}  : dx_W (tb_Z L xs) d 106 29 lv (v1 :: v0 :: st) σ Q ↔ (dx_ct st ≤ 8 ∧ dx_ci (tb_K L xs) σ v0 = some 9) ∧ dx_M (tb_Z L xs) d 101 [v0, v1] σ (wK (tb_Z L xs) d 106 32 lv st Q) := c_callv (av := [v1]) (hz_106.trans rfl)
set_option maxRecDepth 8000 in
theorem w_106_32 : dx_W (tb_Z L xs) d 106 32 lv st σ Q ↔ dx_W (tb_Z L xs) d 106 34 lv (.int 102 :: st) σ Q := r_bipush (n := 102) (hz_106.trans rfl)
set_option maxRecDepth 8000 in
theorem w_106_34 {x y : Int32} : dx_W (tb_Z L xs) d 106 34 lv (.int y :: .int x :: st) σ Q ↔ (if ¬ x = y then dx_W (tb_Z L xs) d 106 42 lv st σ Q else dx_W (tb_Z L xs) d 106 37 lv st σ Q) := r_ic_ne (off := 8) (t := 42) (hz_106.trans rfl) (by decide)
set_option maxRecDepth 8000 in
theorem w_106_37 : dx_W (tb_Z L xs) d 106 37 lv st σ Q ↔ dx_W (tb_Z L xs) d 106 39 lv (.int 105 :: st) σ Q := r_bipush (n := 105) (hz_106.trans rfl)
set_option maxRecDepth 8000 in
theorem w_106_39 : dx_W (tb_Z L xs) d 106 39 lv st σ Q ↔ dx_W (tb_Z L xs) d 106 43 lv st σ Q := r_goto (off := 4) (t := 43) (hz_106.trans rfl) (by decide)
set_option maxRecDepth 8000 in
theorem w_106_42 : dx_W (tb_Z L xs) d 106 42 lv st σ Q ↔ dx_W (tb_Z L xs) d 106 43 lv (.int 0 :: st) σ Q := r_iconst (n := 0) (hz_106.trans rfl)
set_option maxRecDepth 8000 in
theorem w_106_43 {x : Int32} : dx_W (tb_Z L xs) d 106 43 lv [.int x] σ Q ↔ Q (.inl (some (.int x))) σ := r_ireturn (hz_106.trans rfl) rfl rfl
set_option maxRecDepth 8000 in
theorem w_106_44 : dx_W (tb_Z L xs) d 106 44 lv st σ Q ↔ wR (dx_lk lv 0) (fun y => dx_W (tb_Z L xs) d 106 45 lv (y :: st) σ Q) := r_aload_n (k := 0) (hz_106.trans rfl)
set_option maxRecDepth 8000 in
theorem w_106_45 : dx_W (tb_Z L xs) d 106 45 lv st σ Q ↔ wI (dx_lk lv 1) (fun y => dx_W (tb_Z L xs) d 106 46 lv (.int y :: st) σ Q) := r_iload_n (k := 1) (hz_106.trans rfl)
set_option maxRecDepth 8000 in
theorem w_106_46 : dx_W (tb_Z L xs) d 106 46 lv st σ Q ↔ dx_W (tb_Z L xs) d 106 47 lv (.int 1 :: st) σ Q := r_iconst (n := 1) (hz_106.trans rfl)
set_option maxRecDepth 8000 in
theorem w_106_47 {x y : Int32} : dx_W (tb_Z L xs) d 106 47 lv (.int y :: .int x :: st) σ Q ↔ dx_W (tb_Z L xs) d 106 48 lv (.int (x + y) :: st) σ Q := r_iadd (hz_106.trans rfl)
set_option maxRecDepth 8000 in
theorem w_106_48 {v0 v1 : Value}  : dx_W (tb_Z L xs) d 106 48 lv (v1 :: v0 :: st) σ Q ↔ (dx_ct st ≤ 8 ∧ dx_ci (tb_K L xs) σ v0 = some 9) ∧ dx_M (tb_Z L xs) d 101 [v0, v1] σ (wK (tb_Z L xs) d 106 51 lv st Q) := c_callv (av := [v1]) (hz_106.trans rfl)
set_option maxRecDepth 8000 in
theorem w_106_51 {x : Int32} : dx_W (tb_Z L xs) d 106 51 lv (.int x :: st) σ Q ↔ dx_W (tb_Z L xs) d 106 53 (dx_s1 lv 4 (.int x)) st σ Q := r_istore (k := 4) (hz_106.trans rfl) (show 4 < tb_l 106 by decide)
set_option maxRecDepth 8000 in
theorem w_106_53 : dx_W (tb_Z L xs) d 106 53 lv st σ Q ↔ wR (dx_lk lv 0) (fun y => dx_W (tb_Z L xs) d 106 54 lv (y :: st) σ Q) := r_aload_n (k := 0) (hz_106.trans rfl)
set_option maxRecDepth 8000 in
theorem w_106_54 : dx_W (tb_Z L xs) d 106 54 lv st σ Q ↔ wI (dx_lk lv 1) (fun y => dx_W (tb_Z L xs) d 106 55 lv (.int y :: st) σ Q) := r_iload_n (k := 1) (hz_106.trans rfl)
set_option maxRecDepth 8000 in
theorem w_106_55 : dx_W (tb_Z L xs) d 106 55 lv st σ Q ↔ dx_W (tb_Z L xs) d 106 56 lv (.int 2 :: st) σ Q := r_iconst (n := 2) (hz_106.trans rfl)
set_option maxRecDepth 8000 in
theorem w_106_56 {x y : Int32} : dx_W (tb_Z L xs) d 106 56 lv (.int y :: .int x :: st) σ Q ↔ dx_W (tb_Z L xs) d 106 57 lv (.int (x + y) :: st) σ Q := r_iadd (hz_106.trans rfl)
set_option maxRecDepth 8000 in
theorem w_106_57 {v0 v1 : Value}  : dx_W (tb_Z L xs) d 106 57 lv (v1 :: v0 :: st) σ Q ↔ (dx_ct st ≤ 8 ∧ dx_ci (tb_K L xs) σ v0 = some 9) ∧ dx_M (tb_Z L xs) d 101 [v0, v1] σ (wK (tb_Z L xs) d 106 60 lv st Q) := c_callv (av := [v1]) (hz_106.trans rfl)
set_option maxRecDepth 8000 in
theorem w_106_60 {x : Int32} : dx_W (tb_Z L xs) d 106 60 lv (.int x :: st) σ Q ↔ dx_W (tb_Z L xs) d 106 62 (dx_s1 lv 5 (.int x)) st σ Q := r_istore (k := 5) (hz_106.trans rfl) (show 5 < tb_l 106 by decide)
set_option maxRecDepth 8000 in
theorem w_106_62 : dx_W (tb_Z L xs) d 106 62 lv st σ Q ↔ wR (dx_lk lv 0) (fun y => dx_W (tb_Z L xs) d 106 63 lv (y :: st) σ Q) := r_aload_n (k := 0) (hz_106.trans rfl)
set_option maxRecDepth 8000 in
theorem w_106_63 : dx_W (tb_Z L xs) d 106 63 lv st σ Q ↔ wI (dx_lk lv 1) (fun y => dx_W (tb_Z L xs) d 106 64 lv (.int y :: st) σ Q) := r_iload_n (k := 1) (hz_106.trans rfl)
set_option maxRecDepth 8000 in
theorem w_106_64 : dx_W (tb_Z L xs) d 106 64 lv st σ Q ↔ dx_W (tb_Z L xs) d 106 65 lv (.int 3 :: st) σ Q := r_iconst (n := 3) (hz_106.trans rfl)
set_option maxRecDepth 8000 in
theorem w_106_65 {x y : Int32} : dx_W (tb_Z L xs) d 106 65 lv (.int y :: .int x :: st) σ Q ↔ dx_W (tb_Z L xs) d 106 66 lv (.int (x + y) :: st) σ Q := r_iadd (hz_106.trans rfl)
set_option maxRecDepth 8000 in
theorem w_106_66 {v0 v1 : Value}  : dx_W (tb_Z L xs) d 106 66 lv (v1 :: v0 :: st) σ Q ↔ (dx_ct st ≤ 8 ∧ dx_ci (tb_K L xs) σ v0 = some 9) ∧ dx_M (tb_Z L xs) d 101 [v0, v1] σ (wK (tb_Z L xs) d 106 69 lv st Q) := c_callv (av := [v1]) (hz_106.trans rfl)
set_option maxRecDepth 8000 in
theorem w_106_69 {x : Int32} : dx_W (tb_Z L xs) d 106 69 lv (.int x :: st) σ Q ↔ dx_W (tb_Z L xs) d 106 71 (dx_s1 lv 6 (.int x)) st σ Q := r_istore (k := 6) (hz_106.trans rfl) (show 6 < tb_l 106 by decide)
set_option maxRecDepth 8000 in
theorem w_106_71 : dx_W (tb_Z L xs) d 106 71 lv st σ Q ↔ wR (dx_lk lv 0) (fun y => dx_W (tb_Z L xs) d 106 72 lv (y :: st) σ Q) := r_aload_n (k := 0) (hz_106.trans rfl)
set_option maxRecDepth 8000 in
theorem w_106_72 : dx_W (tb_Z L xs) d 106 72 lv st σ Q ↔ wI (dx_lk lv 1) (fun y => dx_W (tb_Z L xs) d 106 73 lv (.int y :: st) σ Q) := r_iload_n (k := 1) (hz_106.trans rfl)
set_option maxRecDepth 8000 in
theorem w_106_73 : dx_W (tb_Z L xs) d 106 73 lv st σ Q ↔ dx_W (tb_Z L xs) d 106 74 lv (.int 4 :: st) σ Q := r_iconst (n := 4) (hz_106.trans rfl)
set_option maxRecDepth 8000 in
theorem w_106_74 {x y : Int32} : dx_W (tb_Z L xs) d 106 74 lv (.int y :: .int x :: st) σ Q ↔ dx_W (tb_Z L xs) d 106 75 lv (.int (x + y) :: st) σ Q := r_iadd (hz_106.trans rfl)
set_option maxRecDepth 8000 in
theorem w_106_75 {v0 v1 : Value}  : dx_W (tb_Z L xs) d 106 75 lv (v1 :: v0 :: st) σ Q ↔ (dx_ct st ≤ 8 ∧ dx_ci (tb_K L xs) σ v0 = some 9) ∧ dx_M (tb_Z L xs) d 101 [v0, v1] σ (wK (tb_Z L xs) d 106 78 lv st Q) := c_callv (av := [v1]) (hz_106.trans rfl)
set_option maxRecDepth 8000 in
theorem w_106_78 {x : Int32} : dx_W (tb_Z L xs) d 106 78 lv (.int x :: st) σ Q ↔ dx_W (tb_Z L xs) d 106 80 (dx_s1 lv 7 (.int x)) st σ Q := r_istore (k := 7) (hz_106.trans rfl) (show 7 < tb_l 106 by decide)
set_option maxRecDepth 8000 in
theorem w_106_80 : dx_W (tb_Z L xs) d 106 80 lv st σ Q ↔ wR (dx_lk lv 0) (fun y => dx_W (tb_Z L xs) d 106 81 lv (y :: st) σ Q) := r_aload_n (k := 0) (hz_106.trans rfl)
set_option maxRecDepth 8000 in
theorem w_106_81 : dx_W (tb_Z L xs) d 106 81 lv st σ Q ↔ wI (dx_lk lv 1) (fun y => dx_W (tb_Z L xs) d 106 82 lv (.int y :: st) σ Q) := r_iload_n (k := 1) (hz_106.trans rfl)
set_option maxRecDepth 8000 in
theorem w_106_82 : dx_W (tb_Z L xs) d 106 82 lv st σ Q ↔ dx_W (tb_Z L xs) d 106 83 lv (.int 5 :: st) σ Q := r_iconst (n := 5) (hz_106.trans rfl)
set_option maxRecDepth 8000 in
theorem w_106_83 {x y : Int32} : dx_W (tb_Z L xs) d 106 83 lv (.int y :: .int x :: st) σ Q ↔ dx_W (tb_Z L xs) d 106 84 lv (.int (x + y) :: st) σ Q := r_iadd (hz_106.trans rfl)
set_option maxRecDepth 8000 in
theorem w_106_84 {v0 v1 : Value}  : dx_W (tb_Z L xs) d 106 84 lv (v1 :: v0 :: st) σ Q ↔ (dx_ct st ≤ 8 ∧ dx_ci (tb_K L xs) σ v0 = some 9) ∧ dx_M (tb_Z L xs) d 101 [v0, v1] σ (wK (tb_Z L xs) d 106 87 lv st Q) := c_callv (av := [v1]) (hz_106.trans rfl)
set_option maxRecDepth 8000 in
theorem w_106_87 {x : Int32} : dx_W (tb_Z L xs) d 106 87 lv (.int x :: st) σ Q ↔ dx_W (tb_Z L xs) d 106 89 (dx_s1 lv 8 (.int x)) st σ Q := r_istore (k := 8) (hz_106.trans rfl) (show 8 < tb_l 106 by decide)
set_option maxRecDepth 8000 in
theorem w_106_89 : dx_W (tb_Z L xs) d 106 89 lv st σ Q ↔ wI (dx_lk lv 2) (fun y => dx_W (tb_Z L xs) d 106 90 lv (.int y :: st) σ Q) := r_iload_n (k := 2) (hz_106.trans rfl)
set_option maxRecDepth 8000 in
theorem w_106_90 : dx_W (tb_Z L xs) d 106 90 lv st σ Q ↔ dx_W (tb_Z L xs) d 106 91 lv (.int 5 :: st) σ Q := r_iconst (n := 5) (hz_106.trans rfl)
set_option maxRecDepth 8000 in
theorem w_106_91 {x y : Int32} : dx_W (tb_Z L xs) d 106 91 lv (.int y :: .int x :: st) σ Q ↔ (if ¬ x = y then dx_W (tb_Z L xs) d 106 131 lv st σ Q else dx_W (tb_Z L xs) d 106 94 lv st σ Q) := r_ic_ne (off := 40) (t := 131) (hz_106.trans rfl) (by decide)
set_option maxRecDepth 8000 in
theorem w_106_94 : dx_W (tb_Z L xs) d 106 94 lv st σ Q ↔ wI (dx_lk lv 3) (fun y => dx_W (tb_Z L xs) d 106 95 lv (.int y :: st) σ Q) := r_iload_n (k := 3) (hz_106.trans rfl)
set_option maxRecDepth 8000 in
theorem w_106_95 : dx_W (tb_Z L xs) d 106 95 lv st σ Q ↔ dx_W (tb_Z L xs) d 106 97 lv (.int 119 :: st) σ Q := r_bipush (n := 119) (hz_106.trans rfl)
set_option maxRecDepth 8000 in
theorem w_106_97 {x y : Int32} : dx_W (tb_Z L xs) d 106 97 lv (.int y :: .int x :: st) σ Q ↔ (if ¬ x = y then dx_W (tb_Z L xs) d 106 131 lv st σ Q else dx_W (tb_Z L xs) d 106 100 lv st σ Q) := r_ic_ne (off := 34) (t := 131) (hz_106.trans rfl) (by decide)
set_option maxRecDepth 8000 in
theorem w_106_100 : dx_W (tb_Z L xs) d 106 100 lv st σ Q ↔ wI (dx_lk lv 4) (fun y => dx_W (tb_Z L xs) d 106 102 lv (.int y :: st) σ Q) := r_iload (k := 4) (hz_106.trans rfl)
set_option maxRecDepth 8000 in
theorem w_106_102 : dx_W (tb_Z L xs) d 106 102 lv st σ Q ↔ dx_W (tb_Z L xs) d 106 104 lv (.int 104 :: st) σ Q := r_bipush (n := 104) (hz_106.trans rfl)
set_option maxRecDepth 8000 in
theorem w_106_104 {x y : Int32} : dx_W (tb_Z L xs) d 106 104 lv (.int y :: .int x :: st) σ Q ↔ (if ¬ x = y then dx_W (tb_Z L xs) d 106 131 lv st σ Q else dx_W (tb_Z L xs) d 106 107 lv st σ Q) := r_ic_ne (off := 27) (t := 131) (hz_106.trans rfl) (by decide)
set_option maxRecDepth 8000 in
theorem w_106_107 : dx_W (tb_Z L xs) d 106 107 lv st σ Q ↔ wI (dx_lk lv 5) (fun y => dx_W (tb_Z L xs) d 106 109 lv (.int y :: st) σ Q) := r_iload (k := 5) (hz_106.trans rfl)
set_option maxRecDepth 8000 in
theorem w_106_109 : dx_W (tb_Z L xs) d 106 109 lv st σ Q ↔ dx_W (tb_Z L xs) d 106 111 lv (.int 105 :: st) σ Q := r_bipush (n := 105) (hz_106.trans rfl)
set_option maxRecDepth 8000 in
theorem w_106_111 {x y : Int32} : dx_W (tb_Z L xs) d 106 111 lv (.int y :: .int x :: st) σ Q ↔ (if ¬ x = y then dx_W (tb_Z L xs) d 106 131 lv st σ Q else dx_W (tb_Z L xs) d 106 114 lv st σ Q) := r_ic_ne (off := 20) (t := 131) (hz_106.trans rfl) (by decide)
set_option maxRecDepth 8000 in
theorem w_106_114 : dx_W (tb_Z L xs) d 106 114 lv st σ Q ↔ wI (dx_lk lv 6) (fun y => dx_W (tb_Z L xs) d 106 116 lv (.int y :: st) σ Q) := r_iload (k := 6) (hz_106.trans rfl)
set_option maxRecDepth 8000 in
theorem w_106_116 : dx_W (tb_Z L xs) d 106 116 lv st σ Q ↔ dx_W (tb_Z L xs) d 106 118 lv (.int 108 :: st) σ Q := r_bipush (n := 108) (hz_106.trans rfl)
set_option maxRecDepth 8000 in
theorem w_106_118 {x y : Int32} : dx_W (tb_Z L xs) d 106 118 lv (.int y :: .int x :: st) σ Q ↔ (if ¬ x = y then dx_W (tb_Z L xs) d 106 131 lv st σ Q else dx_W (tb_Z L xs) d 106 121 lv st σ Q) := r_ic_ne (off := 13) (t := 131) (hz_106.trans rfl) (by decide)
set_option maxRecDepth 8000 in
theorem w_106_121 : dx_W (tb_Z L xs) d 106 121 lv st σ Q ↔ wI (dx_lk lv 7) (fun y => dx_W (tb_Z L xs) d 106 123 lv (.int y :: st) σ Q) := r_iload (k := 7) (hz_106.trans rfl)
set_option maxRecDepth 8000 in
theorem w_106_123 : dx_W (tb_Z L xs) d 106 123 lv st σ Q ↔ dx_W (tb_Z L xs) d 106 125 lv (.int 101 :: st) σ Q := r_bipush (n := 101) (hz_106.trans rfl)
set_option maxRecDepth 8000 in
theorem w_106_125 {x y : Int32} : dx_W (tb_Z L xs) d 106 125 lv (.int y :: .int x :: st) σ Q ↔ (if ¬ x = y then dx_W (tb_Z L xs) d 106 131 lv st σ Q else dx_W (tb_Z L xs) d 106 128 lv st σ Q) := r_ic_ne (off := 6) (t := 131) (hz_106.trans rfl) (by decide)
set_option maxRecDepth 8000 in
theorem w_106_128 : dx_W (tb_Z L xs) d 106 128 lv st σ Q ↔ dx_W (tb_Z L xs) d 106 130 lv (.int 119 :: st) σ Q := r_bipush (n := 119) (hz_106.trans rfl)
set_option maxRecDepth 8000 in
theorem w_106_130 {x : Int32} : dx_W (tb_Z L xs) d 106 130 lv [.int x] σ Q ↔ Q (.inl (some (.int x))) σ := r_ireturn (hz_106.trans rfl) rfl rfl
set_option maxRecDepth 8000 in
theorem w_106_131 : dx_W (tb_Z L xs) d 106 131 lv st σ Q ↔ wI (dx_lk lv 2) (fun y => dx_W (tb_Z L xs) d 106 132 lv (.int y :: st) σ Q) := r_iload_n (k := 2) (hz_106.trans rfl)
set_option maxRecDepth 8000 in
theorem w_106_132 : dx_W (tb_Z L xs) d 106 132 lv st σ Q ↔ dx_W (tb_Z L xs) d 106 133 lv (.int 5 :: st) σ Q := r_iconst (n := 5) (hz_106.trans rfl)
set_option maxRecDepth 8000 in
theorem w_106_133 {x y : Int32} : dx_W (tb_Z L xs) d 106 133 lv (.int y :: .int x :: st) σ Q ↔ (if ¬ x = y then dx_W (tb_Z L xs) d 106 173 lv st σ Q else dx_W (tb_Z L xs) d 106 136 lv st σ Q) := r_ic_ne (off := 40) (t := 173) (hz_106.trans rfl) (by decide)
set_option maxRecDepth 8000 in
theorem w_106_136 : dx_W (tb_Z L xs) d 106 136 lv st σ Q ↔ wI (dx_lk lv 3) (fun y => dx_W (tb_Z L xs) d 106 137 lv (.int y :: st) σ Q) := r_iload_n (k := 3) (hz_106.trans rfl)
set_option maxRecDepth 8000 in
theorem w_106_137 : dx_W (tb_Z L xs) d 106 137 lv st σ Q ↔ dx_W (tb_Z L xs) d 106 139 lv (.int 115 :: st) σ Q := r_bipush (n := 115) (hz_106.trans rfl)
set_option maxRecDepth 8000 in
theorem w_106_139 {x y : Int32} : dx_W (tb_Z L xs) d 106 139 lv (.int y :: .int x :: st) σ Q ↔ (if ¬ x = y then dx_W (tb_Z L xs) d 106 173 lv st σ Q else dx_W (tb_Z L xs) d 106 142 lv st σ Q) := r_ic_ne (off := 34) (t := 173) (hz_106.trans rfl) (by decide)
set_option maxRecDepth 8000 in
theorem w_106_142 : dx_W (tb_Z L xs) d 106 142 lv st σ Q ↔ wI (dx_lk lv 4) (fun y => dx_W (tb_Z L xs) d 106 144 lv (.int y :: st) σ Q) := r_iload (k := 4) (hz_106.trans rfl)
set_option maxRecDepth 8000 in
theorem w_106_144 : dx_W (tb_Z L xs) d 106 144 lv st σ Q ↔ dx_W (tb_Z L xs) d 106 146 lv (.int 99 :: st) σ Q := r_bipush (n := 99) (hz_106.trans rfl)
set_option maxRecDepth 8000 in
theorem w_106_146 {x y : Int32} : dx_W (tb_Z L xs) d 106 146 lv (.int y :: .int x :: st) σ Q ↔ (if ¬ x = y then dx_W (tb_Z L xs) d 106 173 lv st σ Q else dx_W (tb_Z L xs) d 106 149 lv st σ Q) := r_ic_ne (off := 27) (t := 173) (hz_106.trans rfl) (by decide)
set_option maxRecDepth 8000 in
theorem w_106_149 : dx_W (tb_Z L xs) d 106 149 lv st σ Q ↔ wI (dx_lk lv 5) (fun y => dx_W (tb_Z L xs) d 106 151 lv (.int y :: st) σ Q) := r_iload (k := 5) (hz_106.trans rfl)
set_option maxRecDepth 8000 in
theorem w_106_151 : dx_W (tb_Z L xs) d 106 151 lv st σ Q ↔ dx_W (tb_Z L xs) d 106 153 lv (.int 97 :: st) σ Q := r_bipush (n := 97) (hz_106.trans rfl)
set_option maxRecDepth 8000 in
theorem w_106_153 {x y : Int32} : dx_W (tb_Z L xs) d 106 153 lv (.int y :: .int x :: st) σ Q ↔ (if ¬ x = y then dx_W (tb_Z L xs) d 106 173 lv st σ Q else dx_W (tb_Z L xs) d 106 156 lv st σ Q) := r_ic_ne (off := 20) (t := 173) (hz_106.trans rfl) (by decide)
set_option maxRecDepth 8000 in
theorem w_106_156 : dx_W (tb_Z L xs) d 106 156 lv st σ Q ↔ wI (dx_lk lv 6) (fun y => dx_W (tb_Z L xs) d 106 158 lv (.int y :: st) σ Q) := r_iload (k := 6) (hz_106.trans rfl)
set_option maxRecDepth 8000 in
theorem w_106_158 : dx_W (tb_Z L xs) d 106 158 lv st σ Q ↔ dx_W (tb_Z L xs) d 106 160 lv (.int 108 :: st) σ Q := r_bipush (n := 108) (hz_106.trans rfl)
set_option maxRecDepth 8000 in
theorem w_106_160 {x y : Int32} : dx_W (tb_Z L xs) d 106 160 lv (.int y :: .int x :: st) σ Q ↔ (if ¬ x = y then dx_W (tb_Z L xs) d 106 173 lv st σ Q else dx_W (tb_Z L xs) d 106 163 lv st σ Q) := r_ic_ne (off := 13) (t := 173) (hz_106.trans rfl) (by decide)
set_option maxRecDepth 8000 in
theorem w_106_163 : dx_W (tb_Z L xs) d 106 163 lv st σ Q ↔ wI (dx_lk lv 7) (fun y => dx_W (tb_Z L xs) d 106 165 lv (.int y :: st) σ Q) := r_iload (k := 7) (hz_106.trans rfl)
set_option maxRecDepth 8000 in
theorem w_106_165 : dx_W (tb_Z L xs) d 106 165 lv st σ Q ↔ dx_W (tb_Z L xs) d 106 167 lv (.int 101 :: st) σ Q := r_bipush (n := 101) (hz_106.trans rfl)
set_option maxRecDepth 8000 in
theorem w_106_167 {x y : Int32} : dx_W (tb_Z L xs) d 106 167 lv (.int y :: .int x :: st) σ Q ↔ (if ¬ x = y then dx_W (tb_Z L xs) d 106 173 lv st σ Q else dx_W (tb_Z L xs) d 106 170 lv st σ Q) := r_ic_ne (off := 6) (t := 173) (hz_106.trans rfl) (by decide)
set_option maxRecDepth 8000 in
theorem w_106_170 : dx_W (tb_Z L xs) d 106 170 lv st σ Q ↔ dx_W (tb_Z L xs) d 106 172 lv (.int 115 :: st) σ Q := r_bipush (n := 115) (hz_106.trans rfl)
set_option maxRecDepth 8000 in
theorem w_106_172 {x : Int32} : dx_W (tb_Z L xs) d 106 172 lv [.int x] σ Q ↔ Q (.inl (some (.int x))) σ := r_ireturn (hz_106.trans rfl) rfl rfl
set_option maxRecDepth 8000 in
theorem w_106_173 : dx_W (tb_Z L xs) d 106 173 lv st σ Q ↔ wI (dx_lk lv 2) (fun y => dx_W (tb_Z L xs) d 106 174 lv (.int y :: st) σ Q) := r_iload_n (k := 2) (hz_106.trans rfl)
set_option maxRecDepth 8000 in
theorem w_106_174 : dx_W (tb_Z L xs) d 106 174 lv st σ Q ↔ dx_W (tb_Z L xs) d 106 176 lv (.int 6 :: st) σ Q := r_bipush (n := 6) (hz_106.trans rfl)
set_option maxRecDepth 8000 in
theorem w_106_176 {x y : Int32} : dx_W (tb_Z L xs) d 106 176 lv (.int y :: .int x :: st) σ Q ↔ (if ¬ x = y then dx_W (tb_Z L xs) d 106 223 lv st σ Q else dx_W (tb_Z L xs) d 106 179 lv st σ Q) := r_ic_ne (off := 47) (t := 223) (hz_106.trans rfl) (by decide)
set_option maxRecDepth 8000 in
theorem w_106_179 : dx_W (tb_Z L xs) d 106 179 lv st σ Q ↔ wI (dx_lk lv 3) (fun y => dx_W (tb_Z L xs) d 106 180 lv (.int y :: st) σ Q) := r_iload_n (k := 3) (hz_106.trans rfl)
set_option maxRecDepth 8000 in
theorem w_106_180 : dx_W (tb_Z L xs) d 106 180 lv st σ Q ↔ dx_W (tb_Z L xs) d 106 182 lv (.int 100 :: st) σ Q := r_bipush (n := 100) (hz_106.trans rfl)
set_option maxRecDepth 8000 in
theorem w_106_182 {x y : Int32} : dx_W (tb_Z L xs) d 106 182 lv (.int y :: .int x :: st) σ Q ↔ (if ¬ x = y then dx_W (tb_Z L xs) d 106 223 lv st σ Q else dx_W (tb_Z L xs) d 106 185 lv st σ Q) := r_ic_ne (off := 41) (t := 223) (hz_106.trans rfl) (by decide)
set_option maxRecDepth 8000 in
theorem w_106_185 : dx_W (tb_Z L xs) d 106 185 lv st σ Q ↔ wI (dx_lk lv 4) (fun y => dx_W (tb_Z L xs) d 106 187 lv (.int y :: st) σ Q) := r_iload (k := 4) (hz_106.trans rfl)
set_option maxRecDepth 8000 in
theorem w_106_187 : dx_W (tb_Z L xs) d 106 187 lv st σ Q ↔ dx_W (tb_Z L xs) d 106 189 lv (.int 101 :: st) σ Q := r_bipush (n := 101) (hz_106.trans rfl)
set_option maxRecDepth 8000 in
theorem w_106_189 {x y : Int32} : dx_W (tb_Z L xs) d 106 189 lv (.int y :: .int x :: st) σ Q ↔ (if ¬ x = y then dx_W (tb_Z L xs) d 106 223 lv st σ Q else dx_W (tb_Z L xs) d 106 192 lv st σ Q) := r_ic_ne (off := 34) (t := 223) (hz_106.trans rfl) (by decide)
set_option maxRecDepth 8000 in
theorem w_106_192 : dx_W (tb_Z L xs) d 106 192 lv st σ Q ↔ wI (dx_lk lv 5) (fun y => dx_W (tb_Z L xs) d 106 194 lv (.int y :: st) σ Q) := r_iload (k := 5) (hz_106.trans rfl)
set_option maxRecDepth 8000 in
theorem w_106_194 : dx_W (tb_Z L xs) d 106 194 lv st σ Q ↔ dx_W (tb_Z L xs) d 106 196 lv (.int 102 :: st) σ Q := r_bipush (n := 102) (hz_106.trans rfl)
set_option maxRecDepth 8000 in
theorem w_106_196 {x y : Int32} : dx_W (tb_Z L xs) d 106 196 lv (.int y :: .int x :: st) σ Q ↔ (if ¬ x = y then dx_W (tb_Z L xs) d 106 223 lv st σ Q else dx_W (tb_Z L xs) d 106 199 lv st σ Q) := r_ic_ne (off := 27) (t := 223) (hz_106.trans rfl) (by decide)
set_option maxRecDepth 8000 in
theorem w_106_199 : dx_W (tb_Z L xs) d 106 199 lv st σ Q ↔ wI (dx_lk lv 6) (fun y => dx_W (tb_Z L xs) d 106 201 lv (.int y :: st) σ Q) := r_iload (k := 6) (hz_106.trans rfl)
set_option maxRecDepth 8000 in
theorem w_106_201 : dx_W (tb_Z L xs) d 106 201 lv st σ Q ↔ dx_W (tb_Z L xs) d 106 203 lv (.int 105 :: st) σ Q := r_bipush (n := 105) (hz_106.trans rfl)
set_option maxRecDepth 8000 in
theorem w_106_203 {x y : Int32} : dx_W (tb_Z L xs) d 106 203 lv (.int y :: .int x :: st) σ Q ↔ (if ¬ x = y then dx_W (tb_Z L xs) d 106 223 lv st σ Q else dx_W (tb_Z L xs) d 106 206 lv st σ Q) := r_ic_ne (off := 20) (t := 223) (hz_106.trans rfl) (by decide)
set_option maxRecDepth 8000 in
theorem w_106_206 : dx_W (tb_Z L xs) d 106 206 lv st σ Q ↔ wI (dx_lk lv 7) (fun y => dx_W (tb_Z L xs) d 106 208 lv (.int y :: st) σ Q) := r_iload (k := 7) (hz_106.trans rfl)
set_option maxRecDepth 8000 in
theorem w_106_208 : dx_W (tb_Z L xs) d 106 208 lv st σ Q ↔ dx_W (tb_Z L xs) d 106 210 lv (.int 110 :: st) σ Q := r_bipush (n := 110) (hz_106.trans rfl)
set_option maxRecDepth 8000 in
theorem w_106_210 {x y : Int32} : dx_W (tb_Z L xs) d 106 210 lv (.int y :: .int x :: st) σ Q ↔ (if ¬ x = y then dx_W (tb_Z L xs) d 106 223 lv st σ Q else dx_W (tb_Z L xs) d 106 213 lv st σ Q) := r_ic_ne (off := 13) (t := 223) (hz_106.trans rfl) (by decide)
set_option maxRecDepth 8000 in
theorem w_106_213 : dx_W (tb_Z L xs) d 106 213 lv st σ Q ↔ wI (dx_lk lv 8) (fun y => dx_W (tb_Z L xs) d 106 215 lv (.int y :: st) σ Q) := r_iload (k := 8) (hz_106.trans rfl)
set_option maxRecDepth 8000 in
theorem w_106_215 : dx_W (tb_Z L xs) d 106 215 lv st σ Q ↔ dx_W (tb_Z L xs) d 106 217 lv (.int 101 :: st) σ Q := r_bipush (n := 101) (hz_106.trans rfl)
set_option maxRecDepth 8000 in
theorem w_106_217 {x y : Int32} : dx_W (tb_Z L xs) d 106 217 lv (.int y :: .int x :: st) σ Q ↔ (if ¬ x = y then dx_W (tb_Z L xs) d 106 223 lv st σ Q else dx_W (tb_Z L xs) d 106 220 lv st σ Q) := r_ic_ne (off := 6) (t := 223) (hz_106.trans rfl) (by decide)
set_option maxRecDepth 8000 in
theorem w_106_220 : dx_W (tb_Z L xs) d 106 220 lv st σ Q ↔ dx_W (tb_Z L xs) d 106 222 lv (.int 100 :: st) σ Q := r_bipush (n := 100) (hz_106.trans rfl)
set_option maxRecDepth 8000 in
theorem w_106_222 {x : Int32} : dx_W (tb_Z L xs) d 106 222 lv [.int x] σ Q ↔ Q (.inl (some (.int x))) σ := r_ireturn (hz_106.trans rfl) rfl rfl
set_option maxRecDepth 8000 in
theorem w_106_223 : dx_W (tb_Z L xs) d 106 223 lv st σ Q ↔ wI (dx_lk lv 2) (fun y => dx_W (tb_Z L xs) d 106 224 lv (.int y :: st) σ Q) := r_iload_n (k := 2) (hz_106.trans rfl)
set_option maxRecDepth 8000 in
theorem w_106_224 : dx_W (tb_Z L xs) d 106 224 lv st σ Q ↔ dx_W (tb_Z L xs) d 106 226 lv (.int 6 :: st) σ Q := r_bipush (n := 6) (hz_106.trans rfl)
set_option maxRecDepth 8000 in
theorem w_106_226 {x y : Int32} : dx_W (tb_Z L xs) d 106 226 lv (.int y :: .int x :: st) σ Q ↔ (if ¬ x = y then dx_W (tb_Z L xs) d 106 273 lv st σ Q else dx_W (tb_Z L xs) d 106 229 lv st σ Q) := r_ic_ne (off := 47) (t := 273) (hz_106.trans rfl) (by decide)
set_option maxRecDepth 8000 in
theorem w_106_229 : dx_W (tb_Z L xs) d 106 229 lv st σ Q ↔ wI (dx_lk lv 3) (fun y => dx_W (tb_Z L xs) d 106 230 lv (.int y :: st) σ Q) := r_iload_n (k := 3) (hz_106.trans rfl)
set_option maxRecDepth 8000 in
theorem w_106_230 : dx_W (tb_Z L xs) d 106 230 lv st σ Q ↔ dx_W (tb_Z L xs) d 106 232 lv (.int 114 :: st) σ Q := r_bipush (n := 114) (hz_106.trans rfl)
set_option maxRecDepth 8000 in
theorem w_106_232 {x y : Int32} : dx_W (tb_Z L xs) d 106 232 lv (.int y :: .int x :: st) σ Q ↔ (if ¬ x = y then dx_W (tb_Z L xs) d 106 273 lv st σ Q else dx_W (tb_Z L xs) d 106 235 lv st σ Q) := r_ic_ne (off := 41) (t := 273) (hz_106.trans rfl) (by decide)
set_option maxRecDepth 8000 in
theorem w_106_235 : dx_W (tb_Z L xs) d 106 235 lv st σ Q ↔ wI (dx_lk lv 4) (fun y => dx_W (tb_Z L xs) d 106 237 lv (.int y :: st) σ Q) := r_iload (k := 4) (hz_106.trans rfl)
set_option maxRecDepth 8000 in
theorem w_106_237 : dx_W (tb_Z L xs) d 106 237 lv st σ Q ↔ dx_W (tb_Z L xs) d 106 239 lv (.int 101 :: st) σ Q := r_bipush (n := 101) (hz_106.trans rfl)
set_option maxRecDepth 8000 in
theorem w_106_239 {x y : Int32} : dx_W (tb_Z L xs) d 106 239 lv (.int y :: .int x :: st) σ Q ↔ (if ¬ x = y then dx_W (tb_Z L xs) d 106 273 lv st σ Q else dx_W (tb_Z L xs) d 106 242 lv st σ Q) := r_ic_ne (off := 34) (t := 273) (hz_106.trans rfl) (by decide)
set_option maxRecDepth 8000 in
theorem w_106_242 : dx_W (tb_Z L xs) d 106 242 lv st σ Q ↔ wI (dx_lk lv 5) (fun y => dx_W (tb_Z L xs) d 106 244 lv (.int y :: st) σ Q) := r_iload (k := 5) (hz_106.trans rfl)
set_option maxRecDepth 8000 in
theorem w_106_244 : dx_W (tb_Z L xs) d 106 244 lv st σ Q ↔ dx_W (tb_Z L xs) d 106 246 lv (.int 116 :: st) σ Q := r_bipush (n := 116) (hz_106.trans rfl)
set_option maxRecDepth 8000 in
theorem w_106_246 {x y : Int32} : dx_W (tb_Z L xs) d 106 246 lv (.int y :: .int x :: st) σ Q ↔ (if ¬ x = y then dx_W (tb_Z L xs) d 106 273 lv st σ Q else dx_W (tb_Z L xs) d 106 249 lv st σ Q) := r_ic_ne (off := 27) (t := 273) (hz_106.trans rfl) (by decide)
set_option maxRecDepth 8000 in
theorem w_106_249 : dx_W (tb_Z L xs) d 106 249 lv st σ Q ↔ wI (dx_lk lv 6) (fun y => dx_W (tb_Z L xs) d 106 251 lv (.int y :: st) σ Q) := r_iload (k := 6) (hz_106.trans rfl)
set_option maxRecDepth 8000 in
theorem w_106_251 : dx_W (tb_Z L xs) d 106 251 lv st σ Q ↔ dx_W (tb_Z L xs) d 106 253 lv (.int 117 :: st) σ Q := r_bipush (n := 117) (hz_106.trans rfl)
set_option maxRecDepth 8000 in
theorem w_106_253 {x y : Int32} : dx_W (tb_Z L xs) d 106 253 lv (.int y :: .int x :: st) σ Q ↔ (if ¬ x = y then dx_W (tb_Z L xs) d 106 273 lv st σ Q else dx_W (tb_Z L xs) d 106 256 lv st σ Q) := r_ic_ne (off := 20) (t := 273) (hz_106.trans rfl) (by decide)
set_option maxRecDepth 8000 in
theorem w_106_256 : dx_W (tb_Z L xs) d 106 256 lv st σ Q ↔ wI (dx_lk lv 7) (fun y => dx_W (tb_Z L xs) d 106 258 lv (.int y :: st) σ Q) := r_iload (k := 7) (hz_106.trans rfl)
set_option maxRecDepth 8000 in
theorem w_106_258 : dx_W (tb_Z L xs) d 106 258 lv st σ Q ↔ dx_W (tb_Z L xs) d 106 260 lv (.int 114 :: st) σ Q := r_bipush (n := 114) (hz_106.trans rfl)
set_option maxRecDepth 8000 in
theorem w_106_260 {x y : Int32} : dx_W (tb_Z L xs) d 106 260 lv (.int y :: .int x :: st) σ Q ↔ (if ¬ x = y then dx_W (tb_Z L xs) d 106 273 lv st σ Q else dx_W (tb_Z L xs) d 106 263 lv st σ Q) := r_ic_ne (off := 13) (t := 273) (hz_106.trans rfl) (by decide)
set_option maxRecDepth 8000 in
theorem w_106_263 : dx_W (tb_Z L xs) d 106 263 lv st σ Q ↔ wI (dx_lk lv 8) (fun y => dx_W (tb_Z L xs) d 106 265 lv (.int y :: st) σ Q) := r_iload (k := 8) (hz_106.trans rfl)
set_option maxRecDepth 8000 in
theorem w_106_265 : dx_W (tb_Z L xs) d 106 265 lv st σ Q ↔ dx_W (tb_Z L xs) d 106 267 lv (.int 110 :: st) σ Q := r_bipush (n := 110) (hz_106.trans rfl)
set_option maxRecDepth 8000 in
theorem w_106_267 {x y : Int32} : dx_W (tb_Z L xs) d 106 267 lv (.int y :: .int x :: st) σ Q ↔ (if ¬ x = y then dx_W (tb_Z L xs) d 106 273 lv st σ Q else dx_W (tb_Z L xs) d 106 270 lv st σ Q) := r_ic_ne (off := 6) (t := 273) (hz_106.trans rfl) (by decide)
set_option maxRecDepth 8000 in
theorem w_106_270 : dx_W (tb_Z L xs) d 106 270 lv st σ Q ↔ dx_W (tb_Z L xs) d 106 272 lv (.int 114 :: st) σ Q := r_bipush (n := 114) (hz_106.trans rfl)
set_option maxRecDepth 8000 in
theorem w_106_272 {x : Int32} : dx_W (tb_Z L xs) d 106 272 lv [.int x] σ Q ↔ Q (.inl (some (.int x))) σ := r_ireturn (hz_106.trans rfl) rfl rfl
set_option maxRecDepth 8000 in
theorem w_106_273 : dx_W (tb_Z L xs) d 106 273 lv st σ Q ↔ dx_W (tb_Z L xs) d 106 274 lv (.int 0 :: st) σ Q := r_iconst (n := 0) (hz_106.trans rfl)
set_option maxRecDepth 8000 in
theorem w_106_274 {x : Int32} : dx_W (tb_Z L xs) d 106 274 lv [.int x] σ Q ↔ Q (.inl (some (.int x))) σ := r_ireturn (hz_106.trans rfl) rfl rfl
theorem hz_107 {pc : Nat} : (tb_Z L xs).1 107 pc = dx_at tb_m107 pc := rfl
theorem w_107_0 : dx_W (tb_Z L xs) d 107 0 lv st σ Q ↔ wR (dx_lk lv 0) (fun y => dx_W (tb_Z L xs) d 107 1 lv (y :: st) σ Q) := r_aload_n (k := 0) (hz_107.trans rfl)
theorem w_107_1 : dx_W (tb_Z L xs) d 107 1 lv st σ Q ↔ wI (dx_lk lv 1) (fun y => dx_W (tb_Z L xs) d 107 2 lv (.int y :: st) σ Q) := r_iload_n (k := 1) (hz_107.trans rfl)
theorem w_107_2 {v0 v1 : Value}  : dx_W (tb_Z L xs) d 107 2 lv (v1 :: v0 :: st) σ Q ↔ (dx_ct st ≤ 8 ∧ dx_ci (tb_K L xs) σ v0 = some 9) ∧ dx_M (tb_Z L xs) d 101 [v0, v1] σ (wK (tb_Z L xs) d 107 5 lv st Q) := c_callv (av := [v1]) (hz_107.trans rfl)
theorem w_107_5 {x : Int32} : dx_W (tb_Z L xs) d 107 5 lv (.int x :: st) σ Q ↔ dx_W (tb_Z L xs) d 107 6 (dx_s1 lv 2 (.int x)) st σ Q := r_istore_n (k := 2) (hz_107.trans rfl) (show 2 < tb_l 107 by decide)
theorem w_107_6 : dx_W (tb_Z L xs) d 107 6 lv st σ Q ↔ wR (dx_lk lv 0) (fun y => dx_W (tb_Z L xs) d 107 7 lv (y :: st) σ Q) := r_aload_n (k := 0) (hz_107.trans rfl)
theorem w_107_7 : dx_W (tb_Z L xs) d 107 7 lv st σ Q ↔ wI (dx_lk lv 1) (fun y => dx_W (tb_Z L xs) d 107 8 lv (.int y :: st) σ Q) := r_iload_n (k := 1) (hz_107.trans rfl)
theorem w_107_8 : dx_W (tb_Z L xs) d 107 8 lv st σ Q ↔ dx_W (tb_Z L xs) d 107 9 lv (.int 1 :: st) σ Q := r_iconst (n := 1) (hz_107.trans rfl)
theorem w_107_9 {x y : Int32} : dx_W (tb_Z L xs) d 107 9 lv (.int y :: .int x :: st) σ Q ↔ dx_W (tb_Z L xs) d 107 10 lv (.int (x + y) :: st) σ Q := r_iadd (hz_107.trans rfl)
theorem w_107_10 {v0 v1 : Value}  : dx_W (tb_Z L xs) d 107 10 lv (v1 :: v0 :: st) σ Q ↔ (dx_ct st ≤ 8 ∧ dx_ci (tb_K L xs) σ v0 = some 9) ∧ dx_M (tb_Z L xs) d 101 [v0, v1] σ (wK (tb_Z L xs) d 107 13 lv st Q) := c_callv (av := [v1]) (hz_107.trans rfl)
theorem w_107_13 : dx_W (tb_Z L xs) d 107 13 lv st σ Q ↔ dx_W (tb_Z L xs) d 107 15 lv (.int 61 :: st) σ Q := r_bipush (n := 61) (hz_107.trans rfl)
theorem w_107_15 {x y : Int32} : dx_W (tb_Z L xs) d 107 15 lv (.int y :: .int x :: st) σ Q ↔ (if ¬ x = y then dx_W (tb_Z L xs) d 107 22 lv st σ Q else dx_W (tb_Z L xs) d 107 18 lv st σ Q) := r_ic_ne (off := 7) (t := 22) (hz_107.trans rfl) (by decide)
theorem w_107_18 : dx_W (tb_Z L xs) d 107 18 lv st σ Q ↔ dx_W (tb_Z L xs) d 107 19 lv (.int 1 :: st) σ Q := r_iconst (n := 1) (hz_107.trans rfl)
theorem w_107_19 : dx_W (tb_Z L xs) d 107 19 lv st σ Q ↔ dx_W (tb_Z L xs) d 107 23 lv st σ Q := r_goto (off := 4) (t := 23) (hz_107.trans rfl) (by decide)
theorem w_107_22 : dx_W (tb_Z L xs) d 107 22 lv st σ Q ↔ dx_W (tb_Z L xs) d 107 23 lv (.int 0 :: st) σ Q := r_iconst (n := 0) (hz_107.trans rfl)
theorem w_107_23 {x : Int32} : dx_W (tb_Z L xs) d 107 23 lv (.int x :: st) σ Q ↔ dx_W (tb_Z L xs) d 107 24 (dx_s1 lv 3 (.int x)) st σ Q := r_istore_n (k := 3) (hz_107.trans rfl) (show 3 < tb_l 107 by decide)
theorem w_107_24 : dx_W (tb_Z L xs) d 107 24 lv st σ Q ↔ wI (dx_lk lv 2) (fun y => dx_W (tb_Z L xs) d 107 25 lv (.int y :: st) σ Q) := r_iload_n (k := 2) (hz_107.trans rfl)
theorem w_107_25 : dx_W (tb_Z L xs) d 107 25 lv st σ Q ↔ dx_W (tb_Z L xs) d 107 27 lv (.int 10 :: st) σ Q := r_bipush (n := 10) (hz_107.trans rfl)
theorem w_107_27 {x y : Int32} : dx_W (tb_Z L xs) d 107 27 lv (.int y :: .int x :: st) σ Q ↔ (if x = y then dx_W (tb_Z L xs) d 107 36 lv st σ Q else dx_W (tb_Z L xs) d 107 30 lv st σ Q) := r_ic_eq (off := 9) (t := 36) (hz_107.trans rfl) (by decide)
theorem w_107_30 : dx_W (tb_Z L xs) d 107 30 lv st σ Q ↔ wI (dx_lk lv 2) (fun y => dx_W (tb_Z L xs) d 107 31 lv (.int y :: st) σ Q) := r_iload_n (k := 2) (hz_107.trans rfl)
theorem w_107_31 : dx_W (tb_Z L xs) d 107 31 lv st σ Q ↔ dx_W (tb_Z L xs) d 107 33 lv (.int 59 :: st) σ Q := r_bipush (n := 59) (hz_107.trans rfl)
theorem w_107_33 {x y : Int32} : dx_W (tb_Z L xs) d 107 33 lv (.int y :: .int x :: st) σ Q ↔ (if ¬ x = y then dx_W (tb_Z L xs) d 107 39 lv st σ Q else dx_W (tb_Z L xs) d 107 36 lv st σ Q) := r_ic_ne (off := 6) (t := 39) (hz_107.trans rfl) (by decide)
theorem w_107_36 : dx_W (tb_Z L xs) d 107 36 lv st σ Q ↔ dx_W (tb_Z L xs) d 107 38 lv (.int 59 :: st) σ Q := r_bipush (n := 59) (hz_107.trans rfl)
theorem w_107_38 {x : Int32} : dx_W (tb_Z L xs) d 107 38 lv [.int x] σ Q ↔ Q (.inl (some (.int x))) σ := r_ireturn (hz_107.trans rfl) rfl rfl
theorem w_107_39 : dx_W (tb_Z L xs) d 107 39 lv st σ Q ↔ wI (dx_lk lv 2) (fun y => dx_W (tb_Z L xs) d 107 40 lv (.int y :: st) σ Q) := r_iload_n (k := 2) (hz_107.trans rfl)
theorem w_107_40 : dx_W (tb_Z L xs) d 107 40 lv st σ Q ↔ dx_W (tb_Z L xs) d 107 42 lv (.int 43 :: st) σ Q := r_bipush (n := 43) (hz_107.trans rfl)
theorem w_107_42 {x y : Int32} : dx_W (tb_Z L xs) d 107 42 lv (.int y :: .int x :: st) σ Q ↔ (if x = y then dx_W (tb_Z L xs) d 107 99 lv st σ Q else dx_W (tb_Z L xs) d 107 45 lv st σ Q) := r_ic_eq (off := 57) (t := 99) (hz_107.trans rfl) (by decide)
theorem w_107_45 : dx_W (tb_Z L xs) d 107 45 lv st σ Q ↔ wI (dx_lk lv 2) (fun y => dx_W (tb_Z L xs) d 107 46 lv (.int y :: st) σ Q) := r_iload_n (k := 2) (hz_107.trans rfl)
theorem w_107_46 : dx_W (tb_Z L xs) d 107 46 lv st σ Q ↔ dx_W (tb_Z L xs) d 107 48 lv (.int 45 :: st) σ Q := r_bipush (n := 45) (hz_107.trans rfl)
theorem w_107_48 {x y : Int32} : dx_W (tb_Z L xs) d 107 48 lv (.int y :: .int x :: st) σ Q ↔ (if x = y then dx_W (tb_Z L xs) d 107 99 lv st σ Q else dx_W (tb_Z L xs) d 107 51 lv st σ Q) := r_ic_eq (off := 51) (t := 99) (hz_107.trans rfl) (by decide)
theorem w_107_51 : dx_W (tb_Z L xs) d 107 51 lv st σ Q ↔ wI (dx_lk lv 2) (fun y => dx_W (tb_Z L xs) d 107 52 lv (.int y :: st) σ Q) := r_iload_n (k := 2) (hz_107.trans rfl)
theorem w_107_52 : dx_W (tb_Z L xs) d 107 52 lv st σ Q ↔ dx_W (tb_Z L xs) d 107 54 lv (.int 42 :: st) σ Q := r_bipush (n := 42) (hz_107.trans rfl)
theorem w_107_54 {x y : Int32} : dx_W (tb_Z L xs) d 107 54 lv (.int y :: .int x :: st) σ Q ↔ (if x = y then dx_W (tb_Z L xs) d 107 99 lv st σ Q else dx_W (tb_Z L xs) d 107 57 lv st σ Q) := r_ic_eq (off := 45) (t := 99) (hz_107.trans rfl) (by decide)
theorem w_107_57 : dx_W (tb_Z L xs) d 107 57 lv st σ Q ↔ wI (dx_lk lv 2) (fun y => dx_W (tb_Z L xs) d 107 58 lv (.int y :: st) σ Q) := r_iload_n (k := 2) (hz_107.trans rfl)
theorem w_107_58 : dx_W (tb_Z L xs) d 107 58 lv st σ Q ↔ dx_W (tb_Z L xs) d 107 60 lv (.int 47 :: st) σ Q := r_bipush (n := 47) (hz_107.trans rfl)
theorem w_107_60 {x y : Int32} : dx_W (tb_Z L xs) d 107 60 lv (.int y :: .int x :: st) σ Q ↔ (if x = y then dx_W (tb_Z L xs) d 107 99 lv st σ Q else dx_W (tb_Z L xs) d 107 63 lv st σ Q) := r_ic_eq (off := 39) (t := 99) (hz_107.trans rfl) (by decide)
theorem w_107_63 : dx_W (tb_Z L xs) d 107 63 lv st σ Q ↔ wI (dx_lk lv 2) (fun y => dx_W (tb_Z L xs) d 107 64 lv (.int y :: st) σ Q) := r_iload_n (k := 2) (hz_107.trans rfl)
theorem w_107_64 : dx_W (tb_Z L xs) d 107 64 lv st σ Q ↔ dx_W (tb_Z L xs) d 107 66 lv (.int 37 :: st) σ Q := r_bipush (n := 37) (hz_107.trans rfl)
theorem w_107_66 {x y : Int32} : dx_W (tb_Z L xs) d 107 66 lv (.int y :: .int x :: st) σ Q ↔ (if x = y then dx_W (tb_Z L xs) d 107 99 lv st σ Q else dx_W (tb_Z L xs) d 107 69 lv st σ Q) := r_ic_eq (off := 33) (t := 99) (hz_107.trans rfl) (by decide)
theorem w_107_69 : dx_W (tb_Z L xs) d 107 69 lv st σ Q ↔ wI (dx_lk lv 2) (fun y => dx_W (tb_Z L xs) d 107 70 lv (.int y :: st) σ Q) := r_iload_n (k := 2) (hz_107.trans rfl)
theorem w_107_70 : dx_W (tb_Z L xs) d 107 70 lv st σ Q ↔ dx_W (tb_Z L xs) d 107 72 lv (.int 94 :: st) σ Q := r_bipush (n := 94) (hz_107.trans rfl)
theorem w_107_72 {x y : Int32} : dx_W (tb_Z L xs) d 107 72 lv (.int y :: .int x :: st) σ Q ↔ (if x = y then dx_W (tb_Z L xs) d 107 99 lv st σ Q else dx_W (tb_Z L xs) d 107 75 lv st σ Q) := r_ic_eq (off := 27) (t := 99) (hz_107.trans rfl) (by decide)
theorem w_107_75 : dx_W (tb_Z L xs) d 107 75 lv st σ Q ↔ wI (dx_lk lv 2) (fun y => dx_W (tb_Z L xs) d 107 76 lv (.int y :: st) σ Q) := r_iload_n (k := 2) (hz_107.trans rfl)
theorem w_107_76 : dx_W (tb_Z L xs) d 107 76 lv st σ Q ↔ dx_W (tb_Z L xs) d 107 78 lv (.int 40 :: st) σ Q := r_bipush (n := 40) (hz_107.trans rfl)
theorem w_107_78 {x y : Int32} : dx_W (tb_Z L xs) d 107 78 lv (.int y :: .int x :: st) σ Q ↔ (if x = y then dx_W (tb_Z L xs) d 107 99 lv st σ Q else dx_W (tb_Z L xs) d 107 81 lv st σ Q) := r_ic_eq (off := 21) (t := 99) (hz_107.trans rfl) (by decide)
theorem w_107_81 : dx_W (tb_Z L xs) d 107 81 lv st σ Q ↔ wI (dx_lk lv 2) (fun y => dx_W (tb_Z L xs) d 107 82 lv (.int y :: st) σ Q) := r_iload_n (k := 2) (hz_107.trans rfl)
theorem w_107_82 : dx_W (tb_Z L xs) d 107 82 lv st σ Q ↔ dx_W (tb_Z L xs) d 107 84 lv (.int 41 :: st) σ Q := r_bipush (n := 41) (hz_107.trans rfl)
theorem w_107_84 {x y : Int32} : dx_W (tb_Z L xs) d 107 84 lv (.int y :: .int x :: st) σ Q ↔ (if x = y then dx_W (tb_Z L xs) d 107 99 lv st σ Q else dx_W (tb_Z L xs) d 107 87 lv st σ Q) := r_ic_eq (off := 15) (t := 99) (hz_107.trans rfl) (by decide)
theorem w_107_87 : dx_W (tb_Z L xs) d 107 87 lv st σ Q ↔ wI (dx_lk lv 2) (fun y => dx_W (tb_Z L xs) d 107 88 lv (.int y :: st) σ Q) := r_iload_n (k := 2) (hz_107.trans rfl)
theorem w_107_88 : dx_W (tb_Z L xs) d 107 88 lv st σ Q ↔ dx_W (tb_Z L xs) d 107 90 lv (.int 123 :: st) σ Q := r_bipush (n := 123) (hz_107.trans rfl)
theorem w_107_90 {x y : Int32} : dx_W (tb_Z L xs) d 107 90 lv (.int y :: .int x :: st) σ Q ↔ (if x = y then dx_W (tb_Z L xs) d 107 99 lv st σ Q else dx_W (tb_Z L xs) d 107 93 lv st σ Q) := r_ic_eq (off := 9) (t := 99) (hz_107.trans rfl) (by decide)
theorem w_107_93 : dx_W (tb_Z L xs) d 107 93 lv st σ Q ↔ wI (dx_lk lv 2) (fun y => dx_W (tb_Z L xs) d 107 94 lv (.int y :: st) σ Q) := r_iload_n (k := 2) (hz_107.trans rfl)
theorem w_107_94 : dx_W (tb_Z L xs) d 107 94 lv st σ Q ↔ dx_W (tb_Z L xs) d 107 96 lv (.int 125 :: st) σ Q := r_bipush (n := 125) (hz_107.trans rfl)
theorem w_107_96 {x y : Int32} : dx_W (tb_Z L xs) d 107 96 lv (.int y :: .int x :: st) σ Q ↔ (if ¬ x = y then dx_W (tb_Z L xs) d 107 101 lv st σ Q else dx_W (tb_Z L xs) d 107 99 lv st σ Q) := r_ic_ne (off := 5) (t := 101) (hz_107.trans rfl) (by decide)
theorem w_107_99 : dx_W (tb_Z L xs) d 107 99 lv st σ Q ↔ wI (dx_lk lv 2) (fun y => dx_W (tb_Z L xs) d 107 100 lv (.int y :: st) σ Q) := r_iload_n (k := 2) (hz_107.trans rfl)
theorem w_107_100 {x : Int32} : dx_W (tb_Z L xs) d 107 100 lv [.int x] σ Q ↔ Q (.inl (some (.int x))) σ := r_ireturn (hz_107.trans rfl) rfl rfl
theorem w_107_101 : dx_W (tb_Z L xs) d 107 101 lv st σ Q ↔ wI (dx_lk lv 2) (fun y => dx_W (tb_Z L xs) d 107 102 lv (.int y :: st) σ Q) := r_iload_n (k := 2) (hz_107.trans rfl)
theorem w_107_102 : dx_W (tb_Z L xs) d 107 102 lv st σ Q ↔ dx_W (tb_Z L xs) d 107 104 lv (.int 60 :: st) σ Q := r_bipush (n := 60) (hz_107.trans rfl)
theorem w_107_104 {x y : Int32} : dx_W (tb_Z L xs) d 107 104 lv (.int y :: .int x :: st) σ Q ↔ (if ¬ x = y then dx_W (tb_Z L xs) d 107 118 lv st σ Q else dx_W (tb_Z L xs) d 107 107 lv st σ Q) := r_ic_ne (off := 14) (t := 118) (hz_107.trans rfl) (by decide)
theorem w_107_107 : dx_W (tb_Z L xs) d 107 107 lv st σ Q ↔ wI (dx_lk lv 3) (fun y => dx_W (tb_Z L xs) d 107 108 lv (.int y :: st) σ Q) := r_iload_n (k := 3) (hz_107.trans rfl)
theorem w_107_108 {x : Int32} : dx_W (tb_Z L xs) d 107 108 lv (.int x :: st) σ Q ↔ (if x = 0 then dx_W (tb_Z L xs) d 107 116 lv st σ Q else dx_W (tb_Z L xs) d 107 111 lv st σ Q) := r_if_eq (off := 8) (t := 116) (hz_107.trans rfl) (by decide)
theorem w_107_111 : dx_W (tb_Z L xs) d 107 111 lv st σ Q ↔ dx_W (tb_Z L xs) d 107 113 lv (.int 76 :: st) σ Q := r_bipush (n := 76) (hz_107.trans rfl)
theorem w_107_113 : dx_W (tb_Z L xs) d 107 113 lv st σ Q ↔ dx_W (tb_Z L xs) d 107 117 lv st σ Q := r_goto (off := 4) (t := 117) (hz_107.trans rfl) (by decide)
theorem w_107_116 : dx_W (tb_Z L xs) d 107 116 lv st σ Q ↔ wI (dx_lk lv 2) (fun y => dx_W (tb_Z L xs) d 107 117 lv (.int y :: st) σ Q) := r_iload_n (k := 2) (hz_107.trans rfl)
theorem w_107_117 {x : Int32} : dx_W (tb_Z L xs) d 107 117 lv [.int x] σ Q ↔ Q (.inl (some (.int x))) σ := r_ireturn (hz_107.trans rfl) rfl rfl
theorem w_107_118 : dx_W (tb_Z L xs) d 107 118 lv st σ Q ↔ wI (dx_lk lv 2) (fun y => dx_W (tb_Z L xs) d 107 119 lv (.int y :: st) σ Q) := r_iload_n (k := 2) (hz_107.trans rfl)
theorem w_107_119 : dx_W (tb_Z L xs) d 107 119 lv st σ Q ↔ dx_W (tb_Z L xs) d 107 121 lv (.int 62 :: st) σ Q := r_bipush (n := 62) (hz_107.trans rfl)
theorem w_107_121 {x y : Int32} : dx_W (tb_Z L xs) d 107 121 lv (.int y :: .int x :: st) σ Q ↔ (if ¬ x = y then dx_W (tb_Z L xs) d 107 135 lv st σ Q else dx_W (tb_Z L xs) d 107 124 lv st σ Q) := r_ic_ne (off := 14) (t := 135) (hz_107.trans rfl) (by decide)
theorem w_107_124 : dx_W (tb_Z L xs) d 107 124 lv st σ Q ↔ wI (dx_lk lv 3) (fun y => dx_W (tb_Z L xs) d 107 125 lv (.int y :: st) σ Q) := r_iload_n (k := 3) (hz_107.trans rfl)
theorem w_107_125 {x : Int32} : dx_W (tb_Z L xs) d 107 125 lv (.int x :: st) σ Q ↔ (if x = 0 then dx_W (tb_Z L xs) d 107 133 lv st σ Q else dx_W (tb_Z L xs) d 107 128 lv st σ Q) := r_if_eq (off := 8) (t := 133) (hz_107.trans rfl) (by decide)
theorem w_107_128 : dx_W (tb_Z L xs) d 107 128 lv st σ Q ↔ dx_W (tb_Z L xs) d 107 130 lv (.int 71 :: st) σ Q := r_bipush (n := 71) (hz_107.trans rfl)
theorem w_107_130 : dx_W (tb_Z L xs) d 107 130 lv st σ Q ↔ dx_W (tb_Z L xs) d 107 134 lv st σ Q := r_goto (off := 4) (t := 134) (hz_107.trans rfl) (by decide)
theorem w_107_133 : dx_W (tb_Z L xs) d 107 133 lv st σ Q ↔ wI (dx_lk lv 2) (fun y => dx_W (tb_Z L xs) d 107 134 lv (.int y :: st) σ Q) := r_iload_n (k := 2) (hz_107.trans rfl)
theorem w_107_134 {x : Int32} : dx_W (tb_Z L xs) d 107 134 lv [.int x] σ Q ↔ Q (.inl (some (.int x))) σ := r_ireturn (hz_107.trans rfl) rfl rfl
theorem w_107_135 : dx_W (tb_Z L xs) d 107 135 lv st σ Q ↔ wI (dx_lk lv 2) (fun y => dx_W (tb_Z L xs) d 107 136 lv (.int y :: st) σ Q) := r_iload_n (k := 2) (hz_107.trans rfl)
theorem w_107_136 : dx_W (tb_Z L xs) d 107 136 lv st σ Q ↔ dx_W (tb_Z L xs) d 107 138 lv (.int 61 :: st) σ Q := r_bipush (n := 61) (hz_107.trans rfl)
theorem w_107_138 {x y : Int32} : dx_W (tb_Z L xs) d 107 138 lv (.int y :: .int x :: st) σ Q ↔ (if ¬ x = y then dx_W (tb_Z L xs) d 107 152 lv st σ Q else dx_W (tb_Z L xs) d 107 141 lv st σ Q) := r_ic_ne (off := 14) (t := 152) (hz_107.trans rfl) (by decide)
theorem w_107_141 : dx_W (tb_Z L xs) d 107 141 lv st σ Q ↔ wI (dx_lk lv 3) (fun y => dx_W (tb_Z L xs) d 107 142 lv (.int y :: st) σ Q) := r_iload_n (k := 3) (hz_107.trans rfl)
theorem w_107_142 {x : Int32} : dx_W (tb_Z L xs) d 107 142 lv (.int x :: st) σ Q ↔ (if x = 0 then dx_W (tb_Z L xs) d 107 150 lv st σ Q else dx_W (tb_Z L xs) d 107 145 lv st σ Q) := r_if_eq (off := 8) (t := 150) (hz_107.trans rfl) (by decide)
theorem w_107_145 : dx_W (tb_Z L xs) d 107 145 lv st σ Q ↔ dx_W (tb_Z L xs) d 107 147 lv (.int 69 :: st) σ Q := r_bipush (n := 69) (hz_107.trans rfl)
theorem w_107_147 : dx_W (tb_Z L xs) d 107 147 lv st σ Q ↔ dx_W (tb_Z L xs) d 107 151 lv st σ Q := r_goto (off := 4) (t := 151) (hz_107.trans rfl) (by decide)
theorem w_107_150 : dx_W (tb_Z L xs) d 107 150 lv st σ Q ↔ wI (dx_lk lv 2) (fun y => dx_W (tb_Z L xs) d 107 151 lv (.int y :: st) σ Q) := r_iload_n (k := 2) (hz_107.trans rfl)
theorem w_107_151 {x : Int32} : dx_W (tb_Z L xs) d 107 151 lv [.int x] σ Q ↔ Q (.inl (some (.int x))) σ := r_ireturn (hz_107.trans rfl) rfl rfl
theorem w_107_152 : dx_W (tb_Z L xs) d 107 152 lv st σ Q ↔ wI (dx_lk lv 2) (fun y => dx_W (tb_Z L xs) d 107 153 lv (.int y :: st) σ Q) := r_iload_n (k := 2) (hz_107.trans rfl)
theorem w_107_153 : dx_W (tb_Z L xs) d 107 153 lv st σ Q ↔ dx_W (tb_Z L xs) d 107 155 lv (.int 33 :: st) σ Q := r_bipush (n := 33) (hz_107.trans rfl)
theorem w_107_155 {x y : Int32} : dx_W (tb_Z L xs) d 107 155 lv (.int y :: .int x :: st) σ Q ↔ (if ¬ x = y then dx_W (tb_Z L xs) d 107 167 lv st σ Q else dx_W (tb_Z L xs) d 107 158 lv st σ Q) := r_ic_ne (off := 12) (t := 167) (hz_107.trans rfl) (by decide)
theorem w_107_158 : dx_W (tb_Z L xs) d 107 158 lv st σ Q ↔ wI (dx_lk lv 3) (fun y => dx_W (tb_Z L xs) d 107 159 lv (.int y :: st) σ Q) := r_iload_n (k := 3) (hz_107.trans rfl)
theorem w_107_159 {x : Int32} : dx_W (tb_Z L xs) d 107 159 lv (.int x :: st) σ Q ↔ (if x = 0 then dx_W (tb_Z L xs) d 107 167 lv st σ Q else dx_W (tb_Z L xs) d 107 162 lv st σ Q) := r_if_eq (off := 8) (t := 167) (hz_107.trans rfl) (by decide)
theorem w_107_162 : dx_W (tb_Z L xs) d 107 162 lv st σ Q ↔ dx_W (tb_Z L xs) d 107 164 lv (.int 78 :: st) σ Q := r_bipush (n := 78) (hz_107.trans rfl)
theorem w_107_164 : dx_W (tb_Z L xs) d 107 164 lv st σ Q ↔ dx_W (tb_Z L xs) d 107 168 lv st σ Q := r_goto (off := 4) (t := 168) (hz_107.trans rfl) (by decide)
theorem w_107_167 : dx_W (tb_Z L xs) d 107 167 lv st σ Q ↔ dx_W (tb_Z L xs) d 107 168 lv (.int 0 :: st) σ Q := r_iconst (n := 0) (hz_107.trans rfl)
theorem w_107_168 {x : Int32} : dx_W (tb_Z L xs) d 107 168 lv [.int x] σ Q ↔ Q (.inl (some (.int x))) σ := r_ireturn (hz_107.trans rfl) rfl rfl
theorem hz_108 {pc : Nat} : (tb_Z L xs).1 108 pc = dx_at tb_m108 pc := rfl
theorem w_108_0 : dx_W (tb_Z L xs) d 108 0 lv st σ Q ↔ wR (dx_lk lv 0) (fun y => dx_W (tb_Z L xs) d 108 1 lv (y :: st) σ Q) := r_aload_n (k := 0) (hz_108.trans rfl)
theorem w_108_1 : dx_W (tb_Z L xs) d 108 1 lv st σ Q ↔ dx_W (tb_Z L xs) d 108 2 lv (.int 0 :: st) σ Q := r_iconst (n := 0) (hz_108.trans rfl)
theorem w_108_2 {u w : Value} : dx_W (tb_Z L xs) d 108 2 lv (u :: w :: st) σ Q ↔ wO (dx_pf σ w 9 9 0 u) (fun σ1 => dx_W (tb_Z L xs) d 108 5 lv st σ1 Q) := r_putfield (f := 0) (hz_108.trans rfl)
theorem w_108_5 : dx_W (tb_Z L xs) d 108 5 lv st σ Q ↔ wR (dx_lk lv 0) (fun y => dx_W (tb_Z L xs) d 108 6 lv (y :: st) σ Q) := r_aload_n (k := 0) (hz_108.trans rfl)
theorem w_108_6 : dx_W (tb_Z L xs) d 108 6 lv st σ Q ↔ dx_W (tb_Z L xs) d 108 7 lv (.int 0 :: st) σ Q := r_iconst (n := 0) (hz_108.trans rfl)
theorem w_108_7 {u w : Value} : dx_W (tb_Z L xs) d 108 7 lv (u :: w :: st) σ Q ↔ wO (dx_pf σ w 9 14 0 u) (fun σ1 => dx_W (tb_Z L xs) d 108 10 lv st σ1 Q) := r_putfield (f := 0) (hz_108.trans rfl)
theorem w_108_10 : dx_W (tb_Z L xs) d 108 10 lv st σ Q ↔ wR (dx_lk lv 0) (fun y => dx_W (tb_Z L xs) d 108 11 lv (y :: st) σ Q) := r_aload_n (k := 0) (hz_108.trans rfl)
theorem w_108_11 : dx_W (tb_Z L xs) d 108 11 lv st σ Q ↔ dx_W (tb_Z L xs) d 108 12 lv (.int 0 :: st) σ Q := r_iconst (n := 0) (hz_108.trans rfl)
theorem w_108_12 {u w : Value} : dx_W (tb_Z L xs) d 108 12 lv (u :: w :: st) σ Q ↔ wO (dx_pf σ w 9 20 0 u) (fun σ1 => dx_W (tb_Z L xs) d 108 15 lv st σ1 Q) := r_putfield (f := 0) (hz_108.trans rfl)
theorem w_108_15 : dx_W (tb_Z L xs) d 108 15 lv st σ Q ↔ wR (dx_lk lv 0) (fun y => dx_W (tb_Z L xs) d 108 16 lv (y :: st) σ Q) := r_aload_n (k := 0) (hz_108.trans rfl)
theorem w_108_16 : dx_W (tb_Z L xs) d 108 16 lv st σ Q ↔ dx_W (tb_Z L xs) d 108 17 lv (.int 0 :: st) σ Q := r_iconst (n := 0) (hz_108.trans rfl)
theorem w_108_17 {u w : Value} : dx_W (tb_Z L xs) d 108 17 lv (u :: w :: st) σ Q ↔ wO (dx_pf σ w 9 21 0 u) (fun σ1 => dx_W (tb_Z L xs) d 108 20 lv st σ1 Q) := r_putfield (f := 0) (hz_108.trans rfl)
theorem w_108_20 : dx_W (tb_Z L xs) d 108 20 lv st σ Q ↔ wR (dx_lk lv 0) (fun y => dx_W (tb_Z L xs) d 108 21 lv (y :: st) σ Q) := r_aload_n (k := 0) (hz_108.trans rfl)
theorem w_108_21 : dx_W (tb_Z L xs) d 108 21 lv st σ Q ↔ dx_W (tb_Z L xs) d 108 22 lv (.int 0 :: st) σ Q := r_iconst (n := 0) (hz_108.trans rfl)
theorem w_108_22 {u w : Value} : dx_W (tb_Z L xs) d 108 22 lv (u :: w :: st) σ Q ↔ wO (dx_pf σ w 9 22 2 u) (fun σ1 => dx_W (tb_Z L xs) d 108 25 lv st σ1 Q) := r_putfield (f := 2) (hz_108.trans rfl)
theorem w_108_25 : dx_W (tb_Z L xs) d 108 25 lv st σ Q ↔ dx_W (tb_Z L xs) d 108 26 lv (.int 0 :: st) σ Q := r_iconst (n := 0) (hz_108.trans rfl)
theorem w_108_26 {x : Int32} : dx_W (tb_Z L xs) d 108 26 lv (.int x :: st) σ Q ↔ dx_W (tb_Z L xs) d 108 27 (dx_s1 lv 1 (.int x)) st σ Q := r_istore_n (k := 1) (hz_108.trans rfl) (show 1 < tb_l 108 by decide)
theorem w_108_27 : dx_W (tb_Z L xs) d 108 27 lv st σ Q ↔ wI (dx_lk lv 1) (fun y => dx_W (tb_Z L xs) d 108 28 lv (.int y :: st) σ Q) := r_iload_n (k := 1) (hz_108.trans rfl)
theorem w_108_28 : dx_W (tb_Z L xs) d 108 28 lv st σ Q ↔ dx_W (tb_Z L xs) d 108 30 lv (.int 26 :: st) σ Q := r_bipush (n := 26) (hz_108.trans rfl)
theorem w_108_30 {x y : Int32} : dx_W (tb_Z L xs) d 108 30 lv (.int y :: .int x :: st) σ Q ↔ (if y ≤ x then dx_W (tb_Z L xs) d 108 46 lv st σ Q else dx_W (tb_Z L xs) d 108 33 lv st σ Q) := r_ic_ge (off := 16) (t := 46) (hz_108.trans rfl) (by decide)
theorem w_108_33 : dx_W (tb_Z L xs) d 108 33 lv st σ Q ↔ wR (dx_lk lv 0) (fun y => dx_W (tb_Z L xs) d 108 34 lv (y :: st) σ Q) := r_aload_n (k := 0) (hz_108.trans rfl)
theorem w_108_34 {w : Value} : dx_W (tb_Z L xs) d 108 34 lv (w :: st) σ Q ↔ wO (dx_gf (tb_K L xs) σ w 9 15) (fun y => dx_W (tb_Z L xs) d 108 37 lv (y :: st) σ Q) := r_getfield (hz_108.trans rfl)
theorem w_108_37 : dx_W (tb_Z L xs) d 108 37 lv st σ Q ↔ wI (dx_lk lv 1) (fun y => dx_W (tb_Z L xs) d 108 38 lv (.int y :: st) σ Q) := r_iload_n (k := 1) (hz_108.trans rfl)
theorem w_108_38 : dx_W (tb_Z L xs) d 108 38 lv st σ Q ↔ dx_W (tb_Z L xs) d 108 39 lv (.int (-1) :: st) σ Q := r_iconst (n := (-1)) (hz_108.trans rfl)
theorem w_108_39 {w : Value} {y : Int32} {u : Int32} : dx_W (tb_Z L xs) d 108 39 lv (.int u :: .int y :: w :: st) σ Q ↔ wO (dx_pi σ 0 w y u) (fun σ1 => dx_W (tb_Z L xs) d 108 40 lv st σ1 Q) := r_iastore (hz_108.trans rfl)
theorem w_108_40 : dx_W (tb_Z L xs) d 108 40 lv st σ Q ↔ wI (dx_lk lv 1) (fun y => dx_W (tb_Z L xs) d 108 43 (dx_s1 lv 1 (.int (y + 1))) st σ Q) := r_iincv (k := 1) (n := 1) (hz_108.trans rfl) (show 1 < tb_l 108 by decide) (by decide)
theorem w_108_43 : dx_W (tb_Z L xs) d 108 43 lv st σ Q ↔ dx_W (tb_Z L xs) d 108 27 lv st σ Q := r_goto (off := (-16)) (t := 27) (hz_108.trans rfl) (by decide)
theorem w_108_46 : dx_W (tb_Z L xs) d 108 46 lv st σ Q ↔ wR (dx_lk lv 0) (fun y => dx_W (tb_Z L xs) d 108 47 lv (y :: st) σ Q) := r_aload_n (k := 0) (hz_108.trans rfl)
theorem w_108_47 : dx_W (tb_Z L xs) d 108 47 lv st σ Q ↔ dx_W (tb_Z L xs) d 108 48 lv (.int 1 :: st) σ Q := r_iconst (n := 1) (hz_108.trans rfl)
theorem w_108_48 : dx_W (tb_Z L xs) d 108 48 lv st σ Q ↔ dx_W (tb_Z L xs) d 108 49 lv (.int 0 :: st) σ Q := r_iconst (n := 0) (hz_108.trans rfl)
theorem w_108_49 : dx_W (tb_Z L xs) d 108 49 lv st σ Q ↔ dx_W (tb_Z L xs) d 108 50 lv (.int 0 :: st) σ Q := r_iconst (n := 0) (hz_108.trans rfl)
theorem w_108_50 {v0 v1 v2 v3 : Value}  : dx_W (tb_Z L xs) d 108 50 lv (v3 :: v2 :: v1 :: v0 :: st) σ Q ↔ (dx_ct st ≤ 8 ∧ dx_ci (tb_K L xs) σ v0 = some 9) ∧ dx_M (tb_Z L xs) d 109 [v0, v1, v2, v3] σ (wK (tb_Z L xs) d 108 53 lv st Q) := c_callv (av := [v1, v2, v3]) (hz_108.trans rfl)
theorem w_108_53 : dx_W (tb_Z L xs) d 108 53 lv st σ Q ↔ dx_W (tb_Z L xs) d 108 54 lv (.int 0 :: st) σ Q := r_iconst (n := 0) (hz_108.trans rfl)
theorem w_108_54 {x : Int32} : dx_W (tb_Z L xs) d 108 54 lv (.int x :: st) σ Q ↔ dx_W (tb_Z L xs) d 108 55 (dx_s1 lv 1 (.int x)) st σ Q := r_istore_n (k := 1) (hz_108.trans rfl) (show 1 < tb_l 108 by decide)
theorem w_108_55 : dx_W (tb_Z L xs) d 108 55 lv st σ Q ↔ wI (dx_lk lv 1) (fun y => dx_W (tb_Z L xs) d 108 56 lv (.int y :: st) σ Q) := r_iload_n (k := 1) (hz_108.trans rfl)
theorem w_108_56 : dx_W (tb_Z L xs) d 108 56 lv st σ Q ↔ dx_W (tb_Z L xs) d 108 59 lv (.int 20000 :: st) σ Q := r_sipush (n := 20000) (hz_108.trans rfl)
theorem w_108_59 {x y : Int32} : dx_W (tb_Z L xs) d 108 59 lv (.int y :: .int x :: st) σ Q ↔ (if y ≤ x then dx_W (tb_Z L xs) d 108 176 lv st σ Q else dx_W (tb_Z L xs) d 108 62 lv st σ Q) := r_ic_ge (off := 117) (t := 176) (hz_108.trans rfl) (by decide)
theorem w_108_62 : dx_W (tb_Z L xs) d 108 62 lv st σ Q ↔ wR (dx_lk lv 0) (fun y => dx_W (tb_Z L xs) d 108 63 lv (y :: st) σ Q) := r_aload_n (k := 0) (hz_108.trans rfl)
theorem w_108_63 {w : Value} : dx_W (tb_Z L xs) d 108 63 lv (w :: st) σ Q ↔ wO (dx_gf (tb_K L xs) σ w 9 20) (fun y => dx_W (tb_Z L xs) d 108 66 lv (y :: st) σ Q) := r_getfield (hz_108.trans rfl)
theorem w_108_66 {x : Int32} : dx_W (tb_Z L xs) d 108 66 lv (.int x :: st) σ Q ↔ (if x ≤ 0 then dx_W (tb_Z L xs) d 108 176 lv st σ Q else dx_W (tb_Z L xs) d 108 69 lv st σ Q) := r_if_le (off := 110) (t := 176) (hz_108.trans rfl) (by decide)
theorem w_108_69 : dx_W (tb_Z L xs) d 108 69 lv st σ Q ↔ wR (dx_lk lv 0) (fun y => dx_W (tb_Z L xs) d 108 70 lv (y :: st) σ Q) := r_aload_n (k := 0) (hz_108.trans rfl)
theorem w_108_70 {w : Value} : dx_W (tb_Z L xs) d 108 70 lv (w :: st) σ Q ↔ wO (dx_gf (tb_K L xs) σ w 9 10) (fun y => dx_W (tb_Z L xs) d 108 73 lv (y :: st) σ Q) := r_getfield (hz_108.trans rfl)
theorem w_108_73 {x : Int32} : dx_W (tb_Z L xs) d 108 73 lv (.int x :: st) σ Q ↔ (if ¬ x = 0 then dx_W (tb_Z L xs) d 108 176 lv st σ Q else dx_W (tb_Z L xs) d 108 76 lv st σ Q) := r_if_ne (off := 103) (t := 176) (hz_108.trans rfl) (by decide)
theorem w_108_76 : dx_W (tb_Z L xs) d 108 76 lv st σ Q ↔ wR (dx_lk lv 0) (fun y => dx_W (tb_Z L xs) d 108 77 lv (y :: st) σ Q) := r_aload_n (k := 0) (hz_108.trans rfl)
theorem w_108_77_int {x : Int32} : dx_W (tb_Z L xs) d 108 77 lv (.int x :: st) σ Q ↔ dx_W (tb_Z L xs) d 108 78 lv (.int x :: .int x :: st) σ Q := r_dup_int (hz_108.trans rfl)
theorem w_108_77_ref {x : Nat} : dx_W (tb_Z L xs) d 108 77 lv (.ref x :: st) σ Q ↔ dx_W (tb_Z L xs) d 108 78 lv (.ref x :: .ref x :: st) σ Q := r_dup_ref (hz_108.trans rfl)
theorem w_108_77_retAddr {x : Nat} : dx_W (tb_Z L xs) d 108 77 lv (.retAddr x :: st) σ Q ↔ dx_W (tb_Z L xs) d 108 78 lv (.retAddr x :: .retAddr x :: st) σ Q := r_dup_retAddr (hz_108.trans rfl)
theorem w_108_78 {w : Value} : dx_W (tb_Z L xs) d 108 78 lv (w :: st) σ Q ↔ wO (dx_gf (tb_K L xs) σ w 9 20) (fun y => dx_W (tb_Z L xs) d 108 81 lv (y :: st) σ Q) := r_getfield (hz_108.trans rfl)
theorem w_108_81 : dx_W (tb_Z L xs) d 108 81 lv st σ Q ↔ dx_W (tb_Z L xs) d 108 82 lv (.int 1 :: st) σ Q := r_iconst (n := 1) (hz_108.trans rfl)
theorem w_108_82 {x y : Int32} : dx_W (tb_Z L xs) d 108 82 lv (.int y :: .int x :: st) σ Q ↔ dx_W (tb_Z L xs) d 108 83 lv (.int (x - y) :: st) σ Q := r_isub (hz_108.trans rfl)
theorem w_108_83 {u w : Value} : dx_W (tb_Z L xs) d 108 83 lv (u :: w :: st) σ Q ↔ wO (dx_pf σ w 9 20 0 u) (fun σ1 => dx_W (tb_Z L xs) d 108 86 lv st σ1 Q) := r_putfield (f := 0) (hz_108.trans rfl)
theorem w_108_86 : dx_W (tb_Z L xs) d 108 86 lv st σ Q ↔ wR (dx_lk lv 0) (fun y => dx_W (tb_Z L xs) d 108 87 lv (y :: st) σ Q) := r_aload_n (k := 0) (hz_108.trans rfl)
theorem w_108_87 {w : Value} : dx_W (tb_Z L xs) d 108 87 lv (w :: st) σ Q ↔ wO (dx_gf (tb_K L xs) σ w 9 17) (fun y => dx_W (tb_Z L xs) d 108 90 lv (y :: st) σ Q) := r_getfield (hz_108.trans rfl)
theorem w_108_90 : dx_W (tb_Z L xs) d 108 90 lv st σ Q ↔ wR (dx_lk lv 0) (fun y => dx_W (tb_Z L xs) d 108 91 lv (y :: st) σ Q) := r_aload_n (k := 0) (hz_108.trans rfl)
theorem w_108_91 {w : Value} : dx_W (tb_Z L xs) d 108 91 lv (w :: st) σ Q ↔ wO (dx_gf (tb_K L xs) σ w 9 20) (fun y => dx_W (tb_Z L xs) d 108 94 lv (y :: st) σ Q) := r_getfield (hz_108.trans rfl)
theorem w_108_94 {w : Value} {y : Int32} : dx_W (tb_Z L xs) d 108 94 lv (.int y :: w :: st) σ Q ↔ wO (dx_ei (tb_K L xs) σ 0 w y) (fun u => dx_W (tb_Z L xs) d 108 95 lv (.int u :: st) σ Q) := r_iaload (hz_108.trans rfl)
theorem w_108_95 {x : Int32} : dx_W (tb_Z L xs) d 108 95 lv (.int x :: st) σ Q ↔ dx_W (tb_Z L xs) d 108 96 (dx_s1 lv 2 (.int x)) st σ Q := r_istore_n (k := 2) (hz_108.trans rfl) (show 2 < tb_l 108 by decide)
theorem w_108_96 : dx_W (tb_Z L xs) d 108 96 lv st σ Q ↔ wR (dx_lk lv 0) (fun y => dx_W (tb_Z L xs) d 108 97 lv (y :: st) σ Q) := r_aload_n (k := 0) (hz_108.trans rfl)
theorem w_108_97 {w : Value} : dx_W (tb_Z L xs) d 108 97 lv (w :: st) σ Q ↔ wO (dx_gf (tb_K L xs) σ w 9 18) (fun y => dx_W (tb_Z L xs) d 108 100 lv (y :: st) σ Q) := r_getfield (hz_108.trans rfl)
theorem w_108_100 : dx_W (tb_Z L xs) d 108 100 lv st σ Q ↔ wR (dx_lk lv 0) (fun y => dx_W (tb_Z L xs) d 108 101 lv (y :: st) σ Q) := r_aload_n (k := 0) (hz_108.trans rfl)
theorem w_108_101 {w : Value} : dx_W (tb_Z L xs) d 108 101 lv (w :: st) σ Q ↔ wO (dx_gf (tb_K L xs) σ w 9 20) (fun y => dx_W (tb_Z L xs) d 108 104 lv (y :: st) σ Q) := r_getfield (hz_108.trans rfl)
theorem w_108_104 {w : Value} {y : Int32} : dx_W (tb_Z L xs) d 108 104 lv (.int y :: w :: st) σ Q ↔ wO (dx_ei (tb_K L xs) σ 0 w y) (fun u => dx_W (tb_Z L xs) d 108 105 lv (.int u :: st) σ Q) := r_iaload (hz_108.trans rfl)
theorem w_108_105 {x : Int32} : dx_W (tb_Z L xs) d 108 105 lv (.int x :: st) σ Q ↔ dx_W (tb_Z L xs) d 108 106 (dx_s1 lv 3 (.int x)) st σ Q := r_istore_n (k := 3) (hz_108.trans rfl) (show 3 < tb_l 108 by decide)
theorem w_108_106 : dx_W (tb_Z L xs) d 108 106 lv st σ Q ↔ wR (dx_lk lv 0) (fun y => dx_W (tb_Z L xs) d 108 107 lv (y :: st) σ Q) := r_aload_n (k := 0) (hz_108.trans rfl)
theorem w_108_107 {w : Value} : dx_W (tb_Z L xs) d 108 107 lv (w :: st) σ Q ↔ wO (dx_gf (tb_K L xs) σ w 9 19) (fun y => dx_W (tb_Z L xs) d 108 110 lv (y :: st) σ Q) := r_getfield (hz_108.trans rfl)
theorem w_108_110 : dx_W (tb_Z L xs) d 108 110 lv st σ Q ↔ wR (dx_lk lv 0) (fun y => dx_W (tb_Z L xs) d 108 111 lv (y :: st) σ Q) := r_aload_n (k := 0) (hz_108.trans rfl)
theorem w_108_111 {w : Value} : dx_W (tb_Z L xs) d 108 111 lv (w :: st) σ Q ↔ wO (dx_gf (tb_K L xs) σ w 9 20) (fun y => dx_W (tb_Z L xs) d 108 114 lv (y :: st) σ Q) := r_getfield (hz_108.trans rfl)
theorem w_108_114 {w : Value} {y : Int32} : dx_W (tb_Z L xs) d 108 114 lv (.int y :: w :: st) σ Q ↔ wO (dx_ei (tb_K L xs) σ 0 w y) (fun u => dx_W (tb_Z L xs) d 108 115 lv (.int u :: st) σ Q) := r_iaload (hz_108.trans rfl)
theorem w_108_115 {x : Int32} : dx_W (tb_Z L xs) d 108 115 lv (.int x :: st) σ Q ↔ dx_W (tb_Z L xs) d 108 117 (dx_s1 lv 4 (.int x)) st σ Q := r_istore (k := 4) (hz_108.trans rfl) (show 4 < tb_l 108 by decide)
theorem w_108_117 : dx_W (tb_Z L xs) d 108 117 lv st σ Q ↔ wI (dx_lk lv 2) (fun y => dx_W (tb_Z L xs) d 108 118 lv (.int y :: st) σ Q) := r_iload_n (k := 2) (hz_108.trans rfl)
theorem w_108_118 : dx_W (tb_Z L xs) d 108 118 lv st σ Q ↔ dx_W (tb_Z L xs) d 108 120 lv (.int 6 :: st) σ Q := r_bipush (n := 6) (hz_108.trans rfl)
theorem w_108_120 {x y : Int32} : dx_W (tb_Z L xs) d 108 120 lv (.int y :: .int x :: st) σ Q ↔ (if y < x then dx_W (tb_Z L xs) d 108 131 lv st σ Q else dx_W (tb_Z L xs) d 108 123 lv st σ Q) := r_ic_gt (off := 11) (t := 131) (hz_108.trans rfl) (by decide)
theorem w_108_123 : dx_W (tb_Z L xs) d 108 123 lv st σ Q ↔ wR (dx_lk lv 0) (fun y => dx_W (tb_Z L xs) d 108 124 lv (y :: st) σ Q) := r_aload_n (k := 0) (hz_108.trans rfl)
theorem w_108_124 : dx_W (tb_Z L xs) d 108 124 lv st σ Q ↔ wI (dx_lk lv 2) (fun y => dx_W (tb_Z L xs) d 108 125 lv (.int y :: st) σ Q) := r_iload_n (k := 2) (hz_108.trans rfl)
theorem w_108_125 {v0 v1 : Value}  : dx_W (tb_Z L xs) d 108 125 lv (v1 :: v0 :: st) σ Q ↔ (dx_ct st ≤ 8 ∧ dx_ci (tb_K L xs) σ v0 = some 9) ∧ dx_M (tb_Z L xs) d 110 [v0, v1] σ (wK (tb_Z L xs) d 108 128 lv st Q) := c_callv (av := [v1]) (hz_108.trans rfl)
theorem w_108_128 : dx_W (tb_Z L xs) d 108 128 lv st σ Q ↔ dx_W (tb_Z L xs) d 108 170 lv st σ Q := r_goto (off := 42) (t := 170) (hz_108.trans rfl) (by decide)
theorem w_108_131 : dx_W (tb_Z L xs) d 108 131 lv st σ Q ↔ wI (dx_lk lv 2) (fun y => dx_W (tb_Z L xs) d 108 132 lv (.int y :: st) σ Q) := r_iload_n (k := 2) (hz_108.trans rfl)
theorem w_108_132 : dx_W (tb_Z L xs) d 108 132 lv st σ Q ↔ dx_W (tb_Z L xs) d 108 134 lv (.int 17 :: st) σ Q := r_bipush (n := 17) (hz_108.trans rfl)
theorem w_108_134 {x y : Int32} : dx_W (tb_Z L xs) d 108 134 lv (.int y :: .int x :: st) σ Q ↔ (if y ≤ x then dx_W (tb_Z L xs) d 108 145 lv st σ Q else dx_W (tb_Z L xs) d 108 137 lv st σ Q) := r_ic_ge (off := 11) (t := 145) (hz_108.trans rfl) (by decide)
theorem w_108_137 : dx_W (tb_Z L xs) d 108 137 lv st σ Q ↔ wR (dx_lk lv 0) (fun y => dx_W (tb_Z L xs) d 108 138 lv (y :: st) σ Q) := r_aload_n (k := 0) (hz_108.trans rfl)
theorem w_108_138 : dx_W (tb_Z L xs) d 108 138 lv st σ Q ↔ wI (dx_lk lv 2) (fun y => dx_W (tb_Z L xs) d 108 139 lv (.int y :: st) σ Q) := r_iload_n (k := 2) (hz_108.trans rfl)
theorem w_108_139 {v0 v1 : Value}  : dx_W (tb_Z L xs) d 108 139 lv (v1 :: v0 :: st) σ Q ↔ (dx_ct st ≤ 8 ∧ dx_ci (tb_K L xs) σ v0 = some 9) ∧ dx_M (tb_Z L xs) d 117 [v0, v1] σ (wK (tb_Z L xs) d 108 142 lv st Q) := c_callv (av := [v1]) (hz_108.trans rfl)
theorem w_108_142 : dx_W (tb_Z L xs) d 108 142 lv st σ Q ↔ dx_W (tb_Z L xs) d 108 170 lv st σ Q := r_goto (off := 28) (t := 170) (hz_108.trans rfl) (by decide)
theorem w_108_145 : dx_W (tb_Z L xs) d 108 145 lv st σ Q ↔ wI (dx_lk lv 2) (fun y => dx_W (tb_Z L xs) d 108 146 lv (.int y :: st) σ Q) := r_iload_n (k := 2) (hz_108.trans rfl)
theorem w_108_146 : dx_W (tb_Z L xs) d 108 146 lv st σ Q ↔ dx_W (tb_Z L xs) d 108 148 lv (.int 17 :: st) σ Q := r_bipush (n := 17) (hz_108.trans rfl)
theorem w_108_148 {x y : Int32} : dx_W (tb_Z L xs) d 108 148 lv (.int y :: .int x :: st) σ Q ↔ (if ¬ x = y then dx_W (tb_Z L xs) d 108 162 lv st σ Q else dx_W (tb_Z L xs) d 108 151 lv st σ Q) := r_ic_ne (off := 14) (t := 162) (hz_108.trans rfl) (by decide)
theorem w_108_151 : dx_W (tb_Z L xs) d 108 151 lv st σ Q ↔ wR (dx_lk lv 0) (fun y => dx_W (tb_Z L xs) d 108 152 lv (y :: st) σ Q) := r_aload_n (k := 0) (hz_108.trans rfl)
theorem w_108_152 : dx_W (tb_Z L xs) d 108 152 lv st σ Q ↔ wI (dx_lk lv 3) (fun y => dx_W (tb_Z L xs) d 108 153 lv (.int y :: st) σ Q) := r_iload_n (k := 3) (hz_108.trans rfl)
theorem w_108_153 : dx_W (tb_Z L xs) d 108 153 lv st σ Q ↔ wI (dx_lk lv 4) (fun y => dx_W (tb_Z L xs) d 108 155 lv (.int y :: st) σ Q) := r_iload (k := 4) (hz_108.trans rfl)
theorem w_108_155 : dx_W (tb_Z L xs) d 108 155 lv st σ Q ↔ dx_W (tb_Z L xs) d 108 156 lv (.int 0 :: st) σ Q := r_iconst (n := 0) (hz_108.trans rfl)
theorem w_108_156 {v0 v1 v2 v3 : Value}  : dx_W (tb_Z L xs) d 108 156 lv (v3 :: v2 :: v1 :: v0 :: st) σ Q ↔ (dx_ct st ≤ 8 ∧ dx_ci (tb_K L xs) σ v0 = some 9) ∧ dx_M (tb_Z L xs) d 114 [v0, v1, v2, v3] σ (wK (tb_Z L xs) d 108 159 lv st Q) := c_callv (av := [v1, v2, v3]) (hz_108.trans rfl)
theorem w_108_159 : dx_W (tb_Z L xs) d 108 159 lv st σ Q ↔ dx_W (tb_Z L xs) d 108 170 lv st σ Q := r_goto (off := 11) (t := 170) (hz_108.trans rfl) (by decide)
theorem w_108_162 : dx_W (tb_Z L xs) d 108 162 lv st σ Q ↔ wR (dx_lk lv 0) (fun y => dx_W (tb_Z L xs) d 108 163 lv (y :: st) σ Q) := r_aload_n (k := 0) (hz_108.trans rfl)
theorem w_108_163 : dx_W (tb_Z L xs) d 108 163 lv st σ Q ↔ wI (dx_lk lv 2) (fun y => dx_W (tb_Z L xs) d 108 164 lv (.int y :: st) σ Q) := r_iload_n (k := 2) (hz_108.trans rfl)
theorem w_108_164 : dx_W (tb_Z L xs) d 108 164 lv st σ Q ↔ wI (dx_lk lv 3) (fun y => dx_W (tb_Z L xs) d 108 165 lv (.int y :: st) σ Q) := r_iload_n (k := 3) (hz_108.trans rfl)
theorem w_108_165 : dx_W (tb_Z L xs) d 108 165 lv st σ Q ↔ wI (dx_lk lv 4) (fun y => dx_W (tb_Z L xs) d 108 167 lv (.int y :: st) σ Q) := r_iload (k := 4) (hz_108.trans rfl)
theorem w_108_167 {v0 v1 v2 v3 : Value}  : dx_W (tb_Z L xs) d 108 167 lv (v3 :: v2 :: v1 :: v0 :: st) σ Q ↔ (dx_ct st ≤ 8 ∧ dx_ci (tb_K L xs) σ v0 = some 9) ∧ dx_M (tb_Z L xs) d 120 [v0, v1, v2, v3] σ (wK (tb_Z L xs) d 108 170 lv st Q) := c_callv (av := [v1, v2, v3]) (hz_108.trans rfl)
theorem w_108_170 : dx_W (tb_Z L xs) d 108 170 lv st σ Q ↔ wI (dx_lk lv 1) (fun y => dx_W (tb_Z L xs) d 108 173 (dx_s1 lv 1 (.int (y + 1))) st σ Q) := r_iincv (k := 1) (n := 1) (hz_108.trans rfl) (show 1 < tb_l 108 by decide) (by decide)
theorem w_108_173 : dx_W (tb_Z L xs) d 108 173 lv st σ Q ↔ dx_W (tb_Z L xs) d 108 55 lv st σ Q := r_goto (off := (-118)) (t := 55) (hz_108.trans rfl) (by decide)
theorem w_108_176 : dx_W (tb_Z L xs) d 108 176 lv st σ Q ↔ wR (dx_lk lv 0) (fun y => dx_W (tb_Z L xs) d 108 177 lv (y :: st) σ Q) := r_aload_n (k := 0) (hz_108.trans rfl)
theorem w_108_177 : dx_W (tb_Z L xs) d 108 177 lv st σ Q ↔ dx_W (tb_Z L xs) d 108 179 lv (.int 15 :: st) σ Q := r_bipush (n := 15) (hz_108.trans rfl)
theorem w_108_179 : dx_W (tb_Z L xs) d 108 179 lv st σ Q ↔ dx_W (tb_Z L xs) d 108 180 lv (.int 0 :: st) σ Q := r_iconst (n := 0) (hz_108.trans rfl)
theorem w_108_180 : dx_W (tb_Z L xs) d 108 180 lv st σ Q ↔ dx_W (tb_Z L xs) d 108 181 lv (.int 0 :: st) σ Q := r_iconst (n := 0) (hz_108.trans rfl)
theorem w_108_181 {v0 v1 v2 v3 : Value}  : dx_W (tb_Z L xs) d 108 181 lv (v3 :: v2 :: v1 :: v0 :: st) σ Q ↔ (dx_ct st ≤ 8 ∧ dx_ci (tb_K L xs) σ v0 = some 9) ∧ dx_M (tb_Z L xs) d 114 [v0, v1, v2, v3] σ (wK (tb_Z L xs) d 108 184 lv st Q) := c_callv (av := [v1, v2, v3]) (hz_108.trans rfl)
theorem w_108_184 : dx_W (tb_Z L xs) d 108 184 lv [] σ Q ↔ Q (.inl none) σ := r_return (hz_108.trans rfl) rfl
theorem hz_109 {pc : Nat} : (tb_Z L xs).1 109 pc = dx_at tb_m109 pc := rfl
theorem w_109_0 : dx_W (tb_Z L xs) d 109 0 lv st σ Q ↔ wR (dx_lk lv 0) (fun y => dx_W (tb_Z L xs) d 109 1 lv (y :: st) σ Q) := r_aload_n (k := 0) (hz_109.trans rfl)
theorem w_109_1 {w : Value} : dx_W (tb_Z L xs) d 109 1 lv (w :: st) σ Q ↔ wO (dx_gf (tb_K L xs) σ w 9 17) (fun y => dx_W (tb_Z L xs) d 109 4 lv (y :: st) σ Q) := r_getfield (hz_109.trans rfl)
theorem w_109_4 : dx_W (tb_Z L xs) d 109 4 lv st σ Q ↔ wR (dx_lk lv 0) (fun y => dx_W (tb_Z L xs) d 109 5 lv (y :: st) σ Q) := r_aload_n (k := 0) (hz_109.trans rfl)
theorem w_109_5 {w : Value} : dx_W (tb_Z L xs) d 109 5 lv (w :: st) σ Q ↔ wO (dx_gf (tb_K L xs) σ w 9 20) (fun y => dx_W (tb_Z L xs) d 109 8 lv (y :: st) σ Q) := r_getfield (hz_109.trans rfl)
theorem w_109_8 : dx_W (tb_Z L xs) d 109 8 lv st σ Q ↔ wI (dx_lk lv 1) (fun y => dx_W (tb_Z L xs) d 109 9 lv (.int y :: st) σ Q) := r_iload_n (k := 1) (hz_109.trans rfl)
theorem w_109_9 {w : Value} {y : Int32} {u : Int32} : dx_W (tb_Z L xs) d 109 9 lv (.int u :: .int y :: w :: st) σ Q ↔ wO (dx_pi σ 0 w y u) (fun σ1 => dx_W (tb_Z L xs) d 109 10 lv st σ1 Q) := r_iastore (hz_109.trans rfl)
theorem w_109_10 : dx_W (tb_Z L xs) d 109 10 lv st σ Q ↔ wR (dx_lk lv 0) (fun y => dx_W (tb_Z L xs) d 109 11 lv (y :: st) σ Q) := r_aload_n (k := 0) (hz_109.trans rfl)
theorem w_109_11 {w : Value} : dx_W (tb_Z L xs) d 109 11 lv (w :: st) σ Q ↔ wO (dx_gf (tb_K L xs) σ w 9 18) (fun y => dx_W (tb_Z L xs) d 109 14 lv (y :: st) σ Q) := r_getfield (hz_109.trans rfl)
theorem w_109_14 : dx_W (tb_Z L xs) d 109 14 lv st σ Q ↔ wR (dx_lk lv 0) (fun y => dx_W (tb_Z L xs) d 109 15 lv (y :: st) σ Q) := r_aload_n (k := 0) (hz_109.trans rfl)
theorem w_109_15 {w : Value} : dx_W (tb_Z L xs) d 109 15 lv (w :: st) σ Q ↔ wO (dx_gf (tb_K L xs) σ w 9 20) (fun y => dx_W (tb_Z L xs) d 109 18 lv (y :: st) σ Q) := r_getfield (hz_109.trans rfl)
theorem w_109_18 : dx_W (tb_Z L xs) d 109 18 lv st σ Q ↔ wI (dx_lk lv 2) (fun y => dx_W (tb_Z L xs) d 109 19 lv (.int y :: st) σ Q) := r_iload_n (k := 2) (hz_109.trans rfl)
theorem w_109_19 {w : Value} {y : Int32} {u : Int32} : dx_W (tb_Z L xs) d 109 19 lv (.int u :: .int y :: w :: st) σ Q ↔ wO (dx_pi σ 0 w y u) (fun σ1 => dx_W (tb_Z L xs) d 109 20 lv st σ1 Q) := r_iastore (hz_109.trans rfl)
theorem w_109_20 : dx_W (tb_Z L xs) d 109 20 lv st σ Q ↔ wR (dx_lk lv 0) (fun y => dx_W (tb_Z L xs) d 109 21 lv (y :: st) σ Q) := r_aload_n (k := 0) (hz_109.trans rfl)
theorem w_109_21 {w : Value} : dx_W (tb_Z L xs) d 109 21 lv (w :: st) σ Q ↔ wO (dx_gf (tb_K L xs) σ w 9 19) (fun y => dx_W (tb_Z L xs) d 109 24 lv (y :: st) σ Q) := r_getfield (hz_109.trans rfl)
theorem w_109_24 : dx_W (tb_Z L xs) d 109 24 lv st σ Q ↔ wR (dx_lk lv 0) (fun y => dx_W (tb_Z L xs) d 109 25 lv (y :: st) σ Q) := r_aload_n (k := 0) (hz_109.trans rfl)
theorem w_109_25 {w : Value} : dx_W (tb_Z L xs) d 109 25 lv (w :: st) σ Q ↔ wO (dx_gf (tb_K L xs) σ w 9 20) (fun y => dx_W (tb_Z L xs) d 109 28 lv (y :: st) σ Q) := r_getfield (hz_109.trans rfl)
theorem w_109_28 : dx_W (tb_Z L xs) d 109 28 lv st σ Q ↔ wI (dx_lk lv 3) (fun y => dx_W (tb_Z L xs) d 109 29 lv (.int y :: st) σ Q) := r_iload_n (k := 3) (hz_109.trans rfl)
theorem w_109_29 {w : Value} {y : Int32} {u : Int32} : dx_W (tb_Z L xs) d 109 29 lv (.int u :: .int y :: w :: st) σ Q ↔ wO (dx_pi σ 0 w y u) (fun σ1 => dx_W (tb_Z L xs) d 109 30 lv st σ1 Q) := r_iastore (hz_109.trans rfl)
theorem w_109_30 : dx_W (tb_Z L xs) d 109 30 lv st σ Q ↔ wR (dx_lk lv 0) (fun y => dx_W (tb_Z L xs) d 109 31 lv (y :: st) σ Q) := r_aload_n (k := 0) (hz_109.trans rfl)
theorem w_109_31_int {x : Int32} : dx_W (tb_Z L xs) d 109 31 lv (.int x :: st) σ Q ↔ dx_W (tb_Z L xs) d 109 32 lv (.int x :: .int x :: st) σ Q := r_dup_int (hz_109.trans rfl)
theorem w_109_31_ref {x : Nat} : dx_W (tb_Z L xs) d 109 31 lv (.ref x :: st) σ Q ↔ dx_W (tb_Z L xs) d 109 32 lv (.ref x :: .ref x :: st) σ Q := r_dup_ref (hz_109.trans rfl)
theorem w_109_31_retAddr {x : Nat} : dx_W (tb_Z L xs) d 109 31 lv (.retAddr x :: st) σ Q ↔ dx_W (tb_Z L xs) d 109 32 lv (.retAddr x :: .retAddr x :: st) σ Q := r_dup_retAddr (hz_109.trans rfl)
theorem w_109_32 {w : Value} : dx_W (tb_Z L xs) d 109 32 lv (w :: st) σ Q ↔ wO (dx_gf (tb_K L xs) σ w 9 20) (fun y => dx_W (tb_Z L xs) d 109 35 lv (y :: st) σ Q) := r_getfield (hz_109.trans rfl)
theorem w_109_35 : dx_W (tb_Z L xs) d 109 35 lv st σ Q ↔ dx_W (tb_Z L xs) d 109 36 lv (.int 1 :: st) σ Q := r_iconst (n := 1) (hz_109.trans rfl)
theorem w_109_36 {x y : Int32} : dx_W (tb_Z L xs) d 109 36 lv (.int y :: .int x :: st) σ Q ↔ dx_W (tb_Z L xs) d 109 37 lv (.int (x + y) :: st) σ Q := r_iadd (hz_109.trans rfl)
theorem w_109_37 {u w : Value} : dx_W (tb_Z L xs) d 109 37 lv (u :: w :: st) σ Q ↔ wO (dx_pf σ w 9 20 0 u) (fun σ1 => dx_W (tb_Z L xs) d 109 40 lv st σ1 Q) := r_putfield (f := 0) (hz_109.trans rfl)
theorem w_109_40 : dx_W (tb_Z L xs) d 109 40 lv [] σ Q ↔ Q (.inl none) σ := r_return (hz_109.trans rfl) rfl
theorem hz_110 {pc : Nat} : (tb_Z L xs).1 110 pc = dx_at tb_m110 pc := rfl
theorem w_110_0 : dx_W (tb_Z L xs) d 110 0 lv st σ Q ↔ wI (dx_lk lv 1) (fun y => dx_W (tb_Z L xs) d 110 1 lv (.int y :: st) σ Q) := r_iload_n (k := 1) (hz_110.trans rfl)
theorem w_110_1 : dx_W (tb_Z L xs) d 110 1 lv st σ Q ↔ dx_W (tb_Z L xs) d 110 3 lv (.int 6 :: st) σ Q := r_bipush (n := 6) (hz_110.trans rfl)
theorem w_110_3 {x y : Int32} : dx_W (tb_Z L xs) d 110 3 lv (.int y :: .int x :: st) σ Q ↔ (if ¬ x = y then dx_W (tb_Z L xs) d 110 11 lv st σ Q else dx_W (tb_Z L xs) d 110 6 lv st σ Q) := r_ic_ne (off := 8) (t := 11) (hz_110.trans rfl) (by decide)
theorem w_110_6 : dx_W (tb_Z L xs) d 110 6 lv st σ Q ↔ wR (dx_lk lv 0) (fun y => dx_W (tb_Z L xs) d 110 7 lv (y :: st) σ Q) := r_aload_n (k := 0) (hz_110.trans rfl)
theorem w_110_7 {v0 : Value}  : dx_W (tb_Z L xs) d 110 7 lv (v0 :: st) σ Q ↔ (dx_ct st ≤ 8 ∧ dx_ci (tb_K L xs) σ v0 = some 9) ∧ dx_M (tb_Z L xs) d 111 [v0] σ (wK (tb_Z L xs) d 110 10 lv st Q) := c_callv (av := []) (hz_110.trans rfl)
theorem w_110_10 : dx_W (tb_Z L xs) d 110 10 lv [] σ Q ↔ Q (.inl none) σ := r_return (hz_110.trans rfl) rfl
theorem w_110_11 : dx_W (tb_Z L xs) d 110 11 lv st σ Q ↔ wI (dx_lk lv 1) (fun y => dx_W (tb_Z L xs) d 110 12 lv (.int y :: st) σ Q) := r_iload_n (k := 1) (hz_110.trans rfl)
theorem w_110_12 : dx_W (tb_Z L xs) d 110 12 lv st σ Q ↔ dx_W (tb_Z L xs) d 110 13 lv (.int 5 :: st) σ Q := r_iconst (n := 5) (hz_110.trans rfl)
theorem w_110_13 {x y : Int32} : dx_W (tb_Z L xs) d 110 13 lv (.int y :: .int x :: st) σ Q ↔ (if ¬ x = y then dx_W (tb_Z L xs) d 110 27 lv st σ Q else dx_W (tb_Z L xs) d 110 16 lv st σ Q) := r_ic_ne (off := 14) (t := 27) (hz_110.trans rfl) (by decide)
theorem w_110_16 : dx_W (tb_Z L xs) d 110 16 lv st σ Q ↔ wR (dx_lk lv 0) (fun y => dx_W (tb_Z L xs) d 110 17 lv (y :: st) σ Q) := r_aload_n (k := 0) (hz_110.trans rfl)
theorem w_110_17_int {x : Int32} : dx_W (tb_Z L xs) d 110 17 lv (.int x :: st) σ Q ↔ dx_W (tb_Z L xs) d 110 18 lv (.int x :: .int x :: st) σ Q := r_dup_int (hz_110.trans rfl)
theorem w_110_17_ref {x : Nat} : dx_W (tb_Z L xs) d 110 17 lv (.ref x :: st) σ Q ↔ dx_W (tb_Z L xs) d 110 18 lv (.ref x :: .ref x :: st) σ Q := r_dup_ref (hz_110.trans rfl)
theorem w_110_17_retAddr {x : Nat} : dx_W (tb_Z L xs) d 110 17 lv (.retAddr x :: st) σ Q ↔ dx_W (tb_Z L xs) d 110 18 lv (.retAddr x :: .retAddr x :: st) σ Q := r_dup_retAddr (hz_110.trans rfl)
theorem w_110_18 {w : Value} : dx_W (tb_Z L xs) d 110 18 lv (w :: st) σ Q ↔ wO (dx_gf (tb_K L xs) σ w 9 21) (fun y => dx_W (tb_Z L xs) d 110 21 lv (y :: st) σ Q) := r_getfield (hz_110.trans rfl)
theorem w_110_21 : dx_W (tb_Z L xs) d 110 21 lv st σ Q ↔ dx_W (tb_Z L xs) d 110 22 lv (.int 1 :: st) σ Q := r_iconst (n := 1) (hz_110.trans rfl)
theorem w_110_22 {x y : Int32} : dx_W (tb_Z L xs) d 110 22 lv (.int y :: .int x :: st) σ Q ↔ dx_W (tb_Z L xs) d 110 23 lv (.int (x - y) :: st) σ Q := r_isub (hz_110.trans rfl)
theorem w_110_23 {u w : Value} : dx_W (tb_Z L xs) d 110 23 lv (u :: w :: st) σ Q ↔ wO (dx_pf σ w 9 21 0 u) (fun σ1 => dx_W (tb_Z L xs) d 110 26 lv st σ1 Q) := r_putfield (f := 0) (hz_110.trans rfl)
theorem w_110_26 : dx_W (tb_Z L xs) d 110 26 lv [] σ Q ↔ Q (.inl none) σ := r_return (hz_110.trans rfl) rfl
theorem w_110_27 : dx_W (tb_Z L xs) d 110 27 lv st σ Q ↔ wI (dx_lk lv 1) (fun y => dx_W (tb_Z L xs) d 110 28 lv (.int y :: st) σ Q) := r_iload_n (k := 1) (hz_110.trans rfl)
theorem w_110_28 : dx_W (tb_Z L xs) d 110 28 lv st σ Q ↔ dx_W (tb_Z L xs) d 110 29 lv (.int 3 :: st) σ Q := r_iconst (n := 3) (hz_110.trans rfl)
theorem w_110_29 {x y : Int32} : dx_W (tb_Z L xs) d 110 29 lv (.int y :: .int x :: st) σ Q ↔ (if x = y then dx_W (tb_Z L xs) d 110 37 lv st σ Q else dx_W (tb_Z L xs) d 110 32 lv st σ Q) := r_ic_eq (off := 8) (t := 37) (hz_110.trans rfl) (by decide)
theorem w_110_32 : dx_W (tb_Z L xs) d 110 32 lv st σ Q ↔ wI (dx_lk lv 1) (fun y => dx_W (tb_Z L xs) d 110 33 lv (.int y :: st) σ Q) := r_iload_n (k := 1) (hz_110.trans rfl)
theorem w_110_33 : dx_W (tb_Z L xs) d 110 33 lv st σ Q ↔ dx_W (tb_Z L xs) d 110 34 lv (.int 4 :: st) σ Q := r_iconst (n := 4) (hz_110.trans rfl)
theorem w_110_34 {x y : Int32} : dx_W (tb_Z L xs) d 110 34 lv (.int y :: .int x :: st) σ Q ↔ (if ¬ x = y then dx_W (tb_Z L xs) d 110 41 lv st σ Q else dx_W (tb_Z L xs) d 110 37 lv st σ Q) := r_ic_ne (off := 7) (t := 41) (hz_110.trans rfl) (by decide)
theorem w_110_37 : dx_W (tb_Z L xs) d 110 37 lv st σ Q ↔ dx_W (tb_Z L xs) d 110 38 lv (.int 1 :: st) σ Q := r_iconst (n := 1) (hz_110.trans rfl)
theorem w_110_38 : dx_W (tb_Z L xs) d 110 38 lv st σ Q ↔ dx_W (tb_Z L xs) d 110 42 lv st σ Q := r_goto (off := 4) (t := 42) (hz_110.trans rfl) (by decide)
theorem w_110_41 : dx_W (tb_Z L xs) d 110 41 lv st σ Q ↔ dx_W (tb_Z L xs) d 110 42 lv (.int 0 :: st) σ Q := r_iconst (n := 0) (hz_110.trans rfl)
theorem w_110_42 {x : Int32} : dx_W (tb_Z L xs) d 110 42 lv (.int x :: st) σ Q ↔ dx_W (tb_Z L xs) d 110 43 (dx_s1 lv 2 (.int x)) st σ Q := r_istore_n (k := 2) (hz_110.trans rfl) (show 2 < tb_l 110 by decide)
theorem w_110_43 : dx_W (tb_Z L xs) d 110 43 lv st σ Q ↔ wI (dx_lk lv 2) (fun y => dx_W (tb_Z L xs) d 110 44 lv (.int y :: st) σ Q) := r_iload_n (k := 2) (hz_110.trans rfl)
theorem w_110_44 {x : Int32} : dx_W (tb_Z L xs) d 110 44 lv (.int x :: st) σ Q ↔ (if x = 0 then dx_W (tb_Z L xs) d 110 72 lv st σ Q else dx_W (tb_Z L xs) d 110 47 lv st σ Q) := r_if_eq (off := 28) (t := 72) (hz_110.trans rfl) (by decide)
theorem w_110_47 : dx_W (tb_Z L xs) d 110 47 lv st σ Q ↔ wR (dx_lk lv 0) (fun y => dx_W (tb_Z L xs) d 110 48 lv (y :: st) σ Q) := r_aload_n (k := 0) (hz_110.trans rfl)
theorem w_110_48 {w : Value} : dx_W (tb_Z L xs) d 110 48 lv (w :: st) σ Q ↔ wO (dx_gf (tb_K L xs) σ w 9 5) (fun y => dx_W (tb_Z L xs) d 110 51 lv (y :: st) σ Q) := r_getfield (hz_110.trans rfl)
theorem w_110_51 : dx_W (tb_Z L xs) d 110 51 lv st σ Q ↔ wR (dx_lk lv 0) (fun y => dx_W (tb_Z L xs) d 110 52 lv (y :: st) σ Q) := r_aload_n (k := 0) (hz_110.trans rfl)
theorem w_110_52 {w : Value} : dx_W (tb_Z L xs) d 110 52 lv (w :: st) σ Q ↔ wO (dx_gf (tb_K L xs) σ w 9 9) (fun y => dx_W (tb_Z L xs) d 110 55 lv (y :: st) σ Q) := r_getfield (hz_110.trans rfl)
theorem w_110_55 {w : Value} {y : Int32} : dx_W (tb_Z L xs) d 110 55 lv (.int y :: w :: st) σ Q ↔ wO (dx_ei (tb_K L xs) σ 0 w y) (fun u => dx_W (tb_Z L xs) d 110 56 lv (.int u :: st) σ Q) := r_iaload (hz_110.trans rfl)
theorem w_110_56 : dx_W (tb_Z L xs) d 110 56 lv st σ Q ↔ dx_W (tb_Z L xs) d 110 58 lv (.int 125 :: st) σ Q := r_bipush (n := 125) (hz_110.trans rfl)
theorem w_110_58 {x y : Int32} : dx_W (tb_Z L xs) d 110 58 lv (.int y :: .int x :: st) σ Q ↔ (if ¬ x = y then dx_W (tb_Z L xs) d 110 72 lv st σ Q else dx_W (tb_Z L xs) d 110 61 lv st σ Q) := r_ic_ne (off := 14) (t := 72) (hz_110.trans rfl) (by decide)
theorem w_110_61 : dx_W (tb_Z L xs) d 110 61 lv st σ Q ↔ wR (dx_lk lv 0) (fun y => dx_W (tb_Z L xs) d 110 62 lv (y :: st) σ Q) := r_aload_n (k := 0) (hz_110.trans rfl)
theorem w_110_62_int {x : Int32} : dx_W (tb_Z L xs) d 110 62 lv (.int x :: st) σ Q ↔ dx_W (tb_Z L xs) d 110 63 lv (.int x :: .int x :: st) σ Q := r_dup_int (hz_110.trans rfl)
theorem w_110_62_ref {x : Nat} : dx_W (tb_Z L xs) d 110 62 lv (.ref x :: st) σ Q ↔ dx_W (tb_Z L xs) d 110 63 lv (.ref x :: .ref x :: st) σ Q := r_dup_ref (hz_110.trans rfl)
theorem w_110_62_retAddr {x : Nat} : dx_W (tb_Z L xs) d 110 62 lv (.retAddr x :: st) σ Q ↔ dx_W (tb_Z L xs) d 110 63 lv (.retAddr x :: .retAddr x :: st) σ Q := r_dup_retAddr (hz_110.trans rfl)
theorem w_110_63 {w : Value} : dx_W (tb_Z L xs) d 110 63 lv (w :: st) σ Q ↔ wO (dx_gf (tb_K L xs) σ w 9 9) (fun y => dx_W (tb_Z L xs) d 110 66 lv (y :: st) σ Q) := r_getfield (hz_110.trans rfl)
theorem w_110_66 : dx_W (tb_Z L xs) d 110 66 lv st σ Q ↔ dx_W (tb_Z L xs) d 110 67 lv (.int 1 :: st) σ Q := r_iconst (n := 1) (hz_110.trans rfl)
theorem w_110_67 {x y : Int32} : dx_W (tb_Z L xs) d 110 67 lv (.int y :: .int x :: st) σ Q ↔ dx_W (tb_Z L xs) d 110 68 lv (.int (x + y) :: st) σ Q := r_iadd (hz_110.trans rfl)
theorem w_110_68 {u w : Value} : dx_W (tb_Z L xs) d 110 68 lv (u :: w :: st) σ Q ↔ wO (dx_pf σ w 9 9 0 u) (fun σ1 => dx_W (tb_Z L xs) d 110 71 lv st σ1 Q) := r_putfield (f := 0) (hz_110.trans rfl)
theorem w_110_71 : dx_W (tb_Z L xs) d 110 71 lv [] σ Q ↔ Q (.inl none) σ := r_return (hz_110.trans rfl) rfl
theorem w_110_72 : dx_W (tb_Z L xs) d 110 72 lv st σ Q ↔ wI (dx_lk lv 2) (fun y => dx_W (tb_Z L xs) d 110 73 lv (.int y :: st) σ Q) := r_iload_n (k := 2) (hz_110.trans rfl)
theorem w_110_73 {x : Int32} : dx_W (tb_Z L xs) d 110 73 lv (.int x :: st) σ Q ↔ (if ¬ x = 0 then dx_W (tb_Z L xs) d 110 88 lv st σ Q else dx_W (tb_Z L xs) d 110 76 lv st σ Q) := r_if_ne (off := 15) (t := 88) (hz_110.trans rfl) (by decide)
theorem w_110_76 : dx_W (tb_Z L xs) d 110 76 lv st σ Q ↔ wR (dx_lk lv 0) (fun y => dx_W (tb_Z L xs) d 110 77 lv (y :: st) σ Q) := r_aload_n (k := 0) (hz_110.trans rfl)
theorem w_110_77 {w : Value} : dx_W (tb_Z L xs) d 110 77 lv (w :: st) σ Q ↔ wO (dx_gf (tb_K L xs) σ w 9 9) (fun y => dx_W (tb_Z L xs) d 110 80 lv (y :: st) σ Q) := r_getfield (hz_110.trans rfl)
theorem w_110_80 : dx_W (tb_Z L xs) d 110 80 lv st σ Q ↔ wR (dx_lk lv 0) (fun y => dx_W (tb_Z L xs) d 110 81 lv (y :: st) σ Q) := r_aload_n (k := 0) (hz_110.trans rfl)
theorem w_110_81 {w : Value} : dx_W (tb_Z L xs) d 110 81 lv (w :: st) σ Q ↔ wO (dx_gf (tb_K L xs) σ w 9 8) (fun y => dx_W (tb_Z L xs) d 110 84 lv (y :: st) σ Q) := r_getfield (hz_110.trans rfl)
theorem w_110_84 {x y : Int32} : dx_W (tb_Z L xs) d 110 84 lv (.int y :: .int x :: st) σ Q ↔ (if ¬ x = y then dx_W (tb_Z L xs) d 110 88 lv st σ Q else dx_W (tb_Z L xs) d 110 87 lv st σ Q) := r_ic_ne (off := 4) (t := 88) (hz_110.trans rfl) (by decide)
theorem w_110_87 : dx_W (tb_Z L xs) d 110 87 lv [] σ Q ↔ Q (.inl none) σ := r_return (hz_110.trans rfl) rfl
theorem w_110_88 : dx_W (tb_Z L xs) d 110 88 lv st σ Q ↔ wI (dx_lk lv 1) (fun y => dx_W (tb_Z L xs) d 110 89 lv (.int y :: st) σ Q) := r_iload_n (k := 1) (hz_110.trans rfl)
theorem w_110_89 : dx_W (tb_Z L xs) d 110 89 lv st σ Q ↔ dx_W (tb_Z L xs) d 110 90 lv (.int 2 :: st) σ Q := r_iconst (n := 2) (hz_110.trans rfl)
theorem w_110_90 {x y : Int32} : dx_W (tb_Z L xs) d 110 90 lv (.int y :: .int x :: st) σ Q ↔ (if x = y then dx_W (tb_Z L xs) d 110 98 lv st σ Q else dx_W (tb_Z L xs) d 110 93 lv st σ Q) := r_ic_eq (off := 8) (t := 98) (hz_110.trans rfl) (by decide)
theorem w_110_93 : dx_W (tb_Z L xs) d 110 93 lv st σ Q ↔ wI (dx_lk lv 1) (fun y => dx_W (tb_Z L xs) d 110 94 lv (.int y :: st) σ Q) := r_iload_n (k := 1) (hz_110.trans rfl)
theorem w_110_94 : dx_W (tb_Z L xs) d 110 94 lv st σ Q ↔ dx_W (tb_Z L xs) d 110 95 lv (.int 4 :: st) σ Q := r_iconst (n := 4) (hz_110.trans rfl)
theorem w_110_95 {x y : Int32} : dx_W (tb_Z L xs) d 110 95 lv (.int y :: .int x :: st) σ Q ↔ (if ¬ x = y then dx_W (tb_Z L xs) d 110 120 lv st σ Q else dx_W (tb_Z L xs) d 110 98 lv st σ Q) := r_ic_ne (off := 25) (t := 120) (hz_110.trans rfl) (by decide)
theorem w_110_98 : dx_W (tb_Z L xs) d 110 98 lv st σ Q ↔ wR (dx_lk lv 0) (fun y => dx_W (tb_Z L xs) d 110 99 lv (y :: st) σ Q) := r_aload_n (k := 0) (hz_110.trans rfl)
theorem w_110_99 : dx_W (tb_Z L xs) d 110 99 lv st σ Q ↔ dx_W (tb_Z L xs) d 110 101 lv (.int 59 :: st) σ Q := r_bipush (n := 59) (hz_110.trans rfl)
theorem w_110_101 {v0 v1 : Value}  : dx_W (tb_Z L xs) d 110 101 lv (v1 :: v0 :: st) σ Q ↔ (dx_ct st ≤ 8 ∧ dx_ci (tb_K L xs) σ v0 = some 9) ∧ dx_M (tb_Z L xs) d 115 [v0, v1] σ (wK (tb_Z L xs) d 110 104 lv st Q) := c_callv (av := [v1]) (hz_110.trans rfl)
theorem w_110_104 : dx_W (tb_Z L xs) d 110 104 lv st σ Q ↔ wR (dx_lk lv 0) (fun y => dx_W (tb_Z L xs) d 110 105 lv (y :: st) σ Q) := r_aload_n (k := 0) (hz_110.trans rfl)
theorem w_110_105 : dx_W (tb_Z L xs) d 110 105 lv st σ Q ↔ wI (dx_lk lv 2) (fun y => dx_W (tb_Z L xs) d 110 106 lv (.int y :: st) σ Q) := r_iload_n (k := 2) (hz_110.trans rfl)
theorem w_110_106 {x : Int32} : dx_W (tb_Z L xs) d 110 106 lv (.int x :: st) σ Q ↔ (if x = 0 then dx_W (tb_Z L xs) d 110 113 lv st σ Q else dx_W (tb_Z L xs) d 110 109 lv st σ Q) := r_if_eq (off := 7) (t := 113) (hz_110.trans rfl) (by decide)
theorem w_110_109 : dx_W (tb_Z L xs) d 110 109 lv st σ Q ↔ dx_W (tb_Z L xs) d 110 110 lv (.int 3 :: st) σ Q := r_iconst (n := 3) (hz_110.trans rfl)
theorem w_110_110 : dx_W (tb_Z L xs) d 110 110 lv st σ Q ↔ dx_W (tb_Z L xs) d 110 114 lv st σ Q := r_goto (off := 4) (t := 114) (hz_110.trans rfl) (by decide)
theorem w_110_113 : dx_W (tb_Z L xs) d 110 113 lv st σ Q ↔ dx_W (tb_Z L xs) d 110 114 lv (.int 1 :: st) σ Q := r_iconst (n := 1) (hz_110.trans rfl)
theorem w_110_114 : dx_W (tb_Z L xs) d 110 114 lv st σ Q ↔ dx_W (tb_Z L xs) d 110 115 lv (.int 0 :: st) σ Q := r_iconst (n := 0) (hz_110.trans rfl)
theorem w_110_115 : dx_W (tb_Z L xs) d 110 115 lv st σ Q ↔ dx_W (tb_Z L xs) d 110 116 lv (.int 0 :: st) σ Q := r_iconst (n := 0) (hz_110.trans rfl)
theorem w_110_116 {v0 v1 v2 v3 : Value}  : dx_W (tb_Z L xs) d 110 116 lv (v3 :: v2 :: v1 :: v0 :: st) σ Q ↔ (dx_ct st ≤ 8 ∧ dx_ci (tb_K L xs) σ v0 = some 9) ∧ dx_M (tb_Z L xs) d 109 [v0, v1, v2, v3] σ (wK (tb_Z L xs) d 110 119 lv st Q) := c_callv (av := [v1, v2, v3]) (hz_110.trans rfl)
theorem w_110_119 : dx_W (tb_Z L xs) d 110 119 lv [] σ Q ↔ Q (.inl none) σ := r_return (hz_110.trans rfl) rfl
theorem w_110_120 : dx_W (tb_Z L xs) d 110 120 lv st σ Q ↔ wR (dx_lk lv 0) (fun y => dx_W (tb_Z L xs) d 110 121 lv (y :: st) σ Q) := r_aload_n (k := 0) (hz_110.trans rfl)
theorem w_110_121 : dx_W (tb_Z L xs) d 110 121 lv st σ Q ↔ dx_W (tb_Z L xs) d 110 123 lv (.int 59 :: st) σ Q := r_bipush (n := 59) (hz_110.trans rfl)
theorem w_110_123 {v0 v1 : Value}  : dx_W (tb_Z L xs) d 110 123 lv (v1 :: v0 :: st) σ Q ↔ (dx_ct st ≤ 8 ∧ dx_ci (tb_K L xs) σ v0 = some 9) ∧ dx_M (tb_Z L xs) d 112 [v0, v1] σ (wK (tb_Z L xs) d 110 126 lv st Q) := c_callv (av := [v1]) (hz_110.trans rfl)
theorem w_110_126 {x : Int32} : dx_W (tb_Z L xs) d 110 126 lv (.int x :: st) σ Q ↔ (if x = 0 then dx_W (tb_Z L xs) d 110 137 lv st σ Q else dx_W (tb_Z L xs) d 110 129 lv st σ Q) := r_if_eq (off := 11) (t := 137) (hz_110.trans rfl) (by decide)
theorem w_110_129 : dx_W (tb_Z L xs) d 110 129 lv st σ Q ↔ wR (dx_lk lv 0) (fun y => dx_W (tb_Z L xs) d 110 130 lv (y :: st) σ Q) := r_aload_n (k := 0) (hz_110.trans rfl)
theorem w_110_130 : dx_W (tb_Z L xs) d 110 130 lv st σ Q ↔ wI (dx_lk lv 1) (fun y => dx_W (tb_Z L xs) d 110 131 lv (.int y :: st) σ Q) := r_iload_n (k := 1) (hz_110.trans rfl)
theorem w_110_131 : dx_W (tb_Z L xs) d 110 131 lv st σ Q ↔ dx_W (tb_Z L xs) d 110 132 lv (.int 0 :: st) σ Q := r_iconst (n := 0) (hz_110.trans rfl)
theorem w_110_132 : dx_W (tb_Z L xs) d 110 132 lv st σ Q ↔ dx_W (tb_Z L xs) d 110 133 lv (.int 0 :: st) σ Q := r_iconst (n := 0) (hz_110.trans rfl)
theorem w_110_133 {v0 v1 v2 v3 : Value}  : dx_W (tb_Z L xs) d 110 133 lv (v3 :: v2 :: v1 :: v0 :: st) σ Q ↔ (dx_ct st ≤ 8 ∧ dx_ci (tb_K L xs) σ v0 = some 9) ∧ dx_M (tb_Z L xs) d 109 [v0, v1, v2, v3] σ (wK (tb_Z L xs) d 110 136 lv st Q) := c_callv (av := [v1, v2, v3]) (hz_110.trans rfl)
theorem w_110_136 : dx_W (tb_Z L xs) d 110 136 lv [] σ Q ↔ Q (.inl none) σ := r_return (hz_110.trans rfl) rfl
theorem w_110_137 : dx_W (tb_Z L xs) d 110 137 lv st σ Q ↔ wR (dx_lk lv 0) (fun y => dx_W (tb_Z L xs) d 110 138 lv (y :: st) σ Q) := r_aload_n (k := 0) (hz_110.trans rfl)
theorem w_110_138 : dx_W (tb_Z L xs) d 110 138 lv st σ Q ↔ wI (dx_lk lv 2) (fun y => dx_W (tb_Z L xs) d 110 139 lv (.int y :: st) σ Q) := r_iload_n (k := 2) (hz_110.trans rfl)
theorem w_110_139 {x : Int32} : dx_W (tb_Z L xs) d 110 139 lv (.int x :: st) σ Q ↔ (if x = 0 then dx_W (tb_Z L xs) d 110 146 lv st σ Q else dx_W (tb_Z L xs) d 110 142 lv st σ Q) := r_if_eq (off := 7) (t := 146) (hz_110.trans rfl) (by decide)
theorem w_110_142 : dx_W (tb_Z L xs) d 110 142 lv st σ Q ↔ dx_W (tb_Z L xs) d 110 143 lv (.int 4 :: st) σ Q := r_iconst (n := 4) (hz_110.trans rfl)
theorem w_110_143 : dx_W (tb_Z L xs) d 110 143 lv st σ Q ↔ dx_W (tb_Z L xs) d 110 147 lv st σ Q := r_goto (off := 4) (t := 147) (hz_110.trans rfl) (by decide)
theorem w_110_146 : dx_W (tb_Z L xs) d 110 146 lv st σ Q ↔ dx_W (tb_Z L xs) d 110 147 lv (.int 2 :: st) σ Q := r_iconst (n := 2) (hz_110.trans rfl)
theorem w_110_147 : dx_W (tb_Z L xs) d 110 147 lv st σ Q ↔ dx_W (tb_Z L xs) d 110 148 lv (.int 0 :: st) σ Q := r_iconst (n := 0) (hz_110.trans rfl)
theorem w_110_148 : dx_W (tb_Z L xs) d 110 148 lv st σ Q ↔ dx_W (tb_Z L xs) d 110 149 lv (.int 0 :: st) σ Q := r_iconst (n := 0) (hz_110.trans rfl)
theorem w_110_149 {v0 v1 v2 v3 : Value}  : dx_W (tb_Z L xs) d 110 149 lv (v3 :: v2 :: v1 :: v0 :: st) σ Q ↔ (dx_ct st ≤ 8 ∧ dx_ci (tb_K L xs) σ v0 = some 9) ∧ dx_M (tb_Z L xs) d 109 [v0, v1, v2, v3] σ (wK (tb_Z L xs) d 110 152 lv st Q) := c_callv (av := [v1, v2, v3]) (hz_110.trans rfl)
theorem w_110_152 : dx_W (tb_Z L xs) d 110 152 lv st σ Q ↔ wI (dx_lk lv 2) (fun y => dx_W (tb_Z L xs) d 110 153 lv (.int y :: st) σ Q) := r_iload_n (k := 2) (hz_110.trans rfl)
theorem w_110_153 {x : Int32} : dx_W (tb_Z L xs) d 110 153 lv (.int x :: st) σ Q ↔ (if ¬ x = 0 then dx_W (tb_Z L xs) d 110 177 lv st σ Q else dx_W (tb_Z L xs) d 110 156 lv st σ Q) := r_if_ne (off := 24) (t := 177) (hz_110.trans rfl) (by decide)
theorem w_110_156 : dx_W (tb_Z L xs) d 110 156 lv st σ Q ↔ wR (dx_lk lv 0) (fun y => dx_W (tb_Z L xs) d 110 157 lv (y :: st) σ Q) := r_aload_n (k := 0) (hz_110.trans rfl)
theorem w_110_157 {w : Value} : dx_W (tb_Z L xs) d 110 157 lv (w :: st) σ Q ↔ wO (dx_gf (tb_K L xs) σ w 9 5) (fun y => dx_W (tb_Z L xs) d 110 160 lv (y :: st) σ Q) := r_getfield (hz_110.trans rfl)
theorem w_110_160 : dx_W (tb_Z L xs) d 110 160 lv st σ Q ↔ wR (dx_lk lv 0) (fun y => dx_W (tb_Z L xs) d 110 161 lv (y :: st) σ Q) := r_aload_n (k := 0) (hz_110.trans rfl)
theorem w_110_161 {w : Value} : dx_W (tb_Z L xs) d 110 161 lv (w :: st) σ Q ↔ wO (dx_gf (tb_K L xs) σ w 9 9) (fun y => dx_W (tb_Z L xs) d 110 164 lv (y :: st) σ Q) := r_getfield (hz_110.trans rfl)
theorem w_110_164 {w : Value} {y : Int32} : dx_W (tb_Z L xs) d 110 164 lv (.int y :: w :: st) σ Q ↔ wO (dx_ei (tb_K L xs) σ 0 w y) (fun u => dx_W (tb_Z L xs) d 110 165 lv (.int u :: st) σ Q) := r_iaload (hz_110.trans rfl)
theorem w_110_165 : dx_W (tb_Z L xs) d 110 165 lv st σ Q ↔ dx_W (tb_Z L xs) d 110 167 lv (.int 100 :: st) σ Q := r_bipush (n := 100) (hz_110.trans rfl)
theorem w_110_167 {x y : Int32} : dx_W (tb_Z L xs) d 110 167 lv (.int y :: .int x :: st) σ Q ↔ (if ¬ x = y then dx_W (tb_Z L xs) d 110 177 lv st σ Q else dx_W (tb_Z L xs) d 110 170 lv st σ Q) := r_ic_ne (off := 10) (t := 177) (hz_110.trans rfl) (by decide)
theorem w_110_170 : dx_W (tb_Z L xs) d 110 170 lv st σ Q ↔ wR (dx_lk lv 0) (fun y => dx_W (tb_Z L xs) d 110 171 lv (y :: st) σ Q) := r_aload_n (k := 0) (hz_110.trans rfl)
theorem w_110_171 {v0 : Value}  : dx_W (tb_Z L xs) d 110 171 lv (v0 :: st) σ Q ↔ (dx_ct st ≤ 8 ∧ dx_ci (tb_K L xs) σ v0 = some 9) ∧ dx_M (tb_Z L xs) d 116 [v0] σ (wK (tb_Z L xs) d 110 174 lv st Q) := c_callv (av := []) (hz_110.trans rfl)
theorem w_110_174 : dx_W (tb_Z L xs) d 110 174 lv st σ Q ↔ dx_W (tb_Z L xs) d 110 185 lv st σ Q := r_goto (off := 11) (t := 185) (hz_110.trans rfl) (by decide)
theorem w_110_177 : dx_W (tb_Z L xs) d 110 177 lv st σ Q ↔ wR (dx_lk lv 0) (fun y => dx_W (tb_Z L xs) d 110 178 lv (y :: st) σ Q) := r_aload_n (k := 0) (hz_110.trans rfl)
theorem w_110_178 : dx_W (tb_Z L xs) d 110 178 lv st σ Q ↔ dx_W (tb_Z L xs) d 110 180 lv (.int 6 :: st) σ Q := r_bipush (n := 6) (hz_110.trans rfl)
theorem w_110_180 : dx_W (tb_Z L xs) d 110 180 lv st σ Q ↔ dx_W (tb_Z L xs) d 110 181 lv (.int 0 :: st) σ Q := r_iconst (n := 0) (hz_110.trans rfl)
theorem w_110_181 : dx_W (tb_Z L xs) d 110 181 lv st σ Q ↔ dx_W (tb_Z L xs) d 110 182 lv (.int 0 :: st) σ Q := r_iconst (n := 0) (hz_110.trans rfl)
theorem w_110_182 {v0 v1 v2 v3 : Value}  : dx_W (tb_Z L xs) d 110 182 lv (v3 :: v2 :: v1 :: v0 :: st) σ Q ↔ (dx_ct st ≤ 8 ∧ dx_ci (tb_K L xs) σ v0 = some 9) ∧ dx_M (tb_Z L xs) d 109 [v0, v1, v2, v3] σ (wK (tb_Z L xs) d 110 185 lv st Q) := c_callv (av := [v1, v2, v3]) (hz_110.trans rfl)
theorem w_110_185 : dx_W (tb_Z L xs) d 110 185 lv [] σ Q ↔ Q (.inl none) σ := r_return (hz_110.trans rfl) rfl
theorem hz_111 {pc : Nat} : (tb_Z L xs).1 111 pc = dx_at tb_m111 pc := rfl
theorem w_111_0 : dx_W (tb_Z L xs) d 111 0 lv st σ Q ↔ wR (dx_lk lv 0) (fun y => dx_W (tb_Z L xs) d 111 1 lv (y :: st) σ Q) := r_aload_n (k := 0) (hz_111.trans rfl)
theorem w_111_1 : dx_W (tb_Z L xs) d 111 1 lv st σ Q ↔ dx_W (tb_Z L xs) d 111 3 lv (.int 123 :: st) σ Q := r_bipush (n := 123) (hz_111.trans rfl)
theorem w_111_3 {v0 v1 : Value}  : dx_W (tb_Z L xs) d 111 3 lv (v1 :: v0 :: st) σ Q ↔ (dx_ct st ≤ 8 ∧ dx_ci (tb_K L xs) σ v0 = some 9) ∧ dx_M (tb_Z L xs) d 112 [v0, v1] σ (wK (tb_Z L xs) d 111 6 lv st Q) := c_callv (av := [v1]) (hz_111.trans rfl)
theorem w_111_6 {x : Int32} : dx_W (tb_Z L xs) d 111 6 lv (.int x :: st) σ Q ↔ (if x = 0 then dx_W (tb_Z L xs) d 111 28 lv st σ Q else dx_W (tb_Z L xs) d 111 9 lv st σ Q) := r_if_eq (off := 22) (t := 28) (hz_111.trans rfl) (by decide)
theorem w_111_9 : dx_W (tb_Z L xs) d 111 9 lv st σ Q ↔ wR (dx_lk lv 0) (fun y => dx_W (tb_Z L xs) d 111 10 lv (y :: st) σ Q) := r_aload_n (k := 0) (hz_111.trans rfl)
theorem w_111_10 {v0 : Value}  : dx_W (tb_Z L xs) d 111 10 lv (v0 :: st) σ Q ↔ (dx_ct st ≤ 8 ∧ dx_ci (tb_K L xs) σ v0 = some 9) ∧ dx_M (tb_Z L xs) d 113 [v0] σ (wK (tb_Z L xs) d 111 13 lv st Q) := c_callv (av := []) (hz_111.trans rfl)
theorem w_111_13 : dx_W (tb_Z L xs) d 111 13 lv st σ Q ↔ wR (dx_lk lv 0) (fun y => dx_W (tb_Z L xs) d 111 14 lv (y :: st) σ Q) := r_aload_n (k := 0) (hz_111.trans rfl)
theorem w_111_14 : dx_W (tb_Z L xs) d 111 14 lv st σ Q ↔ dx_W (tb_Z L xs) d 111 15 lv (.int 5 :: st) σ Q := r_iconst (n := 5) (hz_111.trans rfl)
theorem w_111_15 : dx_W (tb_Z L xs) d 111 15 lv st σ Q ↔ dx_W (tb_Z L xs) d 111 16 lv (.int 0 :: st) σ Q := r_iconst (n := 0) (hz_111.trans rfl)
theorem w_111_16 : dx_W (tb_Z L xs) d 111 16 lv st σ Q ↔ dx_W (tb_Z L xs) d 111 17 lv (.int 0 :: st) σ Q := r_iconst (n := 0) (hz_111.trans rfl)
theorem w_111_17 {v0 v1 v2 v3 : Value}  : dx_W (tb_Z L xs) d 111 17 lv (v3 :: v2 :: v1 :: v0 :: st) σ Q ↔ (dx_ct st ≤ 8 ∧ dx_ci (tb_K L xs) σ v0 = some 9) ∧ dx_M (tb_Z L xs) d 109 [v0, v1, v2, v3] σ (wK (tb_Z L xs) d 111 20 lv st Q) := c_callv (av := [v1, v2, v3]) (hz_111.trans rfl)
theorem w_111_20 : dx_W (tb_Z L xs) d 111 20 lv st σ Q ↔ wR (dx_lk lv 0) (fun y => dx_W (tb_Z L xs) d 111 21 lv (y :: st) σ Q) := r_aload_n (k := 0) (hz_111.trans rfl)
theorem w_111_21 : dx_W (tb_Z L xs) d 111 21 lv st σ Q ↔ dx_W (tb_Z L xs) d 111 22 lv (.int 3 :: st) σ Q := r_iconst (n := 3) (hz_111.trans rfl)
theorem w_111_22 : dx_W (tb_Z L xs) d 111 22 lv st σ Q ↔ dx_W (tb_Z L xs) d 111 23 lv (.int 0 :: st) σ Q := r_iconst (n := 0) (hz_111.trans rfl)
theorem w_111_23 : dx_W (tb_Z L xs) d 111 23 lv st σ Q ↔ dx_W (tb_Z L xs) d 111 24 lv (.int 0 :: st) σ Q := r_iconst (n := 0) (hz_111.trans rfl)
theorem w_111_24 {v0 v1 v2 v3 : Value}  : dx_W (tb_Z L xs) d 111 24 lv (v3 :: v2 :: v1 :: v0 :: st) σ Q ↔ (dx_ct st ≤ 8 ∧ dx_ci (tb_K L xs) σ v0 = some 9) ∧ dx_M (tb_Z L xs) d 109 [v0, v1, v2, v3] σ (wK (tb_Z L xs) d 111 27 lv st Q) := c_callv (av := [v1, v2, v3]) (hz_111.trans rfl)
theorem w_111_27 : dx_W (tb_Z L xs) d 111 27 lv [] σ Q ↔ Q (.inl none) σ := r_return (hz_111.trans rfl) rfl
theorem w_111_28 : dx_W (tb_Z L xs) d 111 28 lv st σ Q ↔ wR (dx_lk lv 0) (fun y => dx_W (tb_Z L xs) d 111 29 lv (y :: st) σ Q) := r_aload_n (k := 0) (hz_111.trans rfl)
theorem w_111_29 : dx_W (tb_Z L xs) d 111 29 lv st σ Q ↔ dx_W (tb_Z L xs) d 111 31 lv (.int 14 :: st) σ Q := r_bipush (n := 14) (hz_111.trans rfl)
theorem w_111_31 : dx_W (tb_Z L xs) d 111 31 lv st σ Q ↔ dx_W (tb_Z L xs) d 111 32 lv (.int 0 :: st) σ Q := r_iconst (n := 0) (hz_111.trans rfl)
theorem w_111_32 : dx_W (tb_Z L xs) d 111 32 lv st σ Q ↔ dx_W (tb_Z L xs) d 111 33 lv (.int 0 :: st) σ Q := r_iconst (n := 0) (hz_111.trans rfl)
theorem w_111_33 {v0 v1 v2 v3 : Value}  : dx_W (tb_Z L xs) d 111 33 lv (v3 :: v2 :: v1 :: v0 :: st) σ Q ↔ (dx_ct st ≤ 8 ∧ dx_ci (tb_K L xs) σ v0 = some 9) ∧ dx_M (tb_Z L xs) d 114 [v0, v1, v2, v3] σ (wK (tb_Z L xs) d 111 36 lv st Q) := c_callv (av := [v1, v2, v3]) (hz_111.trans rfl)
theorem w_111_36 : dx_W (tb_Z L xs) d 111 36 lv st σ Q ↔ wR (dx_lk lv 0) (fun y => dx_W (tb_Z L xs) d 111 37 lv (y :: st) σ Q) := r_aload_n (k := 0) (hz_111.trans rfl)
theorem w_111_37 {w : Value} : dx_W (tb_Z L xs) d 111 37 lv (w :: st) σ Q ↔ wO (dx_gf (tb_K L xs) σ w 9 5) (fun y => dx_W (tb_Z L xs) d 111 40 lv (y :: st) σ Q) := r_getfield (hz_111.trans rfl)
theorem w_111_40 : dx_W (tb_Z L xs) d 111 40 lv st σ Q ↔ wR (dx_lk lv 0) (fun y => dx_W (tb_Z L xs) d 111 41 lv (y :: st) σ Q) := r_aload_n (k := 0) (hz_111.trans rfl)
theorem w_111_41 {w : Value} : dx_W (tb_Z L xs) d 111 41 lv (w :: st) σ Q ↔ wO (dx_gf (tb_K L xs) σ w 9 9) (fun y => dx_W (tb_Z L xs) d 111 44 lv (y :: st) σ Q) := r_getfield (hz_111.trans rfl)
theorem w_111_44 {w : Value} {y : Int32} : dx_W (tb_Z L xs) d 111 44 lv (.int y :: w :: st) σ Q ↔ wO (dx_ei (tb_K L xs) σ 0 w y) (fun u => dx_W (tb_Z L xs) d 111 45 lv (.int u :: st) σ Q) := r_iaload (hz_111.trans rfl)
theorem w_111_45 {x : Int32} : dx_W (tb_Z L xs) d 111 45 lv (.int x :: st) σ Q ↔ dx_W (tb_Z L xs) d 111 46 (dx_s1 lv 1 (.int x)) st σ Q := r_istore_n (k := 1) (hz_111.trans rfl) (show 1 < tb_l 111 by decide)
theorem w_111_46 : dx_W (tb_Z L xs) d 111 46 lv st σ Q ↔ wI (dx_lk lv 1) (fun y => dx_W (tb_Z L xs) d 111 47 lv (.int y :: st) σ Q) := r_iload_n (k := 1) (hz_111.trans rfl)
theorem w_111_47 : dx_W (tb_Z L xs) d 111 47 lv st σ Q ↔ dx_W (tb_Z L xs) d 111 49 lv (.int 105 :: st) σ Q := r_bipush (n := 105) (hz_111.trans rfl)
theorem w_111_49 {x y : Int32} : dx_W (tb_Z L xs) d 111 49 lv (.int y :: .int x :: st) σ Q ↔ (if x = y then dx_W (tb_Z L xs) d 111 58 lv st σ Q else dx_W (tb_Z L xs) d 111 52 lv st σ Q) := r_ic_eq (off := 9) (t := 58) (hz_111.trans rfl) (by decide)
theorem w_111_52 : dx_W (tb_Z L xs) d 111 52 lv st σ Q ↔ wI (dx_lk lv 1) (fun y => dx_W (tb_Z L xs) d 111 53 lv (.int y :: st) σ Q) := r_iload_n (k := 1) (hz_111.trans rfl)
theorem w_111_53 : dx_W (tb_Z L xs) d 111 53 lv st σ Q ↔ dx_W (tb_Z L xs) d 111 55 lv (.int 119 :: st) σ Q := r_bipush (n := 119) (hz_111.trans rfl)
theorem w_111_55 {x y : Int32} : dx_W (tb_Z L xs) d 111 55 lv (.int y :: .int x :: st) σ Q ↔ (if ¬ x = y then dx_W (tb_Z L xs) d 111 108 lv st σ Q else dx_W (tb_Z L xs) d 111 58 lv st σ Q) := r_ic_ne (off := 53) (t := 108) (hz_111.trans rfl) (by decide)
theorem w_111_58 : dx_W (tb_Z L xs) d 111 58 lv st σ Q ↔ wR (dx_lk lv 0) (fun y => dx_W (tb_Z L xs) d 111 59 lv (y :: st) σ Q) := r_aload_n (k := 0) (hz_111.trans rfl)
theorem w_111_59_int {x : Int32} : dx_W (tb_Z L xs) d 111 59 lv (.int x :: st) σ Q ↔ dx_W (tb_Z L xs) d 111 60 lv (.int x :: .int x :: st) σ Q := r_dup_int (hz_111.trans rfl)
theorem w_111_59_ref {x : Nat} : dx_W (tb_Z L xs) d 111 59 lv (.ref x :: st) σ Q ↔ dx_W (tb_Z L xs) d 111 60 lv (.ref x :: .ref x :: st) σ Q := r_dup_ref (hz_111.trans rfl)
theorem w_111_59_retAddr {x : Nat} : dx_W (tb_Z L xs) d 111 59 lv (.retAddr x :: st) σ Q ↔ dx_W (tb_Z L xs) d 111 60 lv (.retAddr x :: .retAddr x :: st) σ Q := r_dup_retAddr (hz_111.trans rfl)
theorem w_111_60 {w : Value} : dx_W (tb_Z L xs) d 111 60 lv (w :: st) σ Q ↔ wO (dx_gf (tb_K L xs) σ w 9 9) (fun y => dx_W (tb_Z L xs) d 111 63 lv (y :: st) σ Q) := r_getfield (hz_111.trans rfl)
theorem w_111_63 : dx_W (tb_Z L xs) d 111 63 lv st σ Q ↔ dx_W (tb_Z L xs) d 111 64 lv (.int 1 :: st) σ Q := r_iconst (n := 1) (hz_111.trans rfl)
theorem w_111_64 {x y : Int32} : dx_W (tb_Z L xs) d 111 64 lv (.int y :: .int x :: st) σ Q ↔ dx_W (tb_Z L xs) d 111 65 lv (.int (x + y) :: st) σ Q := r_iadd (hz_111.trans rfl)
theorem w_111_65 {u w : Value} : dx_W (tb_Z L xs) d 111 65 lv (u :: w :: st) σ Q ↔ wO (dx_pf σ w 9 9 0 u) (fun σ1 => dx_W (tb_Z L xs) d 111 68 lv st σ1 Q) := r_putfield (f := 0) (hz_111.trans rfl)
theorem w_111_68 : dx_W (tb_Z L xs) d 111 68 lv st σ Q ↔ wR (dx_lk lv 0) (fun y => dx_W (tb_Z L xs) d 111 69 lv (y :: st) σ Q) := r_aload_n (k := 0) (hz_111.trans rfl)
theorem w_111_69 : dx_W (tb_Z L xs) d 111 69 lv st σ Q ↔ dx_W (tb_Z L xs) d 111 71 lv (.int 40 :: st) σ Q := r_bipush (n := 40) (hz_111.trans rfl)
theorem w_111_71 {v0 v1 : Value}  : dx_W (tb_Z L xs) d 111 71 lv (v1 :: v0 :: st) σ Q ↔ (dx_ct st ≤ 8 ∧ dx_ci (tb_K L xs) σ v0 = some 9) ∧ dx_M (tb_Z L xs) d 115 [v0, v1] σ (wK (tb_Z L xs) d 111 74 lv st Q) := c_callv (av := [v1]) (hz_111.trans rfl)
theorem w_111_74 : dx_W (tb_Z L xs) d 111 74 lv st σ Q ↔ wR (dx_lk lv 0) (fun y => dx_W (tb_Z L xs) d 111 75 lv (y :: st) σ Q) := r_aload_n (k := 0) (hz_111.trans rfl)
theorem w_111_75 {v0 : Value}  : dx_W (tb_Z L xs) d 111 75 lv (v0 :: st) σ Q ↔ (dx_ct st ≤ 8 ∧ dx_ci (tb_K L xs) σ v0 = some 9) ∧ dx_M (tb_Z L xs) d 113 [v0] σ (wK (tb_Z L xs) d 111 78 lv st Q) := c_callv (av := []) (hz_111.trans rfl)
theorem w_111_78 : dx_W (tb_Z L xs) d 111 78 lv st σ Q ↔ wR (dx_lk lv 0) (fun y => dx_W (tb_Z L xs) d 111 79 lv (y :: st) σ Q) := r_aload_n (k := 0) (hz_111.trans rfl)
theorem w_111_79 : dx_W (tb_Z L xs) d 111 79 lv st σ Q ↔ dx_W (tb_Z L xs) d 111 81 lv (.int 18 :: st) σ Q := r_bipush (n := 18) (hz_111.trans rfl)
theorem w_111_81 : dx_W (tb_Z L xs) d 111 81 lv st σ Q ↔ wI (dx_lk lv 1) (fun y => dx_W (tb_Z L xs) d 111 82 lv (.int y :: st) σ Q) := r_iload_n (k := 1) (hz_111.trans rfl)
theorem w_111_82 : dx_W (tb_Z L xs) d 111 82 lv st σ Q ↔ wR (dx_lk lv 0) (fun y => dx_W (tb_Z L xs) d 111 83 lv (y :: st) σ Q) := r_aload_n (k := 0) (hz_111.trans rfl)
theorem w_111_83 {w : Value} : dx_W (tb_Z L xs) d 111 83 lv (w :: st) σ Q ↔ wO (dx_gf (tb_K L xs) σ w 9 14) (fun y => dx_W (tb_Z L xs) d 111 86 lv (y :: st) σ Q) := r_getfield (hz_111.trans rfl)
theorem w_111_86 {v0 v1 v2 v3 : Value}  : dx_W (tb_Z L xs) d 111 86 lv (v3 :: v2 :: v1 :: v0 :: st) σ Q ↔ (dx_ct st ≤ 8 ∧ dx_ci (tb_K L xs) σ v0 = some 9) ∧ dx_M (tb_Z L xs) d 109 [v0, v1, v2, v3] σ (wK (tb_Z L xs) d 111 89 lv st Q) := c_callv (av := [v1, v2, v3]) (hz_111.trans rfl)
theorem w_111_89 : dx_W (tb_Z L xs) d 111 89 lv st σ Q ↔ wR (dx_lk lv 0) (fun y => dx_W (tb_Z L xs) d 111 90 lv (y :: st) σ Q) := r_aload_n (k := 0) (hz_111.trans rfl)
theorem w_111_90 : dx_W (tb_Z L xs) d 111 90 lv st σ Q ↔ dx_W (tb_Z L xs) d 111 92 lv (.int 14 :: st) σ Q := r_bipush (n := 14) (hz_111.trans rfl)
theorem w_111_92 : dx_W (tb_Z L xs) d 111 92 lv st σ Q ↔ dx_W (tb_Z L xs) d 111 93 lv (.int 0 :: st) σ Q := r_iconst (n := 0) (hz_111.trans rfl)
theorem w_111_93 : dx_W (tb_Z L xs) d 111 93 lv st σ Q ↔ dx_W (tb_Z L xs) d 111 94 lv (.int 0 :: st) σ Q := r_iconst (n := 0) (hz_111.trans rfl)
theorem w_111_94 {v0 v1 v2 v3 : Value}  : dx_W (tb_Z L xs) d 111 94 lv (v3 :: v2 :: v1 :: v0 :: st) σ Q ↔ (dx_ct st ≤ 8 ∧ dx_ci (tb_K L xs) σ v0 = some 9) ∧ dx_M (tb_Z L xs) d 109 [v0, v1, v2, v3] σ (wK (tb_Z L xs) d 111 97 lv st Q) := c_callv (av := [v1, v2, v3]) (hz_111.trans rfl)
theorem w_111_97 : dx_W (tb_Z L xs) d 111 97 lv st σ Q ↔ wR (dx_lk lv 0) (fun y => dx_W (tb_Z L xs) d 111 98 lv (y :: st) σ Q) := r_aload_n (k := 0) (hz_111.trans rfl)
theorem w_111_98 : dx_W (tb_Z L xs) d 111 98 lv st σ Q ↔ dx_W (tb_Z L xs) d 111 100 lv (.int 15 :: st) σ Q := r_bipush (n := 15) (hz_111.trans rfl)
theorem w_111_100 : dx_W (tb_Z L xs) d 111 100 lv st σ Q ↔ dx_W (tb_Z L xs) d 111 101 lv (.int 0 :: st) σ Q := r_iconst (n := 0) (hz_111.trans rfl)
theorem w_111_101 : dx_W (tb_Z L xs) d 111 101 lv st σ Q ↔ dx_W (tb_Z L xs) d 111 102 lv (.int 0 :: st) σ Q := r_iconst (n := 0) (hz_111.trans rfl)
theorem w_111_102 {v0 v1 v2 v3 : Value}  : dx_W (tb_Z L xs) d 111 102 lv (v3 :: v2 :: v1 :: v0 :: st) σ Q ↔ (dx_ct st ≤ 8 ∧ dx_ci (tb_K L xs) σ v0 = some 9) ∧ dx_M (tb_Z L xs) d 109 [v0, v1, v2, v3] σ (wK (tb_Z L xs) d 111 105 lv st Q) := c_callv (av := [v1, v2, v3]) (hz_111.trans rfl)
theorem w_111_105 : dx_W (tb_Z L xs) d 111 105 lv st σ Q ↔ dx_W (tb_Z L xs) d 111 250 lv st σ Q := r_goto (off := 145) (t := 250) (hz_111.trans rfl) (by decide)
theorem w_111_108 : dx_W (tb_Z L xs) d 111 108 lv st σ Q ↔ wI (dx_lk lv 1) (fun y => dx_W (tb_Z L xs) d 111 109 lv (.int y :: st) σ Q) := r_iload_n (k := 1) (hz_111.trans rfl)
theorem w_111_109 : dx_W (tb_Z L xs) d 111 109 lv st σ Q ↔ dx_W (tb_Z L xs) d 111 111 lv (.int 114 :: st) σ Q := r_bipush (n := 114) (hz_111.trans rfl)
theorem w_111_111 {x y : Int32} : dx_W (tb_Z L xs) d 111 111 lv (.int y :: .int x :: st) σ Q ↔ (if ¬ x = y then dx_W (tb_Z L xs) d 111 156 lv st σ Q else dx_W (tb_Z L xs) d 111 114 lv st σ Q) := r_ic_ne (off := 45) (t := 156) (hz_111.trans rfl) (by decide)
theorem w_111_114 : dx_W (tb_Z L xs) d 111 114 lv st σ Q ↔ wR (dx_lk lv 0) (fun y => dx_W (tb_Z L xs) d 111 115 lv (y :: st) σ Q) := r_aload_n (k := 0) (hz_111.trans rfl)
theorem w_111_115_int {x : Int32} : dx_W (tb_Z L xs) d 111 115 lv (.int x :: st) σ Q ↔ dx_W (tb_Z L xs) d 111 116 lv (.int x :: .int x :: st) σ Q := r_dup_int (hz_111.trans rfl)
theorem w_111_115_ref {x : Nat} : dx_W (tb_Z L xs) d 111 115 lv (.ref x :: st) σ Q ↔ dx_W (tb_Z L xs) d 111 116 lv (.ref x :: .ref x :: st) σ Q := r_dup_ref (hz_111.trans rfl)
theorem w_111_115_retAddr {x : Nat} : dx_W (tb_Z L xs) d 111 115 lv (.retAddr x :: st) σ Q ↔ dx_W (tb_Z L xs) d 111 116 lv (.retAddr x :: .retAddr x :: st) σ Q := r_dup_retAddr (hz_111.trans rfl)
theorem w_111_116 {w : Value} : dx_W (tb_Z L xs) d 111 116 lv (w :: st) σ Q ↔ wO (dx_gf (tb_K L xs) σ w 9 9) (fun y => dx_W (tb_Z L xs) d 111 119 lv (y :: st) σ Q) := r_getfield (hz_111.trans rfl)
theorem w_111_119 : dx_W (tb_Z L xs) d 111 119 lv st σ Q ↔ dx_W (tb_Z L xs) d 111 120 lv (.int 1 :: st) σ Q := r_iconst (n := 1) (hz_111.trans rfl)
theorem w_111_120 {x y : Int32} : dx_W (tb_Z L xs) d 111 120 lv (.int y :: .int x :: st) σ Q ↔ dx_W (tb_Z L xs) d 111 121 lv (.int (x + y) :: st) σ Q := r_iadd (hz_111.trans rfl)
theorem w_111_121 {u w : Value} : dx_W (tb_Z L xs) d 111 121 lv (u :: w :: st) σ Q ↔ wO (dx_pf σ w 9 9 0 u) (fun σ1 => dx_W (tb_Z L xs) d 111 124 lv st σ1 Q) := r_putfield (f := 0) (hz_111.trans rfl)
theorem w_111_124 : dx_W (tb_Z L xs) d 111 124 lv st σ Q ↔ wR (dx_lk lv 0) (fun y => dx_W (tb_Z L xs) d 111 125 lv (y :: st) σ Q) := r_aload_n (k := 0) (hz_111.trans rfl)
theorem w_111_125 {w : Value} : dx_W (tb_Z L xs) d 111 125 lv (w :: st) σ Q ↔ wO (dx_gf (tb_K L xs) σ w 9 22) (fun y => dx_W (tb_Z L xs) d 111 128 lv (y :: st) σ Q) := r_getfield (hz_111.trans rfl)
theorem w_111_128 {x : Int32} : dx_W (tb_Z L xs) d 111 128 lv (.int x :: st) σ Q ↔ (if ¬ x = 0 then dx_W (tb_Z L xs) d 111 136 lv st σ Q else dx_W (tb_Z L xs) d 111 131 lv st σ Q) := r_if_ne (off := 8) (t := 136) (hz_111.trans rfl) (by decide)
theorem w_111_131 : dx_W (tb_Z L xs) d 111 131 lv st σ Q ↔ wR (dx_lk lv 0) (fun y => dx_W (tb_Z L xs) d 111 132 lv (y :: st) σ Q) := r_aload_n (k := 0) (hz_111.trans rfl)
theorem w_111_132 : dx_W (tb_Z L xs) d 111 132 lv st σ Q ↔ dx_W (tb_Z L xs) d 111 133 lv (.int 1 :: st) σ Q := r_iconst (n := 1) (hz_111.trans rfl)
theorem w_111_133 {u w : Value} : dx_W (tb_Z L xs) d 111 133 lv (u :: w :: st) σ Q ↔ wO (dx_pf σ w 9 10 2 u) (fun σ1 => dx_W (tb_Z L xs) d 111 136 lv st σ1 Q) := r_putfield (f := 2) (hz_111.trans rfl)
theorem w_111_136 : dx_W (tb_Z L xs) d 111 136 lv st σ Q ↔ wR (dx_lk lv 0) (fun y => dx_W (tb_Z L xs) d 111 137 lv (y :: st) σ Q) := r_aload_n (k := 0) (hz_111.trans rfl)
theorem w_111_137 : dx_W (tb_Z L xs) d 111 137 lv st σ Q ↔ dx_W (tb_Z L xs) d 111 139 lv (.int 17 :: st) σ Q := r_bipush (n := 17) (hz_111.trans rfl)
theorem w_111_139 : dx_W (tb_Z L xs) d 111 139 lv st σ Q ↔ dx_W (tb_Z L xs) d 111 141 lv (.int 11 :: st) σ Q := r_bipush (n := 11) (hz_111.trans rfl)
theorem w_111_141 : dx_W (tb_Z L xs) d 111 141 lv st σ Q ↔ dx_W (tb_Z L xs) d 111 142 lv (.int 0 :: st) σ Q := r_iconst (n := 0) (hz_111.trans rfl)
theorem w_111_142 {v0 v1 v2 v3 : Value}  : dx_W (tb_Z L xs) d 111 142 lv (v3 :: v2 :: v1 :: v0 :: st) σ Q ↔ (dx_ct st ≤ 8 ∧ dx_ci (tb_K L xs) σ v0 = some 9) ∧ dx_M (tb_Z L xs) d 109 [v0, v1, v2, v3] σ (wK (tb_Z L xs) d 111 145 lv st Q) := c_callv (av := [v1, v2, v3]) (hz_111.trans rfl)
theorem w_111_145 : dx_W (tb_Z L xs) d 111 145 lv st σ Q ↔ wR (dx_lk lv 0) (fun y => dx_W (tb_Z L xs) d 111 146 lv (y :: st) σ Q) := r_aload_n (k := 0) (hz_111.trans rfl)
theorem w_111_146 : dx_W (tb_Z L xs) d 111 146 lv st σ Q ↔ dx_W (tb_Z L xs) d 111 148 lv (.int 7 :: st) σ Q := r_bipush (n := 7) (hz_111.trans rfl)
theorem w_111_148 : dx_W (tb_Z L xs) d 111 148 lv st σ Q ↔ dx_W (tb_Z L xs) d 111 149 lv (.int 0 :: st) σ Q := r_iconst (n := 0) (hz_111.trans rfl)
theorem w_111_149 : dx_W (tb_Z L xs) d 111 149 lv st σ Q ↔ dx_W (tb_Z L xs) d 111 150 lv (.int 0 :: st) σ Q := r_iconst (n := 0) (hz_111.trans rfl)
theorem w_111_150 {v0 v1 v2 v3 : Value}  : dx_W (tb_Z L xs) d 111 150 lv (v3 :: v2 :: v1 :: v0 :: st) σ Q ↔ (dx_ct st ≤ 8 ∧ dx_ci (tb_K L xs) σ v0 = some 9) ∧ dx_M (tb_Z L xs) d 109 [v0, v1, v2, v3] σ (wK (tb_Z L xs) d 111 153 lv st Q) := c_callv (av := [v1, v2, v3]) (hz_111.trans rfl)
theorem w_111_153 : dx_W (tb_Z L xs) d 111 153 lv st σ Q ↔ dx_W (tb_Z L xs) d 111 250 lv st σ Q := r_goto (off := 97) (t := 250) (hz_111.trans rfl) (by decide)
theorem w_111_156 : dx_W (tb_Z L xs) d 111 156 lv st σ Q ↔ wI (dx_lk lv 1) (fun y => dx_W (tb_Z L xs) d 111 157 lv (.int y :: st) σ Q) := r_iload_n (k := 1) (hz_111.trans rfl)
theorem w_111_157 : dx_W (tb_Z L xs) d 111 157 lv st σ Q ↔ dx_W (tb_Z L xs) d 111 159 lv (.int 97 :: st) σ Q := r_bipush (n := 97) (hz_111.trans rfl)
theorem w_111_159 {x y : Int32} : dx_W (tb_Z L xs) d 111 159 lv (.int y :: .int x :: st) σ Q ↔ (if x = y then dx_W (tb_Z L xs) d 111 168 lv st σ Q else dx_W (tb_Z L xs) d 111 162 lv st σ Q) := r_ic_eq (off := 9) (t := 168) (hz_111.trans rfl) (by decide)
theorem w_111_162 : dx_W (tb_Z L xs) d 111 162 lv st σ Q ↔ wI (dx_lk lv 1) (fun y => dx_W (tb_Z L xs) d 111 163 lv (.int y :: st) σ Q) := r_iload_n (k := 1) (hz_111.trans rfl)
theorem w_111_163 : dx_W (tb_Z L xs) d 111 163 lv st σ Q ↔ dx_W (tb_Z L xs) d 111 165 lv (.int 115 :: st) σ Q := r_bipush (n := 115) (hz_111.trans rfl)
theorem w_111_165 {x y : Int32} : dx_W (tb_Z L xs) d 111 165 lv (.int y :: .int x :: st) σ Q ↔ (if ¬ x = y then dx_W (tb_Z L xs) d 111 233 lv st σ Q else dx_W (tb_Z L xs) d 111 168 lv st σ Q) := r_ic_ne (off := 68) (t := 233) (hz_111.trans rfl) (by decide)
theorem w_111_168 : dx_W (tb_Z L xs) d 111 168 lv st σ Q ↔ wR (dx_lk lv 0) (fun y => dx_W (tb_Z L xs) d 111 169 lv (y :: st) σ Q) := r_aload_n (k := 0) (hz_111.trans rfl)
theorem w_111_169 {w : Value} : dx_W (tb_Z L xs) d 111 169 lv (w :: st) σ Q ↔ wO (dx_gf (tb_K L xs) σ w 9 5) (fun y => dx_W (tb_Z L xs) d 111 172 lv (y :: st) σ Q) := r_getfield (hz_111.trans rfl)
theorem w_111_172 : dx_W (tb_Z L xs) d 111 172 lv st σ Q ↔ wR (dx_lk lv 0) (fun y => dx_W (tb_Z L xs) d 111 173 lv (y :: st) σ Q) := r_aload_n (k := 0) (hz_111.trans rfl)
theorem w_111_173 {w : Value} : dx_W (tb_Z L xs) d 111 173 lv (w :: st) σ Q ↔ wO (dx_gf (tb_K L xs) σ w 9 9) (fun y => dx_W (tb_Z L xs) d 111 176 lv (y :: st) σ Q) := r_getfield (hz_111.trans rfl)
theorem w_111_176 : dx_W (tb_Z L xs) d 111 176 lv st σ Q ↔ dx_W (tb_Z L xs) d 111 177 lv (.int 1 :: st) σ Q := r_iconst (n := 1) (hz_111.trans rfl)
theorem w_111_177 {x y : Int32} : dx_W (tb_Z L xs) d 111 177 lv (.int y :: .int x :: st) σ Q ↔ dx_W (tb_Z L xs) d 111 178 lv (.int (x + y) :: st) σ Q := r_iadd (hz_111.trans rfl)
theorem w_111_178 {w : Value} {y : Int32} : dx_W (tb_Z L xs) d 111 178 lv (.int y :: w :: st) σ Q ↔ wO (dx_ei (tb_K L xs) σ 0 w y) (fun u => dx_W (tb_Z L xs) d 111 179 lv (.int u :: st) σ Q) := r_iaload (hz_111.trans rfl)
theorem w_111_179 : dx_W (tb_Z L xs) d 111 179 lv st σ Q ↔ dx_W (tb_Z L xs) d 111 181 lv (.int 61 :: st) σ Q := r_bipush (n := 61) (hz_111.trans rfl)
theorem w_111_181 {x y : Int32} : dx_W (tb_Z L xs) d 111 181 lv (.int y :: .int x :: st) σ Q ↔ (if ¬ x = y then dx_W (tb_Z L xs) d 111 233 lv st σ Q else dx_W (tb_Z L xs) d 111 184 lv st σ Q) := r_ic_ne (off := 52) (t := 233) (hz_111.trans rfl) (by decide)
theorem w_111_184 : dx_W (tb_Z L xs) d 111 184 lv st σ Q ↔ wR (dx_lk lv 0) (fun y => dx_W (tb_Z L xs) d 111 185 lv (y :: st) σ Q) := r_aload_n (k := 0) (hz_111.trans rfl)
theorem w_111_185 : dx_W (tb_Z L xs) d 111 185 lv st σ Q ↔ dx_W (tb_Z L xs) d 111 187 lv (.int 17 :: st) σ Q := r_bipush (n := 17) (hz_111.trans rfl)
theorem w_111_187 : dx_W (tb_Z L xs) d 111 187 lv st σ Q ↔ wI (dx_lk lv 1) (fun y => dx_W (tb_Z L xs) d 111 188 lv (.int y :: st) σ Q) := r_iload_n (k := 1) (hz_111.trans rfl)
theorem w_111_188 : dx_W (tb_Z L xs) d 111 188 lv st σ Q ↔ dx_W (tb_Z L xs) d 111 190 lv (.int 97 :: st) σ Q := r_bipush (n := 97) (hz_111.trans rfl)
theorem w_111_190 {x y : Int32} : dx_W (tb_Z L xs) d 111 190 lv (.int y :: .int x :: st) σ Q ↔ (if ¬ x = y then dx_W (tb_Z L xs) d 111 198 lv st σ Q else dx_W (tb_Z L xs) d 111 193 lv st σ Q) := r_ic_ne (off := 8) (t := 198) (hz_111.trans rfl) (by decide)
theorem w_111_193 : dx_W (tb_Z L xs) d 111 193 lv st σ Q ↔ dx_W (tb_Z L xs) d 111 195 lv (.int 8 :: st) σ Q := r_bipush (n := 8) (hz_111.trans rfl)
theorem w_111_195 : dx_W (tb_Z L xs) d 111 195 lv st σ Q ↔ dx_W (tb_Z L xs) d 111 200 lv st σ Q := r_goto (off := 5) (t := 200) (hz_111.trans rfl) (by decide)
theorem w_111_198 : dx_W (tb_Z L xs) d 111 198 lv st σ Q ↔ dx_W (tb_Z L xs) d 111 200 lv (.int 9 :: st) σ Q := r_bipush (n := 9) (hz_111.trans rfl)
theorem w_111_200 : dx_W (tb_Z L xs) d 111 200 lv st σ Q ↔ wR (dx_lk lv 0) (fun y => dx_W (tb_Z L xs) d 111 201 lv (y :: st) σ Q) := r_aload_n (k := 0) (hz_111.trans rfl)
theorem w_111_201 {w : Value} : dx_W (tb_Z L xs) d 111 201 lv (w :: st) σ Q ↔ wO (dx_gf (tb_K L xs) σ w 9 6) (fun y => dx_W (tb_Z L xs) d 111 204 lv (y :: st) σ Q) := r_getfield (hz_111.trans rfl)
theorem w_111_204 : dx_W (tb_Z L xs) d 111 204 lv st σ Q ↔ wR (dx_lk lv 0) (fun y => dx_W (tb_Z L xs) d 111 205 lv (y :: st) σ Q) := r_aload_n (k := 0) (hz_111.trans rfl)
theorem w_111_205 {w : Value} : dx_W (tb_Z L xs) d 111 205 lv (w :: st) σ Q ↔ wO (dx_gf (tb_K L xs) σ w 9 9) (fun y => dx_W (tb_Z L xs) d 111 208 lv (y :: st) σ Q) := r_getfield (hz_111.trans rfl)
theorem w_111_208 {w : Value} {y : Int32} : dx_W (tb_Z L xs) d 111 208 lv (.int y :: w :: st) σ Q ↔ wO (dx_ei (tb_K L xs) σ 0 w y) (fun u => dx_W (tb_Z L xs) d 111 209 lv (.int u :: st) σ Q) := r_iaload (hz_111.trans rfl)
theorem w_111_209 {v0 v1 v2 v3 : Value}  : dx_W (tb_Z L xs) d 111 209 lv (v3 :: v2 :: v1 :: v0 :: st) σ Q ↔ (dx_ct st ≤ 8 ∧ dx_ci (tb_K L xs) σ v0 = some 9) ∧ dx_M (tb_Z L xs) d 109 [v0, v1, v2, v3] σ (wK (tb_Z L xs) d 111 212 lv st Q) := c_callv (av := [v1, v2, v3]) (hz_111.trans rfl)
theorem w_111_212 : dx_W (tb_Z L xs) d 111 212 lv st σ Q ↔ wR (dx_lk lv 0) (fun y => dx_W (tb_Z L xs) d 111 213 lv (y :: st) σ Q) := r_aload_n (k := 0) (hz_111.trans rfl)
theorem w_111_213_int {x : Int32} : dx_W (tb_Z L xs) d 111 213 lv (.int x :: st) σ Q ↔ dx_W (tb_Z L xs) d 111 214 lv (.int x :: .int x :: st) σ Q := r_dup_int (hz_111.trans rfl)
theorem w_111_213_ref {x : Nat} : dx_W (tb_Z L xs) d 111 213 lv (.ref x :: st) σ Q ↔ dx_W (tb_Z L xs) d 111 214 lv (.ref x :: .ref x :: st) σ Q := r_dup_ref (hz_111.trans rfl)
theorem w_111_213_retAddr {x : Nat} : dx_W (tb_Z L xs) d 111 213 lv (.retAddr x :: st) σ Q ↔ dx_W (tb_Z L xs) d 111 214 lv (.retAddr x :: .retAddr x :: st) σ Q := r_dup_retAddr (hz_111.trans rfl)
theorem w_111_214 {w : Value} : dx_W (tb_Z L xs) d 111 214 lv (w :: st) σ Q ↔ wO (dx_gf (tb_K L xs) σ w 9 9) (fun y => dx_W (tb_Z L xs) d 111 217 lv (y :: st) σ Q) := r_getfield (hz_111.trans rfl)
theorem w_111_217 : dx_W (tb_Z L xs) d 111 217 lv st σ Q ↔ dx_W (tb_Z L xs) d 111 218 lv (.int 2 :: st) σ Q := r_iconst (n := 2) (hz_111.trans rfl)
theorem w_111_218 {x y : Int32} : dx_W (tb_Z L xs) d 111 218 lv (.int y :: .int x :: st) σ Q ↔ dx_W (tb_Z L xs) d 111 219 lv (.int (x + y) :: st) σ Q := r_iadd (hz_111.trans rfl)
theorem w_111_219 {u w : Value} : dx_W (tb_Z L xs) d 111 219 lv (u :: w :: st) σ Q ↔ wO (dx_pf σ w 9 9 0 u) (fun σ1 => dx_W (tb_Z L xs) d 111 222 lv st σ1 Q) := r_putfield (f := 0) (hz_111.trans rfl)
theorem w_111_222 : dx_W (tb_Z L xs) d 111 222 lv st σ Q ↔ wR (dx_lk lv 0) (fun y => dx_W (tb_Z L xs) d 111 223 lv (y :: st) σ Q) := r_aload_n (k := 0) (hz_111.trans rfl)
theorem w_111_223 : dx_W (tb_Z L xs) d 111 223 lv st σ Q ↔ dx_W (tb_Z L xs) d 111 225 lv (.int 7 :: st) σ Q := r_bipush (n := 7) (hz_111.trans rfl)
theorem w_111_225 : dx_W (tb_Z L xs) d 111 225 lv st σ Q ↔ dx_W (tb_Z L xs) d 111 226 lv (.int 0 :: st) σ Q := r_iconst (n := 0) (hz_111.trans rfl)
theorem w_111_226 : dx_W (tb_Z L xs) d 111 226 lv st σ Q ↔ dx_W (tb_Z L xs) d 111 227 lv (.int 0 :: st) σ Q := r_iconst (n := 0) (hz_111.trans rfl)
theorem w_111_227 {v0 v1 v2 v3 : Value}  : dx_W (tb_Z L xs) d 111 227 lv (v3 :: v2 :: v1 :: v0 :: st) σ Q ↔ (dx_ct st ≤ 8 ∧ dx_ci (tb_K L xs) σ v0 = some 9) ∧ dx_M (tb_Z L xs) d 109 [v0, v1, v2, v3] σ (wK (tb_Z L xs) d 111 230 lv st Q) := c_callv (av := [v1, v2, v3]) (hz_111.trans rfl)
theorem w_111_230 : dx_W (tb_Z L xs) d 111 230 lv st σ Q ↔ dx_W (tb_Z L xs) d 111 250 lv st σ Q := r_goto (off := 20) (t := 250) (hz_111.trans rfl) (by decide)
theorem w_111_233 : dx_W (tb_Z L xs) d 111 233 lv st σ Q ↔ wR (dx_lk lv 0) (fun y => dx_W (tb_Z L xs) d 111 234 lv (y :: st) σ Q) := r_aload_n (k := 0) (hz_111.trans rfl)
theorem w_111_234 : dx_W (tb_Z L xs) d 111 234 lv st σ Q ↔ dx_W (tb_Z L xs) d 111 236 lv (.int 17 :: st) σ Q := r_bipush (n := 17) (hz_111.trans rfl)
theorem w_111_236 : dx_W (tb_Z L xs) d 111 236 lv st σ Q ↔ dx_W (tb_Z L xs) d 111 238 lv (.int 10 :: st) σ Q := r_bipush (n := 10) (hz_111.trans rfl)
theorem w_111_238 : dx_W (tb_Z L xs) d 111 238 lv st σ Q ↔ dx_W (tb_Z L xs) d 111 239 lv (.int 0 :: st) σ Q := r_iconst (n := 0) (hz_111.trans rfl)
theorem w_111_239 {v0 v1 v2 v3 : Value}  : dx_W (tb_Z L xs) d 111 239 lv (v3 :: v2 :: v1 :: v0 :: st) σ Q ↔ (dx_ct st ≤ 8 ∧ dx_ci (tb_K L xs) σ v0 = some 9) ∧ dx_M (tb_Z L xs) d 109 [v0, v1, v2, v3] σ (wK (tb_Z L xs) d 111 242 lv st Q) := c_callv (av := [v1, v2, v3]) (hz_111.trans rfl)
theorem w_111_242 : dx_W (tb_Z L xs) d 111 242 lv st σ Q ↔ wR (dx_lk lv 0) (fun y => dx_W (tb_Z L xs) d 111 243 lv (y :: st) σ Q) := r_aload_n (k := 0) (hz_111.trans rfl)
theorem w_111_243 : dx_W (tb_Z L xs) d 111 243 lv st σ Q ↔ dx_W (tb_Z L xs) d 111 245 lv (.int 7 :: st) σ Q := r_bipush (n := 7) (hz_111.trans rfl)
theorem w_111_245 : dx_W (tb_Z L xs) d 111 245 lv st σ Q ↔ dx_W (tb_Z L xs) d 111 246 lv (.int 0 :: st) σ Q := r_iconst (n := 0) (hz_111.trans rfl)
theorem w_111_246 : dx_W (tb_Z L xs) d 111 246 lv st σ Q ↔ dx_W (tb_Z L xs) d 111 247 lv (.int 0 :: st) σ Q := r_iconst (n := 0) (hz_111.trans rfl)
theorem w_111_247 {v0 v1 v2 v3 : Value}  : dx_W (tb_Z L xs) d 111 247 lv (v3 :: v2 :: v1 :: v0 :: st) σ Q ↔ (dx_ct st ≤ 8 ∧ dx_ci (tb_K L xs) σ v0 = some 9) ∧ dx_M (tb_Z L xs) d 109 [v0, v1, v2, v3] σ (wK (tb_Z L xs) d 111 250 lv st Q) := c_callv (av := [v1, v2, v3]) (hz_111.trans rfl)
theorem w_111_250 : dx_W (tb_Z L xs) d 111 250 lv [] σ Q ↔ Q (.inl none) σ := r_return (hz_111.trans rfl) rfl
theorem hz_112 {pc : Nat} : (tb_Z L xs).1 112 pc = dx_at tb_m112 pc := rfl
theorem w_112_0 : dx_W (tb_Z L xs) d 112 0 lv st σ Q ↔ wR (dx_lk lv 0) (fun y => dx_W (tb_Z L xs) d 112 1 lv (y :: st) σ Q) := r_aload_n (k := 0) (hz_112.trans rfl)
theorem w_112_1 {w : Value} : dx_W (tb_Z L xs) d 112 1 lv (w :: st) σ Q ↔ wO (dx_gf (tb_K L xs) σ w 9 5) (fun y => dx_W (tb_Z L xs) d 112 4 lv (y :: st) σ Q) := r_getfield (hz_112.trans rfl)
theorem w_112_4 : dx_W (tb_Z L xs) d 112 4 lv st σ Q ↔ wR (dx_lk lv 0) (fun y => dx_W (tb_Z L xs) d 112 5 lv (y :: st) σ Q) := r_aload_n (k := 0) (hz_112.trans rfl)
theorem w_112_5 {w : Value} : dx_W (tb_Z L xs) d 112 5 lv (w :: st) σ Q ↔ wO (dx_gf (tb_K L xs) σ w 9 9) (fun y => dx_W (tb_Z L xs) d 112 8 lv (y :: st) σ Q) := r_getfield (hz_112.trans rfl)
theorem w_112_8 {w : Value} {y : Int32} : dx_W (tb_Z L xs) d 112 8 lv (.int y :: w :: st) σ Q ↔ wO (dx_ei (tb_K L xs) σ 0 w y) (fun u => dx_W (tb_Z L xs) d 112 9 lv (.int u :: st) σ Q) := r_iaload (hz_112.trans rfl)
theorem w_112_9 : dx_W (tb_Z L xs) d 112 9 lv st σ Q ↔ wI (dx_lk lv 1) (fun y => dx_W (tb_Z L xs) d 112 10 lv (.int y :: st) σ Q) := r_iload_n (k := 1) (hz_112.trans rfl)
theorem w_112_10 {x y : Int32} : dx_W (tb_Z L xs) d 112 10 lv (.int y :: .int x :: st) σ Q ↔ (if x = y then dx_W (tb_Z L xs) d 112 15 lv st σ Q else dx_W (tb_Z L xs) d 112 13 lv st σ Q) := r_ic_eq (off := 5) (t := 15) (hz_112.trans rfl) (by decide)
theorem w_112_13 : dx_W (tb_Z L xs) d 112 13 lv st σ Q ↔ dx_W (tb_Z L xs) d 112 14 lv (.int 0 :: st) σ Q := r_iconst (n := 0) (hz_112.trans rfl)
theorem w_112_14 {x : Int32} : dx_W (tb_Z L xs) d 112 14 lv [.int x] σ Q ↔ narrow .boolean (.int x) = .int x ∧ Q (.inl (some (.int x))) σ := c_ireturn (hz_112.trans rfl) rfl
theorem w_112_15 : dx_W (tb_Z L xs) d 112 15 lv st σ Q ↔ wR (dx_lk lv 0) (fun y => dx_W (tb_Z L xs) d 112 16 lv (y :: st) σ Q) := r_aload_n (k := 0) (hz_112.trans rfl)
theorem w_112_16_int {x : Int32} : dx_W (tb_Z L xs) d 112 16 lv (.int x :: st) σ Q ↔ dx_W (tb_Z L xs) d 112 17 lv (.int x :: .int x :: st) σ Q := r_dup_int (hz_112.trans rfl)
theorem w_112_16_ref {x : Nat} : dx_W (tb_Z L xs) d 112 16 lv (.ref x :: st) σ Q ↔ dx_W (tb_Z L xs) d 112 17 lv (.ref x :: .ref x :: st) σ Q := r_dup_ref (hz_112.trans rfl)
theorem w_112_16_retAddr {x : Nat} : dx_W (tb_Z L xs) d 112 16 lv (.retAddr x :: st) σ Q ↔ dx_W (tb_Z L xs) d 112 17 lv (.retAddr x :: .retAddr x :: st) σ Q := r_dup_retAddr (hz_112.trans rfl)
theorem w_112_17 {w : Value} : dx_W (tb_Z L xs) d 112 17 lv (w :: st) σ Q ↔ wO (dx_gf (tb_K L xs) σ w 9 9) (fun y => dx_W (tb_Z L xs) d 112 20 lv (y :: st) σ Q) := r_getfield (hz_112.trans rfl)
theorem w_112_20 : dx_W (tb_Z L xs) d 112 20 lv st σ Q ↔ dx_W (tb_Z L xs) d 112 21 lv (.int 1 :: st) σ Q := r_iconst (n := 1) (hz_112.trans rfl)
theorem w_112_21 {x y : Int32} : dx_W (tb_Z L xs) d 112 21 lv (.int y :: .int x :: st) σ Q ↔ dx_W (tb_Z L xs) d 112 22 lv (.int (x + y) :: st) σ Q := r_iadd (hz_112.trans rfl)
theorem w_112_22 {u w : Value} : dx_W (tb_Z L xs) d 112 22 lv (u :: w :: st) σ Q ↔ wO (dx_pf σ w 9 9 0 u) (fun σ1 => dx_W (tb_Z L xs) d 112 25 lv st σ1 Q) := r_putfield (f := 0) (hz_112.trans rfl)
theorem w_112_25 : dx_W (tb_Z L xs) d 112 25 lv st σ Q ↔ dx_W (tb_Z L xs) d 112 26 lv (.int 1 :: st) σ Q := r_iconst (n := 1) (hz_112.trans rfl)
theorem w_112_26 {x : Int32} : dx_W (tb_Z L xs) d 112 26 lv [.int x] σ Q ↔ narrow .boolean (.int x) = .int x ∧ Q (.inl (some (.int x))) σ := c_ireturn (hz_112.trans rfl) rfl
theorem hz_113 {pc : Nat} : (tb_Z L xs).1 113 pc = dx_at tb_m113 pc := rfl
theorem w_113_0 : dx_W (tb_Z L xs) d 113 0 lv st σ Q ↔ wR (dx_lk lv 0) (fun y => dx_W (tb_Z L xs) d 113 1 lv (y :: st) σ Q) := r_aload_n (k := 0) (hz_113.trans rfl)
theorem w_113_1_int {x : Int32} : dx_W (tb_Z L xs) d 113 1 lv (.int x :: st) σ Q ↔ dx_W (tb_Z L xs) d 113 2 lv (.int x :: .int x :: st) σ Q := r_dup_int (hz_113.trans rfl)
theorem w_113_1_ref {x : Nat} : dx_W (tb_Z L xs) d 113 1 lv (.ref x :: st) σ Q ↔ dx_W (tb_Z L xs) d 113 2 lv (.ref x :: .ref x :: st) σ Q := r_dup_ref (hz_113.trans rfl)
theorem w_113_1_retAddr {x : Nat} : dx_W (tb_Z L xs) d 113 1 lv (.retAddr x :: st) σ Q ↔ dx_W (tb_Z L xs) d 113 2 lv (.retAddr x :: .retAddr x :: st) σ Q := r_dup_retAddr (hz_113.trans rfl)
theorem w_113_2 {w : Value} : dx_W (tb_Z L xs) d 113 2 lv (w :: st) σ Q ↔ wO (dx_gf (tb_K L xs) σ w 9 21) (fun y => dx_W (tb_Z L xs) d 113 5 lv (y :: st) σ Q) := r_getfield (hz_113.trans rfl)
theorem w_113_5 : dx_W (tb_Z L xs) d 113 5 lv st σ Q ↔ dx_W (tb_Z L xs) d 113 6 lv (.int 1 :: st) σ Q := r_iconst (n := 1) (hz_113.trans rfl)
theorem w_113_6 {x y : Int32} : dx_W (tb_Z L xs) d 113 6 lv (.int y :: .int x :: st) σ Q ↔ dx_W (tb_Z L xs) d 113 7 lv (.int (x + y) :: st) σ Q := r_iadd (hz_113.trans rfl)
theorem w_113_7 {u w : Value} : dx_W (tb_Z L xs) d 113 7 lv (u :: w :: st) σ Q ↔ wO (dx_pf σ w 9 21 0 u) (fun σ1 => dx_W (tb_Z L xs) d 113 10 lv st σ1 Q) := r_putfield (f := 0) (hz_113.trans rfl)
theorem w_113_10 : dx_W (tb_Z L xs) d 113 10 lv st σ Q ↔ wR (dx_lk lv 0) (fun y => dx_W (tb_Z L xs) d 113 11 lv (y :: st) σ Q) := r_aload_n (k := 0) (hz_113.trans rfl)
theorem w_113_11 {w : Value} : dx_W (tb_Z L xs) d 113 11 lv (w :: st) σ Q ↔ wO (dx_gf (tb_K L xs) σ w 9 21) (fun y => dx_W (tb_Z L xs) d 113 14 lv (y :: st) σ Q) := r_getfield (hz_113.trans rfl)
theorem w_113_14 : dx_W (tb_Z L xs) d 113 14 lv st σ Q ↔ dx_W (tb_Z L xs) d 113 16 lv (.int 6 :: st) σ Q := r_bipush (n := 6) (hz_113.trans rfl)
theorem w_113_16 {x y : Int32} : dx_W (tb_Z L xs) d 113 16 lv (.int y :: .int x :: st) σ Q ↔ (if x ≤ y then dx_W (tb_Z L xs) d 113 24 lv st σ Q else dx_W (tb_Z L xs) d 113 19 lv st σ Q) := r_ic_le (off := 8) (t := 24) (hz_113.trans rfl) (by decide)
theorem w_113_19 : dx_W (tb_Z L xs) d 113 19 lv st σ Q ↔ wR (dx_lk lv 0) (fun y => dx_W (tb_Z L xs) d 113 20 lv (y :: st) σ Q) := r_aload_n (k := 0) (hz_113.trans rfl)
theorem w_113_20 : dx_W (tb_Z L xs) d 113 20 lv st σ Q ↔ dx_W (tb_Z L xs) d 113 21 lv (.int 1 :: st) σ Q := r_iconst (n := 1) (hz_113.trans rfl)
theorem w_113_21 {u w : Value} : dx_W (tb_Z L xs) d 113 21 lv (u :: w :: st) σ Q ↔ wO (dx_pf σ w 9 10 2 u) (fun σ1 => dx_W (tb_Z L xs) d 113 24 lv st σ1 Q) := r_putfield (f := 2) (hz_113.trans rfl)
theorem w_113_24 : dx_W (tb_Z L xs) d 113 24 lv [] σ Q ↔ Q (.inl none) σ := r_return (hz_113.trans rfl) rfl
theorem hz_114 {pc : Nat} : (tb_Z L xs).1 114 pc = dx_at tb_m114 pc := rfl
theorem w_114_0 : dx_W (tb_Z L xs) d 114 0 lv st σ Q ↔ wR (dx_lk lv 0) (fun y => dx_W (tb_Z L xs) d 114 1 lv (y :: st) σ Q) := r_aload_n (k := 0) (hz_114.trans rfl)
theorem w_114_1 {w : Value} : dx_W (tb_Z L xs) d 114 1 lv (w :: st) σ Q ↔ wO (dx_gf (tb_K L xs) σ w 9 11) (fun y => dx_W (tb_Z L xs) d 114 4 lv (y :: st) σ Q) := r_getfield (hz_114.trans rfl)
theorem w_114_4 : dx_W (tb_Z L xs) d 114 4 lv st σ Q ↔ wR (dx_lk lv 0) (fun y => dx_W (tb_Z L xs) d 114 5 lv (y :: st) σ Q) := r_aload_n (k := 0) (hz_114.trans rfl)
theorem w_114_5 {w : Value} : dx_W (tb_Z L xs) d 114 5 lv (w :: st) σ Q ↔ wO (dx_gf (tb_K L xs) σ w 9 14) (fun y => dx_W (tb_Z L xs) d 114 8 lv (y :: st) σ Q) := r_getfield (hz_114.trans rfl)
theorem w_114_8 : dx_W (tb_Z L xs) d 114 8 lv st σ Q ↔ wI (dx_lk lv 1) (fun y => dx_W (tb_Z L xs) d 114 9 lv (.int y :: st) σ Q) := r_iload_n (k := 1) (hz_114.trans rfl)
theorem w_114_9 {w : Value} {y : Int32} {u : Int32} : dx_W (tb_Z L xs) d 114 9 lv (.int u :: .int y :: w :: st) σ Q ↔ wO (dx_pi σ 0 w y u) (fun σ1 => dx_W (tb_Z L xs) d 114 10 lv st σ1 Q) := r_iastore (hz_114.trans rfl)
theorem w_114_10 : dx_W (tb_Z L xs) d 114 10 lv st σ Q ↔ wR (dx_lk lv 0) (fun y => dx_W (tb_Z L xs) d 114 11 lv (y :: st) σ Q) := r_aload_n (k := 0) (hz_114.trans rfl)
theorem w_114_11 {w : Value} : dx_W (tb_Z L xs) d 114 11 lv (w :: st) σ Q ↔ wO (dx_gf (tb_K L xs) σ w 9 12) (fun y => dx_W (tb_Z L xs) d 114 14 lv (y :: st) σ Q) := r_getfield (hz_114.trans rfl)
theorem w_114_14 : dx_W (tb_Z L xs) d 114 14 lv st σ Q ↔ wR (dx_lk lv 0) (fun y => dx_W (tb_Z L xs) d 114 15 lv (y :: st) σ Q) := r_aload_n (k := 0) (hz_114.trans rfl)
theorem w_114_15 {w : Value} : dx_W (tb_Z L xs) d 114 15 lv (w :: st) σ Q ↔ wO (dx_gf (tb_K L xs) σ w 9 14) (fun y => dx_W (tb_Z L xs) d 114 18 lv (y :: st) σ Q) := r_getfield (hz_114.trans rfl)
theorem w_114_18 : dx_W (tb_Z L xs) d 114 18 lv st σ Q ↔ wI (dx_lk lv 2) (fun y => dx_W (tb_Z L xs) d 114 19 lv (.int y :: st) σ Q) := r_iload_n (k := 2) (hz_114.trans rfl)
theorem w_114_19 {w : Value} {y : Int32} {u : Int32} : dx_W (tb_Z L xs) d 114 19 lv (.int u :: .int y :: w :: st) σ Q ↔ wO (dx_pi σ 0 w y u) (fun σ1 => dx_W (tb_Z L xs) d 114 20 lv st σ1 Q) := r_iastore (hz_114.trans rfl)
theorem w_114_20 : dx_W (tb_Z L xs) d 114 20 lv st σ Q ↔ wR (dx_lk lv 0) (fun y => dx_W (tb_Z L xs) d 114 21 lv (y :: st) σ Q) := r_aload_n (k := 0) (hz_114.trans rfl)
theorem w_114_21 {w : Value} : dx_W (tb_Z L xs) d 114 21 lv (w :: st) σ Q ↔ wO (dx_gf (tb_K L xs) σ w 9 13) (fun y => dx_W (tb_Z L xs) d 114 24 lv (y :: st) σ Q) := r_getfield (hz_114.trans rfl)
theorem w_114_24 : dx_W (tb_Z L xs) d 114 24 lv st σ Q ↔ wR (dx_lk lv 0) (fun y => dx_W (tb_Z L xs) d 114 25 lv (y :: st) σ Q) := r_aload_n (k := 0) (hz_114.trans rfl)
theorem w_114_25 {w : Value} : dx_W (tb_Z L xs) d 114 25 lv (w :: st) σ Q ↔ wO (dx_gf (tb_K L xs) σ w 9 14) (fun y => dx_W (tb_Z L xs) d 114 28 lv (y :: st) σ Q) := r_getfield (hz_114.trans rfl)
theorem w_114_28 : dx_W (tb_Z L xs) d 114 28 lv st σ Q ↔ wI (dx_lk lv 3) (fun y => dx_W (tb_Z L xs) d 114 29 lv (.int y :: st) σ Q) := r_iload_n (k := 3) (hz_114.trans rfl)
theorem w_114_29 {w : Value} {y : Int32} {u : Int32} : dx_W (tb_Z L xs) d 114 29 lv (.int u :: .int y :: w :: st) σ Q ↔ wO (dx_pi σ 0 w y u) (fun σ1 => dx_W (tb_Z L xs) d 114 30 lv st σ1 Q) := r_iastore (hz_114.trans rfl)
theorem w_114_30 : dx_W (tb_Z L xs) d 114 30 lv st σ Q ↔ wR (dx_lk lv 0) (fun y => dx_W (tb_Z L xs) d 114 31 lv (y :: st) σ Q) := r_aload_n (k := 0) (hz_114.trans rfl)
theorem w_114_31_int {x : Int32} : dx_W (tb_Z L xs) d 114 31 lv (.int x :: st) σ Q ↔ dx_W (tb_Z L xs) d 114 32 lv (.int x :: .int x :: st) σ Q := r_dup_int (hz_114.trans rfl)
theorem w_114_31_ref {x : Nat} : dx_W (tb_Z L xs) d 114 31 lv (.ref x :: st) σ Q ↔ dx_W (tb_Z L xs) d 114 32 lv (.ref x :: .ref x :: st) σ Q := r_dup_ref (hz_114.trans rfl)
theorem w_114_31_retAddr {x : Nat} : dx_W (tb_Z L xs) d 114 31 lv (.retAddr x :: st) σ Q ↔ dx_W (tb_Z L xs) d 114 32 lv (.retAddr x :: .retAddr x :: st) σ Q := r_dup_retAddr (hz_114.trans rfl)
theorem w_114_32 {w : Value} : dx_W (tb_Z L xs) d 114 32 lv (w :: st) σ Q ↔ wO (dx_gf (tb_K L xs) σ w 9 14) (fun y => dx_W (tb_Z L xs) d 114 35 lv (y :: st) σ Q) := r_getfield (hz_114.trans rfl)
theorem w_114_35 : dx_W (tb_Z L xs) d 114 35 lv st σ Q ↔ dx_W (tb_Z L xs) d 114 36 lv (.int 1 :: st) σ Q := r_iconst (n := 1) (hz_114.trans rfl)
theorem w_114_36 {x y : Int32} : dx_W (tb_Z L xs) d 114 36 lv (.int y :: .int x :: st) σ Q ↔ dx_W (tb_Z L xs) d 114 37 lv (.int (x + y) :: st) σ Q := r_iadd (hz_114.trans rfl)
theorem w_114_37 {u w : Value} : dx_W (tb_Z L xs) d 114 37 lv (u :: w :: st) σ Q ↔ wO (dx_pf σ w 9 14 0 u) (fun σ1 => dx_W (tb_Z L xs) d 114 40 lv st σ1 Q) := r_putfield (f := 0) (hz_114.trans rfl)
theorem w_114_40 : dx_W (tb_Z L xs) d 114 40 lv [] σ Q ↔ Q (.inl none) σ := r_return (hz_114.trans rfl) rfl
theorem hz_115 {pc : Nat} : (tb_Z L xs).1 115 pc = dx_at tb_m115 pc := rfl
theorem w_115_0 : dx_W (tb_Z L xs) d 115 0 lv st σ Q ↔ wR (dx_lk lv 0) (fun y => dx_W (tb_Z L xs) d 115 1 lv (y :: st) σ Q) := r_aload_n (k := 0) (hz_115.trans rfl)
theorem w_115_1 : dx_W (tb_Z L xs) d 115 1 lv st σ Q ↔ wI (dx_lk lv 1) (fun y => dx_W (tb_Z L xs) d 115 2 lv (.int y :: st) σ Q) := r_iload_n (k := 1) (hz_115.trans rfl)
theorem w_115_2 {v0 v1 : Value}  : dx_W (tb_Z L xs) d 115 2 lv (v1 :: v0 :: st) σ Q ↔ (dx_ct st ≤ 8 ∧ dx_ci (tb_K L xs) σ v0 = some 9) ∧ dx_M (tb_Z L xs) d 112 [v0, v1] σ (wK (tb_Z L xs) d 115 5 lv st Q) := c_callv (av := [v1]) (hz_115.trans rfl)
theorem w_115_5 {x : Int32} : dx_W (tb_Z L xs) d 115 5 lv (.int x :: st) σ Q ↔ dx_W (tb_Z L xs) d 115 6 (dx_s1 lv 2 (.int x)) st σ Q := r_istore_n (k := 2) (hz_115.trans rfl) (show 2 < tb_l 115 by decide)
theorem w_115_6 : dx_W (tb_Z L xs) d 115 6 lv st σ Q ↔ wI (dx_lk lv 2) (fun y => dx_W (tb_Z L xs) d 115 7 lv (.int y :: st) σ Q) := r_iload_n (k := 2) (hz_115.trans rfl)
theorem w_115_7 {x : Int32} : dx_W (tb_Z L xs) d 115 7 lv (.int x :: st) σ Q ↔ (if ¬ x = 0 then dx_W (tb_Z L xs) d 115 15 lv st σ Q else dx_W (tb_Z L xs) d 115 10 lv st σ Q) := r_if_ne (off := 8) (t := 15) (hz_115.trans rfl) (by decide)
theorem w_115_10 : dx_W (tb_Z L xs) d 115 10 lv st σ Q ↔ wR (dx_lk lv 0) (fun y => dx_W (tb_Z L xs) d 115 11 lv (y :: st) σ Q) := r_aload_n (k := 0) (hz_115.trans rfl)
theorem w_115_11 : dx_W (tb_Z L xs) d 115 11 lv st σ Q ↔ dx_W (tb_Z L xs) d 115 12 lv (.int 1 :: st) σ Q := r_iconst (n := 1) (hz_115.trans rfl)
theorem w_115_12 {u w : Value} : dx_W (tb_Z L xs) d 115 12 lv (u :: w :: st) σ Q ↔ wO (dx_pf σ w 9 10 2 u) (fun σ1 => dx_W (tb_Z L xs) d 115 15 lv st σ1 Q) := r_putfield (f := 2) (hz_115.trans rfl)
theorem w_115_15 : dx_W (tb_Z L xs) d 115 15 lv [] σ Q ↔ Q (.inl none) σ := r_return (hz_115.trans rfl) rfl
theorem hz_116 {pc : Nat} : (tb_Z L xs).1 116 pc = dx_at tb_m116 pc := rfl
theorem w_116_0 : dx_W (tb_Z L xs) d 116 0 lv st σ Q ↔ wR (dx_lk lv 0) (fun y => dx_W (tb_Z L xs) d 116 1 lv (y :: st) σ Q) := r_aload_n (k := 0) (hz_116.trans rfl)
theorem w_116_1_int {x : Int32} : dx_W (tb_Z L xs) d 116 1 lv (.int x :: st) σ Q ↔ dx_W (tb_Z L xs) d 116 2 lv (.int x :: .int x :: st) σ Q := r_dup_int (hz_116.trans rfl)
theorem w_116_1_ref {x : Nat} : dx_W (tb_Z L xs) d 116 1 lv (.ref x :: st) σ Q ↔ dx_W (tb_Z L xs) d 116 2 lv (.ref x :: .ref x :: st) σ Q := r_dup_ref (hz_116.trans rfl)
theorem w_116_1_retAddr {x : Nat} : dx_W (tb_Z L xs) d 116 1 lv (.retAddr x :: st) σ Q ↔ dx_W (tb_Z L xs) d 116 2 lv (.retAddr x :: .retAddr x :: st) σ Q := r_dup_retAddr (hz_116.trans rfl)
theorem w_116_2 {w : Value} : dx_W (tb_Z L xs) d 116 2 lv (w :: st) σ Q ↔ wO (dx_gf (tb_K L xs) σ w 9 9) (fun y => dx_W (tb_Z L xs) d 116 5 lv (y :: st) σ Q) := r_getfield (hz_116.trans rfl)
theorem w_116_5 : dx_W (tb_Z L xs) d 116 5 lv st σ Q ↔ dx_W (tb_Z L xs) d 116 6 lv (.int 1 :: st) σ Q := r_iconst (n := 1) (hz_116.trans rfl)
theorem w_116_6 {x y : Int32} : dx_W (tb_Z L xs) d 116 6 lv (.int y :: .int x :: st) σ Q ↔ dx_W (tb_Z L xs) d 116 7 lv (.int (x + y) :: st) σ Q := r_iadd (hz_116.trans rfl)
theorem w_116_7 {u w : Value} : dx_W (tb_Z L xs) d 116 7 lv (u :: w :: st) σ Q ↔ wO (dx_pf σ w 9 9 0 u) (fun σ1 => dx_W (tb_Z L xs) d 116 10 lv st σ1 Q) := r_putfield (f := 0) (hz_116.trans rfl)
theorem w_116_10 : dx_W (tb_Z L xs) d 116 10 lv st σ Q ↔ wR (dx_lk lv 0) (fun y => dx_W (tb_Z L xs) d 116 11 lv (y :: st) σ Q) := r_aload_n (k := 0) (hz_116.trans rfl)
theorem w_116_11 {w : Value} : dx_W (tb_Z L xs) d 116 11 lv (w :: st) σ Q ↔ wO (dx_gf (tb_K L xs) σ w 9 6) (fun y => dx_W (tb_Z L xs) d 116 14 lv (y :: st) σ Q) := r_getfield (hz_116.trans rfl)
theorem w_116_14 : dx_W (tb_Z L xs) d 116 14 lv st σ Q ↔ wR (dx_lk lv 0) (fun y => dx_W (tb_Z L xs) d 116 15 lv (y :: st) σ Q) := r_aload_n (k := 0) (hz_116.trans rfl)
theorem w_116_15 {w : Value} : dx_W (tb_Z L xs) d 116 15 lv (w :: st) σ Q ↔ wO (dx_gf (tb_K L xs) σ w 9 9) (fun y => dx_W (tb_Z L xs) d 116 18 lv (y :: st) σ Q) := r_getfield (hz_116.trans rfl)
theorem w_116_18 {w : Value} {y : Int32} : dx_W (tb_Z L xs) d 116 18 lv (.int y :: w :: st) σ Q ↔ wO (dx_ei (tb_K L xs) σ 0 w y) (fun u => dx_W (tb_Z L xs) d 116 19 lv (.int u :: st) σ Q) := r_iaload (hz_116.trans rfl)
theorem w_116_19 {x : Int32} : dx_W (tb_Z L xs) d 116 19 lv (.int x :: st) σ Q ↔ dx_W (tb_Z L xs) d 116 20 (dx_s1 lv 1 (.int x)) st σ Q := r_istore_n (k := 1) (hz_116.trans rfl) (show 1 < tb_l 116 by decide)
theorem w_116_20 : dx_W (tb_Z L xs) d 116 20 lv st σ Q ↔ wR (dx_lk lv 0) (fun y => dx_W (tb_Z L xs) d 116 21 lv (y :: st) σ Q) := r_aload_n (k := 0) (hz_116.trans rfl)
theorem w_116_21 : dx_W (tb_Z L xs) d 116 21 lv st σ Q ↔ dx_W (tb_Z L xs) d 116 23 lv (.int 97 :: st) σ Q := r_bipush (n := 97) (hz_116.trans rfl)
theorem w_116_23 {v0 v1 : Value}  : dx_W (tb_Z L xs) d 116 23 lv (v1 :: v0 :: st) σ Q ↔ (dx_ct st ≤ 8 ∧ dx_ci (tb_K L xs) σ v0 = some 9) ∧ dx_M (tb_Z L xs) d 115 [v0, v1] σ (wK (tb_Z L xs) d 116 26 lv st Q) := c_callv (av := [v1]) (hz_116.trans rfl)
theorem w_116_26 : dx_W (tb_Z L xs) d 116 26 lv st σ Q ↔ wR (dx_lk lv 0) (fun y => dx_W (tb_Z L xs) d 116 27 lv (y :: st) σ Q) := r_aload_n (k := 0) (hz_116.trans rfl)
theorem w_116_27 : dx_W (tb_Z L xs) d 116 27 lv st σ Q ↔ dx_W (tb_Z L xs) d 116 29 lv (.int 40 :: st) σ Q := r_bipush (n := 40) (hz_116.trans rfl)
theorem w_116_29 {v0 v1 : Value}  : dx_W (tb_Z L xs) d 116 29 lv (v1 :: v0 :: st) σ Q ↔ (dx_ct st ≤ 8 ∧ dx_ci (tb_K L xs) σ v0 = some 9) ∧ dx_M (tb_Z L xs) d 115 [v0, v1] σ (wK (tb_Z L xs) d 116 32 lv st Q) := c_callv (av := [v1]) (hz_116.trans rfl)
theorem w_116_32 : dx_W (tb_Z L xs) d 116 32 lv st σ Q ↔ wR (dx_lk lv 0) (fun y => dx_W (tb_Z L xs) d 116 33 lv (y :: st) σ Q) := r_aload_n (k := 0) (hz_116.trans rfl)
theorem w_116_33 {w : Value} : dx_W (tb_Z L xs) d 116 33 lv (w :: st) σ Q ↔ wO (dx_gf (tb_K L xs) σ w 9 6) (fun y => dx_W (tb_Z L xs) d 116 36 lv (y :: st) σ Q) := r_getfield (hz_116.trans rfl)
theorem w_116_36 : dx_W (tb_Z L xs) d 116 36 lv st σ Q ↔ wR (dx_lk lv 0) (fun y => dx_W (tb_Z L xs) d 116 37 lv (y :: st) σ Q) := r_aload_n (k := 0) (hz_116.trans rfl)
theorem w_116_37 {w : Value} : dx_W (tb_Z L xs) d 116 37 lv (w :: st) σ Q ↔ wO (dx_gf (tb_K L xs) σ w 9 9) (fun y => dx_W (tb_Z L xs) d 116 40 lv (y :: st) σ Q) := r_getfield (hz_116.trans rfl)
theorem w_116_40 {w : Value} {y : Int32} : dx_W (tb_Z L xs) d 116 40 lv (.int y :: w :: st) σ Q ↔ wO (dx_ei (tb_K L xs) σ 0 w y) (fun u => dx_W (tb_Z L xs) d 116 41 lv (.int u :: st) σ Q) := r_iaload (hz_116.trans rfl)
theorem w_116_41 {x : Int32} : dx_W (tb_Z L xs) d 116 41 lv (.int x :: st) σ Q ↔ dx_W (tb_Z L xs) d 116 42 (dx_s1 lv 2 (.int x)) st σ Q := r_istore_n (k := 2) (hz_116.trans rfl) (show 2 < tb_l 116 by decide)
theorem w_116_42 : dx_W (tb_Z L xs) d 116 42 lv st σ Q ↔ wR (dx_lk lv 0) (fun y => dx_W (tb_Z L xs) d 116 43 lv (y :: st) σ Q) := r_aload_n (k := 0) (hz_116.trans rfl)
theorem w_116_43 : dx_W (tb_Z L xs) d 116 43 lv st σ Q ↔ dx_W (tb_Z L xs) d 116 45 lv (.int 97 :: st) σ Q := r_bipush (n := 97) (hz_116.trans rfl)
theorem w_116_45 {v0 v1 : Value}  : dx_W (tb_Z L xs) d 116 45 lv (v1 :: v0 :: st) σ Q ↔ (dx_ct st ≤ 8 ∧ dx_ci (tb_K L xs) σ v0 = some 9) ∧ dx_M (tb_Z L xs) d 115 [v0, v1] σ (wK (tb_Z L xs) d 116 48 lv st Q) := c_callv (av := [v1]) (hz_116.trans rfl)
theorem w_116_48 : dx_W (tb_Z L xs) d 116 48 lv st σ Q ↔ wR (dx_lk lv 0) (fun y => dx_W (tb_Z L xs) d 116 49 lv (y :: st) σ Q) := r_aload_n (k := 0) (hz_116.trans rfl)
theorem w_116_49 : dx_W (tb_Z L xs) d 116 49 lv st σ Q ↔ dx_W (tb_Z L xs) d 116 51 lv (.int 41 :: st) σ Q := r_bipush (n := 41) (hz_116.trans rfl)
theorem w_116_51 {v0 v1 : Value}  : dx_W (tb_Z L xs) d 116 51 lv (v1 :: v0 :: st) σ Q ↔ (dx_ct st ≤ 8 ∧ dx_ci (tb_K L xs) σ v0 = some 9) ∧ dx_M (tb_Z L xs) d 115 [v0, v1] σ (wK (tb_Z L xs) d 116 54 lv st Q) := c_callv (av := [v1]) (hz_116.trans rfl)
theorem w_116_54 : dx_W (tb_Z L xs) d 116 54 lv st σ Q ↔ wR (dx_lk lv 0) (fun y => dx_W (tb_Z L xs) d 116 55 lv (y :: st) σ Q) := r_aload_n (k := 0) (hz_116.trans rfl)
theorem w_116_55 : dx_W (tb_Z L xs) d 116 55 lv st σ Q ↔ dx_W (tb_Z L xs) d 116 57 lv (.int 123 :: st) σ Q := r_bipush (n := 123) (hz_116.trans rfl)
theorem w_116_57 {v0 v1 : Value}  : dx_W (tb_Z L xs) d 116 57 lv (v1 :: v0 :: st) σ Q ↔ (dx_ct st ≤ 8 ∧ dx_ci (tb_K L xs) σ v0 = some 9) ∧ dx_M (tb_Z L xs) d 115 [v0, v1] σ (wK (tb_Z L xs) d 116 60 lv st Q) := c_callv (av := [v1]) (hz_116.trans rfl)
theorem w_116_60 : dx_W (tb_Z L xs) d 116 60 lv st σ Q ↔ wR (dx_lk lv 0) (fun y => dx_W (tb_Z L xs) d 116 61 lv (y :: st) σ Q) := r_aload_n (k := 0) (hz_116.trans rfl)
theorem w_116_61 {w : Value} : dx_W (tb_Z L xs) d 116 61 lv (w :: st) σ Q ↔ wO (dx_gf (tb_K L xs) σ w 9 10) (fun y => dx_W (tb_Z L xs) d 116 64 lv (y :: st) σ Q) := r_getfield (hz_116.trans rfl)
theorem w_116_64 {x : Int32} : dx_W (tb_Z L xs) d 116 64 lv (.int x :: st) σ Q ↔ (if ¬ x = 0 then dx_W (tb_Z L xs) d 116 76 lv st σ Q else dx_W (tb_Z L xs) d 116 67 lv st σ Q) := r_if_ne (off := 12) (t := 76) (hz_116.trans rfl) (by decide)
theorem w_116_67 : dx_W (tb_Z L xs) d 116 67 lv st σ Q ↔ wR (dx_lk lv 0) (fun y => dx_W (tb_Z L xs) d 116 68 lv (y :: st) σ Q) := r_aload_n (k := 0) (hz_116.trans rfl)
theorem w_116_68 {w : Value} : dx_W (tb_Z L xs) d 116 68 lv (w :: st) σ Q ↔ wO (dx_gf (tb_K L xs) σ w 9 15) (fun y => dx_W (tb_Z L xs) d 116 71 lv (y :: st) σ Q) := r_getfield (hz_116.trans rfl)
theorem w_116_71 : dx_W (tb_Z L xs) d 116 71 lv st σ Q ↔ wI (dx_lk lv 1) (fun y => dx_W (tb_Z L xs) d 116 72 lv (.int y :: st) σ Q) := r_iload_n (k := 1) (hz_116.trans rfl)
theorem w_116_72 {w : Value} {y : Int32} : dx_W (tb_Z L xs) d 116 72 lv (.int y :: w :: st) σ Q ↔ wO (dx_ei (tb_K L xs) σ 0 w y) (fun u => dx_W (tb_Z L xs) d 116 73 lv (.int u :: st) σ Q) := r_iaload (hz_116.trans rfl)
theorem w_116_73 {x : Int32} : dx_W (tb_Z L xs) d 116 73 lv (.int x :: st) σ Q ↔ (if x < 0 then dx_W (tb_Z L xs) d 116 82 lv st σ Q else dx_W (tb_Z L xs) d 116 76 lv st σ Q) := r_if_lt (off := 9) (t := 82) (hz_116.trans rfl) (by decide)
theorem w_116_76 : dx_W (tb_Z L xs) d 116 76 lv st σ Q ↔ wR (dx_lk lv 0) (fun y => dx_W (tb_Z L xs) d 116 77 lv (y :: st) σ Q) := r_aload_n (k := 0) (hz_116.trans rfl)
theorem w_116_77 : dx_W (tb_Z L xs) d 116 77 lv st σ Q ↔ dx_W (tb_Z L xs) d 116 78 lv (.int 1 :: st) σ Q := r_iconst (n := 1) (hz_116.trans rfl)
theorem w_116_78 {u w : Value} : dx_W (tb_Z L xs) d 116 78 lv (u :: w :: st) σ Q ↔ wO (dx_pf σ w 9 10 2 u) (fun σ1 => dx_W (tb_Z L xs) d 116 81 lv st σ1 Q) := r_putfield (f := 2) (hz_116.trans rfl)
theorem w_116_81 : dx_W (tb_Z L xs) d 116 81 lv [] σ Q ↔ Q (.inl none) σ := r_return (hz_116.trans rfl) rfl
theorem w_116_82 : dx_W (tb_Z L xs) d 116 82 lv st σ Q ↔ wR (dx_lk lv 0) (fun y => dx_W (tb_Z L xs) d 116 83 lv (y :: st) σ Q) := r_aload_n (k := 0) (hz_116.trans rfl)
theorem w_116_83 {v0 : Value}  : dx_W (tb_Z L xs) d 116 83 lv (v0 :: st) σ Q ↔ (dx_ct st ≤ 8 ∧ dx_ci (tb_K L xs) σ v0 = some 9) ∧ dx_M (tb_Z L xs) d 113 [v0] σ (wK (tb_Z L xs) d 116 86 lv st Q) := c_callv (av := []) (hz_116.trans rfl)
theorem w_116_86 : dx_W (tb_Z L xs) d 116 86 lv st σ Q ↔ wR (dx_lk lv 0) (fun y => dx_W (tb_Z L xs) d 116 87 lv (y :: st) σ Q) := r_aload_n (k := 0) (hz_116.trans rfl)
theorem w_116_87 : dx_W (tb_Z L xs) d 116 87 lv st σ Q ↔ dx_W (tb_Z L xs) d 116 88 lv (.int 1 :: st) σ Q := r_iconst (n := 1) (hz_116.trans rfl)
theorem w_116_88 {u w : Value} : dx_W (tb_Z L xs) d 116 88 lv (u :: w :: st) σ Q ↔ wO (dx_pf σ w 9 22 2 u) (fun σ1 => dx_W (tb_Z L xs) d 116 91 lv st σ1 Q) := r_putfield (f := 2) (hz_116.trans rfl)
theorem w_116_91 : dx_W (tb_Z L xs) d 116 91 lv st σ Q ↔ wR (dx_lk lv 0) (fun y => dx_W (tb_Z L xs) d 116 92 lv (y :: st) σ Q) := r_aload_n (k := 0) (hz_116.trans rfl)
theorem w_116_92 : dx_W (tb_Z L xs) d 116 92 lv st σ Q ↔ dx_W (tb_Z L xs) d 116 94 lv (.int 21 :: st) σ Q := r_bipush (n := 21) (hz_116.trans rfl)
theorem w_116_94 : dx_W (tb_Z L xs) d 116 94 lv st σ Q ↔ wR (dx_lk lv 0) (fun y => dx_W (tb_Z L xs) d 116 95 lv (y :: st) σ Q) := r_aload_n (k := 0) (hz_116.trans rfl)
theorem w_116_95 {w : Value} : dx_W (tb_Z L xs) d 116 95 lv (w :: st) σ Q ↔ wO (dx_gf (tb_K L xs) σ w 9 14) (fun y => dx_W (tb_Z L xs) d 116 98 lv (y :: st) σ Q) := r_getfield (hz_116.trans rfl)
theorem w_116_98 : dx_W (tb_Z L xs) d 116 98 lv st σ Q ↔ dx_W (tb_Z L xs) d 116 99 lv (.int 0 :: st) σ Q := r_iconst (n := 0) (hz_116.trans rfl)
theorem w_116_99 {v0 v1 v2 v3 : Value}  : dx_W (tb_Z L xs) d 116 99 lv (v3 :: v2 :: v1 :: v0 :: st) σ Q ↔ (dx_ct st ≤ 8 ∧ dx_ci (tb_K L xs) σ v0 = some 9) ∧ dx_M (tb_Z L xs) d 109 [v0, v1, v2, v3] σ (wK (tb_Z L xs) d 116 102 lv st Q) := c_callv (av := [v1, v2, v3]) (hz_116.trans rfl)
theorem w_116_102 : dx_W (tb_Z L xs) d 116 102 lv st σ Q ↔ wR (dx_lk lv 0) (fun y => dx_W (tb_Z L xs) d 116 103 lv (y :: st) σ Q) := r_aload_n (k := 0) (hz_116.trans rfl)
theorem w_116_103 : dx_W (tb_Z L xs) d 116 103 lv st σ Q ↔ dx_W (tb_Z L xs) d 116 105 lv (.int 13 :: st) σ Q := r_bipush (n := 13) (hz_116.trans rfl)
theorem w_116_105 : dx_W (tb_Z L xs) d 116 105 lv st σ Q ↔ dx_W (tb_Z L xs) d 116 106 lv (.int 0 :: st) σ Q := r_iconst (n := 0) (hz_116.trans rfl)
theorem w_116_106 : dx_W (tb_Z L xs) d 116 106 lv st σ Q ↔ dx_W (tb_Z L xs) d 116 107 lv (.int 0 :: st) σ Q := r_iconst (n := 0) (hz_116.trans rfl)
theorem w_116_107 {v0 v1 v2 v3 : Value}  : dx_W (tb_Z L xs) d 116 107 lv (v3 :: v2 :: v1 :: v0 :: st) σ Q ↔ (dx_ct st ≤ 8 ∧ dx_ci (tb_K L xs) σ v0 = some 9) ∧ dx_M (tb_Z L xs) d 114 [v0, v1, v2, v3] σ (wK (tb_Z L xs) d 116 110 lv st Q) := c_callv (av := [v1, v2, v3]) (hz_116.trans rfl)
theorem w_116_110 : dx_W (tb_Z L xs) d 116 110 lv st σ Q ↔ wR (dx_lk lv 0) (fun y => dx_W (tb_Z L xs) d 116 111 lv (y :: st) σ Q) := r_aload_n (k := 0) (hz_116.trans rfl)
theorem w_116_111 {w : Value} : dx_W (tb_Z L xs) d 116 111 lv (w :: st) σ Q ↔ wO (dx_gf (tb_K L xs) σ w 9 15) (fun y => dx_W (tb_Z L xs) d 116 114 lv (y :: st) σ Q) := r_getfield (hz_116.trans rfl)
theorem w_116_114 : dx_W (tb_Z L xs) d 116 114 lv st σ Q ↔ wI (dx_lk lv 1) (fun y => dx_W (tb_Z L xs) d 116 115 lv (.int y :: st) σ Q) := r_iload_n (k := 1) (hz_116.trans rfl)
theorem w_116_115 : dx_W (tb_Z L xs) d 116 115 lv st σ Q ↔ wR (dx_lk lv 0) (fun y => dx_W (tb_Z L xs) d 116 116 lv (y :: st) σ Q) := r_aload_n (k := 0) (hz_116.trans rfl)
theorem w_116_116 {w : Value} : dx_W (tb_Z L xs) d 116 116 lv (w :: st) σ Q ↔ wO (dx_gf (tb_K L xs) σ w 9 14) (fun y => dx_W (tb_Z L xs) d 116 119 lv (y :: st) σ Q) := r_getfield (hz_116.trans rfl)
theorem w_116_119 {w : Value} {y : Int32} {u : Int32} : dx_W (tb_Z L xs) d 116 119 lv (.int u :: .int y :: w :: st) σ Q ↔ wO (dx_pi σ 0 w y u) (fun σ1 => dx_W (tb_Z L xs) d 116 120 lv st σ1 Q) := r_iastore (hz_116.trans rfl)
theorem w_116_120 : dx_W (tb_Z L xs) d 116 120 lv st σ Q ↔ wR (dx_lk lv 0) (fun y => dx_W (tb_Z L xs) d 116 121 lv (y :: st) σ Q) := r_aload_n (k := 0) (hz_116.trans rfl)
theorem w_116_121 {w : Value} : dx_W (tb_Z L xs) d 116 121 lv (w :: st) σ Q ↔ wO (dx_gf (tb_K L xs) σ w 9 16) (fun y => dx_W (tb_Z L xs) d 116 124 lv (y :: st) σ Q) := r_getfield (hz_116.trans rfl)
theorem w_116_124 : dx_W (tb_Z L xs) d 116 124 lv st σ Q ↔ wI (dx_lk lv 1) (fun y => dx_W (tb_Z L xs) d 116 125 lv (.int y :: st) σ Q) := r_iload_n (k := 1) (hz_116.trans rfl)
theorem w_116_125 : dx_W (tb_Z L xs) d 116 125 lv st σ Q ↔ wI (dx_lk lv 2) (fun y => dx_W (tb_Z L xs) d 116 126 lv (.int y :: st) σ Q) := r_iload_n (k := 2) (hz_116.trans rfl)
theorem w_116_126 {w : Value} {y : Int32} {u : Int32} : dx_W (tb_Z L xs) d 116 126 lv (.int u :: .int y :: w :: st) σ Q ↔ wO (dx_pi σ 0 w y u) (fun σ1 => dx_W (tb_Z L xs) d 116 127 lv st σ1 Q) := r_iastore (hz_116.trans rfl)
theorem w_116_127 : dx_W (tb_Z L xs) d 116 127 lv st σ Q ↔ wR (dx_lk lv 0) (fun y => dx_W (tb_Z L xs) d 116 128 lv (y :: st) σ Q) := r_aload_n (k := 0) (hz_116.trans rfl)
theorem w_116_128 : dx_W (tb_Z L xs) d 116 128 lv st σ Q ↔ dx_W (tb_Z L xs) d 116 129 lv (.int 5 :: st) σ Q := r_iconst (n := 5) (hz_116.trans rfl)
theorem w_116_129 : dx_W (tb_Z L xs) d 116 129 lv st σ Q ↔ dx_W (tb_Z L xs) d 116 130 lv (.int 0 :: st) σ Q := r_iconst (n := 0) (hz_116.trans rfl)
theorem w_116_130 : dx_W (tb_Z L xs) d 116 130 lv st σ Q ↔ dx_W (tb_Z L xs) d 116 131 lv (.int 0 :: st) σ Q := r_iconst (n := 0) (hz_116.trans rfl)
theorem w_116_131 {v0 v1 v2 v3 : Value}  : dx_W (tb_Z L xs) d 116 131 lv (v3 :: v2 :: v1 :: v0 :: st) σ Q ↔ (dx_ct st ≤ 8 ∧ dx_ci (tb_K L xs) σ v0 = some 9) ∧ dx_M (tb_Z L xs) d 109 [v0, v1, v2, v3] σ (wK (tb_Z L xs) d 116 134 lv st Q) := c_callv (av := [v1, v2, v3]) (hz_116.trans rfl)
theorem w_116_134 : dx_W (tb_Z L xs) d 116 134 lv st σ Q ↔ wR (dx_lk lv 0) (fun y => dx_W (tb_Z L xs) d 116 135 lv (y :: st) σ Q) := r_aload_n (k := 0) (hz_116.trans rfl)
theorem w_116_135 : dx_W (tb_Z L xs) d 116 135 lv st σ Q ↔ dx_W (tb_Z L xs) d 116 136 lv (.int 3 :: st) σ Q := r_iconst (n := 3) (hz_116.trans rfl)
theorem w_116_136 : dx_W (tb_Z L xs) d 116 136 lv st σ Q ↔ dx_W (tb_Z L xs) d 116 137 lv (.int 0 :: st) σ Q := r_iconst (n := 0) (hz_116.trans rfl)
theorem w_116_137 : dx_W (tb_Z L xs) d 116 137 lv st σ Q ↔ dx_W (tb_Z L xs) d 116 138 lv (.int 0 :: st) σ Q := r_iconst (n := 0) (hz_116.trans rfl)
theorem w_116_138 {v0 v1 v2 v3 : Value}  : dx_W (tb_Z L xs) d 116 138 lv (v3 :: v2 :: v1 :: v0 :: st) σ Q ↔ (dx_ct st ≤ 8 ∧ dx_ci (tb_K L xs) σ v0 = some 9) ∧ dx_M (tb_Z L xs) d 109 [v0, v1, v2, v3] σ (wK (tb_Z L xs) d 116 141 lv st Q) := c_callv (av := [v1, v2, v3]) (hz_116.trans rfl)
theorem w_116_141 : dx_W (tb_Z L xs) d 116 141 lv [] σ Q ↔ Q (.inl none) σ := r_return (hz_116.trans rfl) rfl
theorem hz_117 {pc : Nat} : (tb_Z L xs).1 117 pc = dx_at tb_m117 pc := rfl
set_option maxRecDepth 8000 in
theorem w_117_0 : dx_W (tb_Z L xs) d 117 0 lv st σ Q ↔ wR (dx_lk lv 0) (fun y => dx_W (tb_Z L xs) d 117 1 lv (y :: st) σ Q) := r_aload_n (k := 0) (hz_117.trans rfl)
set_option maxRecDepth 8000 in
theorem w_117_1 {w : Value} : dx_W (tb_Z L xs) d 117 1 lv (w :: st) σ Q ↔ wO (dx_gf (tb_K L xs) σ w 9 5) (fun y => dx_W (tb_Z L xs) d 117 4 lv (y :: st) σ Q) := r_getfield (hz_117.trans rfl)
set_option maxRecDepth 8000 in
theorem w_117_4 : dx_W (tb_Z L xs) d 117 4 lv st σ Q ↔ wR (dx_lk lv 0) (fun y => dx_W (tb_Z L xs) d 117 5 lv (y :: st) σ Q) := r_aload_n (k := 0) (hz_117.trans rfl)
set_option maxRecDepth 8000 in
theorem w_117_5 {w : Value} : dx_W (tb_Z L xs) d 117 5 lv (w :: st) σ Q ↔ wO (dx_gf (tb_K L xs) σ w 9 9) (fun y => dx_W (tb_Z L xs) d 117 8 lv (y :: st) σ Q) := r_getfield (hz_117.trans rfl)
set_option maxRecDepth 8000 in
theorem w_117_8 {w : Value} {y : Int32} : dx_W (tb_Z L xs) d 117 8 lv (.int y :: w :: st) σ Q ↔ wO (dx_ei (tb_K L xs) σ 0 w y) (fun u => dx_W (tb_Z L xs) d 117 9 lv (.int u :: st) σ Q) := r_iaload (hz_117.trans rfl)
set_option maxRecDepth 8000 in
theorem w_117_9 {x : Int32} : dx_W (tb_Z L xs) d 117 9 lv (.int x :: st) σ Q ↔ dx_W (tb_Z L xs) d 117 10 (dx_s1 lv 2 (.int x)) st σ Q := r_istore_n (k := 2) (hz_117.trans rfl) (show 2 < tb_l 117 by decide)
set_option maxRecDepth 8000 in
theorem w_117_10 : dx_W (tb_Z L xs) d 117 10 lv st σ Q ↔ wI (dx_lk lv 1) (fun y => dx_W (tb_Z L xs) d 117 11 lv (.int y :: st) σ Q) := r_iload_n (k := 1) (hz_117.trans rfl)
set_option maxRecDepth 8000 in
theorem w_117_11 {x : Int32} : dx_W (tb_Z L xs) d 117 11 lv (.int x :: st) σ Q ↔ (if x = 7 then dx_W (tb_Z L xs) d 117 60 lv st σ Q else if x = 8 then dx_W (tb_Z L xs) d 117 79 lv st σ Q else if x = 9 then dx_W (tb_Z L xs) d 117 103 lv st σ Q else if x = 10 then dx_W (tb_Z L xs) d 117 122 lv st σ Q else if x = 11 then dx_W (tb_Z L xs) d 117 152 lv st σ Q else if x = 12 then dx_W (tb_Z L xs) d 117 210 lv st σ Q else if x = 13 then dx_W (tb_Z L xs) d 117 250 lv st σ Q else if x = 14 then dx_W (tb_Z L xs) d 117 258 lv st σ Q else if x = 15 then dx_W (tb_Z L xs) d 117 277 lv st σ Q else dx_W (tb_Z L xs) d 117 296 lv st σ Q) := by
  by_cases h0 : x = 7
  · subst h0
    rw [if_pos rfl]
    exact r_sw (t := 60) (hz_117.trans rfl) rfl rfl
  rw [if_neg h0]
  by_cases h1 : x = 8
  · subst h1
    rw [if_pos rfl]
    exact r_sw (t := 79) (hz_117.trans rfl) rfl rfl
  rw [if_neg h1]
  by_cases h2 : x = 9
  · subst h2
    rw [if_pos rfl]
    exact r_sw (t := 103) (hz_117.trans rfl) rfl rfl
  rw [if_neg h2]
  by_cases h3 : x = 10
  · subst h3
    rw [if_pos rfl]
    exact r_sw (t := 122) (hz_117.trans rfl) rfl rfl
  rw [if_neg h3]
  by_cases h4 : x = 11
  · subst h4
    rw [if_pos rfl]
    exact r_sw (t := 152) (hz_117.trans rfl) rfl rfl
  rw [if_neg h4]
  by_cases h5 : x = 12
  · subst h5
    rw [if_pos rfl]
    exact r_sw (t := 210) (hz_117.trans rfl) rfl rfl
  rw [if_neg h5]
  by_cases h6 : x = 13
  · subst h6
    rw [if_pos rfl]
    exact r_sw (t := 250) (hz_117.trans rfl) rfl rfl
  rw [if_neg h6]
  by_cases h7 : x = 14
  · subst h7
    rw [if_pos rfl]
    exact r_sw (t := 258) (hz_117.trans rfl) rfl rfl
  rw [if_neg h7]
  by_cases h8 : x = 15
  · subst h8
    rw [if_pos rfl]
    exact r_sw (t := 277) (hz_117.trans rfl) rfl rfl
  rw [if_neg h8]
  refine r_table (t := 296) (hz_117.trans rfl) (by decide) ?_ (by decide)
  have g0 := lv_neT h0 (show (7 : Int32).toInt = 7 from rfl)
  have g1 := lv_neT h1 (show (8 : Int32).toInt = 8 from rfl)
  have g2 := lv_neT h2 (show (9 : Int32).toInt = 9 from rfl)
  have g3 := lv_neT h3 (show (10 : Int32).toInt = 10 from rfl)
  have g4 := lv_neT h4 (show (11 : Int32).toInt = 11 from rfl)
  have g5 := lv_neT h5 (show (12 : Int32).toInt = 12 from rfl)
  have g6 := lv_neT h6 (show (13 : Int32).toInt = 13 from rfl)
  have g7 := lv_neT h7 (show (14 : Int32).toInt = 14 from rfl)
  have g8 := lv_neT h8 (show (15 : Int32).toInt = 15 from rfl)
  omega
set_option maxRecDepth 8000 in
theorem w_117_60 : dx_W (tb_Z L xs) d 117 60 lv st σ Q ↔ wR (dx_lk lv 0) (fun y => dx_W (tb_Z L xs) d 117 61 lv (y :: st) σ Q) := r_aload_n (k := 0) (hz_117.trans rfl)
set_option maxRecDepth 8000 in
theorem w_117_61 : dx_W (tb_Z L xs) d 117 61 lv st σ Q ↔ dx_W (tb_Z L xs) d 117 63 lv (.int 8 :: st) σ Q := r_bipush (n := 8) (hz_117.trans rfl)
set_option maxRecDepth 8000 in
theorem w_117_63 : dx_W (tb_Z L xs) d 117 63 lv st σ Q ↔ dx_W (tb_Z L xs) d 117 64 lv (.int 0 :: st) σ Q := r_iconst (n := 0) (hz_117.trans rfl)
set_option maxRecDepth 8000 in
theorem w_117_64 : dx_W (tb_Z L xs) d 117 64 lv st σ Q ↔ dx_W (tb_Z L xs) d 117 65 lv (.int 0 :: st) σ Q := r_iconst (n := 0) (hz_117.trans rfl)
set_option maxRecDepth 8000 in
theorem w_117_65 {v0 v1 v2 v3 : Value}  : dx_W (tb_Z L xs) d 117 65 lv (v3 :: v2 :: v1 :: v0 :: st) σ Q ↔ (dx_ct st ≤ 8 ∧ dx_ci (tb_K L xs) σ v0 = some 9) ∧ dx_M (tb_Z L xs) d 109 [v0, v1, v2, v3] σ (wK (tb_Z L xs) d 117 68 lv st Q) := c_callv (av := [v1, v2, v3]) (hz_117.trans rfl)
set_option maxRecDepth 8000 in
theorem w_117_68 : dx_W (tb_Z L xs) d 117 68 lv st σ Q ↔ wR (dx_lk lv 0) (fun y => dx_W (tb_Z L xs) d 117 69 lv (y :: st) σ Q) := r_aload_n (k := 0) (hz_117.trans rfl)
set_option maxRecDepth 8000 in
theorem w_117_69 : dx_W (tb_Z L xs) d 117 69 lv st σ Q ↔ dx_W (tb_Z L xs) d 117 71 lv (.int 9 :: st) σ Q := r_bipush (n := 9) (hz_117.trans rfl)
set_option maxRecDepth 8000 in
theorem w_117_71 : dx_W (tb_Z L xs) d 117 71 lv st σ Q ↔ dx_W (tb_Z L xs) d 117 72 lv (.int 0 :: st) σ Q := r_iconst (n := 0) (hz_117.trans rfl)
set_option maxRecDepth 8000 in
theorem w_117_72 : dx_W (tb_Z L xs) d 117 72 lv st σ Q ↔ dx_W (tb_Z L xs) d 117 73 lv (.int 0 :: st) σ Q := r_iconst (n := 0) (hz_117.trans rfl)
set_option maxRecDepth 8000 in
theorem w_117_73 {v0 v1 v2 v3 : Value}  : dx_W (tb_Z L xs) d 117 73 lv (v3 :: v2 :: v1 :: v0 :: st) σ Q ↔ (dx_ct st ≤ 8 ∧ dx_ci (tb_K L xs) σ v0 = some 9) ∧ dx_M (tb_Z L xs) d 109 [v0, v1, v2, v3] σ (wK (tb_Z L xs) d 117 76 lv st Q) := c_callv (av := [v1, v2, v3]) (hz_117.trans rfl)
set_option maxRecDepth 8000 in
theorem w_117_76 : dx_W (tb_Z L xs) d 117 76 lv st σ Q ↔ dx_W (tb_Z L xs) d 117 367 lv st σ Q := r_goto (off := 291) (t := 367) (hz_117.trans rfl) (by decide)
set_option maxRecDepth 8000 in
theorem w_117_79 : dx_W (tb_Z L xs) d 117 79 lv st σ Q ↔ wI (dx_lk lv 2) (fun y => dx_W (tb_Z L xs) d 117 80 lv (.int y :: st) σ Q) := r_iload_n (k := 2) (hz_117.trans rfl)
set_option maxRecDepth 8000 in
theorem w_117_80 : dx_W (tb_Z L xs) d 117 80 lv st σ Q ↔ dx_W (tb_Z L xs) d 117 82 lv (.int 43 :: st) σ Q := r_bipush (n := 43) (hz_117.trans rfl)
set_option maxRecDepth 8000 in
theorem w_117_82 {x y : Int32} : dx_W (tb_Z L xs) d 117 82 lv (.int y :: .int x :: st) σ Q ↔ (if x = y then dx_W (tb_Z L xs) d 117 91 lv st σ Q else dx_W (tb_Z L xs) d 117 85 lv st σ Q) := r_ic_eq (off := 9) (t := 91) (hz_117.trans rfl) (by decide)
set_option maxRecDepth 8000 in
theorem w_117_85 : dx_W (tb_Z L xs) d 117 85 lv st σ Q ↔ wI (dx_lk lv 2) (fun y => dx_W (tb_Z L xs) d 117 86 lv (.int y :: st) σ Q) := r_iload_n (k := 2) (hz_117.trans rfl)
set_option maxRecDepth 8000 in
theorem w_117_86 : dx_W (tb_Z L xs) d 117 86 lv st σ Q ↔ dx_W (tb_Z L xs) d 117 88 lv (.int 45 :: st) σ Q := r_bipush (n := 45) (hz_117.trans rfl)
set_option maxRecDepth 8000 in
theorem w_117_88 {x y : Int32} : dx_W (tb_Z L xs) d 117 88 lv (.int y :: .int x :: st) σ Q ↔ (if ¬ x = y then dx_W (tb_Z L xs) d 117 367 lv st σ Q else dx_W (tb_Z L xs) d 117 91 lv st σ Q) := r_ic_ne (off := 279) (t := 367) (hz_117.trans rfl) (by decide)
set_option maxRecDepth 8000 in
theorem w_117_91 : dx_W (tb_Z L xs) d 117 91 lv st σ Q ↔ wR (dx_lk lv 0) (fun y => dx_W (tb_Z L xs) d 117 92 lv (y :: st) σ Q) := r_aload_n (k := 0) (hz_117.trans rfl)
set_option maxRecDepth 8000 in
theorem w_117_92 : dx_W (tb_Z L xs) d 117 92 lv st σ Q ↔ dx_W (tb_Z L xs) d 117 94 lv (.int 8 :: st) σ Q := r_bipush (n := 8) (hz_117.trans rfl)
set_option maxRecDepth 8000 in
theorem w_117_94 : dx_W (tb_Z L xs) d 117 94 lv st σ Q ↔ dx_W (tb_Z L xs) d 117 96 lv (.int 9 :: st) σ Q := r_bipush (n := 9) (hz_117.trans rfl)
set_option maxRecDepth 8000 in
theorem w_117_96 : dx_W (tb_Z L xs) d 117 96 lv st σ Q ↔ wI (dx_lk lv 2) (fun y => dx_W (tb_Z L xs) d 117 97 lv (.int y :: st) σ Q) := r_iload_n (k := 2) (hz_117.trans rfl)
set_option maxRecDepth 8000 in
theorem w_117_97 {v0 v1 v2 v3 : Value}  : dx_W (tb_Z L xs) d 117 97 lv (v3 :: v2 :: v1 :: v0 :: st) σ Q ↔ (dx_ct st ≤ 8 ∧ dx_ci (tb_K L xs) σ v0 = some 9) ∧ dx_M (tb_Z L xs) d 118 [v0, v1, v2, v3] σ (wK (tb_Z L xs) d 117 100 lv st Q) := c_callv (av := [v1, v2, v3]) (hz_117.trans rfl)
set_option maxRecDepth 8000 in
theorem w_117_100 : dx_W (tb_Z L xs) d 117 100 lv st σ Q ↔ dx_W (tb_Z L xs) d 117 367 lv st σ Q := r_goto (off := 267) (t := 367) (hz_117.trans rfl) (by decide)
set_option maxRecDepth 8000 in
theorem w_117_103 : dx_W (tb_Z L xs) d 117 103 lv st σ Q ↔ wR (dx_lk lv 0) (fun y => dx_W (tb_Z L xs) d 117 104 lv (y :: st) σ Q) := r_aload_n (k := 0) (hz_117.trans rfl)
set_option maxRecDepth 8000 in
theorem w_117_104 : dx_W (tb_Z L xs) d 117 104 lv st σ Q ↔ dx_W (tb_Z L xs) d 117 106 lv (.int 10 :: st) σ Q := r_bipush (n := 10) (hz_117.trans rfl)
set_option maxRecDepth 8000 in
theorem w_117_106 : dx_W (tb_Z L xs) d 117 106 lv st σ Q ↔ dx_W (tb_Z L xs) d 117 107 lv (.int 0 :: st) σ Q := r_iconst (n := 0) (hz_117.trans rfl)
set_option maxRecDepth 8000 in
theorem w_117_107 : dx_W (tb_Z L xs) d 117 107 lv st σ Q ↔ dx_W (tb_Z L xs) d 117 108 lv (.int 0 :: st) σ Q := r_iconst (n := 0) (hz_117.trans rfl)
set_option maxRecDepth 8000 in
theorem w_117_108 {v0 v1 v2 v3 : Value}  : dx_W (tb_Z L xs) d 117 108 lv (v3 :: v2 :: v1 :: v0 :: st) σ Q ↔ (dx_ct st ≤ 8 ∧ dx_ci (tb_K L xs) σ v0 = some 9) ∧ dx_M (tb_Z L xs) d 109 [v0, v1, v2, v3] σ (wK (tb_Z L xs) d 117 111 lv st Q) := c_callv (av := [v1, v2, v3]) (hz_117.trans rfl)
set_option maxRecDepth 8000 in
theorem w_117_111 : dx_W (tb_Z L xs) d 117 111 lv st σ Q ↔ wR (dx_lk lv 0) (fun y => dx_W (tb_Z L xs) d 117 112 lv (y :: st) σ Q) := r_aload_n (k := 0) (hz_117.trans rfl)
set_option maxRecDepth 8000 in
theorem w_117_112 : dx_W (tb_Z L xs) d 117 112 lv st σ Q ↔ dx_W (tb_Z L xs) d 117 114 lv (.int 11 :: st) σ Q := r_bipush (n := 11) (hz_117.trans rfl)
set_option maxRecDepth 8000 in
theorem w_117_114 : dx_W (tb_Z L xs) d 117 114 lv st σ Q ↔ dx_W (tb_Z L xs) d 117 115 lv (.int 0 :: st) σ Q := r_iconst (n := 0) (hz_117.trans rfl)
set_option maxRecDepth 8000 in
theorem w_117_115 : dx_W (tb_Z L xs) d 117 115 lv st σ Q ↔ dx_W (tb_Z L xs) d 117 116 lv (.int 0 :: st) σ Q := r_iconst (n := 0) (hz_117.trans rfl)
set_option maxRecDepth 8000 in
theorem w_117_116 {v0 v1 v2 v3 : Value}  : dx_W (tb_Z L xs) d 117 116 lv (v3 :: v2 :: v1 :: v0 :: st) σ Q ↔ (dx_ct st ≤ 8 ∧ dx_ci (tb_K L xs) σ v0 = some 9) ∧ dx_M (tb_Z L xs) d 109 [v0, v1, v2, v3] σ (wK (tb_Z L xs) d 117 119 lv st Q) := c_callv (av := [v1, v2, v3]) (hz_117.trans rfl)
set_option maxRecDepth 8000 in
theorem w_117_119 : dx_W (tb_Z L xs) d 117 119 lv st σ Q ↔ dx_W (tb_Z L xs) d 117 367 lv st σ Q := r_goto (off := 248) (t := 367) (hz_117.trans rfl) (by decide)
set_option maxRecDepth 8000 in
theorem w_117_122 : dx_W (tb_Z L xs) d 117 122 lv st σ Q ↔ wI (dx_lk lv 2) (fun y => dx_W (tb_Z L xs) d 117 123 lv (.int y :: st) σ Q) := r_iload_n (k := 2) (hz_117.trans rfl)
set_option maxRecDepth 8000 in
theorem w_117_123 : dx_W (tb_Z L xs) d 117 123 lv st σ Q ↔ dx_W (tb_Z L xs) d 117 125 lv (.int 42 :: st) σ Q := r_bipush (n := 42) (hz_117.trans rfl)
set_option maxRecDepth 8000 in
theorem w_117_125 {x y : Int32} : dx_W (tb_Z L xs) d 117 125 lv (.int y :: .int x :: st) σ Q ↔ (if x = y then dx_W (tb_Z L xs) d 117 140 lv st σ Q else dx_W (tb_Z L xs) d 117 128 lv st σ Q) := r_ic_eq (off := 15) (t := 140) (hz_117.trans rfl) (by decide)
set_option maxRecDepth 8000 in
theorem w_117_128 : dx_W (tb_Z L xs) d 117 128 lv st σ Q ↔ wI (dx_lk lv 2) (fun y => dx_W (tb_Z L xs) d 117 129 lv (.int y :: st) σ Q) := r_iload_n (k := 2) (hz_117.trans rfl)
set_option maxRecDepth 8000 in
theorem w_117_129 : dx_W (tb_Z L xs) d 117 129 lv st σ Q ↔ dx_W (tb_Z L xs) d 117 131 lv (.int 47 :: st) σ Q := r_bipush (n := 47) (hz_117.trans rfl)
set_option maxRecDepth 8000 in
theorem w_117_131 {x y : Int32} : dx_W (tb_Z L xs) d 117 131 lv (.int y :: .int x :: st) σ Q ↔ (if x = y then dx_W (tb_Z L xs) d 117 140 lv st σ Q else dx_W (tb_Z L xs) d 117 134 lv st σ Q) := r_ic_eq (off := 9) (t := 140) (hz_117.trans rfl) (by decide)
set_option maxRecDepth 8000 in
theorem w_117_134 : dx_W (tb_Z L xs) d 117 134 lv st σ Q ↔ wI (dx_lk lv 2) (fun y => dx_W (tb_Z L xs) d 117 135 lv (.int y :: st) σ Q) := r_iload_n (k := 2) (hz_117.trans rfl)
set_option maxRecDepth 8000 in
theorem w_117_135 : dx_W (tb_Z L xs) d 117 135 lv st σ Q ↔ dx_W (tb_Z L xs) d 117 137 lv (.int 37 :: st) σ Q := r_bipush (n := 37) (hz_117.trans rfl)
set_option maxRecDepth 8000 in
theorem w_117_137 {x y : Int32} : dx_W (tb_Z L xs) d 117 137 lv (.int y :: .int x :: st) σ Q ↔ (if ¬ x = y then dx_W (tb_Z L xs) d 117 367 lv st σ Q else dx_W (tb_Z L xs) d 117 140 lv st σ Q) := r_ic_ne (off := 230) (t := 367) (hz_117.trans rfl) (by decide)
set_option maxRecDepth 8000 in
theorem w_117_140 : dx_W (tb_Z L xs) d 117 140 lv st σ Q ↔ wR (dx_lk lv 0) (fun y => dx_W (tb_Z L xs) d 117 141 lv (y :: st) σ Q) := r_aload_n (k := 0) (hz_117.trans rfl)
set_option maxRecDepth 8000 in
theorem w_117_141 : dx_W (tb_Z L xs) d 117 141 lv st σ Q ↔ dx_W (tb_Z L xs) d 117 143 lv (.int 10 :: st) σ Q := r_bipush (n := 10) (hz_117.trans rfl)
set_option maxRecDepth 8000 in
theorem w_117_143 : dx_W (tb_Z L xs) d 117 143 lv st σ Q ↔ dx_W (tb_Z L xs) d 117 145 lv (.int 11 :: st) σ Q := r_bipush (n := 11) (hz_117.trans rfl)
set_option maxRecDepth 8000 in
theorem w_117_145 : dx_W (tb_Z L xs) d 117 145 lv st σ Q ↔ wI (dx_lk lv 2) (fun y => dx_W (tb_Z L xs) d 117 146 lv (.int y :: st) σ Q) := r_iload_n (k := 2) (hz_117.trans rfl)
set_option maxRecDepth 8000 in
theorem w_117_146 {v0 v1 v2 v3 : Value}  : dx_W (tb_Z L xs) d 117 146 lv (v3 :: v2 :: v1 :: v0 :: st) σ Q ↔ (dx_ct st ≤ 8 ∧ dx_ci (tb_K L xs) σ v0 = some 9) ∧ dx_M (tb_Z L xs) d 118 [v0, v1, v2, v3] σ (wK (tb_Z L xs) d 117 149 lv st Q) := c_callv (av := [v1, v2, v3]) (hz_117.trans rfl)
set_option maxRecDepth 8000 in
theorem w_117_149 : dx_W (tb_Z L xs) d 117 149 lv st σ Q ↔ dx_W (tb_Z L xs) d 117 367 lv st σ Q := r_goto (off := 218) (t := 367) (hz_117.trans rfl) (by decide)
set_option maxRecDepth 8000 in
theorem w_117_152 : dx_W (tb_Z L xs) d 117 152 lv st σ Q ↔ wR (dx_lk lv 0) (fun y => dx_W (tb_Z L xs) d 117 153 lv (y :: st) σ Q) := r_aload_n (k := 0) (hz_117.trans rfl)
set_option maxRecDepth 8000 in
theorem w_117_153 : dx_W (tb_Z L xs) d 117 153 lv st σ Q ↔ dx_W (tb_Z L xs) d 117 155 lv (.int 45 :: st) σ Q := r_bipush (n := 45) (hz_117.trans rfl)
set_option maxRecDepth 8000 in
theorem w_117_155 {v0 v1 : Value}  : dx_W (tb_Z L xs) d 117 155 lv (v1 :: v0 :: st) σ Q ↔ (dx_ct st ≤ 8 ∧ dx_ci (tb_K L xs) σ v0 = some 9) ∧ dx_M (tb_Z L xs) d 112 [v0, v1] σ (wK (tb_Z L xs) d 117 158 lv st Q) := c_callv (av := [v1]) (hz_117.trans rfl)
set_option maxRecDepth 8000 in
theorem w_117_158 {x : Int32} : dx_W (tb_Z L xs) d 117 158 lv (.int x :: st) σ Q ↔ (if x = 0 then dx_W (tb_Z L xs) d 117 191 lv st σ Q else dx_W (tb_Z L xs) d 117 161 lv st σ Q) := r_if_eq (off := 33) (t := 191) (hz_117.trans rfl) (by decide)
set_option maxRecDepth 8000 in
theorem w_117_161 : dx_W (tb_Z L xs) d 117 161 lv st σ Q ↔ wR (dx_lk lv 0) (fun y => dx_W (tb_Z L xs) d 117 162 lv (y :: st) σ Q) := r_aload_n (k := 0) (hz_117.trans rfl)
set_option maxRecDepth 8000 in
theorem w_117_162 {v0 : Value}  : dx_W (tb_Z L xs) d 117 162 lv (v0 :: st) σ Q ↔ (dx_ct st ≤ 8 ∧ dx_ci (tb_K L xs) σ v0 = some 9) ∧ dx_M (tb_Z L xs) d 113 [v0] σ (wK (tb_Z L xs) d 117 165 lv st Q) := c_callv (av := []) (hz_117.trans rfl)
set_option maxRecDepth 8000 in
theorem w_117_165 : dx_W (tb_Z L xs) d 117 165 lv st σ Q ↔ wR (dx_lk lv 0) (fun y => dx_W (tb_Z L xs) d 117 166 lv (y :: st) σ Q) := r_aload_n (k := 0) (hz_117.trans rfl)
set_option maxRecDepth 8000 in
theorem w_117_166 : dx_W (tb_Z L xs) d 117 166 lv st σ Q ↔ dx_W (tb_Z L xs) d 117 167 lv (.int 5 :: st) σ Q := r_iconst (n := 5) (hz_117.trans rfl)
set_option maxRecDepth 8000 in
theorem w_117_167 : dx_W (tb_Z L xs) d 117 167 lv st σ Q ↔ dx_W (tb_Z L xs) d 117 168 lv (.int 0 :: st) σ Q := r_iconst (n := 0) (hz_117.trans rfl)
set_option maxRecDepth 8000 in
theorem w_117_168 : dx_W (tb_Z L xs) d 117 168 lv st σ Q ↔ dx_W (tb_Z L xs) d 117 169 lv (.int 0 :: st) σ Q := r_iconst (n := 0) (hz_117.trans rfl)
set_option maxRecDepth 8000 in
theorem w_117_169 {v0 v1 v2 v3 : Value}  : dx_W (tb_Z L xs) d 117 169 lv (v3 :: v2 :: v1 :: v0 :: st) σ Q ↔ (dx_ct st ≤ 8 ∧ dx_ci (tb_K L xs) σ v0 = some 9) ∧ dx_M (tb_Z L xs) d 109 [v0, v1, v2, v3] σ (wK (tb_Z L xs) d 117 172 lv st Q) := c_callv (av := [v1, v2, v3]) (hz_117.trans rfl)
set_option maxRecDepth 8000 in
theorem w_117_172 : dx_W (tb_Z L xs) d 117 172 lv st σ Q ↔ wR (dx_lk lv 0) (fun y => dx_W (tb_Z L xs) d 117 173 lv (y :: st) σ Q) := r_aload_n (k := 0) (hz_117.trans rfl)
set_option maxRecDepth 8000 in
theorem w_117_173 : dx_W (tb_Z L xs) d 117 173 lv st σ Q ↔ dx_W (tb_Z L xs) d 117 175 lv (.int 17 :: st) σ Q := r_bipush (n := 17) (hz_117.trans rfl)
set_option maxRecDepth 8000 in
theorem w_117_175 : dx_W (tb_Z L xs) d 117 175 lv st σ Q ↔ dx_W (tb_Z L xs) d 117 176 lv (.int 4 :: st) σ Q := r_iconst (n := 4) (hz_117.trans rfl)
set_option maxRecDepth 8000 in
theorem w_117_176 : dx_W (tb_Z L xs) d 117 176 lv st σ Q ↔ dx_W (tb_Z L xs) d 117 177 lv (.int 0 :: st) σ Q := r_iconst (n := 0) (hz_117.trans rfl)
set_option maxRecDepth 8000 in
theorem w_117_177 {v0 v1 v2 v3 : Value}  : dx_W (tb_Z L xs) d 117 177 lv (v3 :: v2 :: v1 :: v0 :: st) σ Q ↔ (dx_ct st ≤ 8 ∧ dx_ci (tb_K L xs) σ v0 = some 9) ∧ dx_M (tb_Z L xs) d 109 [v0, v1, v2, v3] σ (wK (tb_Z L xs) d 117 180 lv st Q) := c_callv (av := [v1, v2, v3]) (hz_117.trans rfl)
set_option maxRecDepth 8000 in
theorem w_117_180 : dx_W (tb_Z L xs) d 117 180 lv st σ Q ↔ wR (dx_lk lv 0) (fun y => dx_W (tb_Z L xs) d 117 181 lv (y :: st) σ Q) := r_aload_n (k := 0) (hz_117.trans rfl)
set_option maxRecDepth 8000 in
theorem w_117_181 : dx_W (tb_Z L xs) d 117 181 lv st σ Q ↔ dx_W (tb_Z L xs) d 117 183 lv (.int 11 :: st) σ Q := r_bipush (n := 11) (hz_117.trans rfl)
set_option maxRecDepth 8000 in
theorem w_117_183 : dx_W (tb_Z L xs) d 117 183 lv st σ Q ↔ dx_W (tb_Z L xs) d 117 184 lv (.int 0 :: st) σ Q := r_iconst (n := 0) (hz_117.trans rfl)
set_option maxRecDepth 8000 in
theorem w_117_184 : dx_W (tb_Z L xs) d 117 184 lv st σ Q ↔ dx_W (tb_Z L xs) d 117 185 lv (.int 0 :: st) σ Q := r_iconst (n := 0) (hz_117.trans rfl)
set_option maxRecDepth 8000 in
theorem w_117_185 {v0 v1 v2 v3 : Value}  : dx_W (tb_Z L xs) d 117 185 lv (v3 :: v2 :: v1 :: v0 :: st) σ Q ↔ (dx_ct st ≤ 8 ∧ dx_ci (tb_K L xs) σ v0 = some 9) ∧ dx_M (tb_Z L xs) d 109 [v0, v1, v2, v3] σ (wK (tb_Z L xs) d 117 188 lv st Q) := c_callv (av := [v1, v2, v3]) (hz_117.trans rfl)
set_option maxRecDepth 8000 in
theorem w_117_188 : dx_W (tb_Z L xs) d 117 188 lv st σ Q ↔ dx_W (tb_Z L xs) d 117 367 lv st σ Q := r_goto (off := 179) (t := 367) (hz_117.trans rfl) (by decide)
set_option maxRecDepth 8000 in
theorem w_117_191 : dx_W (tb_Z L xs) d 117 191 lv st σ Q ↔ wR (dx_lk lv 0) (fun y => dx_W (tb_Z L xs) d 117 192 lv (y :: st) σ Q) := r_aload_n (k := 0) (hz_117.trans rfl)
set_option maxRecDepth 8000 in
theorem w_117_192 : dx_W (tb_Z L xs) d 117 192 lv st σ Q ↔ dx_W (tb_Z L xs) d 117 194 lv (.int 12 :: st) σ Q := r_bipush (n := 12) (hz_117.trans rfl)
set_option maxRecDepth 8000 in
theorem w_117_194 : dx_W (tb_Z L xs) d 117 194 lv st σ Q ↔ dx_W (tb_Z L xs) d 117 195 lv (.int 0 :: st) σ Q := r_iconst (n := 0) (hz_117.trans rfl)
set_option maxRecDepth 8000 in
theorem w_117_195 : dx_W (tb_Z L xs) d 117 195 lv st σ Q ↔ dx_W (tb_Z L xs) d 117 196 lv (.int 0 :: st) σ Q := r_iconst (n := 0) (hz_117.trans rfl)
set_option maxRecDepth 8000 in
theorem w_117_196 {v0 v1 v2 v3 : Value}  : dx_W (tb_Z L xs) d 117 196 lv (v3 :: v2 :: v1 :: v0 :: st) σ Q ↔ (dx_ct st ≤ 8 ∧ dx_ci (tb_K L xs) σ v0 = some 9) ∧ dx_M (tb_Z L xs) d 109 [v0, v1, v2, v3] σ (wK (tb_Z L xs) d 117 199 lv st Q) := c_callv (av := [v1, v2, v3]) (hz_117.trans rfl)
set_option maxRecDepth 8000 in
theorem w_117_199 : dx_W (tb_Z L xs) d 117 199 lv st σ Q ↔ wR (dx_lk lv 0) (fun y => dx_W (tb_Z L xs) d 117 200 lv (y :: st) σ Q) := r_aload_n (k := 0) (hz_117.trans rfl)
set_option maxRecDepth 8000 in
theorem w_117_200 : dx_W (tb_Z L xs) d 117 200 lv st σ Q ↔ dx_W (tb_Z L xs) d 117 202 lv (.int 13 :: st) σ Q := r_bipush (n := 13) (hz_117.trans rfl)
set_option maxRecDepth 8000 in
theorem w_117_202 : dx_W (tb_Z L xs) d 117 202 lv st σ Q ↔ dx_W (tb_Z L xs) d 117 203 lv (.int 0 :: st) σ Q := r_iconst (n := 0) (hz_117.trans rfl)
set_option maxRecDepth 8000 in
theorem w_117_203 : dx_W (tb_Z L xs) d 117 203 lv st σ Q ↔ dx_W (tb_Z L xs) d 117 204 lv (.int 0 :: st) σ Q := r_iconst (n := 0) (hz_117.trans rfl)
set_option maxRecDepth 8000 in
theorem w_117_204 {v0 v1 v2 v3 : Value}  : dx_W (tb_Z L xs) d 117 204 lv (v3 :: v2 :: v1 :: v0 :: st) σ Q ↔ (dx_ct st ≤ 8 ∧ dx_ci (tb_K L xs) σ v0 = some 9) ∧ dx_M (tb_Z L xs) d 109 [v0, v1, v2, v3] σ (wK (tb_Z L xs) d 117 207 lv st Q) := c_callv (av := [v1, v2, v3]) (hz_117.trans rfl)
set_option maxRecDepth 8000 in
theorem w_117_207 : dx_W (tb_Z L xs) d 117 207 lv st σ Q ↔ dx_W (tb_Z L xs) d 117 367 lv st σ Q := r_goto (off := 160) (t := 367) (hz_117.trans rfl) (by decide)
set_option maxRecDepth 8000 in
theorem w_117_210 : dx_W (tb_Z L xs) d 117 210 lv st σ Q ↔ wR (dx_lk lv 0) (fun y => dx_W (tb_Z L xs) d 117 211 lv (y :: st) σ Q) := r_aload_n (k := 0) (hz_117.trans rfl)
set_option maxRecDepth 8000 in
theorem w_117_211 : dx_W (tb_Z L xs) d 117 211 lv st σ Q ↔ dx_W (tb_Z L xs) d 117 213 lv (.int 94 :: st) σ Q := r_bipush (n := 94) (hz_117.trans rfl)
set_option maxRecDepth 8000 in
theorem w_117_213 {v0 v1 : Value}  : dx_W (tb_Z L xs) d 117 213 lv (v1 :: v0 :: st) σ Q ↔ (dx_ct st ≤ 8 ∧ dx_ci (tb_K L xs) σ v0 = some 9) ∧ dx_M (tb_Z L xs) d 112 [v0, v1] σ (wK (tb_Z L xs) d 117 216 lv st Q) := c_callv (av := [v1]) (hz_117.trans rfl)
set_option maxRecDepth 8000 in
theorem w_117_216 {x : Int32} : dx_W (tb_Z L xs) d 117 216 lv (.int x :: st) σ Q ↔ (if x = 0 then dx_W (tb_Z L xs) d 117 367 lv st σ Q else dx_W (tb_Z L xs) d 117 219 lv st σ Q) := r_if_eq (off := 151) (t := 367) (hz_117.trans rfl) (by decide)
set_option maxRecDepth 8000 in
theorem w_117_219 : dx_W (tb_Z L xs) d 117 219 lv st σ Q ↔ wR (dx_lk lv 0) (fun y => dx_W (tb_Z L xs) d 117 220 lv (y :: st) σ Q) := r_aload_n (k := 0) (hz_117.trans rfl)
set_option maxRecDepth 8000 in
theorem w_117_220 {v0 : Value}  : dx_W (tb_Z L xs) d 117 220 lv (v0 :: st) σ Q ↔ (dx_ct st ≤ 8 ∧ dx_ci (tb_K L xs) σ v0 = some 9) ∧ dx_M (tb_Z L xs) d 113 [v0] σ (wK (tb_Z L xs) d 117 223 lv st Q) := c_callv (av := []) (hz_117.trans rfl)
set_option maxRecDepth 8000 in
theorem w_117_223 : dx_W (tb_Z L xs) d 117 223 lv st σ Q ↔ wR (dx_lk lv 0) (fun y => dx_W (tb_Z L xs) d 117 224 lv (y :: st) σ Q) := r_aload_n (k := 0) (hz_117.trans rfl)
set_option maxRecDepth 8000 in
theorem w_117_224 : dx_W (tb_Z L xs) d 117 224 lv st σ Q ↔ dx_W (tb_Z L xs) d 117 226 lv (.int 17 :: st) σ Q := r_bipush (n := 17) (hz_117.trans rfl)
set_option maxRecDepth 8000 in
theorem w_117_226 : dx_W (tb_Z L xs) d 117 226 lv st σ Q ↔ dx_W (tb_Z L xs) d 117 227 lv (.int 5 :: st) σ Q := r_iconst (n := 5) (hz_117.trans rfl)
set_option maxRecDepth 8000 in
theorem w_117_227 : dx_W (tb_Z L xs) d 117 227 lv st σ Q ↔ dx_W (tb_Z L xs) d 117 229 lv (.int 94 :: st) σ Q := r_bipush (n := 94) (hz_117.trans rfl)
set_option maxRecDepth 8000 in
theorem w_117_229 {v0 v1 v2 v3 : Value}  : dx_W (tb_Z L xs) d 117 229 lv (v3 :: v2 :: v1 :: v0 :: st) σ Q ↔ (dx_ct st ≤ 8 ∧ dx_ci (tb_K L xs) σ v0 = some 9) ∧ dx_M (tb_Z L xs) d 109 [v0, v1, v2, v3] σ (wK (tb_Z L xs) d 117 232 lv st Q) := c_callv (av := [v1, v2, v3]) (hz_117.trans rfl)
set_option maxRecDepth 8000 in
theorem w_117_232 : dx_W (tb_Z L xs) d 117 232 lv st σ Q ↔ wR (dx_lk lv 0) (fun y => dx_W (tb_Z L xs) d 117 233 lv (y :: st) σ Q) := r_aload_n (k := 0) (hz_117.trans rfl)
set_option maxRecDepth 8000 in
theorem w_117_233 : dx_W (tb_Z L xs) d 117 233 lv st σ Q ↔ dx_W (tb_Z L xs) d 117 234 lv (.int 5 :: st) σ Q := r_iconst (n := 5) (hz_117.trans rfl)
set_option maxRecDepth 8000 in
theorem w_117_234 : dx_W (tb_Z L xs) d 117 234 lv st σ Q ↔ dx_W (tb_Z L xs) d 117 235 lv (.int 0 :: st) σ Q := r_iconst (n := 0) (hz_117.trans rfl)
set_option maxRecDepth 8000 in
theorem w_117_235 : dx_W (tb_Z L xs) d 117 235 lv st σ Q ↔ dx_W (tb_Z L xs) d 117 236 lv (.int 0 :: st) σ Q := r_iconst (n := 0) (hz_117.trans rfl)
set_option maxRecDepth 8000 in
theorem w_117_236 {v0 v1 v2 v3 : Value}  : dx_W (tb_Z L xs) d 117 236 lv (v3 :: v2 :: v1 :: v0 :: st) σ Q ↔ (dx_ct st ≤ 8 ∧ dx_ci (tb_K L xs) σ v0 = some 9) ∧ dx_M (tb_Z L xs) d 109 [v0, v1, v2, v3] σ (wK (tb_Z L xs) d 117 239 lv st Q) := c_callv (av := [v1, v2, v3]) (hz_117.trans rfl)
set_option maxRecDepth 8000 in
theorem w_117_239 : dx_W (tb_Z L xs) d 117 239 lv st σ Q ↔ wR (dx_lk lv 0) (fun y => dx_W (tb_Z L xs) d 117 240 lv (y :: st) σ Q) := r_aload_n (k := 0) (hz_117.trans rfl)
set_option maxRecDepth 8000 in
theorem w_117_240 : dx_W (tb_Z L xs) d 117 240 lv st σ Q ↔ dx_W (tb_Z L xs) d 117 242 lv (.int 11 :: st) σ Q := r_bipush (n := 11) (hz_117.trans rfl)
set_option maxRecDepth 8000 in
theorem w_117_242 : dx_W (tb_Z L xs) d 117 242 lv st σ Q ↔ dx_W (tb_Z L xs) d 117 243 lv (.int 0 :: st) σ Q := r_iconst (n := 0) (hz_117.trans rfl)
set_option maxRecDepth 8000 in
theorem w_117_243 : dx_W (tb_Z L xs) d 117 243 lv st σ Q ↔ dx_W (tb_Z L xs) d 117 244 lv (.int 0 :: st) σ Q := r_iconst (n := 0) (hz_117.trans rfl)
set_option maxRecDepth 8000 in
theorem w_117_244 {v0 v1 v2 v3 : Value}  : dx_W (tb_Z L xs) d 117 244 lv (v3 :: v2 :: v1 :: v0 :: st) σ Q ↔ (dx_ct st ≤ 8 ∧ dx_ci (tb_K L xs) σ v0 = some 9) ∧ dx_M (tb_Z L xs) d 109 [v0, v1, v2, v3] σ (wK (tb_Z L xs) d 117 247 lv st Q) := c_callv (av := [v1, v2, v3]) (hz_117.trans rfl)
set_option maxRecDepth 8000 in
theorem w_117_247 : dx_W (tb_Z L xs) d 117 247 lv st σ Q ↔ dx_W (tb_Z L xs) d 117 367 lv st σ Q := r_goto (off := 120) (t := 367) (hz_117.trans rfl) (by decide)
set_option maxRecDepth 8000 in
theorem w_117_250 : dx_W (tb_Z L xs) d 117 250 lv st σ Q ↔ wR (dx_lk lv 0) (fun y => dx_W (tb_Z L xs) d 117 251 lv (y :: st) σ Q) := r_aload_n (k := 0) (hz_117.trans rfl)
set_option maxRecDepth 8000 in
theorem w_117_251 : dx_W (tb_Z L xs) d 117 251 lv st σ Q ↔ wI (dx_lk lv 2) (fun y => dx_W (tb_Z L xs) d 117 252 lv (.int y :: st) σ Q) := r_iload_n (k := 2) (hz_117.trans rfl)
set_option maxRecDepth 8000 in
theorem w_117_252 {v0 v1 : Value}  : dx_W (tb_Z L xs) d 117 252 lv (v1 :: v0 :: st) σ Q ↔ (dx_ct st ≤ 8 ∧ dx_ci (tb_K L xs) σ v0 = some 9) ∧ dx_M (tb_Z L xs) d 119 [v0, v1] σ (wK (tb_Z L xs) d 117 255 lv st Q) := c_callv (av := [v1]) (hz_117.trans rfl)
set_option maxRecDepth 8000 in
theorem w_117_255 : dx_W (tb_Z L xs) d 117 255 lv st σ Q ↔ dx_W (tb_Z L xs) d 117 367 lv st σ Q := r_goto (off := 112) (t := 367) (hz_117.trans rfl) (by decide)
set_option maxRecDepth 8000 in
theorem w_117_258 : dx_W (tb_Z L xs) d 117 258 lv st σ Q ↔ wR (dx_lk lv 0) (fun y => dx_W (tb_Z L xs) d 117 259 lv (y :: st) σ Q) := r_aload_n (k := 0) (hz_117.trans rfl)
set_option maxRecDepth 8000 in
theorem w_117_259 : dx_W (tb_Z L xs) d 117 259 lv st σ Q ↔ dx_W (tb_Z L xs) d 117 261 lv (.int 41 :: st) σ Q := r_bipush (n := 41) (hz_117.trans rfl)
set_option maxRecDepth 8000 in
theorem w_117_261 {v0 v1 : Value}  : dx_W (tb_Z L xs) d 117 261 lv (v1 :: v0 :: st) σ Q ↔ (dx_ct st ≤ 8 ∧ dx_ci (tb_K L xs) σ v0 = some 9) ∧ dx_M (tb_Z L xs) d 115 [v0, v1] σ (wK (tb_Z L xs) d 117 264 lv st Q) := c_callv (av := [v1]) (hz_117.trans rfl)
set_option maxRecDepth 8000 in
theorem w_117_264 : dx_W (tb_Z L xs) d 117 264 lv st σ Q ↔ wR (dx_lk lv 0) (fun y => dx_W (tb_Z L xs) d 117 265 lv (y :: st) σ Q) := r_aload_n (k := 0) (hz_117.trans rfl)
set_option maxRecDepth 8000 in
theorem w_117_265_int {x : Int32} : dx_W (tb_Z L xs) d 117 265 lv (.int x :: st) σ Q ↔ dx_W (tb_Z L xs) d 117 266 lv (.int x :: .int x :: st) σ Q := r_dup_int (hz_117.trans rfl)
set_option maxRecDepth 8000 in
theorem w_117_265_ref {x : Nat} : dx_W (tb_Z L xs) d 117 265 lv (.ref x :: st) σ Q ↔ dx_W (tb_Z L xs) d 117 266 lv (.ref x :: .ref x :: st) σ Q := r_dup_ref (hz_117.trans rfl)
set_option maxRecDepth 8000 in
theorem w_117_265_retAddr {x : Nat} : dx_W (tb_Z L xs) d 117 265 lv (.retAddr x :: st) σ Q ↔ dx_W (tb_Z L xs) d 117 266 lv (.retAddr x :: .retAddr x :: st) σ Q := r_dup_retAddr (hz_117.trans rfl)
set_option maxRecDepth 8000 in
theorem w_117_266 {w : Value} : dx_W (tb_Z L xs) d 117 266 lv (w :: st) σ Q ↔ wO (dx_gf (tb_K L xs) σ w 9 21) (fun y => dx_W (tb_Z L xs) d 117 269 lv (y :: st) σ Q) := r_getfield (hz_117.trans rfl)
set_option maxRecDepth 8000 in
theorem w_117_269 : dx_W (tb_Z L xs) d 117 269 lv st σ Q ↔ dx_W (tb_Z L xs) d 117 270 lv (.int 1 :: st) σ Q := r_iconst (n := 1) (hz_117.trans rfl)
set_option maxRecDepth 8000 in
theorem w_117_270 {x y : Int32} : dx_W (tb_Z L xs) d 117 270 lv (.int y :: .int x :: st) σ Q ↔ dx_W (tb_Z L xs) d 117 271 lv (.int (x - y) :: st) σ Q := r_isub (hz_117.trans rfl)
set_option maxRecDepth 8000 in
theorem w_117_271 {u w : Value} : dx_W (tb_Z L xs) d 117 271 lv (u :: w :: st) σ Q ↔ wO (dx_pf σ w 9 21 0 u) (fun σ1 => dx_W (tb_Z L xs) d 117 274 lv st σ1 Q) := r_putfield (f := 0) (hz_117.trans rfl)
set_option maxRecDepth 8000 in
theorem w_117_274 : dx_W (tb_Z L xs) d 117 274 lv st σ Q ↔ dx_W (tb_Z L xs) d 117 367 lv st σ Q := r_goto (off := 93) (t := 367) (hz_117.trans rfl) (by decide)
set_option maxRecDepth 8000 in
theorem w_117_277 : dx_W (tb_Z L xs) d 117 277 lv st σ Q ↔ wR (dx_lk lv 0) (fun y => dx_W (tb_Z L xs) d 117 278 lv (y :: st) σ Q) := r_aload_n (k := 0) (hz_117.trans rfl)
set_option maxRecDepth 8000 in
theorem w_117_278 : dx_W (tb_Z L xs) d 117 278 lv st σ Q ↔ dx_W (tb_Z L xs) d 117 280 lv (.int 16 :: st) σ Q := r_bipush (n := 16) (hz_117.trans rfl)
set_option maxRecDepth 8000 in
theorem w_117_280 : dx_W (tb_Z L xs) d 117 280 lv st σ Q ↔ dx_W (tb_Z L xs) d 117 281 lv (.int 0 :: st) σ Q := r_iconst (n := 0) (hz_117.trans rfl)
set_option maxRecDepth 8000 in
theorem w_117_281 : dx_W (tb_Z L xs) d 117 281 lv st σ Q ↔ dx_W (tb_Z L xs) d 117 282 lv (.int 0 :: st) σ Q := r_iconst (n := 0) (hz_117.trans rfl)
set_option maxRecDepth 8000 in
theorem w_117_282 {v0 v1 v2 v3 : Value}  : dx_W (tb_Z L xs) d 117 282 lv (v3 :: v2 :: v1 :: v0 :: st) σ Q ↔ (dx_ct st ≤ 8 ∧ dx_ci (tb_K L xs) σ v0 = some 9) ∧ dx_M (tb_Z L xs) d 109 [v0, v1, v2, v3] σ (wK (tb_Z L xs) d 117 285 lv st Q) := c_callv (av := [v1, v2, v3]) (hz_117.trans rfl)
set_option maxRecDepth 8000 in
theorem w_117_285 : dx_W (tb_Z L xs) d 117 285 lv st σ Q ↔ wR (dx_lk lv 0) (fun y => dx_W (tb_Z L xs) d 117 286 lv (y :: st) σ Q) := r_aload_n (k := 0) (hz_117.trans rfl)
set_option maxRecDepth 8000 in
theorem w_117_286 : dx_W (tb_Z L xs) d 117 286 lv st σ Q ↔ dx_W (tb_Z L xs) d 117 288 lv (.int 7 :: st) σ Q := r_bipush (n := 7) (hz_117.trans rfl)
set_option maxRecDepth 8000 in
theorem w_117_288 : dx_W (tb_Z L xs) d 117 288 lv st σ Q ↔ dx_W (tb_Z L xs) d 117 289 lv (.int 0 :: st) σ Q := r_iconst (n := 0) (hz_117.trans rfl)
set_option maxRecDepth 8000 in
theorem w_117_289 : dx_W (tb_Z L xs) d 117 289 lv st σ Q ↔ dx_W (tb_Z L xs) d 117 290 lv (.int 0 :: st) σ Q := r_iconst (n := 0) (hz_117.trans rfl)
set_option maxRecDepth 8000 in
theorem w_117_290 {v0 v1 v2 v3 : Value}  : dx_W (tb_Z L xs) d 117 290 lv (v3 :: v2 :: v1 :: v0 :: st) σ Q ↔ (dx_ct st ≤ 8 ∧ dx_ci (tb_K L xs) σ v0 = some 9) ∧ dx_M (tb_Z L xs) d 109 [v0, v1, v2, v3] σ (wK (tb_Z L xs) d 117 293 lv st Q) := c_callv (av := [v1, v2, v3]) (hz_117.trans rfl)
set_option maxRecDepth 8000 in
theorem w_117_293 : dx_W (tb_Z L xs) d 117 293 lv st σ Q ↔ dx_W (tb_Z L xs) d 117 367 lv st σ Q := r_goto (off := 74) (t := 367) (hz_117.trans rfl) (by decide)
set_option maxRecDepth 8000 in
theorem w_117_296 : dx_W (tb_Z L xs) d 117 296 lv st σ Q ↔ wI (dx_lk lv 2) (fun y => dx_W (tb_Z L xs) d 117 297 lv (.int y :: st) σ Q) := r_iload_n (k := 2) (hz_117.trans rfl)
set_option maxRecDepth 8000 in
theorem w_117_297 : dx_W (tb_Z L xs) d 117 297 lv st σ Q ↔ dx_W (tb_Z L xs) d 117 299 lv (.int 60 :: st) σ Q := r_bipush (n := 60) (hz_117.trans rfl)
set_option maxRecDepth 8000 in
theorem w_117_299 {x y : Int32} : dx_W (tb_Z L xs) d 117 299 lv (.int y :: .int x :: st) σ Q ↔ (if x = y then dx_W (tb_Z L xs) d 117 332 lv st σ Q else dx_W (tb_Z L xs) d 117 302 lv st σ Q) := r_ic_eq (off := 33) (t := 332) (hz_117.trans rfl) (by decide)
set_option maxRecDepth 8000 in
theorem w_117_302 : dx_W (tb_Z L xs) d 117 302 lv st σ Q ↔ wI (dx_lk lv 2) (fun y => dx_W (tb_Z L xs) d 117 303 lv (.int y :: st) σ Q) := r_iload_n (k := 2) (hz_117.trans rfl)
set_option maxRecDepth 8000 in
theorem w_117_303 : dx_W (tb_Z L xs) d 117 303 lv st σ Q ↔ dx_W (tb_Z L xs) d 117 305 lv (.int 62 :: st) σ Q := r_bipush (n := 62) (hz_117.trans rfl)
set_option maxRecDepth 8000 in
theorem w_117_305 {x y : Int32} : dx_W (tb_Z L xs) d 117 305 lv (.int y :: .int x :: st) σ Q ↔ (if x = y then dx_W (tb_Z L xs) d 117 332 lv st σ Q else dx_W (tb_Z L xs) d 117 308 lv st σ Q) := r_ic_eq (off := 27) (t := 332) (hz_117.trans rfl) (by decide)
set_option maxRecDepth 8000 in
theorem w_117_308 : dx_W (tb_Z L xs) d 117 308 lv st σ Q ↔ wI (dx_lk lv 2) (fun y => dx_W (tb_Z L xs) d 117 309 lv (.int y :: st) σ Q) := r_iload_n (k := 2) (hz_117.trans rfl)
set_option maxRecDepth 8000 in
theorem w_117_309 : dx_W (tb_Z L xs) d 117 309 lv st σ Q ↔ dx_W (tb_Z L xs) d 117 311 lv (.int 76 :: st) σ Q := r_bipush (n := 76) (hz_117.trans rfl)
set_option maxRecDepth 8000 in
theorem w_117_311 {x y : Int32} : dx_W (tb_Z L xs) d 117 311 lv (.int y :: .int x :: st) σ Q ↔ (if x = y then dx_W (tb_Z L xs) d 117 332 lv st σ Q else dx_W (tb_Z L xs) d 117 314 lv st σ Q) := r_ic_eq (off := 21) (t := 332) (hz_117.trans rfl) (by decide)
set_option maxRecDepth 8000 in
theorem w_117_314 : dx_W (tb_Z L xs) d 117 314 lv st σ Q ↔ wI (dx_lk lv 2) (fun y => dx_W (tb_Z L xs) d 117 315 lv (.int y :: st) σ Q) := r_iload_n (k := 2) (hz_117.trans rfl)
set_option maxRecDepth 8000 in
theorem w_117_315 : dx_W (tb_Z L xs) d 117 315 lv st σ Q ↔ dx_W (tb_Z L xs) d 117 317 lv (.int 71 :: st) σ Q := r_bipush (n := 71) (hz_117.trans rfl)
set_option maxRecDepth 8000 in
theorem w_117_317 {x y : Int32} : dx_W (tb_Z L xs) d 117 317 lv (.int y :: .int x :: st) σ Q ↔ (if x = y then dx_W (tb_Z L xs) d 117 332 lv st σ Q else dx_W (tb_Z L xs) d 117 320 lv st σ Q) := r_ic_eq (off := 15) (t := 332) (hz_117.trans rfl) (by decide)
set_option maxRecDepth 8000 in
theorem w_117_320 : dx_W (tb_Z L xs) d 117 320 lv st σ Q ↔ wI (dx_lk lv 2) (fun y => dx_W (tb_Z L xs) d 117 321 lv (.int y :: st) σ Q) := r_iload_n (k := 2) (hz_117.trans rfl)
set_option maxRecDepth 8000 in
theorem w_117_321 : dx_W (tb_Z L xs) d 117 321 lv st σ Q ↔ dx_W (tb_Z L xs) d 117 323 lv (.int 69 :: st) σ Q := r_bipush (n := 69) (hz_117.trans rfl)
set_option maxRecDepth 8000 in
theorem w_117_323 {x y : Int32} : dx_W (tb_Z L xs) d 117 323 lv (.int y :: .int x :: st) σ Q ↔ (if x = y then dx_W (tb_Z L xs) d 117 332 lv st σ Q else dx_W (tb_Z L xs) d 117 326 lv st σ Q) := r_ic_eq (off := 9) (t := 332) (hz_117.trans rfl) (by decide)
set_option maxRecDepth 8000 in
theorem w_117_326 : dx_W (tb_Z L xs) d 117 326 lv st σ Q ↔ wI (dx_lk lv 2) (fun y => dx_W (tb_Z L xs) d 117 327 lv (.int y :: st) σ Q) := r_iload_n (k := 2) (hz_117.trans rfl)
set_option maxRecDepth 8000 in
theorem w_117_327 : dx_W (tb_Z L xs) d 117 327 lv st σ Q ↔ dx_W (tb_Z L xs) d 117 329 lv (.int 78 :: st) σ Q := r_bipush (n := 78) (hz_117.trans rfl)
set_option maxRecDepth 8000 in
theorem w_117_329 {x y : Int32} : dx_W (tb_Z L xs) d 117 329 lv (.int y :: .int x :: st) σ Q ↔ (if ¬ x = y then dx_W (tb_Z L xs) d 117 362 lv st σ Q else dx_W (tb_Z L xs) d 117 332 lv st σ Q) := r_ic_ne (off := 33) (t := 362) (hz_117.trans rfl) (by decide)
set_option maxRecDepth 8000 in
theorem w_117_332 : dx_W (tb_Z L xs) d 117 332 lv st σ Q ↔ wR (dx_lk lv 0) (fun y => dx_W (tb_Z L xs) d 117 333 lv (y :: st) σ Q) := r_aload_n (k := 0) (hz_117.trans rfl)
set_option maxRecDepth 8000 in
theorem w_117_333_int {x : Int32} : dx_W (tb_Z L xs) d 117 333 lv (.int x :: st) σ Q ↔ dx_W (tb_Z L xs) d 117 334 lv (.int x :: .int x :: st) σ Q := r_dup_int (hz_117.trans rfl)
set_option maxRecDepth 8000 in
theorem w_117_333_ref {x : Nat} : dx_W (tb_Z L xs) d 117 333 lv (.ref x :: st) σ Q ↔ dx_W (tb_Z L xs) d 117 334 lv (.ref x :: .ref x :: st) σ Q := r_dup_ref (hz_117.trans rfl)
set_option maxRecDepth 8000 in
theorem w_117_333_retAddr {x : Nat} : dx_W (tb_Z L xs) d 117 333 lv (.retAddr x :: st) σ Q ↔ dx_W (tb_Z L xs) d 117 334 lv (.retAddr x :: .retAddr x :: st) σ Q := r_dup_retAddr (hz_117.trans rfl)
set_option maxRecDepth 8000 in
theorem w_117_334 {w : Value} : dx_W (tb_Z L xs) d 117 334 lv (w :: st) σ Q ↔ wO (dx_gf (tb_K L xs) σ w 9 9) (fun y => dx_W (tb_Z L xs) d 117 337 lv (y :: st) σ Q) := r_getfield (hz_117.trans rfl)
set_option maxRecDepth 8000 in
theorem w_117_337 : dx_W (tb_Z L xs) d 117 337 lv st σ Q ↔ dx_W (tb_Z L xs) d 117 338 lv (.int 1 :: st) σ Q := r_iconst (n := 1) (hz_117.trans rfl)
set_option maxRecDepth 8000 in
theorem w_117_338 {x y : Int32} : dx_W (tb_Z L xs) d 117 338 lv (.int y :: .int x :: st) σ Q ↔ dx_W (tb_Z L xs) d 117 339 lv (.int (x + y) :: st) σ Q := r_iadd (hz_117.trans rfl)
set_option maxRecDepth 8000 in
theorem w_117_339 {u w : Value} : dx_W (tb_Z L xs) d 117 339 lv (u :: w :: st) σ Q ↔ wO (dx_pf σ w 9 9 0 u) (fun σ1 => dx_W (tb_Z L xs) d 117 342 lv st σ1 Q) := r_putfield (f := 0) (hz_117.trans rfl)
set_option maxRecDepth 8000 in
theorem w_117_342 : dx_W (tb_Z L xs) d 117 342 lv st σ Q ↔ wR (dx_lk lv 0) (fun y => dx_W (tb_Z L xs) d 117 343 lv (y :: st) σ Q) := r_aload_n (k := 0) (hz_117.trans rfl)
set_option maxRecDepth 8000 in
theorem w_117_343 : dx_W (tb_Z L xs) d 117 343 lv st σ Q ↔ dx_W (tb_Z L xs) d 117 345 lv (.int 17 :: st) σ Q := r_bipush (n := 17) (hz_117.trans rfl)
set_option maxRecDepth 8000 in
theorem w_117_345 : dx_W (tb_Z L xs) d 117 345 lv st σ Q ↔ dx_W (tb_Z L xs) d 117 347 lv (.int 7 :: st) σ Q := r_bipush (n := 7) (hz_117.trans rfl)
set_option maxRecDepth 8000 in
theorem w_117_347 : dx_W (tb_Z L xs) d 117 347 lv st σ Q ↔ wI (dx_lk lv 2) (fun y => dx_W (tb_Z L xs) d 117 348 lv (.int y :: st) σ Q) := r_iload_n (k := 2) (hz_117.trans rfl)
set_option maxRecDepth 8000 in
theorem w_117_348 {v0 v1 v2 v3 : Value}  : dx_W (tb_Z L xs) d 117 348 lv (v3 :: v2 :: v1 :: v0 :: st) σ Q ↔ (dx_ct st ≤ 8 ∧ dx_ci (tb_K L xs) σ v0 = some 9) ∧ dx_M (tb_Z L xs) d 109 [v0, v1, v2, v3] σ (wK (tb_Z L xs) d 117 351 lv st Q) := c_callv (av := [v1, v2, v3]) (hz_117.trans rfl)
set_option maxRecDepth 8000 in
theorem w_117_351 : dx_W (tb_Z L xs) d 117 351 lv st σ Q ↔ wR (dx_lk lv 0) (fun y => dx_W (tb_Z L xs) d 117 352 lv (y :: st) σ Q) := r_aload_n (k := 0) (hz_117.trans rfl)
set_option maxRecDepth 8000 in
theorem w_117_352 : dx_W (tb_Z L xs) d 117 352 lv st σ Q ↔ dx_W (tb_Z L xs) d 117 354 lv (.int 7 :: st) σ Q := r_bipush (n := 7) (hz_117.trans rfl)
set_option maxRecDepth 8000 in
theorem w_117_354 : dx_W (tb_Z L xs) d 117 354 lv st σ Q ↔ dx_W (tb_Z L xs) d 117 355 lv (.int 0 :: st) σ Q := r_iconst (n := 0) (hz_117.trans rfl)
set_option maxRecDepth 8000 in
theorem w_117_355 : dx_W (tb_Z L xs) d 117 355 lv st σ Q ↔ dx_W (tb_Z L xs) d 117 356 lv (.int 0 :: st) σ Q := r_iconst (n := 0) (hz_117.trans rfl)
set_option maxRecDepth 8000 in
theorem w_117_356 {v0 v1 v2 v3 : Value}  : dx_W (tb_Z L xs) d 117 356 lv (v3 :: v2 :: v1 :: v0 :: st) σ Q ↔ (dx_ct st ≤ 8 ∧ dx_ci (tb_K L xs) σ v0 = some 9) ∧ dx_M (tb_Z L xs) d 109 [v0, v1, v2, v3] σ (wK (tb_Z L xs) d 117 359 lv st Q) := c_callv (av := [v1, v2, v3]) (hz_117.trans rfl)
set_option maxRecDepth 8000 in
theorem w_117_359 : dx_W (tb_Z L xs) d 117 359 lv st σ Q ↔ dx_W (tb_Z L xs) d 117 367 lv st σ Q := r_goto (off := 8) (t := 367) (hz_117.trans rfl) (by decide)
set_option maxRecDepth 8000 in
theorem w_117_362 : dx_W (tb_Z L xs) d 117 362 lv st σ Q ↔ wR (dx_lk lv 0) (fun y => dx_W (tb_Z L xs) d 117 363 lv (y :: st) σ Q) := r_aload_n (k := 0) (hz_117.trans rfl)
set_option maxRecDepth 8000 in
theorem w_117_363 : dx_W (tb_Z L xs) d 117 363 lv st σ Q ↔ dx_W (tb_Z L xs) d 117 364 lv (.int 1 :: st) σ Q := r_iconst (n := 1) (hz_117.trans rfl)
set_option maxRecDepth 8000 in
theorem w_117_364 {u w : Value} : dx_W (tb_Z L xs) d 117 364 lv (u :: w :: st) σ Q ↔ wO (dx_pf σ w 9 10 2 u) (fun σ1 => dx_W (tb_Z L xs) d 117 367 lv st σ1 Q) := r_putfield (f := 2) (hz_117.trans rfl)
set_option maxRecDepth 8000 in
theorem w_117_367 : dx_W (tb_Z L xs) d 117 367 lv [] σ Q ↔ Q (.inl none) σ := r_return (hz_117.trans rfl) rfl
theorem hz_118 {pc : Nat} : (tb_Z L xs).1 118 pc = dx_at tb_m118 pc := rfl
theorem w_118_0 : dx_W (tb_Z L xs) d 118 0 lv st σ Q ↔ wR (dx_lk lv 0) (fun y => dx_W (tb_Z L xs) d 118 1 lv (y :: st) σ Q) := r_aload_n (k := 0) (hz_118.trans rfl)
theorem w_118_1_int {x : Int32} : dx_W (tb_Z L xs) d 118 1 lv (.int x :: st) σ Q ↔ dx_W (tb_Z L xs) d 118 2 lv (.int x :: .int x :: st) σ Q := r_dup_int (hz_118.trans rfl)
theorem w_118_1_ref {x : Nat} : dx_W (tb_Z L xs) d 118 1 lv (.ref x :: st) σ Q ↔ dx_W (tb_Z L xs) d 118 2 lv (.ref x :: .ref x :: st) σ Q := r_dup_ref (hz_118.trans rfl)
theorem w_118_1_retAddr {x : Nat} : dx_W (tb_Z L xs) d 118 1 lv (.retAddr x :: st) σ Q ↔ dx_W (tb_Z L xs) d 118 2 lv (.retAddr x :: .retAddr x :: st) σ Q := r_dup_retAddr (hz_118.trans rfl)
theorem w_118_2 {w : Value} : dx_W (tb_Z L xs) d 118 2 lv (w :: st) σ Q ↔ wO (dx_gf (tb_K L xs) σ w 9 9) (fun y => dx_W (tb_Z L xs) d 118 5 lv (y :: st) σ Q) := r_getfield (hz_118.trans rfl)
theorem w_118_5 : dx_W (tb_Z L xs) d 118 5 lv st σ Q ↔ dx_W (tb_Z L xs) d 118 6 lv (.int 1 :: st) σ Q := r_iconst (n := 1) (hz_118.trans rfl)
theorem w_118_6 {x y : Int32} : dx_W (tb_Z L xs) d 118 6 lv (.int y :: .int x :: st) σ Q ↔ dx_W (tb_Z L xs) d 118 7 lv (.int (x + y) :: st) σ Q := r_iadd (hz_118.trans rfl)
theorem w_118_7 {u w : Value} : dx_W (tb_Z L xs) d 118 7 lv (u :: w :: st) σ Q ↔ wO (dx_pf σ w 9 9 0 u) (fun σ1 => dx_W (tb_Z L xs) d 118 10 lv st σ1 Q) := r_putfield (f := 0) (hz_118.trans rfl)
theorem w_118_10 : dx_W (tb_Z L xs) d 118 10 lv st σ Q ↔ wR (dx_lk lv 0) (fun y => dx_W (tb_Z L xs) d 118 11 lv (y :: st) σ Q) := r_aload_n (k := 0) (hz_118.trans rfl)
theorem w_118_11 : dx_W (tb_Z L xs) d 118 11 lv st σ Q ↔ wI (dx_lk lv 1) (fun y => dx_W (tb_Z L xs) d 118 12 lv (.int y :: st) σ Q) := r_iload_n (k := 1) (hz_118.trans rfl)
theorem w_118_12 : dx_W (tb_Z L xs) d 118 12 lv st σ Q ↔ dx_W (tb_Z L xs) d 118 13 lv (.int 0 :: st) σ Q := r_iconst (n := 0) (hz_118.trans rfl)
theorem w_118_13 : dx_W (tb_Z L xs) d 118 13 lv st σ Q ↔ dx_W (tb_Z L xs) d 118 14 lv (.int 0 :: st) σ Q := r_iconst (n := 0) (hz_118.trans rfl)
theorem w_118_14 {v0 v1 v2 v3 : Value}  : dx_W (tb_Z L xs) d 118 14 lv (v3 :: v2 :: v1 :: v0 :: st) σ Q ↔ (dx_ct st ≤ 8 ∧ dx_ci (tb_K L xs) σ v0 = some 9) ∧ dx_M (tb_Z L xs) d 109 [v0, v1, v2, v3] σ (wK (tb_Z L xs) d 118 17 lv st Q) := c_callv (av := [v1, v2, v3]) (hz_118.trans rfl)
theorem w_118_17 : dx_W (tb_Z L xs) d 118 17 lv st σ Q ↔ wR (dx_lk lv 0) (fun y => dx_W (tb_Z L xs) d 118 18 lv (y :: st) σ Q) := r_aload_n (k := 0) (hz_118.trans rfl)
theorem w_118_18 : dx_W (tb_Z L xs) d 118 18 lv st σ Q ↔ dx_W (tb_Z L xs) d 118 20 lv (.int 17 :: st) σ Q := r_bipush (n := 17) (hz_118.trans rfl)
theorem w_118_20 : dx_W (tb_Z L xs) d 118 20 lv st σ Q ↔ dx_W (tb_Z L xs) d 118 21 lv (.int 5 :: st) σ Q := r_iconst (n := 5) (hz_118.trans rfl)
theorem w_118_21 : dx_W (tb_Z L xs) d 118 21 lv st σ Q ↔ wI (dx_lk lv 3) (fun y => dx_W (tb_Z L xs) d 118 22 lv (.int y :: st) σ Q) := r_iload_n (k := 3) (hz_118.trans rfl)
theorem w_118_22 {v0 v1 v2 v3 : Value}  : dx_W (tb_Z L xs) d 118 22 lv (v3 :: v2 :: v1 :: v0 :: st) σ Q ↔ (dx_ct st ≤ 8 ∧ dx_ci (tb_K L xs) σ v0 = some 9) ∧ dx_M (tb_Z L xs) d 109 [v0, v1, v2, v3] σ (wK (tb_Z L xs) d 118 25 lv st Q) := c_callv (av := [v1, v2, v3]) (hz_118.trans rfl)
theorem w_118_25 : dx_W (tb_Z L xs) d 118 25 lv st σ Q ↔ wR (dx_lk lv 0) (fun y => dx_W (tb_Z L xs) d 118 26 lv (y :: st) σ Q) := r_aload_n (k := 0) (hz_118.trans rfl)
theorem w_118_26 : dx_W (tb_Z L xs) d 118 26 lv st σ Q ↔ wI (dx_lk lv 2) (fun y => dx_W (tb_Z L xs) d 118 27 lv (.int y :: st) σ Q) := r_iload_n (k := 2) (hz_118.trans rfl)
theorem w_118_27 : dx_W (tb_Z L xs) d 118 27 lv st σ Q ↔ dx_W (tb_Z L xs) d 118 28 lv (.int 0 :: st) σ Q := r_iconst (n := 0) (hz_118.trans rfl)
theorem w_118_28 : dx_W (tb_Z L xs) d 118 28 lv st σ Q ↔ dx_W (tb_Z L xs) d 118 29 lv (.int 0 :: st) σ Q := r_iconst (n := 0) (hz_118.trans rfl)
theorem w_118_29 {v0 v1 v2 v3 : Value}  : dx_W (tb_Z L xs) d 118 29 lv (v3 :: v2 :: v1 :: v0 :: st) σ Q ↔ (dx_ct st ≤ 8 ∧ dx_ci (tb_K L xs) σ v0 = some 9) ∧ dx_M (tb_Z L xs) d 109 [v0, v1, v2, v3] σ (wK (tb_Z L xs) d 118 32 lv st Q) := c_callv (av := [v1, v2, v3]) (hz_118.trans rfl)
theorem w_118_32 : dx_W (tb_Z L xs) d 118 32 lv [] σ Q ↔ Q (.inl none) σ := r_return (hz_118.trans rfl) rfl
theorem hz_119 {pc : Nat} : (tb_Z L xs).1 119 pc = dx_at tb_m119 pc := rfl
theorem w_119_0 : dx_W (tb_Z L xs) d 119 0 lv st σ Q ↔ wI (dx_lk lv 1) (fun y => dx_W (tb_Z L xs) d 119 1 lv (.int y :: st) σ Q) := r_iload_n (k := 1) (hz_119.trans rfl)
theorem w_119_1 : dx_W (tb_Z L xs) d 119 1 lv st σ Q ↔ dx_W (tb_Z L xs) d 119 3 lv (.int 110 :: st) σ Q := r_bipush (n := 110) (hz_119.trans rfl)
theorem w_119_3 {x y : Int32} : dx_W (tb_Z L xs) d 119 3 lv (.int y :: .int x :: st) σ Q ↔ (if ¬ x = y then dx_W (tb_Z L xs) d 119 32 lv st σ Q else dx_W (tb_Z L xs) d 119 6 lv st σ Q) := r_ic_ne (off := 29) (t := 32) (hz_119.trans rfl) (by decide)
theorem w_119_6 : dx_W (tb_Z L xs) d 119 6 lv st σ Q ↔ wR (dx_lk lv 0) (fun y => dx_W (tb_Z L xs) d 119 7 lv (y :: st) σ Q) := r_aload_n (k := 0) (hz_119.trans rfl)
theorem w_119_7 : dx_W (tb_Z L xs) d 119 7 lv st σ Q ↔ dx_W (tb_Z L xs) d 119 8 lv (.int 1 :: st) σ Q := r_iconst (n := 1) (hz_119.trans rfl)
theorem w_119_8 : dx_W (tb_Z L xs) d 119 8 lv st σ Q ↔ wR (dx_lk lv 0) (fun y => dx_W (tb_Z L xs) d 119 9 lv (y :: st) σ Q) := r_aload_n (k := 0) (hz_119.trans rfl)
theorem w_119_9 {w : Value} : dx_W (tb_Z L xs) d 119 9 lv (w :: st) σ Q ↔ wO (dx_gf (tb_K L xs) σ w 9 6) (fun y => dx_W (tb_Z L xs) d 119 12 lv (y :: st) σ Q) := r_getfield (hz_119.trans rfl)
theorem w_119_12 : dx_W (tb_Z L xs) d 119 12 lv st σ Q ↔ wR (dx_lk lv 0) (fun y => dx_W (tb_Z L xs) d 119 13 lv (y :: st) σ Q) := r_aload_n (k := 0) (hz_119.trans rfl)
theorem w_119_13 {w : Value} : dx_W (tb_Z L xs) d 119 13 lv (w :: st) σ Q ↔ wO (dx_gf (tb_K L xs) σ w 9 9) (fun y => dx_W (tb_Z L xs) d 119 16 lv (y :: st) σ Q) := r_getfield (hz_119.trans rfl)
theorem w_119_16 {w : Value} {y : Int32} : dx_W (tb_Z L xs) d 119 16 lv (.int y :: w :: st) σ Q ↔ wO (dx_ei (tb_K L xs) σ 0 w y) (fun u => dx_W (tb_Z L xs) d 119 17 lv (.int u :: st) σ Q) := r_iaload (hz_119.trans rfl)
theorem w_119_17 : dx_W (tb_Z L xs) d 119 17 lv st σ Q ↔ wR (dx_lk lv 0) (fun y => dx_W (tb_Z L xs) d 119 18 lv (y :: st) σ Q) := r_aload_n (k := 0) (hz_119.trans rfl)
theorem w_119_18 {w : Value} : dx_W (tb_Z L xs) d 119 18 lv (w :: st) σ Q ↔ wO (dx_gf (tb_K L xs) σ w 9 7) (fun y => dx_W (tb_Z L xs) d 119 21 lv (y :: st) σ Q) := r_getfield (hz_119.trans rfl)
theorem w_119_21 : dx_W (tb_Z L xs) d 119 21 lv st σ Q ↔ wR (dx_lk lv 0) (fun y => dx_W (tb_Z L xs) d 119 22 lv (y :: st) σ Q) := r_aload_n (k := 0) (hz_119.trans rfl)
theorem w_119_22 {w : Value} : dx_W (tb_Z L xs) d 119 22 lv (w :: st) σ Q ↔ wO (dx_gf (tb_K L xs) σ w 9 9) (fun y => dx_W (tb_Z L xs) d 119 25 lv (y :: st) σ Q) := r_getfield (hz_119.trans rfl)
theorem w_119_25 {w : Value} {y : Int32} : dx_W (tb_Z L xs) d 119 25 lv (.int y :: w :: st) σ Q ↔ wO (dx_ei (tb_K L xs) σ 0 w y) (fun u => dx_W (tb_Z L xs) d 119 26 lv (.int u :: st) σ Q) := r_iaload (hz_119.trans rfl)
theorem w_119_26 {v0 v1 v2 v3 : Value}  : dx_W (tb_Z L xs) d 119 26 lv (v3 :: v2 :: v1 :: v0 :: st) σ Q ↔ (dx_ct st ≤ 8 ∧ dx_ci (tb_K L xs) σ v0 = some 9) ∧ dx_M (tb_Z L xs) d 114 [v0, v1, v2, v3] σ (wK (tb_Z L xs) d 119 29 lv st Q) := c_callv (av := [v1, v2, v3]) (hz_119.trans rfl)
theorem w_119_29 : dx_W (tb_Z L xs) d 119 29 lv st σ Q ↔ dx_W (tb_Z L xs) d 119 161 lv st σ Q := r_goto (off := 132) (t := 161) (hz_119.trans rfl) (by decide)
theorem w_119_32 : dx_W (tb_Z L xs) d 119 32 lv st σ Q ↔ wI (dx_lk lv 1) (fun y => dx_W (tb_Z L xs) d 119 33 lv (.int y :: st) σ Q) := r_iload_n (k := 1) (hz_119.trans rfl)
theorem w_119_33 : dx_W (tb_Z L xs) d 119 33 lv st σ Q ↔ dx_W (tb_Z L xs) d 119 35 lv (.int 115 :: st) σ Q := r_bipush (n := 115) (hz_119.trans rfl)
theorem w_119_35 {x y : Int32} : dx_W (tb_Z L xs) d 119 35 lv (.int y :: .int x :: st) σ Q ↔ (if ¬ x = y then dx_W (tb_Z L xs) d 119 48 lv st σ Q else dx_W (tb_Z L xs) d 119 38 lv st σ Q) := r_ic_ne (off := 13) (t := 48) (hz_119.trans rfl) (by decide)
theorem w_119_38 : dx_W (tb_Z L xs) d 119 38 lv st σ Q ↔ wR (dx_lk lv 0) (fun y => dx_W (tb_Z L xs) d 119 39 lv (y :: st) σ Q) := r_aload_n (k := 0) (hz_119.trans rfl)
theorem w_119_39 : dx_W (tb_Z L xs) d 119 39 lv st σ Q ↔ dx_W (tb_Z L xs) d 119 40 lv (.int 3 :: st) σ Q := r_iconst (n := 3) (hz_119.trans rfl)
theorem w_119_40 : dx_W (tb_Z L xs) d 119 40 lv st σ Q ↔ dx_W (tb_Z L xs) d 119 41 lv (.int 0 :: st) σ Q := r_iconst (n := 0) (hz_119.trans rfl)
theorem w_119_41 : dx_W (tb_Z L xs) d 119 41 lv st σ Q ↔ dx_W (tb_Z L xs) d 119 42 lv (.int 0 :: st) σ Q := r_iconst (n := 0) (hz_119.trans rfl)
theorem w_119_42 {v0 v1 v2 v3 : Value}  : dx_W (tb_Z L xs) d 119 42 lv (v3 :: v2 :: v1 :: v0 :: st) σ Q ↔ (dx_ct st ≤ 8 ∧ dx_ci (tb_K L xs) σ v0 = some 9) ∧ dx_M (tb_Z L xs) d 114 [v0, v1, v2, v3] σ (wK (tb_Z L xs) d 119 45 lv st Q) := c_callv (av := [v1, v2, v3]) (hz_119.trans rfl)
theorem w_119_45 : dx_W (tb_Z L xs) d 119 45 lv st σ Q ↔ dx_W (tb_Z L xs) d 119 161 lv st σ Q := r_goto (off := 116) (t := 161) (hz_119.trans rfl) (by decide)
theorem w_119_48 : dx_W (tb_Z L xs) d 119 48 lv st σ Q ↔ wI (dx_lk lv 1) (fun y => dx_W (tb_Z L xs) d 119 49 lv (.int y :: st) σ Q) := r_iload_n (k := 1) (hz_119.trans rfl)
theorem w_119_49 : dx_W (tb_Z L xs) d 119 49 lv st σ Q ↔ dx_W (tb_Z L xs) d 119 51 lv (.int 97 :: st) σ Q := r_bipush (n := 97) (hz_119.trans rfl)
theorem w_119_51 {x y : Int32} : dx_W (tb_Z L xs) d 119 51 lv (.int y :: .int x :: st) σ Q ↔ (if ¬ x = y then dx_W (tb_Z L xs) d 119 88 lv st σ Q else dx_W (tb_Z L xs) d 119 54 lv st σ Q) := r_ic_ne (off := 37) (t := 88) (hz_119.trans rfl) (by decide)
theorem w_119_54 : dx_W (tb_Z L xs) d 119 54 lv st σ Q ↔ wR (dx_lk lv 0) (fun y => dx_W (tb_Z L xs) d 119 55 lv (y :: st) σ Q) := r_aload_n (k := 0) (hz_119.trans rfl)
theorem w_119_55 {w : Value} : dx_W (tb_Z L xs) d 119 55 lv (w :: st) σ Q ↔ wO (dx_gf (tb_K L xs) σ w 9 5) (fun y => dx_W (tb_Z L xs) d 119 58 lv (y :: st) σ Q) := r_getfield (hz_119.trans rfl)
theorem w_119_58 : dx_W (tb_Z L xs) d 119 58 lv st σ Q ↔ wR (dx_lk lv 0) (fun y => dx_W (tb_Z L xs) d 119 59 lv (y :: st) σ Q) := r_aload_n (k := 0) (hz_119.trans rfl)
theorem w_119_59 {w : Value} : dx_W (tb_Z L xs) d 119 59 lv (w :: st) σ Q ↔ wO (dx_gf (tb_K L xs) σ w 9 9) (fun y => dx_W (tb_Z L xs) d 119 62 lv (y :: st) σ Q) := r_getfield (hz_119.trans rfl)
theorem w_119_62 : dx_W (tb_Z L xs) d 119 62 lv st σ Q ↔ dx_W (tb_Z L xs) d 119 63 lv (.int 1 :: st) σ Q := r_iconst (n := 1) (hz_119.trans rfl)
theorem w_119_63 {x y : Int32} : dx_W (tb_Z L xs) d 119 63 lv (.int y :: .int x :: st) σ Q ↔ dx_W (tb_Z L xs) d 119 64 lv (.int (x + y) :: st) σ Q := r_iadd (hz_119.trans rfl)
theorem w_119_64 {w : Value} {y : Int32} : dx_W (tb_Z L xs) d 119 64 lv (.int y :: w :: st) σ Q ↔ wO (dx_ei (tb_K L xs) σ 0 w y) (fun u => dx_W (tb_Z L xs) d 119 65 lv (.int u :: st) σ Q) := r_iaload (hz_119.trans rfl)
theorem w_119_65 : dx_W (tb_Z L xs) d 119 65 lv st σ Q ↔ dx_W (tb_Z L xs) d 119 67 lv (.int 40 :: st) σ Q := r_bipush (n := 40) (hz_119.trans rfl)
theorem w_119_67 {x y : Int32} : dx_W (tb_Z L xs) d 119 67 lv (.int y :: .int x :: st) σ Q ↔ (if x = y then dx_W (tb_Z L xs) d 119 88 lv st σ Q else dx_W (tb_Z L xs) d 119 70 lv st σ Q) := r_ic_eq (off := 21) (t := 88) (hz_119.trans rfl) (by decide)
theorem w_119_70 : dx_W (tb_Z L xs) d 119 70 lv st σ Q ↔ wR (dx_lk lv 0) (fun y => dx_W (tb_Z L xs) d 119 71 lv (y :: st) σ Q) := r_aload_n (k := 0) (hz_119.trans rfl)
theorem w_119_71 : dx_W (tb_Z L xs) d 119 71 lv st σ Q ↔ dx_W (tb_Z L xs) d 119 72 lv (.int 2 :: st) σ Q := r_iconst (n := 2) (hz_119.trans rfl)
theorem w_119_72 : dx_W (tb_Z L xs) d 119 72 lv st σ Q ↔ wR (dx_lk lv 0) (fun y => dx_W (tb_Z L xs) d 119 73 lv (y :: st) σ Q) := r_aload_n (k := 0) (hz_119.trans rfl)
theorem w_119_73 {w : Value} : dx_W (tb_Z L xs) d 119 73 lv (w :: st) σ Q ↔ wO (dx_gf (tb_K L xs) σ w 9 6) (fun y => dx_W (tb_Z L xs) d 119 76 lv (y :: st) σ Q) := r_getfield (hz_119.trans rfl)
theorem w_119_76 : dx_W (tb_Z L xs) d 119 76 lv st σ Q ↔ wR (dx_lk lv 0) (fun y => dx_W (tb_Z L xs) d 119 77 lv (y :: st) σ Q) := r_aload_n (k := 0) (hz_119.trans rfl)
theorem w_119_77 {w : Value} : dx_W (tb_Z L xs) d 119 77 lv (w :: st) σ Q ↔ wO (dx_gf (tb_K L xs) σ w 9 9) (fun y => dx_W (tb_Z L xs) d 119 80 lv (y :: st) σ Q) := r_getfield (hz_119.trans rfl)
theorem w_119_80 {w : Value} {y : Int32} : dx_W (tb_Z L xs) d 119 80 lv (.int y :: w :: st) σ Q ↔ wO (dx_ei (tb_K L xs) σ 0 w y) (fun u => dx_W (tb_Z L xs) d 119 81 lv (.int u :: st) σ Q) := r_iaload (hz_119.trans rfl)
theorem w_119_81 : dx_W (tb_Z L xs) d 119 81 lv st σ Q ↔ dx_W (tb_Z L xs) d 119 82 lv (.int 0 :: st) σ Q := r_iconst (n := 0) (hz_119.trans rfl)
theorem w_119_82 {v0 v1 v2 v3 : Value}  : dx_W (tb_Z L xs) d 119 82 lv (v3 :: v2 :: v1 :: v0 :: st) σ Q ↔ (dx_ct st ≤ 8 ∧ dx_ci (tb_K L xs) σ v0 = some 9) ∧ dx_M (tb_Z L xs) d 114 [v0, v1, v2, v3] σ (wK (tb_Z L xs) d 119 85 lv st Q) := c_callv (av := [v1, v2, v3]) (hz_119.trans rfl)
theorem w_119_85 : dx_W (tb_Z L xs) d 119 85 lv st σ Q ↔ dx_W (tb_Z L xs) d 119 161 lv st σ Q := r_goto (off := 76) (t := 161) (hz_119.trans rfl) (by decide)
theorem w_119_88 : dx_W (tb_Z L xs) d 119 88 lv st σ Q ↔ wI (dx_lk lv 1) (fun y => dx_W (tb_Z L xs) d 119 89 lv (.int y :: st) σ Q) := r_iload_n (k := 1) (hz_119.trans rfl)
theorem w_119_89 : dx_W (tb_Z L xs) d 119 89 lv st σ Q ↔ dx_W (tb_Z L xs) d 119 91 lv (.int 97 :: st) σ Q := r_bipush (n := 97) (hz_119.trans rfl)
theorem w_119_91 {x y : Int32} : dx_W (tb_Z L xs) d 119 91 lv (.int y :: .int x :: st) σ Q ↔ (if x = y then dx_W (tb_Z L xs) d 119 100 lv st σ Q else dx_W (tb_Z L xs) d 119 94 lv st σ Q) := r_ic_eq (off := 9) (t := 100) (hz_119.trans rfl) (by decide)
theorem w_119_94 : dx_W (tb_Z L xs) d 119 94 lv st σ Q ↔ wI (dx_lk lv 1) (fun y => dx_W (tb_Z L xs) d 119 95 lv (.int y :: st) σ Q) := r_iload_n (k := 1) (hz_119.trans rfl)
theorem w_119_95 : dx_W (tb_Z L xs) d 119 95 lv st σ Q ↔ dx_W (tb_Z L xs) d 119 97 lv (.int 40 :: st) σ Q := r_bipush (n := 40) (hz_119.trans rfl)
theorem w_119_97 {x y : Int32} : dx_W (tb_Z L xs) d 119 97 lv (.int y :: .int x :: st) σ Q ↔ (if ¬ x = y then dx_W (tb_Z L xs) d 119 156 lv st σ Q else dx_W (tb_Z L xs) d 119 100 lv st σ Q) := r_ic_ne (off := 59) (t := 156) (hz_119.trans rfl) (by decide)
theorem w_119_100 : dx_W (tb_Z L xs) d 119 100 lv st σ Q ↔ wI (dx_lk lv 1) (fun y => dx_W (tb_Z L xs) d 119 101 lv (.int y :: st) σ Q) := r_iload_n (k := 1) (hz_119.trans rfl)
theorem w_119_101 : dx_W (tb_Z L xs) d 119 101 lv st σ Q ↔ dx_W (tb_Z L xs) d 119 103 lv (.int 97 :: st) σ Q := r_bipush (n := 97) (hz_119.trans rfl)
theorem w_119_103 {x y : Int32} : dx_W (tb_Z L xs) d 119 103 lv (.int y :: .int x :: st) σ Q ↔ (if ¬ x = y then dx_W (tb_Z L xs) d 119 133 lv st σ Q else dx_W (tb_Z L xs) d 119 106 lv st σ Q) := r_ic_ne (off := 30) (t := 133) (hz_119.trans rfl) (by decide)
theorem w_119_106 : dx_W (tb_Z L xs) d 119 106 lv st σ Q ↔ wR (dx_lk lv 0) (fun y => dx_W (tb_Z L xs) d 119 107 lv (y :: st) σ Q) := r_aload_n (k := 0) (hz_119.trans rfl)
theorem w_119_107 : dx_W (tb_Z L xs) d 119 107 lv st σ Q ↔ dx_W (tb_Z L xs) d 119 109 lv (.int 17 :: st) σ Q := r_bipush (n := 17) (hz_119.trans rfl)
theorem w_119_109 : dx_W (tb_Z L xs) d 119 109 lv st σ Q ↔ dx_W (tb_Z L xs) d 119 111 lv (.int 6 :: st) σ Q := r_bipush (n := 6) (hz_119.trans rfl)
theorem w_119_111 : dx_W (tb_Z L xs) d 119 111 lv st σ Q ↔ wR (dx_lk lv 0) (fun y => dx_W (tb_Z L xs) d 119 112 lv (y :: st) σ Q) := r_aload_n (k := 0) (hz_119.trans rfl)
theorem w_119_112 {w : Value} : dx_W (tb_Z L xs) d 119 112 lv (w :: st) σ Q ↔ wO (dx_gf (tb_K L xs) σ w 9 6) (fun y => dx_W (tb_Z L xs) d 119 115 lv (y :: st) σ Q) := r_getfield (hz_119.trans rfl)
theorem w_119_115 : dx_W (tb_Z L xs) d 119 115 lv st σ Q ↔ wR (dx_lk lv 0) (fun y => dx_W (tb_Z L xs) d 119 116 lv (y :: st) σ Q) := r_aload_n (k := 0) (hz_119.trans rfl)
theorem w_119_116 {w : Value} : dx_W (tb_Z L xs) d 119 116 lv (w :: st) σ Q ↔ wO (dx_gf (tb_K L xs) σ w 9 9) (fun y => dx_W (tb_Z L xs) d 119 119 lv (y :: st) σ Q) := r_getfield (hz_119.trans rfl)
theorem w_119_119 {w : Value} {y : Int32} : dx_W (tb_Z L xs) d 119 119 lv (.int y :: w :: st) σ Q ↔ wO (dx_ei (tb_K L xs) σ 0 w y) (fun u => dx_W (tb_Z L xs) d 119 120 lv (.int u :: st) σ Q) := r_iaload (hz_119.trans rfl)
theorem w_119_120 {v0 v1 v2 v3 : Value}  : dx_W (tb_Z L xs) d 119 120 lv (v3 :: v2 :: v1 :: v0 :: st) σ Q ↔ (dx_ct st ≤ 8 ∧ dx_ci (tb_K L xs) σ v0 = some 9) ∧ dx_M (tb_Z L xs) d 109 [v0, v1, v2, v3] σ (wK (tb_Z L xs) d 119 123 lv st Q) := c_callv (av := [v1, v2, v3]) (hz_119.trans rfl)
theorem w_119_123 : dx_W (tb_Z L xs) d 119 123 lv st σ Q ↔ wR (dx_lk lv 0) (fun y => dx_W (tb_Z L xs) d 119 124 lv (y :: st) σ Q) := r_aload_n (k := 0) (hz_119.trans rfl)
theorem w_119_124_int {x : Int32} : dx_W (tb_Z L xs) d 119 124 lv (.int x :: st) σ Q ↔ dx_W (tb_Z L xs) d 119 125 lv (.int x :: .int x :: st) σ Q := r_dup_int (hz_119.trans rfl)
theorem w_119_124_ref {x : Nat} : dx_W (tb_Z L xs) d 119 124 lv (.ref x :: st) σ Q ↔ dx_W (tb_Z L xs) d 119 125 lv (.ref x :: .ref x :: st) σ Q := r_dup_ref (hz_119.trans rfl)
theorem w_119_124_retAddr {x : Nat} : dx_W (tb_Z L xs) d 119 124 lv (.retAddr x :: st) σ Q ↔ dx_W (tb_Z L xs) d 119 125 lv (.retAddr x :: .retAddr x :: st) σ Q := r_dup_retAddr (hz_119.trans rfl)
theorem w_119_125 {w : Value} : dx_W (tb_Z L xs) d 119 125 lv (w :: st) σ Q ↔ wO (dx_gf (tb_K L xs) σ w 9 9) (fun y => dx_W (tb_Z L xs) d 119 128 lv (y :: st) σ Q) := r_getfield (hz_119.trans rfl)
theorem w_119_128 : dx_W (tb_Z L xs) d 119 128 lv st σ Q ↔ dx_W (tb_Z L xs) d 119 129 lv (.int 1 :: st) σ Q := r_iconst (n := 1) (hz_119.trans rfl)
theorem w_119_129 {x y : Int32} : dx_W (tb_Z L xs) d 119 129 lv (.int y :: .int x :: st) σ Q ↔ dx_W (tb_Z L xs) d 119 130 lv (.int (x + y) :: st) σ Q := r_iadd (hz_119.trans rfl)
theorem w_119_130 {u w : Value} : dx_W (tb_Z L xs) d 119 130 lv (u :: w :: st) σ Q ↔ wO (dx_pf σ w 9 9 0 u) (fun σ1 => dx_W (tb_Z L xs) d 119 133 lv st σ1 Q) := r_putfield (f := 0) (hz_119.trans rfl)
theorem w_119_133 : dx_W (tb_Z L xs) d 119 133 lv st σ Q ↔ wR (dx_lk lv 0) (fun y => dx_W (tb_Z L xs) d 119 134 lv (y :: st) σ Q) := r_aload_n (k := 0) (hz_119.trans rfl)
theorem w_119_134 {v0 : Value}  : dx_W (tb_Z L xs) d 119 134 lv (v0 :: st) σ Q ↔ (dx_ct st ≤ 8 ∧ dx_ci (tb_K L xs) σ v0 = some 9) ∧ dx_M (tb_Z L xs) d 113 [v0] σ (wK (tb_Z L xs) d 119 137 lv st Q) := c_callv (av := []) (hz_119.trans rfl)
theorem w_119_137 : dx_W (tb_Z L xs) d 119 137 lv st σ Q ↔ wR (dx_lk lv 0) (fun y => dx_W (tb_Z L xs) d 119 138 lv (y :: st) σ Q) := r_aload_n (k := 0) (hz_119.trans rfl)
theorem w_119_138 : dx_W (tb_Z L xs) d 119 138 lv st σ Q ↔ dx_W (tb_Z L xs) d 119 140 lv (.int 14 :: st) σ Q := r_bipush (n := 14) (hz_119.trans rfl)
theorem w_119_140 : dx_W (tb_Z L xs) d 119 140 lv st σ Q ↔ dx_W (tb_Z L xs) d 119 141 lv (.int 0 :: st) σ Q := r_iconst (n := 0) (hz_119.trans rfl)
theorem w_119_141 : dx_W (tb_Z L xs) d 119 141 lv st σ Q ↔ dx_W (tb_Z L xs) d 119 142 lv (.int 0 :: st) σ Q := r_iconst (n := 0) (hz_119.trans rfl)
theorem w_119_142 {v0 v1 v2 v3 : Value}  : dx_W (tb_Z L xs) d 119 142 lv (v3 :: v2 :: v1 :: v0 :: st) σ Q ↔ (dx_ct st ≤ 8 ∧ dx_ci (tb_K L xs) σ v0 = some 9) ∧ dx_M (tb_Z L xs) d 109 [v0, v1, v2, v3] σ (wK (tb_Z L xs) d 119 145 lv st Q) := c_callv (av := [v1, v2, v3]) (hz_119.trans rfl)
theorem w_119_145 : dx_W (tb_Z L xs) d 119 145 lv st σ Q ↔ wR (dx_lk lv 0) (fun y => dx_W (tb_Z L xs) d 119 146 lv (y :: st) σ Q) := r_aload_n (k := 0) (hz_119.trans rfl)
theorem w_119_146 : dx_W (tb_Z L xs) d 119 146 lv st σ Q ↔ dx_W (tb_Z L xs) d 119 148 lv (.int 7 :: st) σ Q := r_bipush (n := 7) (hz_119.trans rfl)
theorem w_119_148 : dx_W (tb_Z L xs) d 119 148 lv st σ Q ↔ dx_W (tb_Z L xs) d 119 149 lv (.int 0 :: st) σ Q := r_iconst (n := 0) (hz_119.trans rfl)
theorem w_119_149 : dx_W (tb_Z L xs) d 119 149 lv st σ Q ↔ dx_W (tb_Z L xs) d 119 150 lv (.int 0 :: st) σ Q := r_iconst (n := 0) (hz_119.trans rfl)
theorem w_119_150 {v0 v1 v2 v3 : Value}  : dx_W (tb_Z L xs) d 119 150 lv (v3 :: v2 :: v1 :: v0 :: st) σ Q ↔ (dx_ct st ≤ 8 ∧ dx_ci (tb_K L xs) σ v0 = some 9) ∧ dx_M (tb_Z L xs) d 109 [v0, v1, v2, v3] σ (wK (tb_Z L xs) d 119 153 lv st Q) := c_callv (av := [v1, v2, v3]) (hz_119.trans rfl)
theorem w_119_153 : dx_W (tb_Z L xs) d 119 153 lv st σ Q ↔ dx_W (tb_Z L xs) d 119 161 lv st σ Q := r_goto (off := 8) (t := 161) (hz_119.trans rfl) (by decide)
theorem w_119_156 : dx_W (tb_Z L xs) d 119 156 lv st σ Q ↔ wR (dx_lk lv 0) (fun y => dx_W (tb_Z L xs) d 119 157 lv (y :: st) σ Q) := r_aload_n (k := 0) (hz_119.trans rfl)
theorem w_119_157 : dx_W (tb_Z L xs) d 119 157 lv st σ Q ↔ dx_W (tb_Z L xs) d 119 158 lv (.int 1 :: st) σ Q := r_iconst (n := 1) (hz_119.trans rfl)
theorem w_119_158 {u w : Value} : dx_W (tb_Z L xs) d 119 158 lv (u :: w :: st) σ Q ↔ wO (dx_pf σ w 9 10 2 u) (fun σ1 => dx_W (tb_Z L xs) d 119 161 lv st σ1 Q) := r_putfield (f := 2) (hz_119.trans rfl)
theorem w_119_161 : dx_W (tb_Z L xs) d 119 161 lv st σ Q ↔ wR (dx_lk lv 0) (fun y => dx_W (tb_Z L xs) d 119 162 lv (y :: st) σ Q) := r_aload_n (k := 0) (hz_119.trans rfl)
theorem w_119_162_int {x : Int32} : dx_W (tb_Z L xs) d 119 162 lv (.int x :: st) σ Q ↔ dx_W (tb_Z L xs) d 119 163 lv (.int x :: .int x :: st) σ Q := r_dup_int (hz_119.trans rfl)
theorem w_119_162_ref {x : Nat} : dx_W (tb_Z L xs) d 119 162 lv (.ref x :: st) σ Q ↔ dx_W (tb_Z L xs) d 119 163 lv (.ref x :: .ref x :: st) σ Q := r_dup_ref (hz_119.trans rfl)
theorem w_119_162_retAddr {x : Nat} : dx_W (tb_Z L xs) d 119 162 lv (.retAddr x :: st) σ Q ↔ dx_W (tb_Z L xs) d 119 163 lv (.retAddr x :: .retAddr x :: st) σ Q := r_dup_retAddr (hz_119.trans rfl)
theorem w_119_163 {w : Value} : dx_W (tb_Z L xs) d 119 163 lv (w :: st) σ Q ↔ wO (dx_gf (tb_K L xs) σ w 9 9) (fun y => dx_W (tb_Z L xs) d 119 166 lv (y :: st) σ Q) := r_getfield (hz_119.trans rfl)
theorem w_119_166 : dx_W (tb_Z L xs) d 119 166 lv st σ Q ↔ dx_W (tb_Z L xs) d 119 167 lv (.int 1 :: st) σ Q := r_iconst (n := 1) (hz_119.trans rfl)
theorem w_119_167 {x y : Int32} : dx_W (tb_Z L xs) d 119 167 lv (.int y :: .int x :: st) σ Q ↔ dx_W (tb_Z L xs) d 119 168 lv (.int (x + y) :: st) σ Q := r_iadd (hz_119.trans rfl)
theorem w_119_168 {u w : Value} : dx_W (tb_Z L xs) d 119 168 lv (u :: w :: st) σ Q ↔ wO (dx_pf σ w 9 9 0 u) (fun σ1 => dx_W (tb_Z L xs) d 119 171 lv st σ1 Q) := r_putfield (f := 0) (hz_119.trans rfl)
theorem w_119_171 : dx_W (tb_Z L xs) d 119 171 lv [] σ Q ↔ Q (.inl none) σ := r_return (hz_119.trans rfl) rfl
theorem hz_120 {pc : Nat} : (tb_Z L xs).1 120 pc = dx_at tb_m120 pc := rfl
theorem w_120_0 : dx_W (tb_Z L xs) d 120 0 lv st σ Q ↔ wI (dx_lk lv 1) (fun y => dx_W (tb_Z L xs) d 120 1 lv (.int y :: st) σ Q) := r_iload_n (k := 1) (hz_120.trans rfl)
theorem w_120_1 : dx_W (tb_Z L xs) d 120 1 lv st σ Q ↔ dx_W (tb_Z L xs) d 120 3 lv (.int 18 :: st) σ Q := r_bipush (n := 18) (hz_120.trans rfl)
theorem w_120_3 {x y : Int32} : dx_W (tb_Z L xs) d 120 3 lv (.int y :: .int x :: st) σ Q ↔ (if ¬ x = y then dx_W (tb_Z L xs) d 120 56 lv st σ Q else dx_W (tb_Z L xs) d 120 6 lv st σ Q) := r_ic_ne (off := 53) (t := 56) (hz_120.trans rfl) (by decide)
theorem w_120_6 : dx_W (tb_Z L xs) d 120 6 lv st σ Q ↔ wR (dx_lk lv 0) (fun y => dx_W (tb_Z L xs) d 120 7 lv (y :: st) σ Q) := r_aload_n (k := 0) (hz_120.trans rfl)
theorem w_120_7 {v0 : Value}  : dx_W (tb_Z L xs) d 120 7 lv (v0 :: st) σ Q ↔ (dx_ct st ≤ 8 ∧ dx_ci (tb_K L xs) σ v0 = some 9) ∧ dx_M (tb_Z L xs) d 113 [v0] σ (wK (tb_Z L xs) d 120 10 lv st Q) := c_callv (av := []) (hz_120.trans rfl)
theorem w_120_10 : dx_W (tb_Z L xs) d 120 10 lv st σ Q ↔ wR (dx_lk lv 0) (fun y => dx_W (tb_Z L xs) d 120 11 lv (y :: st) σ Q) := r_aload_n (k := 0) (hz_120.trans rfl)
theorem w_120_11 : dx_W (tb_Z L xs) d 120 11 lv st σ Q ↔ wI (dx_lk lv 2) (fun y => dx_W (tb_Z L xs) d 120 12 lv (.int y :: st) σ Q) := r_iload_n (k := 2) (hz_120.trans rfl)
theorem w_120_12 : dx_W (tb_Z L xs) d 120 12 lv st σ Q ↔ dx_W (tb_Z L xs) d 120 14 lv (.int 105 :: st) σ Q := r_bipush (n := 105) (hz_120.trans rfl)
theorem w_120_14 {x y : Int32} : dx_W (tb_Z L xs) d 120 14 lv (.int y :: .int x :: st) σ Q ↔ (if ¬ x = y then dx_W (tb_Z L xs) d 120 22 lv st σ Q else dx_W (tb_Z L xs) d 120 17 lv st σ Q) := r_ic_ne (off := 8) (t := 22) (hz_120.trans rfl) (by decide)
theorem w_120_17 : dx_W (tb_Z L xs) d 120 17 lv st σ Q ↔ dx_W (tb_Z L xs) d 120 19 lv (.int 19 :: st) σ Q := r_bipush (n := 19) (hz_120.trans rfl)
theorem w_120_19 : dx_W (tb_Z L xs) d 120 19 lv st σ Q ↔ dx_W (tb_Z L xs) d 120 24 lv st σ Q := r_goto (off := 5) (t := 24) (hz_120.trans rfl) (by decide)
theorem w_120_22 : dx_W (tb_Z L xs) d 120 22 lv st σ Q ↔ dx_W (tb_Z L xs) d 120 24 lv (.int 20 :: st) σ Q := r_bipush (n := 20) (hz_120.trans rfl)
theorem w_120_24 : dx_W (tb_Z L xs) d 120 24 lv st σ Q ↔ wR (dx_lk lv 0) (fun y => dx_W (tb_Z L xs) d 120 25 lv (y :: st) σ Q) := r_aload_n (k := 0) (hz_120.trans rfl)
theorem w_120_25 {w : Value} : dx_W (tb_Z L xs) d 120 25 lv (w :: st) σ Q ↔ wO (dx_gf (tb_K L xs) σ w 9 14) (fun y => dx_W (tb_Z L xs) d 120 28 lv (y :: st) σ Q) := r_getfield (hz_120.trans rfl)
theorem w_120_28 : dx_W (tb_Z L xs) d 120 28 lv st σ Q ↔ wI (dx_lk lv 3) (fun y => dx_W (tb_Z L xs) d 120 29 lv (.int y :: st) σ Q) := r_iload_n (k := 3) (hz_120.trans rfl)
theorem w_120_29 {v0 v1 v2 v3 : Value}  : dx_W (tb_Z L xs) d 120 29 lv (v3 :: v2 :: v1 :: v0 :: st) σ Q ↔ (dx_ct st ≤ 8 ∧ dx_ci (tb_K L xs) σ v0 = some 9) ∧ dx_M (tb_Z L xs) d 109 [v0, v1, v2, v3] σ (wK (tb_Z L xs) d 120 32 lv st Q) := c_callv (av := [v1, v2, v3]) (hz_120.trans rfl)
theorem w_120_32 : dx_W (tb_Z L xs) d 120 32 lv st σ Q ↔ wR (dx_lk lv 0) (fun y => dx_W (tb_Z L xs) d 120 33 lv (y :: st) σ Q) := r_aload_n (k := 0) (hz_120.trans rfl)
theorem w_120_33 : dx_W (tb_Z L xs) d 120 33 lv st σ Q ↔ dx_W (tb_Z L xs) d 120 35 lv (.int 12 :: st) σ Q := r_bipush (n := 12) (hz_120.trans rfl)
theorem w_120_35 : dx_W (tb_Z L xs) d 120 35 lv st σ Q ↔ dx_W (tb_Z L xs) d 120 36 lv (.int 0 :: st) σ Q := r_iconst (n := 0) (hz_120.trans rfl)
theorem w_120_36 : dx_W (tb_Z L xs) d 120 36 lv st σ Q ↔ dx_W (tb_Z L xs) d 120 37 lv (.int 0 :: st) σ Q := r_iconst (n := 0) (hz_120.trans rfl)
theorem w_120_37 {v0 v1 v2 v3 : Value}  : dx_W (tb_Z L xs) d 120 37 lv (v3 :: v2 :: v1 :: v0 :: st) σ Q ↔ (dx_ct st ≤ 8 ∧ dx_ci (tb_K L xs) σ v0 = some 9) ∧ dx_M (tb_Z L xs) d 114 [v0, v1, v2, v3] σ (wK (tb_Z L xs) d 120 40 lv st Q) := c_callv (av := [v1, v2, v3]) (hz_120.trans rfl)
theorem w_120_40 : dx_W (tb_Z L xs) d 120 40 lv st σ Q ↔ wR (dx_lk lv 0) (fun y => dx_W (tb_Z L xs) d 120 41 lv (y :: st) σ Q) := r_aload_n (k := 0) (hz_120.trans rfl)
theorem w_120_41 : dx_W (tb_Z L xs) d 120 41 lv st σ Q ↔ dx_W (tb_Z L xs) d 120 42 lv (.int 5 :: st) σ Q := r_iconst (n := 5) (hz_120.trans rfl)
theorem w_120_42 : dx_W (tb_Z L xs) d 120 42 lv st σ Q ↔ dx_W (tb_Z L xs) d 120 43 lv (.int 0 :: st) σ Q := r_iconst (n := 0) (hz_120.trans rfl)
theorem w_120_43 : dx_W (tb_Z L xs) d 120 43 lv st σ Q ↔ dx_W (tb_Z L xs) d 120 44 lv (.int 0 :: st) σ Q := r_iconst (n := 0) (hz_120.trans rfl)
theorem w_120_44 {v0 v1 v2 v3 : Value}  : dx_W (tb_Z L xs) d 120 44 lv (v3 :: v2 :: v1 :: v0 :: st) σ Q ↔ (dx_ct st ≤ 8 ∧ dx_ci (tb_K L xs) σ v0 = some 9) ∧ dx_M (tb_Z L xs) d 109 [v0, v1, v2, v3] σ (wK (tb_Z L xs) d 120 47 lv st Q) := c_callv (av := [v1, v2, v3]) (hz_120.trans rfl)
theorem w_120_47 : dx_W (tb_Z L xs) d 120 47 lv st σ Q ↔ wR (dx_lk lv 0) (fun y => dx_W (tb_Z L xs) d 120 48 lv (y :: st) σ Q) := r_aload_n (k := 0) (hz_120.trans rfl)
theorem w_120_48 : dx_W (tb_Z L xs) d 120 48 lv st σ Q ↔ dx_W (tb_Z L xs) d 120 50 lv (.int 6 :: st) σ Q := r_bipush (n := 6) (hz_120.trans rfl)
theorem w_120_50 : dx_W (tb_Z L xs) d 120 50 lv st σ Q ↔ dx_W (tb_Z L xs) d 120 51 lv (.int 0 :: st) σ Q := r_iconst (n := 0) (hz_120.trans rfl)
theorem w_120_51 : dx_W (tb_Z L xs) d 120 51 lv st σ Q ↔ dx_W (tb_Z L xs) d 120 52 lv (.int 0 :: st) σ Q := r_iconst (n := 0) (hz_120.trans rfl)
theorem w_120_52 {v0 v1 v2 v3 : Value}  : dx_W (tb_Z L xs) d 120 52 lv (v3 :: v2 :: v1 :: v0 :: st) σ Q ↔ (dx_ct st ≤ 8 ∧ dx_ci (tb_K L xs) σ v0 = some 9) ∧ dx_M (tb_Z L xs) d 109 [v0, v1, v2, v3] σ (wK (tb_Z L xs) d 120 55 lv st Q) := c_callv (av := [v1, v2, v3]) (hz_120.trans rfl)
theorem w_120_55 : dx_W (tb_Z L xs) d 120 55 lv [] σ Q ↔ Q (.inl none) σ := r_return (hz_120.trans rfl) rfl
theorem w_120_56 : dx_W (tb_Z L xs) d 120 56 lv st σ Q ↔ wI (dx_lk lv 1) (fun y => dx_W (tb_Z L xs) d 120 57 lv (.int y :: st) σ Q) := r_iload_n (k := 1) (hz_120.trans rfl)
theorem w_120_57 : dx_W (tb_Z L xs) d 120 57 lv st σ Q ↔ dx_W (tb_Z L xs) d 120 59 lv (.int 20 :: st) σ Q := r_bipush (n := 20) (hz_120.trans rfl)
theorem w_120_59 {x y : Int32} : dx_W (tb_Z L xs) d 120 59 lv (.int y :: .int x :: st) σ Q ↔ (if ¬ x = y then dx_W (tb_Z L xs) d 120 81 lv st σ Q else dx_W (tb_Z L xs) d 120 62 lv st σ Q) := r_ic_ne (off := 22) (t := 81) (hz_120.trans rfl) (by decide)
theorem w_120_62 : dx_W (tb_Z L xs) d 120 62 lv st σ Q ↔ wR (dx_lk lv 0) (fun y => dx_W (tb_Z L xs) d 120 63 lv (y :: st) σ Q) := r_aload_n (k := 0) (hz_120.trans rfl)
theorem w_120_63 : dx_W (tb_Z L xs) d 120 63 lv st σ Q ↔ dx_W (tb_Z L xs) d 120 65 lv (.int 14 :: st) σ Q := r_bipush (n := 14) (hz_120.trans rfl)
theorem w_120_65 : dx_W (tb_Z L xs) d 120 65 lv st σ Q ↔ dx_W (tb_Z L xs) d 120 66 lv (.int 0 :: st) σ Q := r_iconst (n := 0) (hz_120.trans rfl)
theorem w_120_66 : dx_W (tb_Z L xs) d 120 66 lv st σ Q ↔ dx_W (tb_Z L xs) d 120 67 lv (.int 0 :: st) σ Q := r_iconst (n := 0) (hz_120.trans rfl)
theorem w_120_67 {v0 v1 v2 v3 : Value}  : dx_W (tb_Z L xs) d 120 67 lv (v3 :: v2 :: v1 :: v0 :: st) σ Q ↔ (dx_ct st ≤ 8 ∧ dx_ci (tb_K L xs) σ v0 = some 9) ∧ dx_M (tb_Z L xs) d 114 [v0, v1, v2, v3] σ (wK (tb_Z L xs) d 120 70 lv st Q) := c_callv (av := [v1, v2, v3]) (hz_120.trans rfl)
theorem w_120_70 : dx_W (tb_Z L xs) d 120 70 lv st σ Q ↔ wR (dx_lk lv 0) (fun y => dx_W (tb_Z L xs) d 120 71 lv (y :: st) σ Q) := r_aload_n (k := 0) (hz_120.trans rfl)
theorem w_120_71 : dx_W (tb_Z L xs) d 120 71 lv st σ Q ↔ dx_W (tb_Z L xs) d 120 73 lv (.int 13 :: st) σ Q := r_bipush (n := 13) (hz_120.trans rfl)
theorem w_120_73 : dx_W (tb_Z L xs) d 120 73 lv st σ Q ↔ wI (dx_lk lv 3) (fun y => dx_W (tb_Z L xs) d 120 74 lv (.int y :: st) σ Q) := r_iload_n (k := 3) (hz_120.trans rfl)
theorem w_120_74 : dx_W (tb_Z L xs) d 120 74 lv st σ Q ↔ dx_W (tb_Z L xs) d 120 75 lv (.int 0 :: st) σ Q := r_iconst (n := 0) (hz_120.trans rfl)
theorem w_120_75 {v0 v1 v2 v3 : Value}  : dx_W (tb_Z L xs) d 120 75 lv (v3 :: v2 :: v1 :: v0 :: st) σ Q ↔ (dx_ct st ≤ 8 ∧ dx_ci (tb_K L xs) σ v0 = some 9) ∧ dx_M (tb_Z L xs) d 114 [v0, v1, v2, v3] σ (wK (tb_Z L xs) d 120 78 lv st Q) := c_callv (av := [v1, v2, v3]) (hz_120.trans rfl)
theorem w_120_78 : dx_W (tb_Z L xs) d 120 78 lv st σ Q ↔ dx_W (tb_Z L xs) d 120 100 lv st σ Q := r_goto (off := 22) (t := 100) (hz_120.trans rfl) (by decide)
theorem w_120_81 : dx_W (tb_Z L xs) d 120 81 lv st σ Q ↔ wI (dx_lk lv 1) (fun y => dx_W (tb_Z L xs) d 120 82 lv (.int y :: st) σ Q) := r_iload_n (k := 1) (hz_120.trans rfl)
theorem w_120_82 : dx_W (tb_Z L xs) d 120 82 lv st σ Q ↔ dx_W (tb_Z L xs) d 120 84 lv (.int 21 :: st) σ Q := r_bipush (n := 21) (hz_120.trans rfl)
theorem w_120_84 {x y : Int32} : dx_W (tb_Z L xs) d 120 84 lv (.int y :: .int x :: st) σ Q ↔ (if ¬ x = y then dx_W (tb_Z L xs) d 120 100 lv st σ Q else dx_W (tb_Z L xs) d 120 87 lv st σ Q) := r_ic_ne (off := 16) (t := 100) (hz_120.trans rfl) (by decide)
theorem w_120_87 : dx_W (tb_Z L xs) d 120 87 lv st σ Q ↔ wR (dx_lk lv 0) (fun y => dx_W (tb_Z L xs) d 120 88 lv (y :: st) σ Q) := r_aload_n (k := 0) (hz_120.trans rfl)
theorem w_120_88 : dx_W (tb_Z L xs) d 120 88 lv st σ Q ↔ dx_W (tb_Z L xs) d 120 90 lv (.int 15 :: st) σ Q := r_bipush (n := 15) (hz_120.trans rfl)
theorem w_120_90 : dx_W (tb_Z L xs) d 120 90 lv st σ Q ↔ dx_W (tb_Z L xs) d 120 91 lv (.int 0 :: st) σ Q := r_iconst (n := 0) (hz_120.trans rfl)
theorem w_120_91 : dx_W (tb_Z L xs) d 120 91 lv st σ Q ↔ dx_W (tb_Z L xs) d 120 92 lv (.int 0 :: st) σ Q := r_iconst (n := 0) (hz_120.trans rfl)
theorem w_120_92 {v0 v1 v2 v3 : Value}  : dx_W (tb_Z L xs) d 120 92 lv (v3 :: v2 :: v1 :: v0 :: st) σ Q ↔ (dx_ct st ≤ 8 ∧ dx_ci (tb_K L xs) σ v0 = some 9) ∧ dx_M (tb_Z L xs) d 114 [v0, v1, v2, v3] σ (wK (tb_Z L xs) d 120 95 lv st Q) := c_callv (av := [v1, v2, v3]) (hz_120.trans rfl)
theorem w_120_95 : dx_W (tb_Z L xs) d 120 95 lv st σ Q ↔ wR (dx_lk lv 0) (fun y => dx_W (tb_Z L xs) d 120 96 lv (y :: st) σ Q) := r_aload_n (k := 0) (hz_120.trans rfl)
theorem w_120_96 : dx_W (tb_Z L xs) d 120 96 lv st σ Q ↔ dx_W (tb_Z L xs) d 120 97 lv (.int 0 :: st) σ Q := r_iconst (n := 0) (hz_120.trans rfl)
theorem w_120_97 {u w : Value} : dx_W (tb_Z L xs) d 120 97 lv (u :: w :: st) σ Q ↔ wO (dx_pf σ w 9 22 2 u) (fun σ1 => dx_W (tb_Z L xs) d 120 100 lv st σ1 Q) := r_putfield (f := 2) (hz_120.trans rfl)
theorem w_120_100 : dx_W (tb_Z L xs) d 120 100 lv st σ Q ↔ wR (dx_lk lv 0) (fun y => dx_W (tb_Z L xs) d 120 101 lv (y :: st) σ Q) := r_aload_n (k := 0) (hz_120.trans rfl)
theorem w_120_101 {w : Value} : dx_W (tb_Z L xs) d 120 101 lv (w :: st) σ Q ↔ wO (dx_gf (tb_K L xs) σ w 9 12) (fun y => dx_W (tb_Z L xs) d 120 104 lv (y :: st) σ Q) := r_getfield (hz_120.trans rfl)
theorem w_120_104 : dx_W (tb_Z L xs) d 120 104 lv st σ Q ↔ wI (dx_lk lv 2) (fun y => dx_W (tb_Z L xs) d 120 105 lv (.int y :: st) σ Q) := r_iload_n (k := 2) (hz_120.trans rfl)
theorem w_120_105 : dx_W (tb_Z L xs) d 120 105 lv st σ Q ↔ wR (dx_lk lv 0) (fun y => dx_W (tb_Z L xs) d 120 106 lv (y :: st) σ Q) := r_aload_n (k := 0) (hz_120.trans rfl)
theorem w_120_106 {w : Value} : dx_W (tb_Z L xs) d 120 106 lv (w :: st) σ Q ↔ wO (dx_gf (tb_K L xs) σ w 9 14) (fun y => dx_W (tb_Z L xs) d 120 109 lv (y :: st) σ Q) := r_getfield (hz_120.trans rfl)
theorem w_120_109 {w : Value} {y : Int32} {u : Int32} : dx_W (tb_Z L xs) d 120 109 lv (.int u :: .int y :: w :: st) σ Q ↔ wO (dx_pi σ 0 w y u) (fun σ1 => dx_W (tb_Z L xs) d 120 110 lv st σ1 Q) := r_iastore (hz_120.trans rfl)
theorem w_120_110 : dx_W (tb_Z L xs) d 120 110 lv [] σ Q ↔ Q (.inl none) σ := r_return (hz_120.trans rfl) rfl
theorem hz_121 {pc : Nat} : (tb_Z L xs).1 121 pc = dx_at tb_m121 pc := rfl
set_option maxRecDepth 8000 in
theorem w_121_0 : dx_W (tb_Z L xs) d 121 0 lv st σ Q ↔ wR (dx_lk lv 0) (fun y => dx_W (tb_Z L xs) d 121 1 lv (y :: st) σ Q) := r_aload_n (k := 0) (hz_121.trans rfl)
set_option maxRecDepth 8000 in
theorem w_121_1 {w : Value} : dx_W (tb_Z L xs) d 121 1 lv (w :: st) σ Q ↔ wO (dx_gf (tb_K L xs) σ w 9 12) (fun y => dx_W (tb_Z L xs) d 121 4 lv (y :: st) σ Q) := r_getfield (hz_121.trans rfl)
set_option maxRecDepth 8000 in
theorem w_121_4 : dx_W (tb_Z L xs) d 121 4 lv st σ Q ↔ wI (dx_lk lv 1) (fun y => dx_W (tb_Z L xs) d 121 5 lv (.int y :: st) σ Q) := r_iload_n (k := 1) (hz_121.trans rfl)
set_option maxRecDepth 8000 in
theorem w_121_5 {w : Value} {y : Int32} : dx_W (tb_Z L xs) d 121 5 lv (.int y :: w :: st) σ Q ↔ wO (dx_ei (tb_K L xs) σ 0 w y) (fun u => dx_W (tb_Z L xs) d 121 6 lv (.int u :: st) σ Q) := r_iaload (hz_121.trans rfl)
set_option maxRecDepth 8000 in
theorem w_121_6 {x : Int32} : dx_W (tb_Z L xs) d 121 6 lv (.int x :: st) σ Q ↔ dx_W (tb_Z L xs) d 121 7 (dx_s1 lv 2 (.int x)) st σ Q := r_istore_n (k := 2) (hz_121.trans rfl) (show 2 < tb_l 121 by decide)
set_option maxRecDepth 8000 in
theorem w_121_7 : dx_W (tb_Z L xs) d 121 7 lv st σ Q ↔ wR (dx_lk lv 0) (fun y => dx_W (tb_Z L xs) d 121 8 lv (y :: st) σ Q) := r_aload_n (k := 0) (hz_121.trans rfl)
set_option maxRecDepth 8000 in
theorem w_121_8 {w : Value} : dx_W (tb_Z L xs) d 121 8 lv (w :: st) σ Q ↔ wO (dx_gf (tb_K L xs) σ w 9 30) (fun y => dx_W (tb_Z L xs) d 121 11 lv (y :: st) σ Q) := r_getfield (hz_121.trans rfl)
set_option maxRecDepth 8000 in
theorem w_121_11 {x : Int32} : dx_W (tb_Z L xs) d 121 11 lv (.int x :: st) σ Q ↔ (if x ≤ 0 then dx_W (tb_Z L xs) d 121 28 lv st σ Q else dx_W (tb_Z L xs) d 121 14 lv st σ Q) := r_if_le (off := 17) (t := 28) (hz_121.trans rfl) (by decide)
set_option maxRecDepth 8000 in
theorem w_121_14 : dx_W (tb_Z L xs) d 121 14 lv st σ Q ↔ wR (dx_lk lv 0) (fun y => dx_W (tb_Z L xs) d 121 15 lv (y :: st) σ Q) := r_aload_n (k := 0) (hz_121.trans rfl)
set_option maxRecDepth 8000 in
theorem w_121_15 {w : Value} : dx_W (tb_Z L xs) d 121 15 lv (w :: st) σ Q ↔ wO (dx_gf (tb_K L xs) σ w 9 23) (fun y => dx_W (tb_Z L xs) d 121 18 lv (y :: st) σ Q) := r_getfield (hz_121.trans rfl)
set_option maxRecDepth 8000 in
theorem w_121_18 : dx_W (tb_Z L xs) d 121 18 lv st σ Q ↔ wR (dx_lk lv 0) (fun y => dx_W (tb_Z L xs) d 121 19 lv (y :: st) σ Q) := r_aload_n (k := 0) (hz_121.trans rfl)
set_option maxRecDepth 8000 in
theorem w_121_19 {w : Value} : dx_W (tb_Z L xs) d 121 19 lv (w :: st) σ Q ↔ wO (dx_gf (tb_K L xs) σ w 9 30) (fun y => dx_W (tb_Z L xs) d 121 22 lv (y :: st) σ Q) := r_getfield (hz_121.trans rfl)
set_option maxRecDepth 8000 in
theorem w_121_22 : dx_W (tb_Z L xs) d 121 22 lv st σ Q ↔ dx_W (tb_Z L xs) d 121 23 lv (.int 1 :: st) σ Q := r_iconst (n := 1) (hz_121.trans rfl)
set_option maxRecDepth 8000 in
theorem w_121_23 {x y : Int32} : dx_W (tb_Z L xs) d 121 23 lv (.int y :: .int x :: st) σ Q ↔ dx_W (tb_Z L xs) d 121 24 lv (.int (x - y) :: st) σ Q := r_isub (hz_121.trans rfl)
set_option maxRecDepth 8000 in
theorem w_121_24 {w : Value} {y : Int32} : dx_W (tb_Z L xs) d 121 24 lv (.int y :: w :: st) σ Q ↔ wO (dx_ei (tb_K L xs) σ 0 w y) (fun u => dx_W (tb_Z L xs) d 121 25 lv (.int u :: st) σ Q) := r_iaload (hz_121.trans rfl)
set_option maxRecDepth 8000 in
theorem w_121_25 : dx_W (tb_Z L xs) d 121 25 lv st σ Q ↔ dx_W (tb_Z L xs) d 121 29 lv st σ Q := r_goto (off := 4) (t := 29) (hz_121.trans rfl) (by decide)
set_option maxRecDepth 8000 in
theorem w_121_28 : dx_W (tb_Z L xs) d 121 28 lv st σ Q ↔ dx_W (tb_Z L xs) d 121 29 lv (.int 0 :: st) σ Q := r_iconst (n := 0) (hz_121.trans rfl)
set_option maxRecDepth 8000 in
theorem w_121_29 {x : Int32} : dx_W (tb_Z L xs) d 121 29 lv (.int x :: st) σ Q ↔ dx_W (tb_Z L xs) d 121 30 (dx_s1 lv 3 (.int x)) st σ Q := r_istore_n (k := 3) (hz_121.trans rfl) (show 3 < tb_l 121 by decide)
set_option maxRecDepth 8000 in
theorem w_121_30 : dx_W (tb_Z L xs) d 121 30 lv st σ Q ↔ wR (dx_lk lv 0) (fun y => dx_W (tb_Z L xs) d 121 31 lv (y :: st) σ Q) := r_aload_n (k := 0) (hz_121.trans rfl)
set_option maxRecDepth 8000 in
theorem w_121_31 {w : Value} : dx_W (tb_Z L xs) d 121 31 lv (w :: st) σ Q ↔ wO (dx_gf (tb_K L xs) σ w 9 30) (fun y => dx_W (tb_Z L xs) d 121 34 lv (y :: st) σ Q) := r_getfield (hz_121.trans rfl)
set_option maxRecDepth 8000 in
theorem w_121_34 {x : Int32} : dx_W (tb_Z L xs) d 121 34 lv (.int x :: st) σ Q ↔ (if x ≤ 0 then dx_W (tb_Z L xs) d 121 51 lv st σ Q else dx_W (tb_Z L xs) d 121 37 lv st σ Q) := r_if_le (off := 17) (t := 51) (hz_121.trans rfl) (by decide)
set_option maxRecDepth 8000 in
theorem w_121_37 : dx_W (tb_Z L xs) d 121 37 lv st σ Q ↔ wR (dx_lk lv 0) (fun y => dx_W (tb_Z L xs) d 121 38 lv (y :: st) σ Q) := r_aload_n (k := 0) (hz_121.trans rfl)
set_option maxRecDepth 8000 in
theorem w_121_38 {w : Value} : dx_W (tb_Z L xs) d 121 38 lv (w :: st) σ Q ↔ wO (dx_gf (tb_K L xs) σ w 9 24) (fun y => dx_W (tb_Z L xs) d 121 41 lv (y :: st) σ Q) := r_getfield (hz_121.trans rfl)
set_option maxRecDepth 8000 in
theorem w_121_41 : dx_W (tb_Z L xs) d 121 41 lv st σ Q ↔ wR (dx_lk lv 0) (fun y => dx_W (tb_Z L xs) d 121 42 lv (y :: st) σ Q) := r_aload_n (k := 0) (hz_121.trans rfl)
set_option maxRecDepth 8000 in
theorem w_121_42 {w : Value} : dx_W (tb_Z L xs) d 121 42 lv (w :: st) σ Q ↔ wO (dx_gf (tb_K L xs) σ w 9 30) (fun y => dx_W (tb_Z L xs) d 121 45 lv (y :: st) σ Q) := r_getfield (hz_121.trans rfl)
set_option maxRecDepth 8000 in
theorem w_121_45 : dx_W (tb_Z L xs) d 121 45 lv st σ Q ↔ dx_W (tb_Z L xs) d 121 46 lv (.int 1 :: st) σ Q := r_iconst (n := 1) (hz_121.trans rfl)
set_option maxRecDepth 8000 in
theorem w_121_46 {x y : Int32} : dx_W (tb_Z L xs) d 121 46 lv (.int y :: .int x :: st) σ Q ↔ dx_W (tb_Z L xs) d 121 47 lv (.int (x - y) :: st) σ Q := r_isub (hz_121.trans rfl)
set_option maxRecDepth 8000 in
theorem w_121_47 {w : Value} {y : Int32} : dx_W (tb_Z L xs) d 121 47 lv (.int y :: w :: st) σ Q ↔ wO (dx_ei (tb_K L xs) σ 0 w y) (fun u => dx_W (tb_Z L xs) d 121 48 lv (.int u :: st) σ Q) := r_iaload (hz_121.trans rfl)
set_option maxRecDepth 8000 in
theorem w_121_48 : dx_W (tb_Z L xs) d 121 48 lv st σ Q ↔ dx_W (tb_Z L xs) d 121 52 lv st σ Q := r_goto (off := 4) (t := 52) (hz_121.trans rfl) (by decide)
set_option maxRecDepth 8000 in
theorem w_121_51 : dx_W (tb_Z L xs) d 121 51 lv st σ Q ↔ dx_W (tb_Z L xs) d 121 52 lv (.int 0 :: st) σ Q := r_iconst (n := 0) (hz_121.trans rfl)
set_option maxRecDepth 8000 in
theorem w_121_52 {x : Int32} : dx_W (tb_Z L xs) d 121 52 lv (.int x :: st) σ Q ↔ dx_W (tb_Z L xs) d 121 54 (dx_s1 lv 4 (.int x)) st σ Q := r_istore (k := 4) (hz_121.trans rfl) (show 4 < tb_l 121 by decide)
set_option maxRecDepth 8000 in
theorem w_121_54 : dx_W (tb_Z L xs) d 121 54 lv st σ Q ↔ wR (dx_lk lv 0) (fun y => dx_W (tb_Z L xs) d 121 55 lv (y :: st) σ Q) := r_aload_n (k := 0) (hz_121.trans rfl)
set_option maxRecDepth 8000 in
theorem w_121_55 {w : Value} : dx_W (tb_Z L xs) d 121 55 lv (w :: st) σ Q ↔ wO (dx_gf (tb_K L xs) σ w 9 11) (fun y => dx_W (tb_Z L xs) d 121 58 lv (y :: st) σ Q) := r_getfield (hz_121.trans rfl)
set_option maxRecDepth 8000 in
theorem w_121_58 : dx_W (tb_Z L xs) d 121 58 lv st σ Q ↔ wI (dx_lk lv 1) (fun y => dx_W (tb_Z L xs) d 121 59 lv (.int y :: st) σ Q) := r_iload_n (k := 1) (hz_121.trans rfl)
set_option maxRecDepth 8000 in
theorem w_121_59 {w : Value} {y : Int32} : dx_W (tb_Z L xs) d 121 59 lv (.int y :: w :: st) σ Q ↔ wO (dx_ei (tb_K L xs) σ 0 w y) (fun u => dx_W (tb_Z L xs) d 121 60 lv (.int u :: st) σ Q) := r_iaload (hz_121.trans rfl)
set_option maxRecDepth 8000 in
theorem w_121_60 {x : Int32} : dx_W (tb_Z L xs) d 121 60 lv (.int x :: st) σ Q ↔ (if x = 1 then dx_W (tb_Z L xs) d 121 128 lv st σ Q else if x = 2 then dx_W (tb_Z L xs) d 121 143 lv st σ Q else if x = 3 then dx_W (tb_Z L xs) d 121 163 lv st σ Q else if x = 4 then dx_W (tb_Z L xs) d 121 176 lv st σ Q else if x = 5 then dx_W (tb_Z L xs) d 121 193 lv st σ Q else if x = 6 then dx_W (tb_Z L xs) d 121 278 lv st σ Q else if x = 7 then dx_W (tb_Z L xs) d 121 287 lv st σ Q else if x = 8 then dx_W (tb_Z L xs) d 121 388 lv st σ Q else if x = 9 then dx_W (tb_Z L xs) d 121 388 lv st σ Q else if x = 10 then dx_W (tb_Z L xs) d 121 388 lv st σ Q else if x = 11 then dx_W (tb_Z L xs) d 121 388 lv st σ Q else if x = 12 then dx_W (tb_Z L xs) d 121 365 lv st σ Q else if x = 13 then dx_W (tb_Z L xs) d 121 386 lv st σ Q else dx_W (tb_Z L xs) d 121 388 lv st σ Q) := by
  by_cases h0 : x = 1
  · subst h0
    rw [if_pos rfl]
    exact r_sw (t := 128) (hz_121.trans rfl) rfl rfl
  rw [if_neg h0]
  by_cases h1 : x = 2
  · subst h1
    rw [if_pos rfl]
    exact r_sw (t := 143) (hz_121.trans rfl) rfl rfl
  rw [if_neg h1]
  by_cases h2 : x = 3
  · subst h2
    rw [if_pos rfl]
    exact r_sw (t := 163) (hz_121.trans rfl) rfl rfl
  rw [if_neg h2]
  by_cases h3 : x = 4
  · subst h3
    rw [if_pos rfl]
    exact r_sw (t := 176) (hz_121.trans rfl) rfl rfl
  rw [if_neg h3]
  by_cases h4 : x = 5
  · subst h4
    rw [if_pos rfl]
    exact r_sw (t := 193) (hz_121.trans rfl) rfl rfl
  rw [if_neg h4]
  by_cases h5 : x = 6
  · subst h5
    rw [if_pos rfl]
    exact r_sw (t := 278) (hz_121.trans rfl) rfl rfl
  rw [if_neg h5]
  by_cases h6 : x = 7
  · subst h6
    rw [if_pos rfl]
    exact r_sw (t := 287) (hz_121.trans rfl) rfl rfl
  rw [if_neg h6]
  by_cases h7 : x = 8
  · subst h7
    rw [if_pos rfl]
    exact r_sw (t := 388) (hz_121.trans rfl) rfl rfl
  rw [if_neg h7]
  by_cases h8 : x = 9
  · subst h8
    rw [if_pos rfl]
    exact r_sw (t := 388) (hz_121.trans rfl) rfl rfl
  rw [if_neg h8]
  by_cases h9 : x = 10
  · subst h9
    rw [if_pos rfl]
    exact r_sw (t := 388) (hz_121.trans rfl) rfl rfl
  rw [if_neg h9]
  by_cases h10 : x = 11
  · subst h10
    rw [if_pos rfl]
    exact r_sw (t := 388) (hz_121.trans rfl) rfl rfl
  rw [if_neg h10]
  by_cases h11 : x = 12
  · subst h11
    rw [if_pos rfl]
    exact r_sw (t := 365) (hz_121.trans rfl) rfl rfl
  rw [if_neg h11]
  by_cases h12 : x = 13
  · subst h12
    rw [if_pos rfl]
    exact r_sw (t := 386) (hz_121.trans rfl) rfl rfl
  rw [if_neg h12]
  refine r_table (t := 388) (hz_121.trans rfl) (by decide) ?_ (by decide)
  have g0 := lv_neT h0 (show (1 : Int32).toInt = 1 from rfl)
  have g1 := lv_neT h1 (show (2 : Int32).toInt = 2 from rfl)
  have g2 := lv_neT h2 (show (3 : Int32).toInt = 3 from rfl)
  have g3 := lv_neT h3 (show (4 : Int32).toInt = 4 from rfl)
  have g4 := lv_neT h4 (show (5 : Int32).toInt = 5 from rfl)
  have g5 := lv_neT h5 (show (6 : Int32).toInt = 6 from rfl)
  have g6 := lv_neT h6 (show (7 : Int32).toInt = 7 from rfl)
  have g7 := lv_neT h7 (show (8 : Int32).toInt = 8 from rfl)
  have g8 := lv_neT h8 (show (9 : Int32).toInt = 9 from rfl)
  have g9 := lv_neT h9 (show (10 : Int32).toInt = 10 from rfl)
  have g10 := lv_neT h10 (show (11 : Int32).toInt = 11 from rfl)
  have g11 := lv_neT h11 (show (12 : Int32).toInt = 12 from rfl)
  have g12 := lv_neT h12 (show (13 : Int32).toInt = 13 from rfl)
  omega
set_option maxRecDepth 8000 in
theorem w_121_128 : dx_W (tb_Z L xs) d 121 128 lv st σ Q ↔ wR (dx_lk lv 0) (fun y => dx_W (tb_Z L xs) d 121 129 lv (y :: st) σ Q) := r_aload_n (k := 0) (hz_121.trans rfl)
set_option maxRecDepth 8000 in
theorem w_121_129 : dx_W (tb_Z L xs) d 121 129 lv st σ Q ↔ wI (dx_lk lv 2) (fun y => dx_W (tb_Z L xs) d 121 130 lv (.int y :: st) σ Q) := r_iload_n (k := 2) (hz_121.trans rfl)
set_option maxRecDepth 8000 in
theorem w_121_130 : dx_W (tb_Z L xs) d 121 130 lv st σ Q ↔ wR (dx_lk lv 0) (fun y => dx_W (tb_Z L xs) d 121 131 lv (y :: st) σ Q) := r_aload_n (k := 0) (hz_121.trans rfl)
set_option maxRecDepth 8000 in
theorem w_121_131 {w : Value} : dx_W (tb_Z L xs) d 121 131 lv (w :: st) σ Q ↔ wO (dx_gf (tb_K L xs) σ w 9 13) (fun y => dx_W (tb_Z L xs) d 121 134 lv (y :: st) σ Q) := r_getfield (hz_121.trans rfl)
set_option maxRecDepth 8000 in
theorem w_121_134 : dx_W (tb_Z L xs) d 121 134 lv st σ Q ↔ wI (dx_lk lv 1) (fun y => dx_W (tb_Z L xs) d 121 135 lv (.int y :: st) σ Q) := r_iload_n (k := 1) (hz_121.trans rfl)
set_option maxRecDepth 8000 in
theorem w_121_135 {w : Value} {y : Int32} : dx_W (tb_Z L xs) d 121 135 lv (.int y :: w :: st) σ Q ↔ wO (dx_ei (tb_K L xs) σ 0 w y) (fun u => dx_W (tb_Z L xs) d 121 136 lv (.int u :: st) σ Q) := r_iaload (hz_121.trans rfl)
set_option maxRecDepth 8000 in
theorem w_121_136 {v0 v1 v2 : Value}  : dx_W (tb_Z L xs) d 121 136 lv (v2 :: v1 :: v0 :: st) σ Q ↔ (dx_ct st ≤ 8 ∧ dx_ci (tb_K L xs) σ v0 = some 9) ∧ dx_M (tb_Z L xs) d 122 [v0, v1, v2] σ (wK (tb_Z L xs) d 121 139 lv st Q) := c_callv (av := [v1, v2]) (hz_121.trans rfl)
set_option maxRecDepth 8000 in
theorem w_121_139 : dx_W (tb_Z L xs) d 121 139 lv st σ Q ↔ wI (dx_lk lv 1) (fun y => dx_W (tb_Z L xs) d 121 140 lv (.int y :: st) σ Q) := r_iload_n (k := 1) (hz_121.trans rfl)
set_option maxRecDepth 8000 in
theorem w_121_140 : dx_W (tb_Z L xs) d 121 140 lv st σ Q ↔ dx_W (tb_Z L xs) d 121 141 lv (.int 1 :: st) σ Q := r_iconst (n := 1) (hz_121.trans rfl)
set_option maxRecDepth 8000 in
theorem w_121_141 {x y : Int32} : dx_W (tb_Z L xs) d 121 141 lv (.int y :: .int x :: st) σ Q ↔ dx_W (tb_Z L xs) d 121 142 lv (.int (x + y) :: st) σ Q := r_iadd (hz_121.trans rfl)
set_option maxRecDepth 8000 in
theorem w_121_142 {x : Int32} : dx_W (tb_Z L xs) d 121 142 lv [.int x] σ Q ↔ Q (.inl (some (.int x))) σ := r_ireturn (hz_121.trans rfl) rfl rfl
set_option maxRecDepth 8000 in
theorem w_121_143 : dx_W (tb_Z L xs) d 121 143 lv st σ Q ↔ wR (dx_lk lv 0) (fun y => dx_W (tb_Z L xs) d 121 144 lv (y :: st) σ Q) := r_aload_n (k := 0) (hz_121.trans rfl)
set_option maxRecDepth 8000 in
theorem w_121_144 : dx_W (tb_Z L xs) d 121 144 lv st σ Q ↔ wR (dx_lk lv 0) (fun y => dx_W (tb_Z L xs) d 121 145 lv (y :: st) σ Q) := r_aload_n (k := 0) (hz_121.trans rfl)
set_option maxRecDepth 8000 in
theorem w_121_145 {w : Value} : dx_W (tb_Z L xs) d 121 145 lv (w :: st) σ Q ↔ wO (dx_gf (tb_K L xs) σ w 9 2) (fun y => dx_W (tb_Z L xs) d 121 148 lv (y :: st) σ Q) := r_getfield (hz_121.trans rfl)
set_option maxRecDepth 8000 in
theorem w_121_148 : dx_W (tb_Z L xs) d 121 148 lv st σ Q ↔ wI (dx_lk lv 2) (fun y => dx_W (tb_Z L xs) d 121 149 lv (.int y :: st) σ Q) := r_iload_n (k := 2) (hz_121.trans rfl)
set_option maxRecDepth 8000 in
theorem w_121_149 {w : Value} {y : Int32} : dx_W (tb_Z L xs) d 121 149 lv (.int y :: w :: st) σ Q ↔ wO (dx_ei (tb_K L xs) σ 0 w y) (fun u => dx_W (tb_Z L xs) d 121 150 lv (.int u :: st) σ Q) := r_iaload (hz_121.trans rfl)
set_option maxRecDepth 8000 in
theorem w_121_150 : dx_W (tb_Z L xs) d 121 150 lv st σ Q ↔ wR (dx_lk lv 0) (fun y => dx_W (tb_Z L xs) d 121 151 lv (y :: st) σ Q) := r_aload_n (k := 0) (hz_121.trans rfl)
set_option maxRecDepth 8000 in
theorem w_121_151 {w : Value} : dx_W (tb_Z L xs) d 121 151 lv (w :: st) σ Q ↔ wO (dx_gf (tb_K L xs) σ w 9 3) (fun y => dx_W (tb_Z L xs) d 121 154 lv (y :: st) σ Q) := r_getfield (hz_121.trans rfl)
set_option maxRecDepth 8000 in
theorem w_121_154 : dx_W (tb_Z L xs) d 121 154 lv st σ Q ↔ wI (dx_lk lv 2) (fun y => dx_W (tb_Z L xs) d 121 155 lv (.int y :: st) σ Q) := r_iload_n (k := 2) (hz_121.trans rfl)
set_option maxRecDepth 8000 in
theorem w_121_155 {w : Value} {y : Int32} : dx_W (tb_Z L xs) d 121 155 lv (.int y :: w :: st) σ Q ↔ wO (dx_ei (tb_K L xs) σ 0 w y) (fun u => dx_W (tb_Z L xs) d 121 156 lv (.int u :: st) σ Q) := r_iaload (hz_121.trans rfl)
set_option maxRecDepth 8000 in
theorem w_121_156 {v0 v1 v2 : Value}  : dx_W (tb_Z L xs) d 121 156 lv (v2 :: v1 :: v0 :: st) σ Q ↔ (dx_ct st ≤ 8 ∧ dx_ci (tb_K L xs) σ v0 = some 9) ∧ dx_M (tb_Z L xs) d 122 [v0, v1, v2] σ (wK (tb_Z L xs) d 121 159 lv st Q) := c_callv (av := [v1, v2]) (hz_121.trans rfl)
set_option maxRecDepth 8000 in
theorem w_121_159 : dx_W (tb_Z L xs) d 121 159 lv st σ Q ↔ wI (dx_lk lv 1) (fun y => dx_W (tb_Z L xs) d 121 160 lv (.int y :: st) σ Q) := r_iload_n (k := 1) (hz_121.trans rfl)
set_option maxRecDepth 8000 in
theorem w_121_160 : dx_W (tb_Z L xs) d 121 160 lv st σ Q ↔ dx_W (tb_Z L xs) d 121 161 lv (.int 1 :: st) σ Q := r_iconst (n := 1) (hz_121.trans rfl)
set_option maxRecDepth 8000 in
theorem w_121_161 {x y : Int32} : dx_W (tb_Z L xs) d 121 161 lv (.int y :: .int x :: st) σ Q ↔ dx_W (tb_Z L xs) d 121 162 lv (.int (x + y) :: st) σ Q := r_iadd (hz_121.trans rfl)
set_option maxRecDepth 8000 in
theorem w_121_162 {x : Int32} : dx_W (tb_Z L xs) d 121 162 lv [.int x] σ Q ↔ Q (.inl (some (.int x))) σ := r_ireturn (hz_121.trans rfl) rfl rfl
set_option maxRecDepth 8000 in
theorem w_121_163 : dx_W (tb_Z L xs) d 121 163 lv st σ Q ↔ wR (dx_lk lv 0) (fun y => dx_W (tb_Z L xs) d 121 164 lv (y :: st) σ Q) := r_aload_n (k := 0) (hz_121.trans rfl)
set_option maxRecDepth 8000 in
theorem w_121_164 : dx_W (tb_Z L xs) d 121 164 lv st σ Q ↔ wR (dx_lk lv 0) (fun y => dx_W (tb_Z L xs) d 121 165 lv (y :: st) σ Q) := r_aload_n (k := 0) (hz_121.trans rfl)
set_option maxRecDepth 8000 in
theorem w_121_165 {w : Value} : dx_W (tb_Z L xs) d 121 165 lv (w :: st) σ Q ↔ wO (dx_gf (tb_K L xs) σ w 9 4) (fun y => dx_W (tb_Z L xs) d 121 168 lv (y :: st) σ Q) := r_getfield (hz_121.trans rfl)
set_option maxRecDepth 8000 in
theorem w_121_168 : dx_W (tb_Z L xs) d 121 168 lv st σ Q ↔ dx_W (tb_Z L xs) d 121 169 lv (.int 0 :: st) σ Q := r_iconst (n := 0) (hz_121.trans rfl)
set_option maxRecDepth 8000 in
theorem w_121_169 {v0 v1 v2 : Value}  : dx_W (tb_Z L xs) d 121 169 lv (v2 :: v1 :: v0 :: st) σ Q ↔ (dx_ct st ≤ 8 ∧ dx_ci (tb_K L xs) σ v0 = some 9) ∧ dx_M (tb_Z L xs) d 122 [v0, v1, v2] σ (wK (tb_Z L xs) d 121 172 lv st Q) := c_callv (av := [v1, v2]) (hz_121.trans rfl)
set_option maxRecDepth 8000 in
theorem w_121_172 : dx_W (tb_Z L xs) d 121 172 lv st σ Q ↔ wI (dx_lk lv 1) (fun y => dx_W (tb_Z L xs) d 121 173 lv (.int y :: st) σ Q) := r_iload_n (k := 1) (hz_121.trans rfl)
set_option maxRecDepth 8000 in
theorem w_121_173 : dx_W (tb_Z L xs) d 121 173 lv st σ Q ↔ dx_W (tb_Z L xs) d 121 174 lv (.int 1 :: st) σ Q := r_iconst (n := 1) (hz_121.trans rfl)
set_option maxRecDepth 8000 in
theorem w_121_174 {x y : Int32} : dx_W (tb_Z L xs) d 121 174 lv (.int y :: .int x :: st) σ Q ↔ dx_W (tb_Z L xs) d 121 175 lv (.int (x + y) :: st) σ Q := r_iadd (hz_121.trans rfl)
set_option maxRecDepth 8000 in
theorem w_121_175 {x : Int32} : dx_W (tb_Z L xs) d 121 175 lv [.int x] σ Q ↔ Q (.inl (some (.int x))) σ := r_ireturn (hz_121.trans rfl) rfl rfl
set_option maxRecDepth 8000 in
theorem w_121_176 : dx_W (tb_Z L xs) d 121 176 lv st σ Q ↔ wR (dx_lk lv 0) (fun y => dx_W (tb_Z L xs) d 121 177 lv (y :: st) σ Q) := r_aload_n (k := 0) (hz_121.trans rfl)
set_option maxRecDepth 8000 in
theorem w_121_177 {w : Value} : dx_W (tb_Z L xs) d 121 177 lv (w :: st) σ Q ↔ wO (dx_gf (tb_K L xs) σ w 9 23) (fun y => dx_W (tb_Z L xs) d 121 180 lv (y :: st) σ Q) := r_getfield (hz_121.trans rfl)
set_option maxRecDepth 8000 in
theorem w_121_180 : dx_W (tb_Z L xs) d 121 180 lv st σ Q ↔ wR (dx_lk lv 0) (fun y => dx_W (tb_Z L xs) d 121 181 lv (y :: st) σ Q) := r_aload_n (k := 0) (hz_121.trans rfl)
set_option maxRecDepth 8000 in
theorem w_121_181 {w : Value} : dx_W (tb_Z L xs) d 121 181 lv (w :: st) σ Q ↔ wO (dx_gf (tb_K L xs) σ w 9 30) (fun y => dx_W (tb_Z L xs) d 121 184 lv (y :: st) σ Q) := r_getfield (hz_121.trans rfl)
set_option maxRecDepth 8000 in
theorem w_121_184 : dx_W (tb_Z L xs) d 121 184 lv st σ Q ↔ dx_W (tb_Z L xs) d 121 185 lv (.int 1 :: st) σ Q := r_iconst (n := 1) (hz_121.trans rfl)
set_option maxRecDepth 8000 in
theorem w_121_185 {x y : Int32} : dx_W (tb_Z L xs) d 121 185 lv (.int y :: .int x :: st) σ Q ↔ dx_W (tb_Z L xs) d 121 186 lv (.int (x - y) :: st) σ Q := r_isub (hz_121.trans rfl)
set_option maxRecDepth 8000 in
theorem w_121_186 : dx_W (tb_Z L xs) d 121 186 lv st σ Q ↔ wI (dx_lk lv 3) (fun y => dx_W (tb_Z L xs) d 121 187 lv (.int y :: st) σ Q) := r_iload_n (k := 3) (hz_121.trans rfl)
set_option maxRecDepth 8000 in
theorem w_121_187 {x : Int32} : dx_W (tb_Z L xs) d 121 187 lv (.int x :: st) σ Q ↔ dx_W (tb_Z L xs) d 121 188 lv (.int (-x) :: st) σ Q := r_ineg (hz_121.trans rfl)
set_option maxRecDepth 8000 in
theorem w_121_188 {w : Value} {y : Int32} {u : Int32} : dx_W (tb_Z L xs) d 121 188 lv (.int u :: .int y :: w :: st) σ Q ↔ wO (dx_pi σ 0 w y u) (fun σ1 => dx_W (tb_Z L xs) d 121 189 lv st σ1 Q) := r_iastore (hz_121.trans rfl)
set_option maxRecDepth 8000 in
theorem w_121_189 : dx_W (tb_Z L xs) d 121 189 lv st σ Q ↔ wI (dx_lk lv 1) (fun y => dx_W (tb_Z L xs) d 121 190 lv (.int y :: st) σ Q) := r_iload_n (k := 1) (hz_121.trans rfl)
set_option maxRecDepth 8000 in
theorem w_121_190 : dx_W (tb_Z L xs) d 121 190 lv st σ Q ↔ dx_W (tb_Z L xs) d 121 191 lv (.int 1 :: st) σ Q := r_iconst (n := 1) (hz_121.trans rfl)
set_option maxRecDepth 8000 in
theorem w_121_191 {x y : Int32} : dx_W (tb_Z L xs) d 121 191 lv (.int y :: .int x :: st) σ Q ↔ dx_W (tb_Z L xs) d 121 192 lv (.int (x + y) :: st) σ Q := r_iadd (hz_121.trans rfl)
set_option maxRecDepth 8000 in
theorem w_121_192 {x : Int32} : dx_W (tb_Z L xs) d 121 192 lv [.int x] σ Q ↔ Q (.inl (some (.int x))) σ := r_ireturn (hz_121.trans rfl) rfl rfl
set_option maxRecDepth 8000 in
theorem w_121_193 : dx_W (tb_Z L xs) d 121 193 lv st σ Q ↔ wR (dx_lk lv 0) (fun y => dx_W (tb_Z L xs) d 121 194 lv (y :: st) σ Q) := r_aload_n (k := 0) (hz_121.trans rfl)
set_option maxRecDepth 8000 in
theorem w_121_194 : dx_W (tb_Z L xs) d 121 194 lv st σ Q ↔ wI (dx_lk lv 2) (fun y => dx_W (tb_Z L xs) d 121 195 lv (.int y :: st) σ Q) := r_iload_n (k := 2) (hz_121.trans rfl)
set_option maxRecDepth 8000 in
theorem w_121_195 : dx_W (tb_Z L xs) d 121 195 lv st σ Q ↔ wR (dx_lk lv 0) (fun y => dx_W (tb_Z L xs) d 121 196 lv (y :: st) σ Q) := r_aload_n (k := 0) (hz_121.trans rfl)
set_option maxRecDepth 8000 in
theorem w_121_196 {w : Value} : dx_W (tb_Z L xs) d 121 196 lv (w :: st) σ Q ↔ wO (dx_gf (tb_K L xs) σ w 9 23) (fun y => dx_W (tb_Z L xs) d 121 199 lv (y :: st) σ Q) := r_getfield (hz_121.trans rfl)
set_option maxRecDepth 8000 in
theorem w_121_199 : dx_W (tb_Z L xs) d 121 199 lv st σ Q ↔ wR (dx_lk lv 0) (fun y => dx_W (tb_Z L xs) d 121 200 lv (y :: st) σ Q) := r_aload_n (k := 0) (hz_121.trans rfl)
set_option maxRecDepth 8000 in
theorem w_121_200 {w : Value} : dx_W (tb_Z L xs) d 121 200 lv (w :: st) σ Q ↔ wO (dx_gf (tb_K L xs) σ w 9 30) (fun y => dx_W (tb_Z L xs) d 121 203 lv (y :: st) σ Q) := r_getfield (hz_121.trans rfl)
set_option maxRecDepth 8000 in
theorem w_121_203 : dx_W (tb_Z L xs) d 121 203 lv st σ Q ↔ dx_W (tb_Z L xs) d 121 204 lv (.int 2 :: st) σ Q := r_iconst (n := 2) (hz_121.trans rfl)
set_option maxRecDepth 8000 in
theorem w_121_204 {x y : Int32} : dx_W (tb_Z L xs) d 121 204 lv (.int y :: .int x :: st) σ Q ↔ dx_W (tb_Z L xs) d 121 205 lv (.int (x - y) :: st) σ Q := r_isub (hz_121.trans rfl)
set_option maxRecDepth 8000 in
theorem w_121_205 {w : Value} {y : Int32} : dx_W (tb_Z L xs) d 121 205 lv (.int y :: w :: st) σ Q ↔ wO (dx_ei (tb_K L xs) σ 0 w y) (fun u => dx_W (tb_Z L xs) d 121 206 lv (.int u :: st) σ Q) := r_iaload (hz_121.trans rfl)
set_option maxRecDepth 8000 in
theorem w_121_206 : dx_W (tb_Z L xs) d 121 206 lv st σ Q ↔ wR (dx_lk lv 0) (fun y => dx_W (tb_Z L xs) d 121 207 lv (y :: st) σ Q) := r_aload_n (k := 0) (hz_121.trans rfl)
set_option maxRecDepth 8000 in
theorem w_121_207 {w : Value} : dx_W (tb_Z L xs) d 121 207 lv (w :: st) σ Q ↔ wO (dx_gf (tb_K L xs) σ w 9 24) (fun y => dx_W (tb_Z L xs) d 121 210 lv (y :: st) σ Q) := r_getfield (hz_121.trans rfl)
set_option maxRecDepth 8000 in
theorem w_121_210 : dx_W (tb_Z L xs) d 121 210 lv st σ Q ↔ wR (dx_lk lv 0) (fun y => dx_W (tb_Z L xs) d 121 211 lv (y :: st) σ Q) := r_aload_n (k := 0) (hz_121.trans rfl)
set_option maxRecDepth 8000 in
theorem w_121_211 {w : Value} : dx_W (tb_Z L xs) d 121 211 lv (w :: st) σ Q ↔ wO (dx_gf (tb_K L xs) σ w 9 30) (fun y => dx_W (tb_Z L xs) d 121 214 lv (y :: st) σ Q) := r_getfield (hz_121.trans rfl)
set_option maxRecDepth 8000 in
theorem w_121_214 : dx_W (tb_Z L xs) d 121 214 lv st σ Q ↔ dx_W (tb_Z L xs) d 121 215 lv (.int 2 :: st) σ Q := r_iconst (n := 2) (hz_121.trans rfl)
set_option maxRecDepth 8000 in
theorem w_121_215 {x y : Int32} : dx_W (tb_Z L xs) d 121 215 lv (.int y :: .int x :: st) σ Q ↔ dx_W (tb_Z L xs) d 121 216 lv (.int (x - y) :: st) σ Q := r_isub (hz_121.trans rfl)
set_option maxRecDepth 8000 in
theorem w_121_216 {w : Value} {y : Int32} : dx_W (tb_Z L xs) d 121 216 lv (.int y :: w :: st) σ Q ↔ wO (dx_ei (tb_K L xs) σ 0 w y) (fun u => dx_W (tb_Z L xs) d 121 217 lv (.int u :: st) σ Q) := r_iaload (hz_121.trans rfl)
set_option maxRecDepth 8000 in
theorem w_121_217 : dx_W (tb_Z L xs) d 121 217 lv st σ Q ↔ wI (dx_lk lv 3) (fun y => dx_W (tb_Z L xs) d 121 218 lv (.int y :: st) σ Q) := r_iload_n (k := 3) (hz_121.trans rfl)
set_option maxRecDepth 8000 in
theorem w_121_218 : dx_W (tb_Z L xs) d 121 218 lv st σ Q ↔ wI (dx_lk lv 4) (fun y => dx_W (tb_Z L xs) d 121 220 lv (.int y :: st) σ Q) := r_iload (k := 4) (hz_121.trans rfl)
set_option maxRecDepth 8000 in
theorem w_121_220 {v0 v1 v2 v3 v4 v5 : Value}  : dx_W (tb_Z L xs) d 121 220 lv (v5 :: v4 :: v3 :: v2 :: v1 :: v0 :: st) σ Q ↔ (dx_ct st ≤ 8 ∧ dx_ci (tb_K L xs) σ v0 = some 9) ∧ dx_M (tb_Z L xs) d 123 [v0, v1, v2, v3, v4, v5] σ (wK (tb_Z L xs) d 121 223 lv st Q) := c_callv (av := [v1, v2, v3, v4, v5]) (hz_121.trans rfl)
set_option maxRecDepth 8000 in
theorem w_121_223 {x : Int32} : dx_W (tb_Z L xs) d 121 223 lv (.int x :: st) σ Q ↔ dx_W (tb_Z L xs) d 121 225 (dx_s1 lv 5 (.int x)) st σ Q := r_istore (k := 5) (hz_121.trans rfl) (show 5 < tb_l 121 by decide)
set_option maxRecDepth 8000 in
theorem w_121_225 : dx_W (tb_Z L xs) d 121 225 lv st σ Q ↔ wR (dx_lk lv 0) (fun y => dx_W (tb_Z L xs) d 121 226 lv (y :: st) σ Q) := r_aload_n (k := 0) (hz_121.trans rfl)
set_option maxRecDepth 8000 in
theorem w_121_226_int {x : Int32} : dx_W (tb_Z L xs) d 121 226 lv (.int x :: st) σ Q ↔ dx_W (tb_Z L xs) d 121 227 lv (.int x :: .int x :: st) σ Q := r_dup_int (hz_121.trans rfl)
set_option maxRecDepth 8000 in
theorem w_121_226_ref {x : Nat} : dx_W (tb_Z L xs) d 121 226 lv (.ref x :: st) σ Q ↔ dx_W (tb_Z L xs) d 121 227 lv (.ref x :: .ref x :: st) σ Q := r_dup_ref (hz_121.trans rfl)
set_option maxRecDepth 8000 in
theorem w_121_226_retAddr {x : Nat} : dx_W (tb_Z L xs) d 121 226 lv (.retAddr x :: st) σ Q ↔ dx_W (tb_Z L xs) d 121 227 lv (.retAddr x :: .retAddr x :: st) σ Q := r_dup_retAddr (hz_121.trans rfl)
set_option maxRecDepth 8000 in
theorem w_121_227 {w : Value} : dx_W (tb_Z L xs) d 121 227 lv (w :: st) σ Q ↔ wO (dx_gf (tb_K L xs) σ w 9 30) (fun y => dx_W (tb_Z L xs) d 121 230 lv (y :: st) σ Q) := r_getfield (hz_121.trans rfl)
set_option maxRecDepth 8000 in
theorem w_121_230 : dx_W (tb_Z L xs) d 121 230 lv st σ Q ↔ dx_W (tb_Z L xs) d 121 231 lv (.int 1 :: st) σ Q := r_iconst (n := 1) (hz_121.trans rfl)
set_option maxRecDepth 8000 in
theorem w_121_231 {x y : Int32} : dx_W (tb_Z L xs) d 121 231 lv (.int y :: .int x :: st) σ Q ↔ dx_W (tb_Z L xs) d 121 232 lv (.int (x - y) :: st) σ Q := r_isub (hz_121.trans rfl)
set_option maxRecDepth 8000 in
theorem w_121_232 {u w : Value} : dx_W (tb_Z L xs) d 121 232 lv (u :: w :: st) σ Q ↔ wO (dx_pf σ w 9 30 0 u) (fun σ1 => dx_W (tb_Z L xs) d 121 235 lv st σ1 Q) := r_putfield (f := 0) (hz_121.trans rfl)
set_option maxRecDepth 8000 in
theorem w_121_235 : dx_W (tb_Z L xs) d 121 235 lv st σ Q ↔ wR (dx_lk lv 0) (fun y => dx_W (tb_Z L xs) d 121 236 lv (y :: st) σ Q) := r_aload_n (k := 0) (hz_121.trans rfl)
set_option maxRecDepth 8000 in
theorem w_121_236 {w : Value} : dx_W (tb_Z L xs) d 121 236 lv (w :: st) σ Q ↔ wO (dx_gf (tb_K L xs) σ w 9 23) (fun y => dx_W (tb_Z L xs) d 121 239 lv (y :: st) σ Q) := r_getfield (hz_121.trans rfl)
set_option maxRecDepth 8000 in
theorem w_121_239 : dx_W (tb_Z L xs) d 121 239 lv st σ Q ↔ wR (dx_lk lv 0) (fun y => dx_W (tb_Z L xs) d 121 240 lv (y :: st) σ Q) := r_aload_n (k := 0) (hz_121.trans rfl)
set_option maxRecDepth 8000 in
theorem w_121_240 {w : Value} : dx_W (tb_Z L xs) d 121 240 lv (w :: st) σ Q ↔ wO (dx_gf (tb_K L xs) σ w 9 30) (fun y => dx_W (tb_Z L xs) d 121 243 lv (y :: st) σ Q) := r_getfield (hz_121.trans rfl)
set_option maxRecDepth 8000 in
theorem w_121_243 : dx_W (tb_Z L xs) d 121 243 lv st σ Q ↔ dx_W (tb_Z L xs) d 121 244 lv (.int 1 :: st) σ Q := r_iconst (n := 1) (hz_121.trans rfl)
set_option maxRecDepth 8000 in
theorem w_121_244 {x y : Int32} : dx_W (tb_Z L xs) d 121 244 lv (.int y :: .int x :: st) σ Q ↔ dx_W (tb_Z L xs) d 121 245 lv (.int (x - y) :: st) σ Q := r_isub (hz_121.trans rfl)
set_option maxRecDepth 8000 in
theorem w_121_245 : dx_W (tb_Z L xs) d 121 245 lv st σ Q ↔ wR (dx_lk lv 0) (fun y => dx_W (tb_Z L xs) d 121 246 lv (y :: st) σ Q) := r_aload_n (k := 0) (hz_121.trans rfl)
set_option maxRecDepth 8000 in
theorem w_121_246 {w : Value} : dx_W (tb_Z L xs) d 121 246 lv (w :: st) σ Q ↔ wO (dx_gf (tb_K L xs) σ w 9 38) (fun y => dx_W (tb_Z L xs) d 121 249 lv (y :: st) σ Q) := r_getfield (hz_121.trans rfl)
set_option maxRecDepth 8000 in
theorem w_121_249 {w : Value} {y : Int32} {u : Int32} : dx_W (tb_Z L xs) d 121 249 lv (.int u :: .int y :: w :: st) σ Q ↔ wO (dx_pi σ 0 w y u) (fun σ1 => dx_W (tb_Z L xs) d 121 250 lv st σ1 Q) := r_iastore (hz_121.trans rfl)
set_option maxRecDepth 8000 in
theorem w_121_250 : dx_W (tb_Z L xs) d 121 250 lv st σ Q ↔ wR (dx_lk lv 0) (fun y => dx_W (tb_Z L xs) d 121 251 lv (y :: st) σ Q) := r_aload_n (k := 0) (hz_121.trans rfl)
set_option maxRecDepth 8000 in
theorem w_121_251 {w : Value} : dx_W (tb_Z L xs) d 121 251 lv (w :: st) σ Q ↔ wO (dx_gf (tb_K L xs) σ w 9 24) (fun y => dx_W (tb_Z L xs) d 121 254 lv (y :: st) σ Q) := r_getfield (hz_121.trans rfl)
set_option maxRecDepth 8000 in
theorem w_121_254 : dx_W (tb_Z L xs) d 121 254 lv st σ Q ↔ wR (dx_lk lv 0) (fun y => dx_W (tb_Z L xs) d 121 255 lv (y :: st) σ Q) := r_aload_n (k := 0) (hz_121.trans rfl)
set_option maxRecDepth 8000 in
theorem w_121_255 {w : Value} : dx_W (tb_Z L xs) d 121 255 lv (w :: st) σ Q ↔ wO (dx_gf (tb_K L xs) σ w 9 30) (fun y => dx_W (tb_Z L xs) d 121 258 lv (y :: st) σ Q) := r_getfield (hz_121.trans rfl)
set_option maxRecDepth 8000 in
theorem w_121_258 : dx_W (tb_Z L xs) d 121 258 lv st σ Q ↔ dx_W (tb_Z L xs) d 121 259 lv (.int 1 :: st) σ Q := r_iconst (n := 1) (hz_121.trans rfl)
set_option maxRecDepth 8000 in
theorem w_121_259 {x y : Int32} : dx_W (tb_Z L xs) d 121 259 lv (.int y :: .int x :: st) σ Q ↔ dx_W (tb_Z L xs) d 121 260 lv (.int (x - y) :: st) σ Q := r_isub (hz_121.trans rfl)
set_option maxRecDepth 8000 in
theorem w_121_260 : dx_W (tb_Z L xs) d 121 260 lv st σ Q ↔ wR (dx_lk lv 0) (fun y => dx_W (tb_Z L xs) d 121 261 lv (y :: st) σ Q) := r_aload_n (k := 0) (hz_121.trans rfl)
set_option maxRecDepth 8000 in
theorem w_121_261 {w : Value} : dx_W (tb_Z L xs) d 121 261 lv (w :: st) σ Q ↔ wO (dx_gf (tb_K L xs) σ w 9 39) (fun y => dx_W (tb_Z L xs) d 121 264 lv (y :: st) σ Q) := r_getfield (hz_121.trans rfl)
set_option maxRecDepth 8000 in
theorem w_121_264 {w : Value} {y : Int32} {u : Int32} : dx_W (tb_Z L xs) d 121 264 lv (.int u :: .int y :: w :: st) σ Q ↔ wO (dx_pi σ 0 w y u) (fun σ1 => dx_W (tb_Z L xs) d 121 265 lv st σ1 Q) := r_iastore (hz_121.trans rfl)
set_option maxRecDepth 8000 in
theorem w_121_265 : dx_W (tb_Z L xs) d 121 265 lv st σ Q ↔ wI (dx_lk lv 5) (fun y => dx_W (tb_Z L xs) d 121 267 lv (.int y :: st) σ Q) := r_iload (k := 5) (hz_121.trans rfl)
set_option maxRecDepth 8000 in
theorem w_121_267 {x : Int32} : dx_W (tb_Z L xs) d 121 267 lv (.int x :: st) σ Q ↔ (if x = 0 then dx_W (tb_Z L xs) d 121 276 lv st σ Q else dx_W (tb_Z L xs) d 121 270 lv st σ Q) := r_if_eq (off := 9) (t := 276) (hz_121.trans rfl) (by decide)
set_option maxRecDepth 8000 in
theorem w_121_270 : dx_W (tb_Z L xs) d 121 270 lv st σ Q ↔ wI (dx_lk lv 1) (fun y => dx_W (tb_Z L xs) d 121 271 lv (.int y :: st) σ Q) := r_iload_n (k := 1) (hz_121.trans rfl)
set_option maxRecDepth 8000 in
theorem w_121_271 : dx_W (tb_Z L xs) d 121 271 lv st σ Q ↔ dx_W (tb_Z L xs) d 121 272 lv (.int 1 :: st) σ Q := r_iconst (n := 1) (hz_121.trans rfl)
set_option maxRecDepth 8000 in
theorem w_121_272 {x y : Int32} : dx_W (tb_Z L xs) d 121 272 lv (.int y :: .int x :: st) σ Q ↔ dx_W (tb_Z L xs) d 121 273 lv (.int (x + y) :: st) σ Q := r_iadd (hz_121.trans rfl)
set_option maxRecDepth 8000 in
theorem w_121_273 : dx_W (tb_Z L xs) d 121 273 lv st σ Q ↔ dx_W (tb_Z L xs) d 121 277 lv st σ Q := r_goto (off := 4) (t := 277) (hz_121.trans rfl) (by decide)
set_option maxRecDepth 8000 in
theorem w_121_276 : dx_W (tb_Z L xs) d 121 276 lv st σ Q ↔ dx_W (tb_Z L xs) d 121 277 lv (.int (-1) :: st) σ Q := r_iconst (n := (-1)) (hz_121.trans rfl)
set_option maxRecDepth 8000 in
theorem w_121_277 {x : Int32} : dx_W (tb_Z L xs) d 121 277 lv [.int x] σ Q ↔ Q (.inl (some (.int x))) σ := r_ireturn (hz_121.trans rfl) rfl rfl
set_option maxRecDepth 8000 in
theorem w_121_278 : dx_W (tb_Z L xs) d 121 278 lv st σ Q ↔ wR (dx_lk lv 0) (fun y => dx_W (tb_Z L xs) d 121 279 lv (y :: st) σ Q) := r_aload_n (k := 0) (hz_121.trans rfl)
set_option maxRecDepth 8000 in
theorem w_121_279 : dx_W (tb_Z L xs) d 121 279 lv st σ Q ↔ wI (dx_lk lv 2) (fun y => dx_W (tb_Z L xs) d 121 280 lv (.int y :: st) σ Q) := r_iload_n (k := 2) (hz_121.trans rfl)
set_option maxRecDepth 8000 in
theorem w_121_280 : dx_W (tb_Z L xs) d 121 280 lv st σ Q ↔ wI (dx_lk lv 1) (fun y => dx_W (tb_Z L xs) d 121 281 lv (.int y :: st) σ Q) := r_iload_n (k := 1) (hz_121.trans rfl)
set_option maxRecDepth 8000 in
theorem w_121_281 : dx_W (tb_Z L xs) d 121 281 lv st σ Q ↔ dx_W (tb_Z L xs) d 121 282 lv (.int 1 :: st) σ Q := r_iconst (n := 1) (hz_121.trans rfl)
set_option maxRecDepth 8000 in
theorem w_121_282 {x y : Int32} : dx_W (tb_Z L xs) d 121 282 lv (.int y :: .int x :: st) σ Q ↔ dx_W (tb_Z L xs) d 121 283 lv (.int (x + y) :: st) σ Q := r_iadd (hz_121.trans rfl)
set_option maxRecDepth 8000 in
theorem w_121_283 {v0 v1 v2 : Value}  : dx_W (tb_Z L xs) d 121 283 lv (v2 :: v1 :: v0 :: st) σ Q ↔ (dx_ct st ≤ 8 ∧ dx_ci (tb_K L xs) σ v0 = some 9) ∧ dx_M (tb_Z L xs) d 129 [v0, v1, v2] σ (wK (tb_Z L xs) d 121 286 lv st Q) := c_callv (av := [v1, v2]) (hz_121.trans rfl)
set_option maxRecDepth 8000 in
theorem w_121_286 {x : Int32} : dx_W (tb_Z L xs) d 121 286 lv [.int x] σ Q ↔ Q (.inl (some (.int x))) σ := r_ireturn (hz_121.trans rfl) rfl rfl
set_option maxRecDepth 8000 in
theorem w_121_287 : dx_W (tb_Z L xs) d 121 287 lv st σ Q ↔ wR (dx_lk lv 0) (fun y => dx_W (tb_Z L xs) d 121 288 lv (y :: st) σ Q) := r_aload_n (k := 0) (hz_121.trans rfl)
set_option maxRecDepth 8000 in
theorem w_121_288 {w : Value} : dx_W (tb_Z L xs) d 121 288 lv (w :: st) σ Q ↔ wO (dx_gf (tb_K L xs) σ w 9 23) (fun y => dx_W (tb_Z L xs) d 121 291 lv (y :: st) σ Q) := r_getfield (hz_121.trans rfl)
set_option maxRecDepth 8000 in
theorem w_121_291 : dx_W (tb_Z L xs) d 121 291 lv st σ Q ↔ wR (dx_lk lv 0) (fun y => dx_W (tb_Z L xs) d 121 292 lv (y :: st) σ Q) := r_aload_n (k := 0) (hz_121.trans rfl)
set_option maxRecDepth 8000 in
theorem w_121_292 {w : Value} : dx_W (tb_Z L xs) d 121 292 lv (w :: st) σ Q ↔ wO (dx_gf (tb_K L xs) σ w 9 30) (fun y => dx_W (tb_Z L xs) d 121 295 lv (y :: st) σ Q) := r_getfield (hz_121.trans rfl)
set_option maxRecDepth 8000 in
theorem w_121_295 : dx_W (tb_Z L xs) d 121 295 lv st σ Q ↔ dx_W (tb_Z L xs) d 121 296 lv (.int 2 :: st) σ Q := r_iconst (n := 2) (hz_121.trans rfl)
set_option maxRecDepth 8000 in
theorem w_121_296 {x y : Int32} : dx_W (tb_Z L xs) d 121 296 lv (.int y :: .int x :: st) σ Q ↔ dx_W (tb_Z L xs) d 121 297 lv (.int (x - y) :: st) σ Q := r_isub (hz_121.trans rfl)
set_option maxRecDepth 8000 in
theorem w_121_297 {w : Value} {y : Int32} : dx_W (tb_Z L xs) d 121 297 lv (.int y :: w :: st) σ Q ↔ wO (dx_ei (tb_K L xs) σ 0 w y) (fun u => dx_W (tb_Z L xs) d 121 298 lv (.int u :: st) σ Q) := r_iaload (hz_121.trans rfl)
set_option maxRecDepth 8000 in
theorem w_121_298 {x : Int32} : dx_W (tb_Z L xs) d 121 298 lv (.int x :: st) σ Q ↔ dx_W (tb_Z L xs) d 121 299 lv (.long x.toInt64 :: st) σ Q := r_i2l (hz_121.trans rfl)
set_option maxRecDepth 8000 in
theorem w_121_299 : dx_W (tb_Z L xs) d 121 299 lv st σ Q ↔ dx_W (tb_Z L xs) d 121 300 lv (.int 4 :: st) σ Q := r_iconst (n := 4) (hz_121.trans rfl)
set_option maxRecDepth 8000 in
theorem w_121_300 : dx_W (tb_Z L xs) d 121 300 lv st σ Q ↔ wR (dx_lk lv 0) (fun y => dx_W (tb_Z L xs) d 121 301 lv (y :: st) σ Q) := r_aload_n (k := 0) (hz_121.trans rfl)
set_option maxRecDepth 8000 in
theorem w_121_301 {w : Value} : dx_W (tb_Z L xs) d 121 301 lv (w :: st) σ Q ↔ wO (dx_gf (tb_K L xs) σ w 9 24) (fun y => dx_W (tb_Z L xs) d 121 304 lv (y :: st) σ Q) := r_getfield (hz_121.trans rfl)
set_option maxRecDepth 8000 in
theorem w_121_304 : dx_W (tb_Z L xs) d 121 304 lv st σ Q ↔ wR (dx_lk lv 0) (fun y => dx_W (tb_Z L xs) d 121 305 lv (y :: st) σ Q) := r_aload_n (k := 0) (hz_121.trans rfl)
set_option maxRecDepth 8000 in
theorem w_121_305 {w : Value} : dx_W (tb_Z L xs) d 121 305 lv (w :: st) σ Q ↔ wO (dx_gf (tb_K L xs) σ w 9 30) (fun y => dx_W (tb_Z L xs) d 121 308 lv (y :: st) σ Q) := r_getfield (hz_121.trans rfl)
set_option maxRecDepth 8000 in
theorem w_121_308 : dx_W (tb_Z L xs) d 121 308 lv st σ Q ↔ dx_W (tb_Z L xs) d 121 309 lv (.int 2 :: st) σ Q := r_iconst (n := 2) (hz_121.trans rfl)
set_option maxRecDepth 8000 in
theorem w_121_309 {x y : Int32} : dx_W (tb_Z L xs) d 121 309 lv (.int y :: .int x :: st) σ Q ↔ dx_W (tb_Z L xs) d 121 310 lv (.int (x - y) :: st) σ Q := r_isub (hz_121.trans rfl)
set_option maxRecDepth 8000 in
theorem w_121_310 {w : Value} {y : Int32} : dx_W (tb_Z L xs) d 121 310 lv (.int y :: w :: st) σ Q ↔ wO (dx_ei (tb_K L xs) σ 0 w y) (fun u => dx_W (tb_Z L xs) d 121 311 lv (.int u :: st) σ Q) := r_iaload (hz_121.trans rfl)
set_option maxRecDepth 8000 in
theorem w_121_311 {x y : Int32} : dx_W (tb_Z L xs) d 121 311 lv (.int y :: .int x :: st) σ Q ↔ dx_W (tb_Z L xs) d 121 312 lv (.int (x - y) :: st) σ Q := r_isub (hz_121.trans rfl)
set_option maxRecDepth 8000 in
theorem w_121_312 {v0 : Value}  : dx_W (tb_Z L xs) d 121 312 lv (v0 :: st) σ Q ↔ dx_ct st ≤ 8 ∧ dx_M (tb_Z L xs) d 124 [v0] σ (wK (tb_Z L xs) d 121 315 lv st Q) := c_calls (av := [v0]) (hz_121.trans rfl)
set_option maxRecDepth 8000 in
theorem w_121_315 {x y : Int64} : dx_W (tb_Z L xs) d 121 315 lv (.long y :: .long x :: st) σ Q ↔ dx_W (tb_Z L xs) d 121 316 lv (.long (x * y) :: st) σ Q := r_lmul (hz_121.trans rfl)
set_option maxRecDepth 8000 in
theorem w_121_316 {x : Int64} : dx_W (tb_Z L xs) d 121 316 lv (.long x :: st) σ Q ↔ dx_W (tb_Z L xs) d 121 318 (dx_s2 lv 6 (.long x)) st σ Q := r_lstore (k := 6) (hz_121.trans rfl) (show 6 + 1 < tb_l 121 by decide)
set_option maxRecDepth 8000 in
theorem w_121_318 : dx_W (tb_Z L xs) d 121 318 lv st σ Q ↔ wR (dx_lk lv 0) (fun y => dx_W (tb_Z L xs) d 121 319 lv (y :: st) σ Q) := r_aload_n (k := 0) (hz_121.trans rfl)
set_option maxRecDepth 8000 in
theorem w_121_319_int {x : Int32} : dx_W (tb_Z L xs) d 121 319 lv (.int x :: st) σ Q ↔ dx_W (tb_Z L xs) d 121 320 lv (.int x :: .int x :: st) σ Q := r_dup_int (hz_121.trans rfl)
set_option maxRecDepth 8000 in
theorem w_121_319_ref {x : Nat} : dx_W (tb_Z L xs) d 121 319 lv (.ref x :: st) σ Q ↔ dx_W (tb_Z L xs) d 121 320 lv (.ref x :: .ref x :: st) σ Q := r_dup_ref (hz_121.trans rfl)
set_option maxRecDepth 8000 in
theorem w_121_319_retAddr {x : Nat} : dx_W (tb_Z L xs) d 121 319 lv (.retAddr x :: st) σ Q ↔ dx_W (tb_Z L xs) d 121 320 lv (.retAddr x :: .retAddr x :: st) σ Q := r_dup_retAddr (hz_121.trans rfl)
set_option maxRecDepth 8000 in
theorem w_121_320 {w : Value} : dx_W (tb_Z L xs) d 121 320 lv (w :: st) σ Q ↔ wO (dx_gf (tb_K L xs) σ w 9 30) (fun y => dx_W (tb_Z L xs) d 121 323 lv (y :: st) σ Q) := r_getfield (hz_121.trans rfl)
set_option maxRecDepth 8000 in
theorem w_121_323 : dx_W (tb_Z L xs) d 121 323 lv st σ Q ↔ dx_W (tb_Z L xs) d 121 324 lv (.int 2 :: st) σ Q := r_iconst (n := 2) (hz_121.trans rfl)
set_option maxRecDepth 8000 in
theorem w_121_324 {x y : Int32} : dx_W (tb_Z L xs) d 121 324 lv (.int y :: .int x :: st) σ Q ↔ dx_W (tb_Z L xs) d 121 325 lv (.int (x - y) :: st) σ Q := r_isub (hz_121.trans rfl)
set_option maxRecDepth 8000 in
theorem w_121_325 {u w : Value} : dx_W (tb_Z L xs) d 121 325 lv (u :: w :: st) σ Q ↔ wO (dx_pf σ w 9 30 0 u) (fun σ1 => dx_W (tb_Z L xs) d 121 328 lv st σ1 Q) := r_putfield (f := 0) (hz_121.trans rfl)
set_option maxRecDepth 8000 in
theorem w_121_328 : dx_W (tb_Z L xs) d 121 328 lv st σ Q ↔ wR (dx_lk lv 0) (fun y => dx_W (tb_Z L xs) d 121 329 lv (y :: st) σ Q) := r_aload_n (k := 0) (hz_121.trans rfl)
set_option maxRecDepth 8000 in
theorem w_121_329 {w : Value} : dx_W (tb_Z L xs) d 121 329 lv (w :: st) σ Q ↔ wO (dx_gf (tb_K L xs) σ w 9 23) (fun y => dx_W (tb_Z L xs) d 121 332 lv (y :: st) σ Q) := r_getfield (hz_121.trans rfl)
set_option maxRecDepth 8000 in
theorem w_121_332 : dx_W (tb_Z L xs) d 121 332 lv st σ Q ↔ wR (dx_lk lv 0) (fun y => dx_W (tb_Z L xs) d 121 333 lv (y :: st) σ Q) := r_aload_n (k := 0) (hz_121.trans rfl)
set_option maxRecDepth 8000 in
theorem w_121_333 {w : Value} : dx_W (tb_Z L xs) d 121 333 lv (w :: st) σ Q ↔ wO (dx_gf (tb_K L xs) σ w 9 30) (fun y => dx_W (tb_Z L xs) d 121 336 lv (y :: st) σ Q) := r_getfield (hz_121.trans rfl)
set_option maxRecDepth 8000 in
theorem w_121_336 : dx_W (tb_Z L xs) d 121 336 lv st σ Q ↔ wI (dx_lk lv 2) (fun y => dx_W (tb_Z L xs) d 121 337 lv (.int y :: st) σ Q) := r_iload_n (k := 2) (hz_121.trans rfl)
set_option maxRecDepth 8000 in
theorem w_121_337 : dx_W (tb_Z L xs) d 121 337 lv st σ Q ↔ wJ (dx_lk lv 6) (fun y => dx_W (tb_Z L xs) d 121 339 lv (.long y :: st) σ Q) := r_lload (k := 6) (hz_121.trans rfl)
set_option maxRecDepth 8000 in
theorem w_121_339 : dx_W (tb_Z L xs) d 121 339 lv st σ Q ↔ wI (dx_lk lv 3) (fun y => dx_W (tb_Z L xs) d 121 340 lv (.int y :: st) σ Q) := r_iload_n (k := 3) (hz_121.trans rfl)
set_option maxRecDepth 8000 in
theorem w_121_340 {x : Int32} : dx_W (tb_Z L xs) d 121 340 lv (.int x :: st) σ Q ↔ dx_W (tb_Z L xs) d 121 341 lv (.long x.toInt64 :: st) σ Q := r_i2l (hz_121.trans rfl)
set_option maxRecDepth 8000 in
theorem w_121_341 : dx_W (tb_Z L xs) d 121 341 lv st σ Q ↔ dx_W (tb_Z L xs) d 121 342 lv (.int 4 :: st) σ Q := r_iconst (n := 4) (hz_121.trans rfl)
set_option maxRecDepth 8000 in
theorem w_121_342 : dx_W (tb_Z L xs) d 121 342 lv st σ Q ↔ wI (dx_lk lv 4) (fun y => dx_W (tb_Z L xs) d 121 344 lv (.int y :: st) σ Q) := r_iload (k := 4) (hz_121.trans rfl)
set_option maxRecDepth 8000 in
theorem w_121_344 {x y : Int32} : dx_W (tb_Z L xs) d 121 344 lv (.int y :: .int x :: st) σ Q ↔ dx_W (tb_Z L xs) d 121 345 lv (.int (x - y) :: st) σ Q := r_isub (hz_121.trans rfl)
set_option maxRecDepth 8000 in
theorem w_121_345 {v0 : Value}  : dx_W (tb_Z L xs) d 121 345 lv (v0 :: st) σ Q ↔ dx_ct st ≤ 8 ∧ dx_M (tb_Z L xs) d 124 [v0] σ (wK (tb_Z L xs) d 121 348 lv st Q) := c_calls (av := [v0]) (hz_121.trans rfl)
set_option maxRecDepth 8000 in
theorem w_121_348 {x y : Int64} : dx_W (tb_Z L xs) d 121 348 lv (.long y :: .long x :: st) σ Q ↔ dx_W (tb_Z L xs) d 121 349 lv (.long (x * y) :: st) σ Q := r_lmul (hz_121.trans rfl)
set_option maxRecDepth 8000 in
theorem w_121_349 {v0 v1 v2 : Value}  : dx_W (tb_Z L xs) d 121 349 lv (v2 :: v1 :: v0 :: st) σ Q ↔ dx_ct st ≤ 8 ∧ dx_M (tb_Z L xs) d 130 [v0, v1, v2] σ (wK (tb_Z L xs) d 121 352 lv st Q) := c_calls (av := [v0, v1, v2]) (hz_121.trans rfl)
set_option maxRecDepth 8000 in
theorem w_121_352 {x : Int32} : dx_W (tb_Z L xs) d 121 352 lv (.int x :: st) σ Q ↔ (if x = 0 then dx_W (tb_Z L xs) d 121 359 lv st σ Q else dx_W (tb_Z L xs) d 121 355 lv st σ Q) := r_if_eq (off := 7) (t := 359) (hz_121.trans rfl) (by decide)
set_option maxRecDepth 8000 in
theorem w_121_355 : dx_W (tb_Z L xs) d 121 355 lv st σ Q ↔ dx_W (tb_Z L xs) d 121 356 lv (.int 1 :: st) σ Q := r_iconst (n := 1) (hz_121.trans rfl)
set_option maxRecDepth 8000 in
theorem w_121_356 : dx_W (tb_Z L xs) d 121 356 lv st σ Q ↔ dx_W (tb_Z L xs) d 121 360 lv st σ Q := r_goto (off := 4) (t := 360) (hz_121.trans rfl) (by decide)
set_option maxRecDepth 8000 in
theorem w_121_359 : dx_W (tb_Z L xs) d 121 359 lv st σ Q ↔ dx_W (tb_Z L xs) d 121 360 lv (.int 0 :: st) σ Q := r_iconst (n := 0) (hz_121.trans rfl)
set_option maxRecDepth 8000 in
theorem w_121_360 {w : Value} {y : Int32} {u : Int32} : dx_W (tb_Z L xs) d 121 360 lv (.int u :: .int y :: w :: st) σ Q ↔ wO (dx_pi σ 0 w y u) (fun σ1 => dx_W (tb_Z L xs) d 121 361 lv st σ1 Q) := r_iastore (hz_121.trans rfl)
set_option maxRecDepth 8000 in
theorem w_121_361 : dx_W (tb_Z L xs) d 121 361 lv st σ Q ↔ wI (dx_lk lv 1) (fun y => dx_W (tb_Z L xs) d 121 362 lv (.int y :: st) σ Q) := r_iload_n (k := 1) (hz_121.trans rfl)
set_option maxRecDepth 8000 in
theorem w_121_362 : dx_W (tb_Z L xs) d 121 362 lv st σ Q ↔ dx_W (tb_Z L xs) d 121 363 lv (.int 1 :: st) σ Q := r_iconst (n := 1) (hz_121.trans rfl)
set_option maxRecDepth 8000 in
theorem w_121_363 {x y : Int32} : dx_W (tb_Z L xs) d 121 363 lv (.int y :: .int x :: st) σ Q ↔ dx_W (tb_Z L xs) d 121 364 lv (.int (x + y) :: st) σ Q := r_iadd (hz_121.trans rfl)
set_option maxRecDepth 8000 in
theorem w_121_364 {x : Int32} : dx_W (tb_Z L xs) d 121 364 lv [.int x] σ Q ↔ Q (.inl (some (.int x))) σ := r_ireturn (hz_121.trans rfl) rfl rfl
set_option maxRecDepth 8000 in
theorem w_121_365 : dx_W (tb_Z L xs) d 121 365 lv st σ Q ↔ wR (dx_lk lv 0) (fun y => dx_W (tb_Z L xs) d 121 366 lv (y :: st) σ Q) := r_aload_n (k := 0) (hz_121.trans rfl)
set_option maxRecDepth 8000 in
theorem w_121_366 {w : Value} : dx_W (tb_Z L xs) d 121 366 lv (w :: st) σ Q ↔ wO (dx_gf (tb_K L xs) σ w 9 23) (fun y => dx_W (tb_Z L xs) d 121 369 lv (y :: st) σ Q) := r_getfield (hz_121.trans rfl)
set_option maxRecDepth 8000 in
theorem w_121_369 : dx_W (tb_Z L xs) d 121 369 lv st σ Q ↔ wR (dx_lk lv 0) (fun y => dx_W (tb_Z L xs) d 121 370 lv (y :: st) σ Q) := r_aload_n (k := 0) (hz_121.trans rfl)
set_option maxRecDepth 8000 in
theorem w_121_370 {w : Value} : dx_W (tb_Z L xs) d 121 370 lv (w :: st) σ Q ↔ wO (dx_gf (tb_K L xs) σ w 9 30) (fun y => dx_W (tb_Z L xs) d 121 373 lv (y :: st) σ Q) := r_getfield (hz_121.trans rfl)
set_option maxRecDepth 8000 in
theorem w_121_373 {w : Value} {y : Int32} : dx_W (tb_Z L xs) d 121 373 lv (.int y :: w :: st) σ Q ↔ wO (dx_ei (tb_K L xs) σ 0 w y) (fun u => dx_W (tb_Z L xs) d 121 374 lv (.int u :: st) σ Q) := r_iaload (hz_121.trans rfl)
set_option maxRecDepth 8000 in
theorem w_121_374 : dx_W (tb_Z L xs) d 121 374 lv st σ Q ↔ dx_W (tb_Z L xs) d 121 375 lv (.int 1 :: st) σ Q := r_iconst (n := 1) (hz_121.trans rfl)
set_option maxRecDepth 8000 in
theorem w_121_375 {x y : Int32} : dx_W (tb_Z L xs) d 121 375 lv (.int y :: .int x :: st) σ Q ↔ (if ¬ x = y then dx_W (tb_Z L xs) d 121 384 lv st σ Q else dx_W (tb_Z L xs) d 121 378 lv st σ Q) := r_ic_ne (off := 9) (t := 384) (hz_121.trans rfl) (by decide)
set_option maxRecDepth 8000 in
theorem w_121_378 : dx_W (tb_Z L xs) d 121 378 lv st σ Q ↔ wI (dx_lk lv 1) (fun y => dx_W (tb_Z L xs) d 121 379 lv (.int y :: st) σ Q) := r_iload_n (k := 1) (hz_121.trans rfl)
set_option maxRecDepth 8000 in
theorem w_121_379 : dx_W (tb_Z L xs) d 121 379 lv st σ Q ↔ dx_W (tb_Z L xs) d 121 380 lv (.int 1 :: st) σ Q := r_iconst (n := 1) (hz_121.trans rfl)
set_option maxRecDepth 8000 in
theorem w_121_380 {x y : Int32} : dx_W (tb_Z L xs) d 121 380 lv (.int y :: .int x :: st) σ Q ↔ dx_W (tb_Z L xs) d 121 381 lv (.int (x + y) :: st) σ Q := r_iadd (hz_121.trans rfl)
set_option maxRecDepth 8000 in
theorem w_121_381 : dx_W (tb_Z L xs) d 121 381 lv st σ Q ↔ dx_W (tb_Z L xs) d 121 385 lv st σ Q := r_goto (off := 4) (t := 385) (hz_121.trans rfl) (by decide)
set_option maxRecDepth 8000 in
theorem w_121_384 : dx_W (tb_Z L xs) d 121 384 lv st σ Q ↔ wI (dx_lk lv 2) (fun y => dx_W (tb_Z L xs) d 121 385 lv (.int y :: st) σ Q) := r_iload_n (k := 2) (hz_121.trans rfl)
set_option maxRecDepth 8000 in
theorem w_121_385 {x : Int32} : dx_W (tb_Z L xs) d 121 385 lv [.int x] σ Q ↔ Q (.inl (some (.int x))) σ := r_ireturn (hz_121.trans rfl) rfl rfl
set_option maxRecDepth 8000 in
theorem w_121_386 : dx_W (tb_Z L xs) d 121 386 lv st σ Q ↔ wI (dx_lk lv 2) (fun y => dx_W (tb_Z L xs) d 121 387 lv (.int y :: st) σ Q) := r_iload_n (k := 2) (hz_121.trans rfl)
set_option maxRecDepth 8000 in
theorem w_121_387 {x : Int32} : dx_W (tb_Z L xs) d 121 387 lv [.int x] σ Q ↔ Q (.inl (some (.int x))) σ := r_ireturn (hz_121.trans rfl) rfl rfl
set_option maxRecDepth 8000 in
theorem w_121_388 : dx_W (tb_Z L xs) d 121 388 lv st σ Q ↔ wR (dx_lk lv 0) (fun y => dx_W (tb_Z L xs) d 121 389 lv (y :: st) σ Q) := r_aload_n (k := 0) (hz_121.trans rfl)
set_option maxRecDepth 8000 in
theorem w_121_389 : dx_W (tb_Z L xs) d 121 389 lv st σ Q ↔ wI (dx_lk lv 1) (fun y => dx_W (tb_Z L xs) d 121 390 lv (.int y :: st) σ Q) := r_iload_n (k := 1) (hz_121.trans rfl)
set_option maxRecDepth 8000 in
theorem w_121_390 : dx_W (tb_Z L xs) d 121 390 lv st σ Q ↔ wI (dx_lk lv 2) (fun y => dx_W (tb_Z L xs) d 121 391 lv (.int y :: st) σ Q) := r_iload_n (k := 2) (hz_121.trans rfl)
set_option maxRecDepth 8000 in
theorem w_121_391 : dx_W (tb_Z L xs) d 121 391 lv st σ Q ↔ wI (dx_lk lv 3) (fun y => dx_W (tb_Z L xs) d 121 392 lv (.int y :: st) σ Q) := r_iload_n (k := 3) (hz_121.trans rfl)
set_option maxRecDepth 8000 in
theorem w_121_392 : dx_W (tb_Z L xs) d 121 392 lv st σ Q ↔ wI (dx_lk lv 4) (fun y => dx_W (tb_Z L xs) d 121 394 lv (.int y :: st) σ Q) := r_iload (k := 4) (hz_121.trans rfl)
set_option maxRecDepth 8000 in
theorem w_121_394 {v0 v1 v2 v3 v4 : Value}  : dx_W (tb_Z L xs) d 121 394 lv (v4 :: v3 :: v2 :: v1 :: v0 :: st) σ Q ↔ (dx_ct st ≤ 8 ∧ dx_ci (tb_K L xs) σ v0 = some 9) ∧ dx_M (tb_Z L xs) d 131 [v0, v1, v2, v3, v4] σ (wK (tb_Z L xs) d 121 397 lv st Q) := c_callv (av := [v1, v2, v3, v4]) (hz_121.trans rfl)
set_option maxRecDepth 8000 in
theorem w_121_397 {x : Int32} : dx_W (tb_Z L xs) d 121 397 lv [.int x] σ Q ↔ Q (.inl (some (.int x))) σ := r_ireturn (hz_121.trans rfl) rfl rfl
theorem hz_122 {pc : Nat} : (tb_Z L xs).1 122 pc = dx_at tb_m122 pc := rfl
theorem w_122_0 : dx_W (tb_Z L xs) d 122 0 lv st σ Q ↔ wR (dx_lk lv 0) (fun y => dx_W (tb_Z L xs) d 122 1 lv (y :: st) σ Q) := r_aload_n (k := 0) (hz_122.trans rfl)
theorem w_122_1 {w : Value} : dx_W (tb_Z L xs) d 122 1 lv (w :: st) σ Q ↔ wO (dx_gf (tb_K L xs) σ w 9 23) (fun y => dx_W (tb_Z L xs) d 122 4 lv (y :: st) σ Q) := r_getfield (hz_122.trans rfl)
theorem w_122_4 : dx_W (tb_Z L xs) d 122 4 lv st σ Q ↔ wR (dx_lk lv 0) (fun y => dx_W (tb_Z L xs) d 122 5 lv (y :: st) σ Q) := r_aload_n (k := 0) (hz_122.trans rfl)
theorem w_122_5 {w : Value} : dx_W (tb_Z L xs) d 122 5 lv (w :: st) σ Q ↔ wO (dx_gf (tb_K L xs) σ w 9 30) (fun y => dx_W (tb_Z L xs) d 122 8 lv (y :: st) σ Q) := r_getfield (hz_122.trans rfl)
theorem w_122_8 : dx_W (tb_Z L xs) d 122 8 lv st σ Q ↔ wI (dx_lk lv 1) (fun y => dx_W (tb_Z L xs) d 122 9 lv (.int y :: st) σ Q) := r_iload_n (k := 1) (hz_122.trans rfl)
theorem w_122_9 {w : Value} {y : Int32} {u : Int32} : dx_W (tb_Z L xs) d 122 9 lv (.int u :: .int y :: w :: st) σ Q ↔ wO (dx_pi σ 0 w y u) (fun σ1 => dx_W (tb_Z L xs) d 122 10 lv st σ1 Q) := r_iastore (hz_122.trans rfl)
theorem w_122_10 : dx_W (tb_Z L xs) d 122 10 lv st σ Q ↔ wR (dx_lk lv 0) (fun y => dx_W (tb_Z L xs) d 122 11 lv (y :: st) σ Q) := r_aload_n (k := 0) (hz_122.trans rfl)
theorem w_122_11 {w : Value} : dx_W (tb_Z L xs) d 122 11 lv (w :: st) σ Q ↔ wO (dx_gf (tb_K L xs) σ w 9 24) (fun y => dx_W (tb_Z L xs) d 122 14 lv (y :: st) σ Q) := r_getfield (hz_122.trans rfl)
theorem w_122_14 : dx_W (tb_Z L xs) d 122 14 lv st σ Q ↔ wR (dx_lk lv 0) (fun y => dx_W (tb_Z L xs) d 122 15 lv (y :: st) σ Q) := r_aload_n (k := 0) (hz_122.trans rfl)
theorem w_122_15 {w : Value} : dx_W (tb_Z L xs) d 122 15 lv (w :: st) σ Q ↔ wO (dx_gf (tb_K L xs) σ w 9 30) (fun y => dx_W (tb_Z L xs) d 122 18 lv (y :: st) σ Q) := r_getfield (hz_122.trans rfl)
theorem w_122_18 : dx_W (tb_Z L xs) d 122 18 lv st σ Q ↔ wI (dx_lk lv 2) (fun y => dx_W (tb_Z L xs) d 122 19 lv (.int y :: st) σ Q) := r_iload_n (k := 2) (hz_122.trans rfl)
theorem w_122_19 {w : Value} {y : Int32} {u : Int32} : dx_W (tb_Z L xs) d 122 19 lv (.int u :: .int y :: w :: st) σ Q ↔ wO (dx_pi σ 0 w y u) (fun σ1 => dx_W (tb_Z L xs) d 122 20 lv st σ1 Q) := r_iastore (hz_122.trans rfl)
theorem w_122_20 : dx_W (tb_Z L xs) d 122 20 lv st σ Q ↔ wR (dx_lk lv 0) (fun y => dx_W (tb_Z L xs) d 122 21 lv (y :: st) σ Q) := r_aload_n (k := 0) (hz_122.trans rfl)
theorem w_122_21_int {x : Int32} : dx_W (tb_Z L xs) d 122 21 lv (.int x :: st) σ Q ↔ dx_W (tb_Z L xs) d 122 22 lv (.int x :: .int x :: st) σ Q := r_dup_int (hz_122.trans rfl)
theorem w_122_21_ref {x : Nat} : dx_W (tb_Z L xs) d 122 21 lv (.ref x :: st) σ Q ↔ dx_W (tb_Z L xs) d 122 22 lv (.ref x :: .ref x :: st) σ Q := r_dup_ref (hz_122.trans rfl)
theorem w_122_21_retAddr {x : Nat} : dx_W (tb_Z L xs) d 122 21 lv (.retAddr x :: st) σ Q ↔ dx_W (tb_Z L xs) d 122 22 lv (.retAddr x :: .retAddr x :: st) σ Q := r_dup_retAddr (hz_122.trans rfl)
theorem w_122_22 {w : Value} : dx_W (tb_Z L xs) d 122 22 lv (w :: st) σ Q ↔ wO (dx_gf (tb_K L xs) σ w 9 30) (fun y => dx_W (tb_Z L xs) d 122 25 lv (y :: st) σ Q) := r_getfield (hz_122.trans rfl)
theorem w_122_25 : dx_W (tb_Z L xs) d 122 25 lv st σ Q ↔ dx_W (tb_Z L xs) d 122 26 lv (.int 1 :: st) σ Q := r_iconst (n := 1) (hz_122.trans rfl)
theorem w_122_26 {x y : Int32} : dx_W (tb_Z L xs) d 122 26 lv (.int y :: .int x :: st) σ Q ↔ dx_W (tb_Z L xs) d 122 27 lv (.int (x + y) :: st) σ Q := r_iadd (hz_122.trans rfl)
theorem w_122_27 {u w : Value} : dx_W (tb_Z L xs) d 122 27 lv (u :: w :: st) σ Q ↔ wO (dx_pf σ w 9 30 0 u) (fun σ1 => dx_W (tb_Z L xs) d 122 30 lv st σ1 Q) := r_putfield (f := 0) (hz_122.trans rfl)
theorem w_122_30 : dx_W (tb_Z L xs) d 122 30 lv [] σ Q ↔ Q (.inl none) σ := r_return (hz_122.trans rfl) rfl
theorem hz_123 {pc : Nat} : (tb_Z L xs).1 123 pc = dx_at tb_m123 pc := rfl
theorem w_123_0 : dx_W (tb_Z L xs) d 123 0 lv st σ Q ↔ wI (dx_lk lv 3) (fun y => dx_W (tb_Z L xs) d 123 1 lv (.int y :: st) σ Q) := r_iload_n (k := 3) (hz_123.trans rfl)
theorem w_123_1 : dx_W (tb_Z L xs) d 123 1 lv st σ Q ↔ wI (dx_lk lv 5) (fun y => dx_W (tb_Z L xs) d 123 3 lv (.int y :: st) σ Q) := r_iload (k := 5) (hz_123.trans rfl)
theorem w_123_3 {x y : Int32} : dx_W (tb_Z L xs) d 123 3 lv (.int y :: .int x :: st) σ Q ↔ (if x ≤ y then dx_W (tb_Z L xs) d 123 10 lv st σ Q else dx_W (tb_Z L xs) d 123 6 lv st σ Q) := r_ic_le (off := 7) (t := 10) (hz_123.trans rfl) (by decide)
theorem w_123_6 : dx_W (tb_Z L xs) d 123 6 lv st σ Q ↔ wI (dx_lk lv 3) (fun y => dx_W (tb_Z L xs) d 123 7 lv (.int y :: st) σ Q) := r_iload_n (k := 3) (hz_123.trans rfl)
theorem w_123_7 : dx_W (tb_Z L xs) d 123 7 lv st σ Q ↔ dx_W (tb_Z L xs) d 123 12 lv st σ Q := r_goto (off := 5) (t := 12) (hz_123.trans rfl) (by decide)
theorem w_123_10 : dx_W (tb_Z L xs) d 123 10 lv st σ Q ↔ wI (dx_lk lv 5) (fun y => dx_W (tb_Z L xs) d 123 12 lv (.int y :: st) σ Q) := r_iload (k := 5) (hz_123.trans rfl)
theorem w_123_12 {x : Int32} : dx_W (tb_Z L xs) d 123 12 lv (.int x :: st) σ Q ↔ dx_W (tb_Z L xs) d 123 14 (dx_s1 lv 6 (.int x)) st σ Q := r_istore (k := 6) (hz_123.trans rfl) (show 6 < tb_l 123 by decide)
theorem w_123_14 : dx_W (tb_Z L xs) d 123 14 lv st σ Q ↔ wI (dx_lk lv 2) (fun y => dx_W (tb_Z L xs) d 123 15 lv (.int y :: st) σ Q) := r_iload_n (k := 2) (hz_123.trans rfl)
theorem w_123_15 {x : Int32} : dx_W (tb_Z L xs) d 123 15 lv (.int x :: st) σ Q ↔ dx_W (tb_Z L xs) d 123 16 lv (.long x.toInt64 :: st) σ Q := r_i2l (hz_123.trans rfl)
theorem w_123_16 : dx_W (tb_Z L xs) d 123 16 lv st σ Q ↔ wI (dx_lk lv 6) (fun y => dx_W (tb_Z L xs) d 123 18 lv (.int y :: st) σ Q) := r_iload (k := 6) (hz_123.trans rfl)
theorem w_123_18 : dx_W (tb_Z L xs) d 123 18 lv st σ Q ↔ wI (dx_lk lv 3) (fun y => dx_W (tb_Z L xs) d 123 19 lv (.int y :: st) σ Q) := r_iload_n (k := 3) (hz_123.trans rfl)
theorem w_123_19 {x y : Int32} : dx_W (tb_Z L xs) d 123 19 lv (.int y :: .int x :: st) σ Q ↔ dx_W (tb_Z L xs) d 123 20 lv (.int (x - y) :: st) σ Q := r_isub (hz_123.trans rfl)
theorem w_123_20 {v0 : Value}  : dx_W (tb_Z L xs) d 123 20 lv (v0 :: st) σ Q ↔ dx_ct st ≤ 8 ∧ dx_M (tb_Z L xs) d 124 [v0] σ (wK (tb_Z L xs) d 123 23 lv st Q) := c_calls (av := [v0]) (hz_123.trans rfl)
theorem w_123_23 {x y : Int64} : dx_W (tb_Z L xs) d 123 23 lv (.long y :: .long x :: st) σ Q ↔ dx_W (tb_Z L xs) d 123 24 lv (.long (x * y) :: st) σ Q := r_lmul (hz_123.trans rfl)
theorem w_123_24 {x : Int64} : dx_W (tb_Z L xs) d 123 24 lv (.long x :: st) σ Q ↔ dx_W (tb_Z L xs) d 123 26 (dx_s2 lv 7 (.long x)) st σ Q := r_lstore (k := 7) (hz_123.trans rfl) (show 7 + 1 < tb_l 123 by decide)
theorem w_123_26 : dx_W (tb_Z L xs) d 123 26 lv st σ Q ↔ wI (dx_lk lv 4) (fun y => dx_W (tb_Z L xs) d 123 28 lv (.int y :: st) σ Q) := r_iload (k := 4) (hz_123.trans rfl)
theorem w_123_28 {x : Int32} : dx_W (tb_Z L xs) d 123 28 lv (.int x :: st) σ Q ↔ dx_W (tb_Z L xs) d 123 29 lv (.long x.toInt64 :: st) σ Q := r_i2l (hz_123.trans rfl)
theorem w_123_29 : dx_W (tb_Z L xs) d 123 29 lv st σ Q ↔ wI (dx_lk lv 6) (fun y => dx_W (tb_Z L xs) d 123 31 lv (.int y :: st) σ Q) := r_iload (k := 6) (hz_123.trans rfl)
theorem w_123_31 : dx_W (tb_Z L xs) d 123 31 lv st σ Q ↔ wI (dx_lk lv 5) (fun y => dx_W (tb_Z L xs) d 123 33 lv (.int y :: st) σ Q) := r_iload (k := 5) (hz_123.trans rfl)
theorem w_123_33 {x y : Int32} : dx_W (tb_Z L xs) d 123 33 lv (.int y :: .int x :: st) σ Q ↔ dx_W (tb_Z L xs) d 123 34 lv (.int (x - y) :: st) σ Q := r_isub (hz_123.trans rfl)
theorem w_123_34 {v0 : Value}  : dx_W (tb_Z L xs) d 123 34 lv (v0 :: st) σ Q ↔ dx_ct st ≤ 8 ∧ dx_M (tb_Z L xs) d 124 [v0] σ (wK (tb_Z L xs) d 123 37 lv st Q) := c_calls (av := [v0]) (hz_123.trans rfl)
theorem w_123_37 {x y : Int64} : dx_W (tb_Z L xs) d 123 37 lv (.long y :: .long x :: st) σ Q ↔ dx_W (tb_Z L xs) d 123 38 lv (.long (x * y) :: st) σ Q := r_lmul (hz_123.trans rfl)
theorem w_123_38 {x : Int64} : dx_W (tb_Z L xs) d 123 38 lv (.long x :: st) σ Q ↔ dx_W (tb_Z L xs) d 123 40 (dx_s2 lv 9 (.long x)) st σ Q := r_lstore (k := 9) (hz_123.trans rfl) (show 9 + 1 < tb_l 123 by decide)
theorem w_123_40 : dx_W (tb_Z L xs) d 123 40 lv st σ Q ↔ wI (dx_lk lv 1) (fun y => dx_W (tb_Z L xs) d 123 41 lv (.int y :: st) σ Q) := r_iload_n (k := 1) (hz_123.trans rfl)
theorem w_123_41 {x : Int32} : dx_W (tb_Z L xs) d 123 41 lv (.int x :: st) σ Q ↔ (if x = 42 then dx_W (tb_Z L xs) d 123 116 lv st σ Q else if x = 43 then dx_W (tb_Z L xs) d 123 92 lv st σ Q else if x = 45 then dx_W (tb_Z L xs) d 123 104 lv st σ Q else if x = 47 then dx_W (tb_Z L xs) d 123 129 lv st σ Q else if x = 94 then dx_W (tb_Z L xs) d 123 142 lv st σ Q else dx_W (tb_Z L xs) d 123 153 lv st σ Q) := by
  by_cases h0 : x = 42
  · subst h0
    rw [if_pos rfl]
    exact r_sw (t := 116) (hz_123.trans rfl) rfl rfl
  rw [if_neg h0]
  by_cases h1 : x = 43
  · subst h1
    rw [if_pos rfl]
    exact r_sw (t := 92) (hz_123.trans rfl) rfl rfl
  rw [if_neg h1]
  by_cases h2 : x = 45
  · subst h2
    rw [if_pos rfl]
    exact r_sw (t := 104) (hz_123.trans rfl) rfl rfl
  rw [if_neg h2]
  by_cases h3 : x = 47
  · subst h3
    rw [if_pos rfl]
    exact r_sw (t := 129) (hz_123.trans rfl) rfl rfl
  rw [if_neg h3]
  by_cases h4 : x = 94
  · subst h4
    rw [if_pos rfl]
    exact r_sw (t := 142) (hz_123.trans rfl) rfl rfl
  rw [if_neg h4]
  refine r_look (t := 153) (hz_123.trans rfl) (by decide) ?_
  simp only [lv_osw h0 (show (42 : Int32).toInt = 42 from rfl), lv_osw h1 (show (43 : Int32).toInt = 43 from rfl), lv_osw h2 (show (45 : Int32).toInt = 45 from rfl), lv_osw h3 (show (47 : Int32).toInt = 47 from rfl), lv_osw h4 (show (94 : Int32).toInt = 94 from rfl)]
  rfl
theorem w_123_92 : dx_W (tb_Z L xs) d 123 92 lv st σ Q ↔ wR (dx_lk lv 0) (fun y => dx_W (tb_Z L xs) d 123 93 lv (y :: st) σ Q) := r_aload_n (k := 0) (hz_123.trans rfl)
theorem w_123_93 : dx_W (tb_Z L xs) d 123 93 lv st σ Q ↔ wJ (dx_lk lv 7) (fun y => dx_W (tb_Z L xs) d 123 95 lv (.long y :: st) σ Q) := r_lload (k := 7) (hz_123.trans rfl)
theorem w_123_95 : dx_W (tb_Z L xs) d 123 95 lv st σ Q ↔ wJ (dx_lk lv 9) (fun y => dx_W (tb_Z L xs) d 123 97 lv (.long y :: st) σ Q) := r_lload (k := 9) (hz_123.trans rfl)
theorem w_123_97 {x y : Int64} : dx_W (tb_Z L xs) d 123 97 lv (.long y :: .long x :: st) σ Q ↔ dx_W (tb_Z L xs) d 123 98 lv (.long (x + y) :: st) σ Q := r_ladd (hz_123.trans rfl)
theorem w_123_98 : dx_W (tb_Z L xs) d 123 98 lv st σ Q ↔ wI (dx_lk lv 6) (fun y => dx_W (tb_Z L xs) d 123 100 lv (.int y :: st) σ Q) := r_iload (k := 6) (hz_123.trans rfl)
theorem w_123_100 {v0 v1 v2 : Value}  : dx_W (tb_Z L xs) d 123 100 lv (v2 :: v1 :: v0 :: st) σ Q ↔ (dx_ct st ≤ 8 ∧ dx_ci (tb_K L xs) σ v0 = some 9) ∧ dx_M (tb_Z L xs) d 125 [v0, v1, v2] σ (wK (tb_Z L xs) d 123 103 lv st Q) := c_callv (av := [v1, v2]) (hz_123.trans rfl)
theorem w_123_103 {x : Int32} : dx_W (tb_Z L xs) d 123 103 lv [.int x] σ Q ↔ narrow .boolean (.int x) = .int x ∧ Q (.inl (some (.int x))) σ := c_ireturn (hz_123.trans rfl) rfl
theorem w_123_104 : dx_W (tb_Z L xs) d 123 104 lv st σ Q ↔ wR (dx_lk lv 0) (fun y => dx_W (tb_Z L xs) d 123 105 lv (y :: st) σ Q) := r_aload_n (k := 0) (hz_123.trans rfl)
theorem w_123_105 : dx_W (tb_Z L xs) d 123 105 lv st σ Q ↔ wJ (dx_lk lv 7) (fun y => dx_W (tb_Z L xs) d 123 107 lv (.long y :: st) σ Q) := r_lload (k := 7) (hz_123.trans rfl)
theorem w_123_107 : dx_W (tb_Z L xs) d 123 107 lv st σ Q ↔ wJ (dx_lk lv 9) (fun y => dx_W (tb_Z L xs) d 123 109 lv (.long y :: st) σ Q) := r_lload (k := 9) (hz_123.trans rfl)
theorem w_123_109 {x y : Int64} : dx_W (tb_Z L xs) d 123 109 lv (.long y :: .long x :: st) σ Q ↔ dx_W (tb_Z L xs) d 123 110 lv (.long (x - y) :: st) σ Q := r_lsub (hz_123.trans rfl)
theorem w_123_110 : dx_W (tb_Z L xs) d 123 110 lv st σ Q ↔ wI (dx_lk lv 6) (fun y => dx_W (tb_Z L xs) d 123 112 lv (.int y :: st) σ Q) := r_iload (k := 6) (hz_123.trans rfl)
theorem w_123_112 {v0 v1 v2 : Value}  : dx_W (tb_Z L xs) d 123 112 lv (v2 :: v1 :: v0 :: st) σ Q ↔ (dx_ct st ≤ 8 ∧ dx_ci (tb_K L xs) σ v0 = some 9) ∧ dx_M (tb_Z L xs) d 125 [v0, v1, v2] σ (wK (tb_Z L xs) d 123 115 lv st Q) := c_callv (av := [v1, v2]) (hz_123.trans rfl)
theorem w_123_115 {x : Int32} : dx_W (tb_Z L xs) d 123 115 lv [.int x] σ Q ↔ narrow .boolean (.int x) = .int x ∧ Q (.inl (some (.int x))) σ := c_ireturn (hz_123.trans rfl) rfl
theorem w_123_116 : dx_W (tb_Z L xs) d 123 116 lv st σ Q ↔ wR (dx_lk lv 0) (fun y => dx_W (tb_Z L xs) d 123 117 lv (y :: st) σ Q) := r_aload_n (k := 0) (hz_123.trans rfl)
theorem w_123_117 : dx_W (tb_Z L xs) d 123 117 lv st σ Q ↔ wI (dx_lk lv 2) (fun y => dx_W (tb_Z L xs) d 123 118 lv (.int y :: st) σ Q) := r_iload_n (k := 2) (hz_123.trans rfl)
theorem w_123_118 {x : Int32} : dx_W (tb_Z L xs) d 123 118 lv (.int x :: st) σ Q ↔ dx_W (tb_Z L xs) d 123 119 lv (.long x.toInt64 :: st) σ Q := r_i2l (hz_123.trans rfl)
theorem w_123_119 : dx_W (tb_Z L xs) d 123 119 lv st σ Q ↔ wI (dx_lk lv 3) (fun y => dx_W (tb_Z L xs) d 123 120 lv (.int y :: st) σ Q) := r_iload_n (k := 3) (hz_123.trans rfl)
theorem w_123_120 : dx_W (tb_Z L xs) d 123 120 lv st σ Q ↔ wI (dx_lk lv 4) (fun y => dx_W (tb_Z L xs) d 123 122 lv (.int y :: st) σ Q) := r_iload (k := 4) (hz_123.trans rfl)
theorem w_123_122 {x : Int32} : dx_W (tb_Z L xs) d 123 122 lv (.int x :: st) σ Q ↔ dx_W (tb_Z L xs) d 123 123 lv (.long x.toInt64 :: st) σ Q := r_i2l (hz_123.trans rfl)
theorem w_123_123 : dx_W (tb_Z L xs) d 123 123 lv st σ Q ↔ wI (dx_lk lv 5) (fun y => dx_W (tb_Z L xs) d 123 125 lv (.int y :: st) σ Q) := r_iload (k := 5) (hz_123.trans rfl)
theorem w_123_125 {v0 v1 v2 v3 v4 : Value}  : dx_W (tb_Z L xs) d 123 125 lv (v4 :: v3 :: v2 :: v1 :: v0 :: st) σ Q ↔ (dx_ct st ≤ 8 ∧ dx_ci (tb_K L xs) σ v0 = some 9) ∧ dx_M (tb_Z L xs) d 126 [v0, v1, v2, v3, v4] σ (wK (tb_Z L xs) d 123 128 lv st Q) := c_callv (av := [v1, v2, v3, v4]) (hz_123.trans rfl)
theorem w_123_128 {x : Int32} : dx_W (tb_Z L xs) d 123 128 lv [.int x] σ Q ↔ narrow .boolean (.int x) = .int x ∧ Q (.inl (some (.int x))) σ := c_ireturn (hz_123.trans rfl) rfl
theorem w_123_129 : dx_W (tb_Z L xs) d 123 129 lv st σ Q ↔ wR (dx_lk lv 0) (fun y => dx_W (tb_Z L xs) d 123 130 lv (y :: st) σ Q) := r_aload_n (k := 0) (hz_123.trans rfl)
theorem w_123_130 : dx_W (tb_Z L xs) d 123 130 lv st σ Q ↔ wI (dx_lk lv 2) (fun y => dx_W (tb_Z L xs) d 123 131 lv (.int y :: st) σ Q) := r_iload_n (k := 2) (hz_123.trans rfl)
theorem w_123_131 {x : Int32} : dx_W (tb_Z L xs) d 123 131 lv (.int x :: st) σ Q ↔ dx_W (tb_Z L xs) d 123 132 lv (.long x.toInt64 :: st) σ Q := r_i2l (hz_123.trans rfl)
theorem w_123_132 : dx_W (tb_Z L xs) d 123 132 lv st σ Q ↔ wI (dx_lk lv 3) (fun y => dx_W (tb_Z L xs) d 123 133 lv (.int y :: st) σ Q) := r_iload_n (k := 3) (hz_123.trans rfl)
theorem w_123_133 : dx_W (tb_Z L xs) d 123 133 lv st σ Q ↔ wI (dx_lk lv 4) (fun y => dx_W (tb_Z L xs) d 123 135 lv (.int y :: st) σ Q) := r_iload (k := 4) (hz_123.trans rfl)
theorem w_123_135 {x : Int32} : dx_W (tb_Z L xs) d 123 135 lv (.int x :: st) σ Q ↔ dx_W (tb_Z L xs) d 123 136 lv (.long x.toInt64 :: st) σ Q := r_i2l (hz_123.trans rfl)
theorem w_123_136 : dx_W (tb_Z L xs) d 123 136 lv st σ Q ↔ wI (dx_lk lv 5) (fun y => dx_W (tb_Z L xs) d 123 138 lv (.int y :: st) σ Q) := r_iload (k := 5) (hz_123.trans rfl)
theorem w_123_138 {v0 v1 v2 v3 v4 : Value}  : dx_W (tb_Z L xs) d 123 138 lv (v4 :: v3 :: v2 :: v1 :: v0 :: st) σ Q ↔ (dx_ct st ≤ 8 ∧ dx_ci (tb_K L xs) σ v0 = some 9) ∧ dx_M (tb_Z L xs) d 127 [v0, v1, v2, v3, v4] σ (wK (tb_Z L xs) d 123 141 lv st Q) := c_callv (av := [v1, v2, v3, v4]) (hz_123.trans rfl)
theorem w_123_141 {x : Int32} : dx_W (tb_Z L xs) d 123 141 lv [.int x] σ Q ↔ narrow .boolean (.int x) = .int x ∧ Q (.inl (some (.int x))) σ := c_ireturn (hz_123.trans rfl) rfl
theorem w_123_142 : dx_W (tb_Z L xs) d 123 142 lv st σ Q ↔ wR (dx_lk lv 0) (fun y => dx_W (tb_Z L xs) d 123 143 lv (y :: st) σ Q) := r_aload_n (k := 0) (hz_123.trans rfl)
theorem w_123_143 : dx_W (tb_Z L xs) d 123 143 lv st σ Q ↔ wI (dx_lk lv 2) (fun y => dx_W (tb_Z L xs) d 123 144 lv (.int y :: st) σ Q) := r_iload_n (k := 2) (hz_123.trans rfl)
theorem w_123_144 : dx_W (tb_Z L xs) d 123 144 lv st σ Q ↔ wI (dx_lk lv 3) (fun y => dx_W (tb_Z L xs) d 123 145 lv (.int y :: st) σ Q) := r_iload_n (k := 3) (hz_123.trans rfl)
theorem w_123_145 : dx_W (tb_Z L xs) d 123 145 lv st σ Q ↔ wI (dx_lk lv 4) (fun y => dx_W (tb_Z L xs) d 123 147 lv (.int y :: st) σ Q) := r_iload (k := 4) (hz_123.trans rfl)
theorem w_123_147 : dx_W (tb_Z L xs) d 123 147 lv st σ Q ↔ wI (dx_lk lv 5) (fun y => dx_W (tb_Z L xs) d 123 149 lv (.int y :: st) σ Q) := r_iload (k := 5) (hz_123.trans rfl)
theorem w_123_149 {v0 v1 v2 v3 v4 : Value}  : dx_W (tb_Z L xs) d 123 149 lv (v4 :: v3 :: v2 :: v1 :: v0 :: st) σ Q ↔ (dx_ct st ≤ 8 ∧ dx_ci (tb_K L xs) σ v0 = some 9) ∧ dx_M (tb_Z L xs) d 128 [v0, v1, v2, v3, v4] σ (wK (tb_Z L xs) d 123 152 lv st Q) := c_callv (av := [v1, v2, v3, v4]) (hz_123.trans rfl)
theorem w_123_152 {x : Int32} : dx_W (tb_Z L xs) d 123 152 lv [.int x] σ Q ↔ narrow .boolean (.int x) = .int x ∧ Q (.inl (some (.int x))) σ := c_ireturn (hz_123.trans rfl) rfl
theorem w_123_153 : dx_W (tb_Z L xs) d 123 153 lv st σ Q ↔ wI (dx_lk lv 4) (fun y => dx_W (tb_Z L xs) d 123 155 lv (.int y :: st) σ Q) := r_iload (k := 4) (hz_123.trans rfl)
theorem w_123_155 {x : Int32} : dx_W (tb_Z L xs) d 123 155 lv (.int x :: st) σ Q ↔ (if ¬ x = 0 then dx_W (tb_Z L xs) d 123 165 lv st σ Q else dx_W (tb_Z L xs) d 123 158 lv st σ Q) := r_if_ne (off := 10) (t := 165) (hz_123.trans rfl) (by decide)
theorem w_123_158 : dx_W (tb_Z L xs) d 123 158 lv st σ Q ↔ wR (dx_lk lv 0) (fun y => dx_W (tb_Z L xs) d 123 159 lv (y :: st) σ Q) := r_aload_n (k := 0) (hz_123.trans rfl)
theorem w_123_159 : dx_W (tb_Z L xs) d 123 159 lv st σ Q ↔ dx_W (tb_Z L xs) d 123 160 lv (.int 2 :: st) σ Q := r_iconst (n := 2) (hz_123.trans rfl)
theorem w_123_160 {u w : Value} : dx_W (tb_Z L xs) d 123 160 lv (u :: w :: st) σ Q ↔ wO (dx_pf σ w 9 34 0 u) (fun σ1 => dx_W (tb_Z L xs) d 123 163 lv st σ1 Q) := r_putfield (f := 0) (hz_123.trans rfl)
theorem w_123_163 : dx_W (tb_Z L xs) d 123 163 lv st σ Q ↔ dx_W (tb_Z L xs) d 123 164 lv (.int 0 :: st) σ Q := r_iconst (n := 0) (hz_123.trans rfl)
theorem w_123_164 {x : Int32} : dx_W (tb_Z L xs) d 123 164 lv [.int x] σ Q ↔ narrow .boolean (.int x) = .int x ∧ Q (.inl (some (.int x))) σ := c_ireturn (hz_123.trans rfl) rfl
theorem w_123_165 : dx_W (tb_Z L xs) d 123 165 lv st σ Q ↔ wR (dx_lk lv 0) (fun y => dx_W (tb_Z L xs) d 123 166 lv (y :: st) σ Q) := r_aload_n (k := 0) (hz_123.trans rfl)
theorem w_123_166 : dx_W (tb_Z L xs) d 123 166 lv st σ Q ↔ wJ (dx_lk lv 7) (fun y => dx_W (tb_Z L xs) d 123 168 lv (.long y :: st) σ Q) := r_lload (k := 7) (hz_123.trans rfl)
theorem w_123_168 : dx_W (tb_Z L xs) d 123 168 lv st σ Q ↔ wJ (dx_lk lv 9) (fun y => dx_W (tb_Z L xs) d 123 170 lv (.long y :: st) σ Q) := r_lload (k := 9) (hz_123.trans rfl)
theorem w_123_170 {x y : Int64} : dx_W (tb_Z L xs) d 123 170 lv (.long y :: .long x :: st) σ Q ↔ ¬ y = 0 ∧ dx_W (tb_Z L xs) d 123 171 lv (.long (x - x / y * y) :: st) σ Q := c_lrem (hz_123.trans rfl)
theorem w_123_171 : dx_W (tb_Z L xs) d 123 171 lv st σ Q ↔ wI (dx_lk lv 6) (fun y => dx_W (tb_Z L xs) d 123 173 lv (.int y :: st) σ Q) := r_iload (k := 6) (hz_123.trans rfl)
theorem w_123_173 {v0 v1 v2 : Value}  : dx_W (tb_Z L xs) d 123 173 lv (v2 :: v1 :: v0 :: st) σ Q ↔ (dx_ct st ≤ 8 ∧ dx_ci (tb_K L xs) σ v0 = some 9) ∧ dx_M (tb_Z L xs) d 125 [v0, v1, v2] σ (wK (tb_Z L xs) d 123 176 lv st Q) := c_callv (av := [v1, v2]) (hz_123.trans rfl)
theorem w_123_176 {x : Int32} : dx_W (tb_Z L xs) d 123 176 lv [.int x] σ Q ↔ narrow .boolean (.int x) = .int x ∧ Q (.inl (some (.int x))) σ := c_ireturn (hz_123.trans rfl) rfl
theorem hz_124 {pc : Nat} : (tb_Z L xs).1 124 pc = dx_at tb_m124 pc := rfl
theorem w_124_0 : dx_W (tb_Z L xs) d 124 0 lv st σ Q ↔ dx_W (tb_Z L xs) d 124 1 lv (.long 1 :: st) σ Q := r_lconst (n := 1) (hz_124.trans rfl)
theorem w_124_1 {x : Int64} : dx_W (tb_Z L xs) d 124 1 lv (.long x :: st) σ Q ↔ dx_W (tb_Z L xs) d 124 2 (dx_s2 lv 1 (.long x)) st σ Q := r_lstore_n (k := 1) (hz_124.trans rfl) (show 1 + 1 < tb_l 124 by decide)
theorem w_124_2 : dx_W (tb_Z L xs) d 124 2 lv st σ Q ↔ dx_W (tb_Z L xs) d 124 3 lv (.int 0 :: st) σ Q := r_iconst (n := 0) (hz_124.trans rfl)
theorem w_124_3 {x : Int32} : dx_W (tb_Z L xs) d 124 3 lv (.int x :: st) σ Q ↔ dx_W (tb_Z L xs) d 124 4 (dx_s1 lv 3 (.int x)) st σ Q := r_istore_n (k := 3) (hz_124.trans rfl) (show 3 < tb_l 124 by decide)
theorem w_124_4 : dx_W (tb_Z L xs) d 124 4 lv st σ Q ↔ wI (dx_lk lv 3) (fun y => dx_W (tb_Z L xs) d 124 5 lv (.int y :: st) σ Q) := r_iload_n (k := 3) (hz_124.trans rfl)
theorem w_124_5 : dx_W (tb_Z L xs) d 124 5 lv st σ Q ↔ wI (dx_lk lv 0) (fun y => dx_W (tb_Z L xs) d 124 6 lv (.int y :: st) σ Q) := r_iload_n (k := 0) (hz_124.trans rfl)
theorem w_124_6 {x y : Int32} : dx_W (tb_Z L xs) d 124 6 lv (.int y :: .int x :: st) σ Q ↔ (if y ≤ x then dx_W (tb_Z L xs) d 124 21 lv st σ Q else dx_W (tb_Z L xs) d 124 9 lv st σ Q) := r_ic_ge (off := 15) (t := 21) (hz_124.trans rfl) (by decide)
theorem w_124_9 : dx_W (tb_Z L xs) d 124 9 lv st σ Q ↔ wJ (dx_lk lv 1) (fun y => dx_W (tb_Z L xs) d 124 10 lv (.long y :: st) σ Q) := r_lload_n (k := 1) (hz_124.trans rfl)
theorem w_124_10 : dx_W (tb_Z L xs) d 124 10 lv st σ Q ↔ dx_W (tb_Z L xs) d 124 13 lv (.long 10 :: st) σ Q := r_ldc2_w (hz_124.trans rfl)
theorem w_124_13 {x y : Int64} : dx_W (tb_Z L xs) d 124 13 lv (.long y :: .long x :: st) σ Q ↔ dx_W (tb_Z L xs) d 124 14 lv (.long (x * y) :: st) σ Q := r_lmul (hz_124.trans rfl)
theorem w_124_14 {x : Int64} : dx_W (tb_Z L xs) d 124 14 lv (.long x :: st) σ Q ↔ dx_W (tb_Z L xs) d 124 15 (dx_s2 lv 1 (.long x)) st σ Q := r_lstore_n (k := 1) (hz_124.trans rfl) (show 1 + 1 < tb_l 124 by decide)
theorem w_124_15 : dx_W (tb_Z L xs) d 124 15 lv st σ Q ↔ wI (dx_lk lv 3) (fun y => dx_W (tb_Z L xs) d 124 18 (dx_s1 lv 3 (.int (y + 1))) st σ Q) := r_iincv (k := 3) (n := 1) (hz_124.trans rfl) (show 3 < tb_l 124 by decide) (by decide)
theorem w_124_18 : dx_W (tb_Z L xs) d 124 18 lv st σ Q ↔ dx_W (tb_Z L xs) d 124 4 lv st σ Q := r_goto (off := (-14)) (t := 4) (hz_124.trans rfl) (by decide)
theorem w_124_21 : dx_W (tb_Z L xs) d 124 21 lv st σ Q ↔ wJ (dx_lk lv 1) (fun y => dx_W (tb_Z L xs) d 124 22 lv (.long y :: st) σ Q) := r_lload_n (k := 1) (hz_124.trans rfl)
theorem w_124_22 {x : Int64} : dx_W (tb_Z L xs) d 124 22 lv [.long x] σ Q ↔ Q (.inl (some (.long x))) σ := r_lreturn (hz_124.trans rfl) rfl
theorem hz_125 {pc : Nat} : (tb_Z L xs).1 125 pc = dx_at tb_m125 pc := rfl
theorem w_125_0 : dx_W (tb_Z L xs) d 125 0 lv st σ Q ↔ wJ (dx_lk lv 1) (fun y => dx_W (tb_Z L xs) d 125 1 lv (.long y :: st) σ Q) := r_lload_n (k := 1) (hz_125.trans rfl)
theorem w_125_1 : dx_W (tb_Z L xs) d 125 1 lv st σ Q ↔ dx_W (tb_Z L xs) d 125 4 lv (.long (-999999999) :: st) σ Q := r_ldc2_w (hz_125.trans rfl)
theorem w_125_4 {x y : Int64} : dx_W (tb_Z L xs) d 125 4 lv (.long y :: .long x :: st) σ Q ↔ dx_W (tb_Z L xs) d 125 5 lv (.int (lg_cmp x y) :: st) σ Q := r_lcmp (hz_125.trans rfl)
theorem w_125_5 {x : Int32} : dx_W (tb_Z L xs) d 125 5 lv (.int x :: st) σ Q ↔ (if x < 0 then dx_W (tb_Z L xs) d 125 16 lv st σ Q else dx_W (tb_Z L xs) d 125 8 lv st σ Q) := r_if_lt (off := 11) (t := 16) (hz_125.trans rfl) (by decide)
theorem w_125_8 : dx_W (tb_Z L xs) d 125 8 lv st σ Q ↔ wJ (dx_lk lv 1) (fun y => dx_W (tb_Z L xs) d 125 9 lv (.long y :: st) σ Q) := r_lload_n (k := 1) (hz_125.trans rfl)
theorem w_125_9 : dx_W (tb_Z L xs) d 125 9 lv st σ Q ↔ dx_W (tb_Z L xs) d 125 12 lv (.long 999999999 :: st) σ Q := r_ldc2_w (hz_125.trans rfl)
theorem w_125_12 {x y : Int64} : dx_W (tb_Z L xs) d 125 12 lv (.long y :: .long x :: st) σ Q ↔ dx_W (tb_Z L xs) d 125 13 lv (.int (lg_cmp x y) :: st) σ Q := r_lcmp (hz_125.trans rfl)
theorem w_125_13 {x : Int32} : dx_W (tb_Z L xs) d 125 13 lv (.int x :: st) σ Q ↔ (if x ≤ 0 then dx_W (tb_Z L xs) d 125 23 lv st σ Q else dx_W (tb_Z L xs) d 125 16 lv st σ Q) := r_if_le (off := 10) (t := 23) (hz_125.trans rfl) (by decide)
theorem w_125_16 : dx_W (tb_Z L xs) d 125 16 lv st σ Q ↔ wR (dx_lk lv 0) (fun y => dx_W (tb_Z L xs) d 125 17 lv (y :: st) σ Q) := r_aload_n (k := 0) (hz_125.trans rfl)
theorem w_125_17 : dx_W (tb_Z L xs) d 125 17 lv st σ Q ↔ dx_W (tb_Z L xs) d 125 18 lv (.int 3 :: st) σ Q := r_iconst (n := 3) (hz_125.trans rfl)
theorem w_125_18 {u w : Value} : dx_W (tb_Z L xs) d 125 18 lv (u :: w :: st) σ Q ↔ wO (dx_pf σ w 9 34 0 u) (fun σ1 => dx_W (tb_Z L xs) d 125 21 lv st σ1 Q) := r_putfield (f := 0) (hz_125.trans rfl)
theorem w_125_21 : dx_W (tb_Z L xs) d 125 21 lv st σ Q ↔ dx_W (tb_Z L xs) d 125 22 lv (.int 0 :: st) σ Q := r_iconst (n := 0) (hz_125.trans rfl)
theorem w_125_22 {x : Int32} : dx_W (tb_Z L xs) d 125 22 lv [.int x] σ Q ↔ narrow .boolean (.int x) = .int x ∧ Q (.inl (some (.int x))) σ := c_ireturn (hz_125.trans rfl) rfl
theorem w_125_23 : dx_W (tb_Z L xs) d 125 23 lv st σ Q ↔ wR (dx_lk lv 0) (fun y => dx_W (tb_Z L xs) d 125 24 lv (y :: st) σ Q) := r_aload_n (k := 0) (hz_125.trans rfl)
theorem w_125_24 : dx_W (tb_Z L xs) d 125 24 lv st σ Q ↔ wJ (dx_lk lv 1) (fun y => dx_W (tb_Z L xs) d 125 25 lv (.long y :: st) σ Q) := r_lload_n (k := 1) (hz_125.trans rfl)
theorem w_125_25 {x : Int64} : dx_W (tb_Z L xs) d 125 25 lv (.long x :: st) σ Q ↔ dx_W (tb_Z L xs) d 125 26 lv (.int x.toInt32 :: st) σ Q := r_l2i (hz_125.trans rfl)
theorem w_125_26 {u w : Value} : dx_W (tb_Z L xs) d 125 26 lv (u :: w :: st) σ Q ↔ wO (dx_pf σ w 9 38 0 u) (fun σ1 => dx_W (tb_Z L xs) d 125 29 lv st σ1 Q) := r_putfield (f := 0) (hz_125.trans rfl)
theorem w_125_29 : dx_W (tb_Z L xs) d 125 29 lv st σ Q ↔ wR (dx_lk lv 0) (fun y => dx_W (tb_Z L xs) d 125 30 lv (y :: st) σ Q) := r_aload_n (k := 0) (hz_125.trans rfl)
theorem w_125_30 : dx_W (tb_Z L xs) d 125 30 lv st σ Q ↔ wI (dx_lk lv 3) (fun y => dx_W (tb_Z L xs) d 125 31 lv (.int y :: st) σ Q) := r_iload_n (k := 3) (hz_125.trans rfl)
theorem w_125_31 {u w : Value} : dx_W (tb_Z L xs) d 125 31 lv (u :: w :: st) σ Q ↔ wO (dx_pf σ w 9 39 0 u) (fun σ1 => dx_W (tb_Z L xs) d 125 34 lv st σ1 Q) := r_putfield (f := 0) (hz_125.trans rfl)
theorem w_125_34 : dx_W (tb_Z L xs) d 125 34 lv st σ Q ↔ dx_W (tb_Z L xs) d 125 35 lv (.int 1 :: st) σ Q := r_iconst (n := 1) (hz_125.trans rfl)
theorem w_125_35 {x : Int32} : dx_W (tb_Z L xs) d 125 35 lv [.int x] σ Q ↔ narrow .boolean (.int x) = .int x ∧ Q (.inl (some (.int x))) σ := c_ireturn (hz_125.trans rfl) rfl
theorem hz_126 {pc : Nat} : (tb_Z L xs).1 126 pc = dx_at tb_m126 pc := rfl
theorem w_126_0 : dx_W (tb_Z L xs) d 126 0 lv st σ Q ↔ wI (dx_lk lv 3) (fun y => dx_W (tb_Z L xs) d 126 1 lv (.int y :: st) σ Q) := r_iload_n (k := 3) (hz_126.trans rfl)
theorem w_126_1 : dx_W (tb_Z L xs) d 126 1 lv st σ Q ↔ wI (dx_lk lv 6) (fun y => dx_W (tb_Z L xs) d 126 3 lv (.int y :: st) σ Q) := r_iload (k := 6) (hz_126.trans rfl)
theorem w_126_3 {x y : Int32} : dx_W (tb_Z L xs) d 126 3 lv (.int y :: .int x :: st) σ Q ↔ (if x ≤ y then dx_W (tb_Z L xs) d 126 10 lv st σ Q else dx_W (tb_Z L xs) d 126 6 lv st σ Q) := r_ic_le (off := 7) (t := 10) (hz_126.trans rfl) (by decide)
theorem w_126_6 : dx_W (tb_Z L xs) d 126 6 lv st σ Q ↔ wI (dx_lk lv 3) (fun y => dx_W (tb_Z L xs) d 126 7 lv (.int y :: st) σ Q) := r_iload_n (k := 3) (hz_126.trans rfl)
theorem w_126_7 : dx_W (tb_Z L xs) d 126 7 lv st σ Q ↔ dx_W (tb_Z L xs) d 126 12 lv st σ Q := r_goto (off := 5) (t := 12) (hz_126.trans rfl) (by decide)
theorem w_126_10 : dx_W (tb_Z L xs) d 126 10 lv st σ Q ↔ wI (dx_lk lv 6) (fun y => dx_W (tb_Z L xs) d 126 12 lv (.int y :: st) σ Q) := r_iload (k := 6) (hz_126.trans rfl)
theorem w_126_12 {x : Int32} : dx_W (tb_Z L xs) d 126 12 lv (.int x :: st) σ Q ↔ dx_W (tb_Z L xs) d 126 14 (dx_s1 lv 7 (.int x)) st σ Q := r_istore (k := 7) (hz_126.trans rfl) (show 7 < tb_l 126 by decide)
theorem w_126_14 : dx_W (tb_Z L xs) d 126 14 lv st σ Q ↔ wR (dx_lk lv 0) (fun y => dx_W (tb_Z L xs) d 126 15 lv (y :: st) σ Q) := r_aload_n (k := 0) (hz_126.trans rfl)
theorem w_126_15 {w : Value} : dx_W (tb_Z L xs) d 126 15 lv (w :: st) σ Q ↔ wO (dx_gf (tb_K L xs) σ w 9 4) (fun y => dx_W (tb_Z L xs) d 126 18 lv (y :: st) σ Q) := r_getfield (hz_126.trans rfl)
theorem w_126_18 : dx_W (tb_Z L xs) d 126 18 lv st σ Q ↔ wI (dx_lk lv 7) (fun y => dx_W (tb_Z L xs) d 126 20 lv (.int y :: st) σ Q) := r_iload (k := 7) (hz_126.trans rfl)
theorem w_126_20 {x y : Int32} : dx_W (tb_Z L xs) d 126 20 lv (.int y :: .int x :: st) σ Q ↔ (if x ≤ y then dx_W (tb_Z L xs) d 126 29 lv st σ Q else dx_W (tb_Z L xs) d 126 23 lv st σ Q) := r_ic_le (off := 9) (t := 29) (hz_126.trans rfl) (by decide)
theorem w_126_23 : dx_W (tb_Z L xs) d 126 23 lv st σ Q ↔ wR (dx_lk lv 0) (fun y => dx_W (tb_Z L xs) d 126 24 lv (y :: st) σ Q) := r_aload_n (k := 0) (hz_126.trans rfl)
theorem w_126_24 {w : Value} : dx_W (tb_Z L xs) d 126 24 lv (w :: st) σ Q ↔ wO (dx_gf (tb_K L xs) σ w 9 4) (fun y => dx_W (tb_Z L xs) d 126 27 lv (y :: st) σ Q) := r_getfield (hz_126.trans rfl)
theorem w_126_27 {x : Int32} : dx_W (tb_Z L xs) d 126 27 lv (.int x :: st) σ Q ↔ dx_W (tb_Z L xs) d 126 29 (dx_s1 lv 7 (.int x)) st σ Q := r_istore (k := 7) (hz_126.trans rfl) (show 7 < tb_l 126 by decide)
theorem w_126_29 : dx_W (tb_Z L xs) d 126 29 lv st σ Q ↔ wI (dx_lk lv 3) (fun y => dx_W (tb_Z L xs) d 126 30 lv (.int y :: st) σ Q) := r_iload_n (k := 3) (hz_126.trans rfl)
theorem w_126_30 : dx_W (tb_Z L xs) d 126 30 lv st σ Q ↔ wI (dx_lk lv 6) (fun y => dx_W (tb_Z L xs) d 126 32 lv (.int y :: st) σ Q) := r_iload (k := 6) (hz_126.trans rfl)
theorem w_126_32 {x y : Int32} : dx_W (tb_Z L xs) d 126 32 lv (.int y :: .int x :: st) σ Q ↔ dx_W (tb_Z L xs) d 126 33 lv (.int (x + y) :: st) σ Q := r_iadd (hz_126.trans rfl)
theorem w_126_33 : dx_W (tb_Z L xs) d 126 33 lv st σ Q ↔ wI (dx_lk lv 7) (fun y => dx_W (tb_Z L xs) d 126 35 lv (.int y :: st) σ Q) := r_iload (k := 7) (hz_126.trans rfl)
theorem w_126_35 {x y : Int32} : dx_W (tb_Z L xs) d 126 35 lv (.int y :: .int x :: st) σ Q ↔ (if y ≤ x then dx_W (tb_Z L xs) d 126 45 lv st σ Q else dx_W (tb_Z L xs) d 126 38 lv st σ Q) := r_ic_ge (off := 10) (t := 45) (hz_126.trans rfl) (by decide)
theorem w_126_38 : dx_W (tb_Z L xs) d 126 38 lv st σ Q ↔ wI (dx_lk lv 3) (fun y => dx_W (tb_Z L xs) d 126 39 lv (.int y :: st) σ Q) := r_iload_n (k := 3) (hz_126.trans rfl)
theorem w_126_39 : dx_W (tb_Z L xs) d 126 39 lv st σ Q ↔ wI (dx_lk lv 6) (fun y => dx_W (tb_Z L xs) d 126 41 lv (.int y :: st) σ Q) := r_iload (k := 6) (hz_126.trans rfl)
theorem w_126_41 {x y : Int32} : dx_W (tb_Z L xs) d 126 41 lv (.int y :: .int x :: st) σ Q ↔ dx_W (tb_Z L xs) d 126 42 lv (.int (x + y) :: st) σ Q := r_iadd (hz_126.trans rfl)
theorem w_126_42 : dx_W (tb_Z L xs) d 126 42 lv st σ Q ↔ dx_W (tb_Z L xs) d 126 47 lv st σ Q := r_goto (off := 5) (t := 47) (hz_126.trans rfl) (by decide)
theorem w_126_45 : dx_W (tb_Z L xs) d 126 45 lv st σ Q ↔ wI (dx_lk lv 7) (fun y => dx_W (tb_Z L xs) d 126 47 lv (.int y :: st) σ Q) := r_iload (k := 7) (hz_126.trans rfl)
theorem w_126_47 {x : Int32} : dx_W (tb_Z L xs) d 126 47 lv (.int x :: st) σ Q ↔ dx_W (tb_Z L xs) d 126 49 (dx_s1 lv 8 (.int x)) st σ Q := r_istore (k := 8) (hz_126.trans rfl) (show 8 < tb_l 126 by decide)
theorem w_126_49 : dx_W (tb_Z L xs) d 126 49 lv st σ Q ↔ wR (dx_lk lv 0) (fun y => dx_W (tb_Z L xs) d 126 50 lv (y :: st) σ Q) := r_aload_n (k := 0) (hz_126.trans rfl)
theorem w_126_50 : dx_W (tb_Z L xs) d 126 50 lv st σ Q ↔ wJ (dx_lk lv 1) (fun y => dx_W (tb_Z L xs) d 126 51 lv (.long y :: st) σ Q) := r_lload_n (k := 1) (hz_126.trans rfl)
theorem w_126_51 : dx_W (tb_Z L xs) d 126 51 lv st σ Q ↔ wJ (dx_lk lv 4) (fun y => dx_W (tb_Z L xs) d 126 53 lv (.long y :: st) σ Q) := r_lload (k := 4) (hz_126.trans rfl)
theorem w_126_53 {x y : Int64} : dx_W (tb_Z L xs) d 126 53 lv (.long y :: .long x :: st) σ Q ↔ dx_W (tb_Z L xs) d 126 54 lv (.long (x * y) :: st) σ Q := r_lmul (hz_126.trans rfl)
theorem w_126_54 : dx_W (tb_Z L xs) d 126 54 lv st σ Q ↔ wI (dx_lk lv 3) (fun y => dx_W (tb_Z L xs) d 126 55 lv (.int y :: st) σ Q) := r_iload_n (k := 3) (hz_126.trans rfl)
theorem w_126_55 : dx_W (tb_Z L xs) d 126 55 lv st σ Q ↔ wI (dx_lk lv 6) (fun y => dx_W (tb_Z L xs) d 126 57 lv (.int y :: st) σ Q) := r_iload (k := 6) (hz_126.trans rfl)
theorem w_126_57 {x y : Int32} : dx_W (tb_Z L xs) d 126 57 lv (.int y :: .int x :: st) σ Q ↔ dx_W (tb_Z L xs) d 126 58 lv (.int (x + y) :: st) σ Q := r_iadd (hz_126.trans rfl)
theorem w_126_58 : dx_W (tb_Z L xs) d 126 58 lv st σ Q ↔ wI (dx_lk lv 8) (fun y => dx_W (tb_Z L xs) d 126 60 lv (.int y :: st) σ Q) := r_iload (k := 8) (hz_126.trans rfl)
theorem w_126_60 {x y : Int32} : dx_W (tb_Z L xs) d 126 60 lv (.int y :: .int x :: st) σ Q ↔ dx_W (tb_Z L xs) d 126 61 lv (.int (x - y) :: st) σ Q := r_isub (hz_126.trans rfl)
theorem w_126_61 {v0 : Value}  : dx_W (tb_Z L xs) d 126 61 lv (v0 :: st) σ Q ↔ dx_ct st ≤ 8 ∧ dx_M (tb_Z L xs) d 124 [v0] σ (wK (tb_Z L xs) d 126 64 lv st Q) := c_calls (av := [v0]) (hz_126.trans rfl)
theorem w_126_64 {x y : Int64} : dx_W (tb_Z L xs) d 126 64 lv (.long y :: .long x :: st) σ Q ↔ ¬ y = 0 ∧ dx_W (tb_Z L xs) d 126 65 lv (.long (x / y) :: st) σ Q := c_ldiv (hz_126.trans rfl)
theorem w_126_65 : dx_W (tb_Z L xs) d 126 65 lv st σ Q ↔ wI (dx_lk lv 8) (fun y => dx_W (tb_Z L xs) d 126 67 lv (.int y :: st) σ Q) := r_iload (k := 8) (hz_126.trans rfl)
theorem w_126_67 {v0 v1 v2 : Value}  : dx_W (tb_Z L xs) d 126 67 lv (v2 :: v1 :: v0 :: st) σ Q ↔ (dx_ct st ≤ 8 ∧ dx_ci (tb_K L xs) σ v0 = some 9) ∧ dx_M (tb_Z L xs) d 125 [v0, v1, v2] σ (wK (tb_Z L xs) d 126 70 lv st Q) := c_callv (av := [v1, v2]) (hz_126.trans rfl)
theorem w_126_70 {x : Int32} : dx_W (tb_Z L xs) d 126 70 lv [.int x] σ Q ↔ narrow .boolean (.int x) = .int x ∧ Q (.inl (some (.int x))) σ := c_ireturn (hz_126.trans rfl) rfl
theorem hz_127 {pc : Nat} : (tb_Z L xs).1 127 pc = dx_at tb_m127 pc := rfl
theorem w_127_0 : dx_W (tb_Z L xs) d 127 0 lv st σ Q ↔ wJ (dx_lk lv 4) (fun y => dx_W (tb_Z L xs) d 127 2 lv (.long y :: st) σ Q) := r_lload (k := 4) (hz_127.trans rfl)
theorem w_127_2 : dx_W (tb_Z L xs) d 127 2 lv st σ Q ↔ dx_W (tb_Z L xs) d 127 3 lv (.long 0 :: st) σ Q := r_lconst (n := 0) (hz_127.trans rfl)
theorem w_127_3 {x y : Int64} : dx_W (tb_Z L xs) d 127 3 lv (.long y :: .long x :: st) σ Q ↔ dx_W (tb_Z L xs) d 127 4 lv (.int (lg_cmp x y) :: st) σ Q := r_lcmp (hz_127.trans rfl)
theorem w_127_4 {x : Int32} : dx_W (tb_Z L xs) d 127 4 lv (.int x :: st) σ Q ↔ (if ¬ x = 0 then dx_W (tb_Z L xs) d 127 14 lv st σ Q else dx_W (tb_Z L xs) d 127 7 lv st σ Q) := r_if_ne (off := 10) (t := 14) (hz_127.trans rfl) (by decide)
theorem w_127_7 : dx_W (tb_Z L xs) d 127 7 lv st σ Q ↔ wR (dx_lk lv 0) (fun y => dx_W (tb_Z L xs) d 127 8 lv (y :: st) σ Q) := r_aload_n (k := 0) (hz_127.trans rfl)
theorem w_127_8 : dx_W (tb_Z L xs) d 127 8 lv st σ Q ↔ dx_W (tb_Z L xs) d 127 9 lv (.int 2 :: st) σ Q := r_iconst (n := 2) (hz_127.trans rfl)
theorem w_127_9 {u w : Value} : dx_W (tb_Z L xs) d 127 9 lv (u :: w :: st) σ Q ↔ wO (dx_pf σ w 9 34 0 u) (fun σ1 => dx_W (tb_Z L xs) d 127 12 lv st σ1 Q) := r_putfield (f := 0) (hz_127.trans rfl)
theorem w_127_12 : dx_W (tb_Z L xs) d 127 12 lv st σ Q ↔ dx_W (tb_Z L xs) d 127 13 lv (.int 0 :: st) σ Q := r_iconst (n := 0) (hz_127.trans rfl)
theorem w_127_13 {x : Int32} : dx_W (tb_Z L xs) d 127 13 lv [.int x] σ Q ↔ narrow .boolean (.int x) = .int x ∧ Q (.inl (some (.int x))) σ := c_ireturn (hz_127.trans rfl) rfl
theorem w_127_14 : dx_W (tb_Z L xs) d 127 14 lv st σ Q ↔ wR (dx_lk lv 0) (fun y => dx_W (tb_Z L xs) d 127 15 lv (y :: st) σ Q) := r_aload_n (k := 0) (hz_127.trans rfl)
theorem w_127_15 : dx_W (tb_Z L xs) d 127 15 lv st σ Q ↔ wJ (dx_lk lv 1) (fun y => dx_W (tb_Z L xs) d 127 16 lv (.long y :: st) σ Q) := r_lload_n (k := 1) (hz_127.trans rfl)
theorem w_127_16 : dx_W (tb_Z L xs) d 127 16 lv st σ Q ↔ wI (dx_lk lv 6) (fun y => dx_W (tb_Z L xs) d 127 18 lv (.int y :: st) σ Q) := r_iload (k := 6) (hz_127.trans rfl)
theorem w_127_18 : dx_W (tb_Z L xs) d 127 18 lv st σ Q ↔ wR (dx_lk lv 0) (fun y => dx_W (tb_Z L xs) d 127 19 lv (y :: st) σ Q) := r_aload_n (k := 0) (hz_127.trans rfl)
theorem w_127_19 {w : Value} : dx_W (tb_Z L xs) d 127 19 lv (w :: st) σ Q ↔ wO (dx_gf (tb_K L xs) σ w 9 4) (fun y => dx_W (tb_Z L xs) d 127 22 lv (y :: st) σ Q) := r_getfield (hz_127.trans rfl)
theorem w_127_22 {x y : Int32} : dx_W (tb_Z L xs) d 127 22 lv (.int y :: .int x :: st) σ Q ↔ dx_W (tb_Z L xs) d 127 23 lv (.int (x + y) :: st) σ Q := r_iadd (hz_127.trans rfl)
theorem w_127_23 {v0 : Value}  : dx_W (tb_Z L xs) d 127 23 lv (v0 :: st) σ Q ↔ dx_ct st ≤ 8 ∧ dx_M (tb_Z L xs) d 124 [v0] σ (wK (tb_Z L xs) d 127 26 lv st Q) := c_calls (av := [v0]) (hz_127.trans rfl)
theorem w_127_26 {x y : Int64} : dx_W (tb_Z L xs) d 127 26 lv (.long y :: .long x :: st) σ Q ↔ dx_W (tb_Z L xs) d 127 27 lv (.long (x * y) :: st) σ Q := r_lmul (hz_127.trans rfl)
theorem w_127_27 : dx_W (tb_Z L xs) d 127 27 lv st σ Q ↔ wJ (dx_lk lv 4) (fun y => dx_W (tb_Z L xs) d 127 29 lv (.long y :: st) σ Q) := r_lload (k := 4) (hz_127.trans rfl)
theorem w_127_29 : dx_W (tb_Z L xs) d 127 29 lv st σ Q ↔ wI (dx_lk lv 3) (fun y => dx_W (tb_Z L xs) d 127 30 lv (.int y :: st) σ Q) := r_iload_n (k := 3) (hz_127.trans rfl)
theorem w_127_30 {v0 : Value}  : dx_W (tb_Z L xs) d 127 30 lv (v0 :: st) σ Q ↔ dx_ct st ≤ 8 ∧ dx_M (tb_Z L xs) d 124 [v0] σ (wK (tb_Z L xs) d 127 33 lv st Q) := c_calls (av := [v0]) (hz_127.trans rfl)
theorem w_127_33 {x y : Int64} : dx_W (tb_Z L xs) d 127 33 lv (.long y :: .long x :: st) σ Q ↔ dx_W (tb_Z L xs) d 127 34 lv (.long (x * y) :: st) σ Q := r_lmul (hz_127.trans rfl)
theorem w_127_34 {x y : Int64} : dx_W (tb_Z L xs) d 127 34 lv (.long y :: .long x :: st) σ Q ↔ ¬ y = 0 ∧ dx_W (tb_Z L xs) d 127 35 lv (.long (x / y) :: st) σ Q := c_ldiv (hz_127.trans rfl)
theorem w_127_35 : dx_W (tb_Z L xs) d 127 35 lv st σ Q ↔ wR (dx_lk lv 0) (fun y => dx_W (tb_Z L xs) d 127 36 lv (y :: st) σ Q) := r_aload_n (k := 0) (hz_127.trans rfl)
theorem w_127_36 {w : Value} : dx_W (tb_Z L xs) d 127 36 lv (w :: st) σ Q ↔ wO (dx_gf (tb_K L xs) σ w 9 4) (fun y => dx_W (tb_Z L xs) d 127 39 lv (y :: st) σ Q) := r_getfield (hz_127.trans rfl)
theorem w_127_39 {v0 v1 v2 : Value}  : dx_W (tb_Z L xs) d 127 39 lv (v2 :: v1 :: v0 :: st) σ Q ↔ (dx_ct st ≤ 8 ∧ dx_ci (tb_K L xs) σ v0 = some 9) ∧ dx_M (tb_Z L xs) d 125 [v0, v1, v2] σ (wK (tb_Z L xs) d 127 42 lv st Q) := c_callv (av := [v1, v2]) (hz_127.trans rfl)
theorem w_127_42 {x : Int32} : dx_W (tb_Z L xs) d 127 42 lv [.int x] σ Q ↔ narrow .boolean (.int x) = .int x ∧ Q (.inl (some (.int x))) σ := c_ireturn (hz_127.trans rfl) rfl
theorem hz_128 {pc : Nat} : (tb_Z L xs).1 128 pc = dx_at tb_m128 pc := rfl
theorem w_128_0 : dx_W (tb_Z L xs) d 128 0 lv st σ Q ↔ wI (dx_lk lv 4) (fun y => dx_W (tb_Z L xs) d 128 2 lv (.int y :: st) σ Q) := r_iload (k := 4) (hz_128.trans rfl)
theorem w_128_2 {v0 : Value}  : dx_W (tb_Z L xs) d 128 2 lv (v0 :: st) σ Q ↔ dx_ct st ≤ 8 ∧ dx_M (tb_Z L xs) d 124 [v0] σ (wK (tb_Z L xs) d 128 5 lv st Q) := c_calls (av := [v0]) (hz_128.trans rfl)
theorem w_128_5 {x : Int64} : dx_W (tb_Z L xs) d 128 5 lv (.long x :: st) σ Q ↔ dx_W (tb_Z L xs) d 128 7 (dx_s2 lv 5 (.long x)) st σ Q := r_lstore (k := 5) (hz_128.trans rfl) (show 5 + 1 < tb_l 128 by decide)
theorem w_128_7 : dx_W (tb_Z L xs) d 128 7 lv st σ Q ↔ wI (dx_lk lv 3) (fun y => dx_W (tb_Z L xs) d 128 8 lv (.int y :: st) σ Q) := r_iload_n (k := 3) (hz_128.trans rfl)
theorem w_128_8 {x : Int32} : dx_W (tb_Z L xs) d 128 8 lv (.int x :: st) σ Q ↔ dx_W (tb_Z L xs) d 128 9 lv (.long x.toInt64 :: st) σ Q := r_i2l (hz_128.trans rfl)
theorem w_128_9 : dx_W (tb_Z L xs) d 128 9 lv st σ Q ↔ wJ (dx_lk lv 5) (fun y => dx_W (tb_Z L xs) d 128 11 lv (.long y :: st) σ Q) := r_lload (k := 5) (hz_128.trans rfl)
theorem w_128_11 {x y : Int64} : dx_W (tb_Z L xs) d 128 11 lv (.long y :: .long x :: st) σ Q ↔ ¬ y = 0 ∧ dx_W (tb_Z L xs) d 128 12 lv (.long (x - x / y * y) :: st) σ Q := c_lrem (hz_128.trans rfl)
theorem w_128_12 : dx_W (tb_Z L xs) d 128 12 lv st σ Q ↔ dx_W (tb_Z L xs) d 128 13 lv (.long 0 :: st) σ Q := r_lconst (n := 0) (hz_128.trans rfl)
theorem w_128_13 {x y : Int64} : dx_W (tb_Z L xs) d 128 13 lv (.long y :: .long x :: st) σ Q ↔ dx_W (tb_Z L xs) d 128 14 lv (.int (lg_cmp x y) :: st) σ Q := r_lcmp (hz_128.trans rfl)
theorem w_128_14 {x : Int32} : dx_W (tb_Z L xs) d 128 14 lv (.int x :: st) σ Q ↔ (if ¬ x = 0 then dx_W (tb_Z L xs) d 128 41 lv st σ Q else dx_W (tb_Z L xs) d 128 17 lv st σ Q) := r_if_ne (off := 27) (t := 41) (hz_128.trans rfl) (by decide)
theorem w_128_17 : dx_W (tb_Z L xs) d 128 17 lv st σ Q ↔ wI (dx_lk lv 3) (fun y => dx_W (tb_Z L xs) d 128 18 lv (.int y :: st) σ Q) := r_iload_n (k := 3) (hz_128.trans rfl)
theorem w_128_18 {x : Int32} : dx_W (tb_Z L xs) d 128 18 lv (.int x :: st) σ Q ↔ dx_W (tb_Z L xs) d 128 19 lv (.long x.toInt64 :: st) σ Q := r_i2l (hz_128.trans rfl)
theorem w_128_19 : dx_W (tb_Z L xs) d 128 19 lv st σ Q ↔ wJ (dx_lk lv 5) (fun y => dx_W (tb_Z L xs) d 128 21 lv (.long y :: st) σ Q) := r_lload (k := 5) (hz_128.trans rfl)
theorem w_128_21 {x y : Int64} : dx_W (tb_Z L xs) d 128 21 lv (.long y :: .long x :: st) σ Q ↔ ¬ y = 0 ∧ dx_W (tb_Z L xs) d 128 22 lv (.long (x / y) :: st) σ Q := c_ldiv (hz_128.trans rfl)
theorem w_128_22 : dx_W (tb_Z L xs) d 128 22 lv st σ Q ↔ dx_W (tb_Z L xs) d 128 25 lv (.long (-99) :: st) σ Q := r_ldc2_w (hz_128.trans rfl)
theorem w_128_25 {x y : Int64} : dx_W (tb_Z L xs) d 128 25 lv (.long y :: .long x :: st) σ Q ↔ dx_W (tb_Z L xs) d 128 26 lv (.int (lg_cmp x y) :: st) σ Q := r_lcmp (hz_128.trans rfl)
theorem w_128_26 {x : Int32} : dx_W (tb_Z L xs) d 128 26 lv (.int x :: st) σ Q ↔ (if x < 0 then dx_W (tb_Z L xs) d 128 41 lv st σ Q else dx_W (tb_Z L xs) d 128 29 lv st σ Q) := r_if_lt (off := 15) (t := 41) (hz_128.trans rfl) (by decide)
theorem w_128_29 : dx_W (tb_Z L xs) d 128 29 lv st σ Q ↔ wI (dx_lk lv 3) (fun y => dx_W (tb_Z L xs) d 128 30 lv (.int y :: st) σ Q) := r_iload_n (k := 3) (hz_128.trans rfl)
theorem w_128_30 {x : Int32} : dx_W (tb_Z L xs) d 128 30 lv (.int x :: st) σ Q ↔ dx_W (tb_Z L xs) d 128 31 lv (.long x.toInt64 :: st) σ Q := r_i2l (hz_128.trans rfl)
theorem w_128_31 : dx_W (tb_Z L xs) d 128 31 lv st σ Q ↔ wJ (dx_lk lv 5) (fun y => dx_W (tb_Z L xs) d 128 33 lv (.long y :: st) σ Q) := r_lload (k := 5) (hz_128.trans rfl)
theorem w_128_33 {x y : Int64} : dx_W (tb_Z L xs) d 128 33 lv (.long y :: .long x :: st) σ Q ↔ ¬ y = 0 ∧ dx_W (tb_Z L xs) d 128 34 lv (.long (x / y) :: st) σ Q := c_ldiv (hz_128.trans rfl)
theorem w_128_34 : dx_W (tb_Z L xs) d 128 34 lv st σ Q ↔ dx_W (tb_Z L xs) d 128 37 lv (.long 99 :: st) σ Q := r_ldc2_w (hz_128.trans rfl)
theorem w_128_37 {x y : Int64} : dx_W (tb_Z L xs) d 128 37 lv (.long y :: .long x :: st) σ Q ↔ dx_W (tb_Z L xs) d 128 38 lv (.int (lg_cmp x y) :: st) σ Q := r_lcmp (hz_128.trans rfl)
theorem w_128_38 {x : Int32} : dx_W (tb_Z L xs) d 128 38 lv (.int x :: st) σ Q ↔ (if x ≤ 0 then dx_W (tb_Z L xs) d 128 48 lv st σ Q else dx_W (tb_Z L xs) d 128 41 lv st σ Q) := r_if_le (off := 10) (t := 48) (hz_128.trans rfl) (by decide)
theorem w_128_41 : dx_W (tb_Z L xs) d 128 41 lv st σ Q ↔ wR (dx_lk lv 0) (fun y => dx_W (tb_Z L xs) d 128 42 lv (y :: st) σ Q) := r_aload_n (k := 0) (hz_128.trans rfl)
theorem w_128_42 : dx_W (tb_Z L xs) d 128 42 lv st σ Q ↔ dx_W (tb_Z L xs) d 128 43 lv (.int 5 :: st) σ Q := r_iconst (n := 5) (hz_128.trans rfl)
theorem w_128_43 {u w : Value} : dx_W (tb_Z L xs) d 128 43 lv (u :: w :: st) σ Q ↔ wO (dx_pf σ w 9 34 0 u) (fun σ1 => dx_W (tb_Z L xs) d 128 46 lv st σ1 Q) := r_putfield (f := 0) (hz_128.trans rfl)
theorem w_128_46 : dx_W (tb_Z L xs) d 128 46 lv st σ Q ↔ dx_W (tb_Z L xs) d 128 47 lv (.int 0 :: st) σ Q := r_iconst (n := 0) (hz_128.trans rfl)
theorem w_128_47 {x : Int32} : dx_W (tb_Z L xs) d 128 47 lv [.int x] σ Q ↔ narrow .boolean (.int x) = .int x ∧ Q (.inl (some (.int x))) σ := c_ireturn (hz_128.trans rfl) rfl
theorem w_128_48 : dx_W (tb_Z L xs) d 128 48 lv st σ Q ↔ wI (dx_lk lv 3) (fun y => dx_W (tb_Z L xs) d 128 49 lv (.int y :: st) σ Q) := r_iload_n (k := 3) (hz_128.trans rfl)
theorem w_128_49 {x : Int32} : dx_W (tb_Z L xs) d 128 49 lv (.int x :: st) σ Q ↔ dx_W (tb_Z L xs) d 128 50 lv (.long x.toInt64 :: st) σ Q := r_i2l (hz_128.trans rfl)
theorem w_128_50 : dx_W (tb_Z L xs) d 128 50 lv st σ Q ↔ wJ (dx_lk lv 5) (fun y => dx_W (tb_Z L xs) d 128 52 lv (.long y :: st) σ Q) := r_lload (k := 5) (hz_128.trans rfl)
theorem w_128_52 {x y : Int64} : dx_W (tb_Z L xs) d 128 52 lv (.long y :: .long x :: st) σ Q ↔ ¬ y = 0 ∧ dx_W (tb_Z L xs) d 128 53 lv (.long (x / y) :: st) σ Q := c_ldiv (hz_128.trans rfl)
theorem w_128_53 {x : Int64} : dx_W (tb_Z L xs) d 128 53 lv (.long x :: st) σ Q ↔ dx_W (tb_Z L xs) d 128 54 lv (.int x.toInt32 :: st) σ Q := r_l2i (hz_128.trans rfl)
theorem w_128_54 {x : Int32} : dx_W (tb_Z L xs) d 128 54 lv (.int x :: st) σ Q ↔ dx_W (tb_Z L xs) d 128 56 (dx_s1 lv 7 (.int x)) st σ Q := r_istore (k := 7) (hz_128.trans rfl) (show 7 < tb_l 128 by decide)
theorem w_128_56 : dx_W (tb_Z L xs) d 128 56 lv st σ Q ↔ wR (dx_lk lv 0) (fun y => dx_W (tb_Z L xs) d 128 57 lv (y :: st) σ Q) := r_aload_n (k := 0) (hz_128.trans rfl)
theorem w_128_57 : dx_W (tb_Z L xs) d 128 57 lv st σ Q ↔ dx_W (tb_Z L xs) d 128 58 lv (.long 1 :: st) σ Q := r_lconst (n := 1) (hz_128.trans rfl)
theorem w_128_58 : dx_W (tb_Z L xs) d 128 58 lv st σ Q ↔ dx_W (tb_Z L xs) d 128 59 lv (.int 0 :: st) σ Q := r_iconst (n := 0) (hz_128.trans rfl)
theorem w_128_59 {v0 v1 v2 : Value}  : dx_W (tb_Z L xs) d 128 59 lv (v2 :: v1 :: v0 :: st) σ Q ↔ (dx_ct st ≤ 8 ∧ dx_ci (tb_K L xs) σ v0 = some 9) ∧ dx_M (tb_Z L xs) d 125 [v0, v1, v2] σ (wK (tb_Z L xs) d 128 62 lv st Q) := c_callv (av := [v1, v2]) (hz_128.trans rfl)
theorem w_128_62 {x : Int32} : dx_W (tb_Z L xs) d 128 62 lv (.int x :: st) σ Q ↔ dx_W (tb_Z L xs) d 128 64 (dx_s1 lv 8 (.int x)) st σ Q := r_istore (k := 8) (hz_128.trans rfl) (show 8 < tb_l 128 by decide)
theorem w_128_64 : dx_W (tb_Z L xs) d 128 64 lv st σ Q ↔ dx_W (tb_Z L xs) d 128 65 lv (.int 0 :: st) σ Q := r_iconst (n := 0) (hz_128.trans rfl)
theorem w_128_65 {x : Int32} : dx_W (tb_Z L xs) d 128 65 lv (.int x :: st) σ Q ↔ dx_W (tb_Z L xs) d 128 67 (dx_s1 lv 9 (.int x)) st σ Q := r_istore (k := 9) (hz_128.trans rfl) (show 9 < tb_l 128 by decide)
theorem w_128_67 : dx_W (tb_Z L xs) d 128 67 lv st σ Q ↔ wI (dx_lk lv 9) (fun y => dx_W (tb_Z L xs) d 128 69 lv (.int y :: st) σ Q) := r_iload (k := 9) (hz_128.trans rfl)
theorem w_128_69 : dx_W (tb_Z L xs) d 128 69 lv st σ Q ↔ wI (dx_lk lv 7) (fun y => dx_W (tb_Z L xs) d 128 71 lv (.int y :: st) σ Q) := r_iload (k := 7) (hz_128.trans rfl)
theorem w_128_71 {x : Int32} : dx_W (tb_Z L xs) d 128 71 lv (.int x :: st) σ Q ↔ (if 0 ≤ x then dx_W (tb_Z L xs) d 128 80 lv st σ Q else dx_W (tb_Z L xs) d 128 74 lv st σ Q) := r_if_ge (off := 9) (t := 80) (hz_128.trans rfl) (by decide)
theorem w_128_74 : dx_W (tb_Z L xs) d 128 74 lv st σ Q ↔ wI (dx_lk lv 7) (fun y => dx_W (tb_Z L xs) d 128 76 lv (.int y :: st) σ Q) := r_iload (k := 7) (hz_128.trans rfl)
theorem w_128_76 {x : Int32} : dx_W (tb_Z L xs) d 128 76 lv (.int x :: st) σ Q ↔ dx_W (tb_Z L xs) d 128 77 lv (.int (-x) :: st) σ Q := r_ineg (hz_128.trans rfl)
theorem w_128_77 : dx_W (tb_Z L xs) d 128 77 lv st σ Q ↔ dx_W (tb_Z L xs) d 128 82 lv st σ Q := r_goto (off := 5) (t := 82) (hz_128.trans rfl) (by decide)
theorem w_128_80 : dx_W (tb_Z L xs) d 128 80 lv st σ Q ↔ wI (dx_lk lv 7) (fun y => dx_W (tb_Z L xs) d 128 82 lv (.int y :: st) σ Q) := r_iload (k := 7) (hz_128.trans rfl)
theorem w_128_82 {x y : Int32} : dx_W (tb_Z L xs) d 128 82 lv (.int y :: .int x :: st) σ Q ↔ (if y ≤ x then dx_W (tb_Z L xs) d 128 114 lv st σ Q else dx_W (tb_Z L xs) d 128 85 lv st σ Q) := r_ic_ge (off := 32) (t := 114) (hz_128.trans rfl) (by decide)
theorem w_128_85 : dx_W (tb_Z L xs) d 128 85 lv st σ Q ↔ wI (dx_lk lv 8) (fun y => dx_W (tb_Z L xs) d 128 87 lv (.int y :: st) σ Q) := r_iload (k := 8) (hz_128.trans rfl)
theorem w_128_87 {x : Int32} : dx_W (tb_Z L xs) d 128 87 lv (.int x :: st) σ Q ↔ (if x = 0 then dx_W (tb_Z L xs) d 128 114 lv st σ Q else dx_W (tb_Z L xs) d 128 90 lv st σ Q) := r_if_eq (off := 27) (t := 114) (hz_128.trans rfl) (by decide)
theorem w_128_90 : dx_W (tb_Z L xs) d 128 90 lv st σ Q ↔ wR (dx_lk lv 0) (fun y => dx_W (tb_Z L xs) d 128 91 lv (y :: st) σ Q) := r_aload_n (k := 0) (hz_128.trans rfl)
theorem w_128_91 : dx_W (tb_Z L xs) d 128 91 lv st σ Q ↔ wR (dx_lk lv 0) (fun y => dx_W (tb_Z L xs) d 128 92 lv (y :: st) σ Q) := r_aload_n (k := 0) (hz_128.trans rfl)
theorem w_128_92 {w : Value} : dx_W (tb_Z L xs) d 128 92 lv (w :: st) σ Q ↔ wO (dx_gf (tb_K L xs) σ w 9 38) (fun y => dx_W (tb_Z L xs) d 128 95 lv (y :: st) σ Q) := r_getfield (hz_128.trans rfl)
theorem w_128_95 {x : Int32} : dx_W (tb_Z L xs) d 128 95 lv (.int x :: st) σ Q ↔ dx_W (tb_Z L xs) d 128 96 lv (.long x.toInt64 :: st) σ Q := r_i2l (hz_128.trans rfl)
theorem w_128_96 : dx_W (tb_Z L xs) d 128 96 lv st σ Q ↔ wR (dx_lk lv 0) (fun y => dx_W (tb_Z L xs) d 128 97 lv (y :: st) σ Q) := r_aload_n (k := 0) (hz_128.trans rfl)
theorem w_128_97 {w : Value} : dx_W (tb_Z L xs) d 128 97 lv (w :: st) σ Q ↔ wO (dx_gf (tb_K L xs) σ w 9 39) (fun y => dx_W (tb_Z L xs) d 128 100 lv (y :: st) σ Q) := r_getfield (hz_128.trans rfl)
theorem w_128_100 : dx_W (tb_Z L xs) d 128 100 lv st σ Q ↔ wI (dx_lk lv 1) (fun y => dx_W (tb_Z L xs) d 128 101 lv (.int y :: st) σ Q) := r_iload_n (k := 1) (hz_128.trans rfl)
theorem w_128_101 {x : Int32} : dx_W (tb_Z L xs) d 128 101 lv (.int x :: st) σ Q ↔ dx_W (tb_Z L xs) d 128 102 lv (.long x.toInt64 :: st) σ Q := r_i2l (hz_128.trans rfl)
theorem w_128_102 : dx_W (tb_Z L xs) d 128 102 lv st σ Q ↔ wI (dx_lk lv 2) (fun y => dx_W (tb_Z L xs) d 128 103 lv (.int y :: st) σ Q) := r_iload_n (k := 2) (hz_128.trans rfl)
theorem w_128_103 {v0 v1 v2 v3 v4 : Value}  : dx_W (tb_Z L xs) d 128 103 lv (v4 :: v3 :: v2 :: v1 :: v0 :: st) σ Q ↔ (dx_ct st ≤ 8 ∧ dx_ci (tb_K L xs) σ v0 = some 9) ∧ dx_M (tb_Z L xs) d 126 [v0, v1, v2, v3, v4] σ (wK (tb_Z L xs) d 128 106 lv st Q) := c_callv (av := [v1, v2, v3, v4]) (hz_128.trans rfl)
theorem w_128_106 {x : Int32} : dx_W (tb_Z L xs) d 128 106 lv (.int x :: st) σ Q ↔ dx_W (tb_Z L xs) d 128 108 (dx_s1 lv 8 (.int x)) st σ Q := r_istore (k := 8) (hz_128.trans rfl) (show 8 < tb_l 128 by decide)
theorem w_128_108 : dx_W (tb_Z L xs) d 128 108 lv st σ Q ↔ wI (dx_lk lv 9) (fun y => dx_W (tb_Z L xs) d 128 111 (dx_s1 lv 9 (.int (y + 1))) st σ Q) := r_iincv (k := 9) (n := 1) (hz_128.trans rfl) (show 9 < tb_l 128 by decide) (by decide)
theorem w_128_111 : dx_W (tb_Z L xs) d 128 111 lv st σ Q ↔ dx_W (tb_Z L xs) d 128 67 lv st σ Q := r_goto (off := (-44)) (t := 67) (hz_128.trans rfl) (by decide)
theorem w_128_114 : dx_W (tb_Z L xs) d 128 114 lv st σ Q ↔ wI (dx_lk lv 8) (fun y => dx_W (tb_Z L xs) d 128 116 lv (.int y :: st) σ Q) := r_iload (k := 8) (hz_128.trans rfl)
theorem w_128_116 {x : Int32} : dx_W (tb_Z L xs) d 128 116 lv (.int x :: st) σ Q ↔ (if x = 0 then dx_W (tb_Z L xs) d 128 141 lv st σ Q else dx_W (tb_Z L xs) d 128 119 lv st σ Q) := r_if_eq (off := 25) (t := 141) (hz_128.trans rfl) (by decide)
theorem w_128_119 : dx_W (tb_Z L xs) d 128 119 lv st σ Q ↔ wI (dx_lk lv 7) (fun y => dx_W (tb_Z L xs) d 128 121 lv (.int y :: st) σ Q) := r_iload (k := 7) (hz_128.trans rfl)
theorem w_128_121 {x : Int32} : dx_W (tb_Z L xs) d 128 121 lv (.int x :: st) σ Q ↔ (if 0 ≤ x then dx_W (tb_Z L xs) d 128 141 lv st σ Q else dx_W (tb_Z L xs) d 128 124 lv st σ Q) := r_if_ge (off := 20) (t := 141) (hz_128.trans rfl) (by decide)
theorem w_128_124 : dx_W (tb_Z L xs) d 128 124 lv st σ Q ↔ wR (dx_lk lv 0) (fun y => dx_W (tb_Z L xs) d 128 125 lv (y :: st) σ Q) := r_aload_n (k := 0) (hz_128.trans rfl)
theorem w_128_125 : dx_W (tb_Z L xs) d 128 125 lv st σ Q ↔ dx_W (tb_Z L xs) d 128 126 lv (.long 1 :: st) σ Q := r_lconst (n := 1) (hz_128.trans rfl)
theorem w_128_126 : dx_W (tb_Z L xs) d 128 126 lv st σ Q ↔ dx_W (tb_Z L xs) d 128 127 lv (.int 0 :: st) σ Q := r_iconst (n := 0) (hz_128.trans rfl)
theorem w_128_127 : dx_W (tb_Z L xs) d 128 127 lv st σ Q ↔ wR (dx_lk lv 0) (fun y => dx_W (tb_Z L xs) d 128 128 lv (y :: st) σ Q) := r_aload_n (k := 0) (hz_128.trans rfl)
theorem w_128_128 {w : Value} : dx_W (tb_Z L xs) d 128 128 lv (w :: st) σ Q ↔ wO (dx_gf (tb_K L xs) σ w 9 38) (fun y => dx_W (tb_Z L xs) d 128 131 lv (y :: st) σ Q) := r_getfield (hz_128.trans rfl)
theorem w_128_131 {x : Int32} : dx_W (tb_Z L xs) d 128 131 lv (.int x :: st) σ Q ↔ dx_W (tb_Z L xs) d 128 132 lv (.long x.toInt64 :: st) σ Q := r_i2l (hz_128.trans rfl)
theorem w_128_132 : dx_W (tb_Z L xs) d 128 132 lv st σ Q ↔ wR (dx_lk lv 0) (fun y => dx_W (tb_Z L xs) d 128 133 lv (y :: st) σ Q) := r_aload_n (k := 0) (hz_128.trans rfl)
theorem w_128_133 {w : Value} : dx_W (tb_Z L xs) d 128 133 lv (w :: st) σ Q ↔ wO (dx_gf (tb_K L xs) σ w 9 39) (fun y => dx_W (tb_Z L xs) d 128 136 lv (y :: st) σ Q) := r_getfield (hz_128.trans rfl)
theorem w_128_136 {v0 v1 v2 v3 v4 : Value}  : dx_W (tb_Z L xs) d 128 136 lv (v4 :: v3 :: v2 :: v1 :: v0 :: st) σ Q ↔ (dx_ct st ≤ 8 ∧ dx_ci (tb_K L xs) σ v0 = some 9) ∧ dx_M (tb_Z L xs) d 127 [v0, v1, v2, v3, v4] σ (wK (tb_Z L xs) d 128 139 lv st Q) := c_callv (av := [v1, v2, v3, v4]) (hz_128.trans rfl)
theorem w_128_139 {x : Int32} : dx_W (tb_Z L xs) d 128 139 lv (.int x :: st) σ Q ↔ dx_W (tb_Z L xs) d 128 141 (dx_s1 lv 8 (.int x)) st σ Q := r_istore (k := 8) (hz_128.trans rfl) (show 8 < tb_l 128 by decide)
theorem w_128_141 : dx_W (tb_Z L xs) d 128 141 lv st σ Q ↔ wI (dx_lk lv 8) (fun y => dx_W (tb_Z L xs) d 128 143 lv (.int y :: st) σ Q) := r_iload (k := 8) (hz_128.trans rfl)
theorem w_128_143 {x : Int32} : dx_W (tb_Z L xs) d 128 143 lv [.int x] σ Q ↔ narrow .boolean (.int x) = .int x ∧ Q (.inl (some (.int x))) σ := c_ireturn (hz_128.trans rfl) rfl
theorem hz_129 {pc : Nat} : (tb_Z L xs).1 129 pc = dx_at tb_m129 pc := rfl
theorem w_129_0 : dx_W (tb_Z L xs) d 129 0 lv st σ Q ↔ wR (dx_lk lv 0) (fun y => dx_W (tb_Z L xs) d 129 1 lv (y :: st) σ Q) := r_aload_n (k := 0) (hz_129.trans rfl)
theorem w_129_1 {w : Value} : dx_W (tb_Z L xs) d 129 1 lv (w :: st) σ Q ↔ wO (dx_gf (tb_K L xs) σ w 9 15) (fun y => dx_W (tb_Z L xs) d 129 4 lv (y :: st) σ Q) := r_getfield (hz_129.trans rfl)
theorem w_129_4 : dx_W (tb_Z L xs) d 129 4 lv st σ Q ↔ wI (dx_lk lv 1) (fun y => dx_W (tb_Z L xs) d 129 5 lv (.int y :: st) σ Q) := r_iload_n (k := 1) (hz_129.trans rfl)
theorem w_129_5 {w : Value} {y : Int32} : dx_W (tb_Z L xs) d 129 5 lv (.int y :: w :: st) σ Q ↔ wO (dx_ei (tb_K L xs) σ 0 w y) (fun u => dx_W (tb_Z L xs) d 129 6 lv (.int u :: st) σ Q) := r_iaload (hz_129.trans rfl)
theorem w_129_6 {x : Int32} : dx_W (tb_Z L xs) d 129 6 lv (.int x :: st) σ Q ↔ (if 0 ≤ x then dx_W (tb_Z L xs) d 129 17 lv st σ Q else dx_W (tb_Z L xs) d 129 9 lv st σ Q) := r_if_ge (off := 11) (t := 17) (hz_129.trans rfl) (by decide)
theorem w_129_9 : dx_W (tb_Z L xs) d 129 9 lv st σ Q ↔ wR (dx_lk lv 0) (fun y => dx_W (tb_Z L xs) d 129 10 lv (y :: st) σ Q) := r_aload_n (k := 0) (hz_129.trans rfl)
theorem w_129_10 : dx_W (tb_Z L xs) d 129 10 lv st σ Q ↔ dx_W (tb_Z L xs) d 129 12 lv (.int 6 :: st) σ Q := r_bipush (n := 6) (hz_129.trans rfl)
theorem w_129_12 {u w : Value} : dx_W (tb_Z L xs) d 129 12 lv (u :: w :: st) σ Q ↔ wO (dx_pf σ w 9 34 0 u) (fun σ1 => dx_W (tb_Z L xs) d 129 15 lv st σ1 Q) := r_putfield (f := 0) (hz_129.trans rfl)
theorem w_129_15 : dx_W (tb_Z L xs) d 129 15 lv st σ Q ↔ dx_W (tb_Z L xs) d 129 16 lv (.int (-1) :: st) σ Q := r_iconst (n := (-1)) (hz_129.trans rfl)
theorem w_129_16 {x : Int32} : dx_W (tb_Z L xs) d 129 16 lv [.int x] σ Q ↔ Q (.inl (some (.int x))) σ := r_ireturn (hz_129.trans rfl) rfl rfl
theorem w_129_17 : dx_W (tb_Z L xs) d 129 17 lv st σ Q ↔ wR (dx_lk lv 0) (fun y => dx_W (tb_Z L xs) d 129 18 lv (y :: st) σ Q) := r_aload_n (k := 0) (hz_129.trans rfl)
theorem w_129_18 {w : Value} : dx_W (tb_Z L xs) d 129 18 lv (w :: st) σ Q ↔ wO (dx_gf (tb_K L xs) σ w 9 31) (fun y => dx_W (tb_Z L xs) d 129 21 lv (y :: st) σ Q) := r_getfield (hz_129.trans rfl)
theorem w_129_21 : dx_W (tb_Z L xs) d 129 21 lv st σ Q ↔ dx_W (tb_Z L xs) d 129 22 lv (.int 4 :: st) σ Q := r_iconst (n := 4) (hz_129.trans rfl)
theorem w_129_22 {x y : Int32} : dx_W (tb_Z L xs) d 129 22 lv (.int y :: .int x :: st) σ Q ↔ (if ¬ x = y then dx_W (tb_Z L xs) d 129 33 lv st σ Q else dx_W (tb_Z L xs) d 129 25 lv st σ Q) := r_ic_ne (off := 11) (t := 33) (hz_129.trans rfl) (by decide)
theorem w_129_25 : dx_W (tb_Z L xs) d 129 25 lv st σ Q ↔ wR (dx_lk lv 0) (fun y => dx_W (tb_Z L xs) d 129 26 lv (y :: st) σ Q) := r_aload_n (k := 0) (hz_129.trans rfl)
theorem w_129_26 : dx_W (tb_Z L xs) d 129 26 lv st σ Q ↔ dx_W (tb_Z L xs) d 129 28 lv (.int 7 :: st) σ Q := r_bipush (n := 7) (hz_129.trans rfl)
theorem w_129_28 {u w : Value} : dx_W (tb_Z L xs) d 129 28 lv (u :: w :: st) σ Q ↔ wO (dx_pf σ w 9 34 0 u) (fun σ1 => dx_W (tb_Z L xs) d 129 31 lv st σ1 Q) := r_putfield (f := 0) (hz_129.trans rfl)
theorem w_129_31 : dx_W (tb_Z L xs) d 129 31 lv st σ Q ↔ dx_W (tb_Z L xs) d 129 32 lv (.int (-1) :: st) σ Q := r_iconst (n := (-1)) (hz_129.trans rfl)
theorem w_129_32 {x : Int32} : dx_W (tb_Z L xs) d 129 32 lv [.int x] σ Q ↔ Q (.inl (some (.int x))) σ := r_ireturn (hz_129.trans rfl) rfl rfl
theorem w_129_33 : dx_W (tb_Z L xs) d 129 33 lv st σ Q ↔ wR (dx_lk lv 0) (fun y => dx_W (tb_Z L xs) d 129 34 lv (y :: st) σ Q) := r_aload_n (k := 0) (hz_129.trans rfl)
theorem w_129_34_int {x : Int32} : dx_W (tb_Z L xs) d 129 34 lv (.int x :: st) σ Q ↔ dx_W (tb_Z L xs) d 129 35 lv (.int x :: .int x :: st) σ Q := r_dup_int (hz_129.trans rfl)
theorem w_129_34_ref {x : Nat} : dx_W (tb_Z L xs) d 129 34 lv (.ref x :: st) σ Q ↔ dx_W (tb_Z L xs) d 129 35 lv (.ref x :: .ref x :: st) σ Q := r_dup_ref (hz_129.trans rfl)
theorem w_129_34_retAddr {x : Nat} : dx_W (tb_Z L xs) d 129 34 lv (.retAddr x :: st) σ Q ↔ dx_W (tb_Z L xs) d 129 35 lv (.retAddr x :: .retAddr x :: st) σ Q := r_dup_retAddr (hz_129.trans rfl)
theorem w_129_35 {w : Value} : dx_W (tb_Z L xs) d 129 35 lv (w :: st) σ Q ↔ wO (dx_gf (tb_K L xs) σ w 9 30) (fun y => dx_W (tb_Z L xs) d 129 38 lv (y :: st) σ Q) := r_getfield (hz_129.trans rfl)
theorem w_129_38 : dx_W (tb_Z L xs) d 129 38 lv st σ Q ↔ dx_W (tb_Z L xs) d 129 39 lv (.int 1 :: st) σ Q := r_iconst (n := 1) (hz_129.trans rfl)
theorem w_129_39 {x y : Int32} : dx_W (tb_Z L xs) d 129 39 lv (.int y :: .int x :: st) σ Q ↔ dx_W (tb_Z L xs) d 129 40 lv (.int (x - y) :: st) σ Q := r_isub (hz_129.trans rfl)
theorem w_129_40 {u w : Value} : dx_W (tb_Z L xs) d 129 40 lv (u :: w :: st) σ Q ↔ wO (dx_pf σ w 9 30 0 u) (fun σ1 => dx_W (tb_Z L xs) d 129 43 lv st σ1 Q) := r_putfield (f := 0) (hz_129.trans rfl)
theorem w_129_43 : dx_W (tb_Z L xs) d 129 43 lv st σ Q ↔ wR (dx_lk lv 0) (fun y => dx_W (tb_Z L xs) d 129 44 lv (y :: st) σ Q) := r_aload_n (k := 0) (hz_129.trans rfl)
theorem w_129_44 {w : Value} : dx_W (tb_Z L xs) d 129 44 lv (w :: st) σ Q ↔ wO (dx_gf (tb_K L xs) σ w 9 16) (fun y => dx_W (tb_Z L xs) d 129 47 lv (y :: st) σ Q) := r_getfield (hz_129.trans rfl)
theorem w_129_47 : dx_W (tb_Z L xs) d 129 47 lv st σ Q ↔ wI (dx_lk lv 1) (fun y => dx_W (tb_Z L xs) d 129 48 lv (.int y :: st) σ Q) := r_iload_n (k := 1) (hz_129.trans rfl)
theorem w_129_48 {w : Value} {y : Int32} : dx_W (tb_Z L xs) d 129 48 lv (.int y :: w :: st) σ Q ↔ wO (dx_ei (tb_K L xs) σ 0 w y) (fun u => dx_W (tb_Z L xs) d 129 49 lv (.int u :: st) σ Q) := r_iaload (hz_129.trans rfl)
theorem w_129_49 {x : Int32} : dx_W (tb_Z L xs) d 129 49 lv (.int x :: st) σ Q ↔ dx_W (tb_Z L xs) d 129 50 (dx_s1 lv 3 (.int x)) st σ Q := r_istore_n (k := 3) (hz_129.trans rfl) (show 3 < tb_l 129 by decide)
theorem w_129_50 : dx_W (tb_Z L xs) d 129 50 lv st σ Q ↔ wR (dx_lk lv 0) (fun y => dx_W (tb_Z L xs) d 129 51 lv (y :: st) σ Q) := r_aload_n (k := 0) (hz_129.trans rfl)
theorem w_129_51 {w : Value} : dx_W (tb_Z L xs) d 129 51 lv (w :: st) σ Q ↔ wO (dx_gf (tb_K L xs) σ w 9 25) (fun y => dx_W (tb_Z L xs) d 129 54 lv (y :: st) σ Q) := r_getfield (hz_129.trans rfl)
theorem w_129_54 : dx_W (tb_Z L xs) d 129 54 lv st σ Q ↔ wR (dx_lk lv 0) (fun y => dx_W (tb_Z L xs) d 129 55 lv (y :: st) σ Q) := r_aload_n (k := 0) (hz_129.trans rfl)
theorem w_129_55 {w : Value} : dx_W (tb_Z L xs) d 129 55 lv (w :: st) σ Q ↔ wO (dx_gf (tb_K L xs) σ w 9 31) (fun y => dx_W (tb_Z L xs) d 129 58 lv (y :: st) σ Q) := r_getfield (hz_129.trans rfl)
theorem w_129_58 : dx_W (tb_Z L xs) d 129 58 lv st σ Q ↔ wI (dx_lk lv 2) (fun y => dx_W (tb_Z L xs) d 129 59 lv (.int y :: st) σ Q) := r_iload_n (k := 2) (hz_129.trans rfl)
theorem w_129_59 {w : Value} {y : Int32} {u : Int32} : dx_W (tb_Z L xs) d 129 59 lv (.int u :: .int y :: w :: st) σ Q ↔ wO (dx_pi σ 0 w y u) (fun σ1 => dx_W (tb_Z L xs) d 129 60 lv st σ1 Q) := r_iastore (hz_129.trans rfl)
theorem w_129_60 : dx_W (tb_Z L xs) d 129 60 lv st σ Q ↔ wR (dx_lk lv 0) (fun y => dx_W (tb_Z L xs) d 129 61 lv (y :: st) σ Q) := r_aload_n (k := 0) (hz_129.trans rfl)
theorem w_129_61 {w : Value} : dx_W (tb_Z L xs) d 129 61 lv (w :: st) σ Q ↔ wO (dx_gf (tb_K L xs) σ w 9 26) (fun y => dx_W (tb_Z L xs) d 129 64 lv (y :: st) σ Q) := r_getfield (hz_129.trans rfl)
theorem w_129_64 : dx_W (tb_Z L xs) d 129 64 lv st σ Q ↔ wR (dx_lk lv 0) (fun y => dx_W (tb_Z L xs) d 129 65 lv (y :: st) σ Q) := r_aload_n (k := 0) (hz_129.trans rfl)
theorem w_129_65 {w : Value} : dx_W (tb_Z L xs) d 129 65 lv (w :: st) σ Q ↔ wO (dx_gf (tb_K L xs) σ w 9 31) (fun y => dx_W (tb_Z L xs) d 129 68 lv (y :: st) σ Q) := r_getfield (hz_129.trans rfl)
theorem w_129_68 : dx_W (tb_Z L xs) d 129 68 lv st σ Q ↔ wR (dx_lk lv 0) (fun y => dx_W (tb_Z L xs) d 129 69 lv (y :: st) σ Q) := r_aload_n (k := 0) (hz_129.trans rfl)
theorem w_129_69 {w : Value} : dx_W (tb_Z L xs) d 129 69 lv (w :: st) σ Q ↔ wO (dx_gf (tb_K L xs) σ w 9 30) (fun y => dx_W (tb_Z L xs) d 129 72 lv (y :: st) σ Q) := r_getfield (hz_129.trans rfl)
theorem w_129_72 {w : Value} {y : Int32} {u : Int32} : dx_W (tb_Z L xs) d 129 72 lv (.int u :: .int y :: w :: st) σ Q ↔ wO (dx_pi σ 0 w y u) (fun σ1 => dx_W (tb_Z L xs) d 129 73 lv st σ1 Q) := r_iastore (hz_129.trans rfl)
theorem w_129_73 : dx_W (tb_Z L xs) d 129 73 lv st σ Q ↔ wR (dx_lk lv 0) (fun y => dx_W (tb_Z L xs) d 129 74 lv (y :: st) σ Q) := r_aload_n (k := 0) (hz_129.trans rfl)
theorem w_129_74 {w : Value} : dx_W (tb_Z L xs) d 129 74 lv (w :: st) σ Q ↔ wO (dx_gf (tb_K L xs) σ w 9 27) (fun y => dx_W (tb_Z L xs) d 129 77 lv (y :: st) σ Q) := r_getfield (hz_129.trans rfl)
theorem w_129_77 : dx_W (tb_Z L xs) d 129 77 lv st σ Q ↔ wR (dx_lk lv 0) (fun y => dx_W (tb_Z L xs) d 129 78 lv (y :: st) σ Q) := r_aload_n (k := 0) (hz_129.trans rfl)
theorem w_129_78 {w : Value} : dx_W (tb_Z L xs) d 129 78 lv (w :: st) σ Q ↔ wO (dx_gf (tb_K L xs) σ w 9 31) (fun y => dx_W (tb_Z L xs) d 129 81 lv (y :: st) σ Q) := r_getfield (hz_129.trans rfl)
theorem w_129_81 : dx_W (tb_Z L xs) d 129 81 lv st σ Q ↔ wI (dx_lk lv 3) (fun y => dx_W (tb_Z L xs) d 129 82 lv (.int y :: st) σ Q) := r_iload_n (k := 3) (hz_129.trans rfl)
theorem w_129_82 {w : Value} {y : Int32} {u : Int32} : dx_W (tb_Z L xs) d 129 82 lv (.int u :: .int y :: w :: st) σ Q ↔ wO (dx_pi σ 0 w y u) (fun σ1 => dx_W (tb_Z L xs) d 129 83 lv st σ1 Q) := r_iastore (hz_129.trans rfl)
theorem w_129_83 : dx_W (tb_Z L xs) d 129 83 lv st σ Q ↔ wR (dx_lk lv 0) (fun y => dx_W (tb_Z L xs) d 129 84 lv (y :: st) σ Q) := r_aload_n (k := 0) (hz_129.trans rfl)
theorem w_129_84 {w : Value} : dx_W (tb_Z L xs) d 129 84 lv (w :: st) σ Q ↔ wO (dx_gf (tb_K L xs) σ w 9 28) (fun y => dx_W (tb_Z L xs) d 129 87 lv (y :: st) σ Q) := r_getfield (hz_129.trans rfl)
theorem w_129_87 : dx_W (tb_Z L xs) d 129 87 lv st σ Q ↔ wR (dx_lk lv 0) (fun y => dx_W (tb_Z L xs) d 129 88 lv (y :: st) σ Q) := r_aload_n (k := 0) (hz_129.trans rfl)
theorem w_129_88 {w : Value} : dx_W (tb_Z L xs) d 129 88 lv (w :: st) σ Q ↔ wO (dx_gf (tb_K L xs) σ w 9 31) (fun y => dx_W (tb_Z L xs) d 129 91 lv (y :: st) σ Q) := r_getfield (hz_129.trans rfl)
theorem w_129_91 : dx_W (tb_Z L xs) d 129 91 lv st σ Q ↔ wR (dx_lk lv 0) (fun y => dx_W (tb_Z L xs) d 129 92 lv (y :: st) σ Q) := r_aload_n (k := 0) (hz_129.trans rfl)
theorem w_129_92 {w : Value} : dx_W (tb_Z L xs) d 129 92 lv (w :: st) σ Q ↔ wO (dx_gf (tb_K L xs) σ w 9 2) (fun y => dx_W (tb_Z L xs) d 129 95 lv (y :: st) σ Q) := r_getfield (hz_129.trans rfl)
theorem w_129_95 : dx_W (tb_Z L xs) d 129 95 lv st σ Q ↔ wI (dx_lk lv 3) (fun y => dx_W (tb_Z L xs) d 129 96 lv (.int y :: st) σ Q) := r_iload_n (k := 3) (hz_129.trans rfl)
theorem w_129_96 {w : Value} {y : Int32} : dx_W (tb_Z L xs) d 129 96 lv (.int y :: w :: st) σ Q ↔ wO (dx_ei (tb_K L xs) σ 0 w y) (fun u => dx_W (tb_Z L xs) d 129 97 lv (.int u :: st) σ Q) := r_iaload (hz_129.trans rfl)
theorem w_129_97 {w : Value} {y : Int32} {u : Int32} : dx_W (tb_Z L xs) d 129 97 lv (.int u :: .int y :: w :: st) σ Q ↔ wO (dx_pi σ 0 w y u) (fun σ1 => dx_W (tb_Z L xs) d 129 98 lv st σ1 Q) := r_iastore (hz_129.trans rfl)
theorem w_129_98 : dx_W (tb_Z L xs) d 129 98 lv st σ Q ↔ wR (dx_lk lv 0) (fun y => dx_W (tb_Z L xs) d 129 99 lv (y :: st) σ Q) := r_aload_n (k := 0) (hz_129.trans rfl)
theorem w_129_99 {w : Value} : dx_W (tb_Z L xs) d 129 99 lv (w :: st) σ Q ↔ wO (dx_gf (tb_K L xs) σ w 9 29) (fun y => dx_W (tb_Z L xs) d 129 102 lv (y :: st) σ Q) := r_getfield (hz_129.trans rfl)
theorem w_129_102 : dx_W (tb_Z L xs) d 129 102 lv st σ Q ↔ wR (dx_lk lv 0) (fun y => dx_W (tb_Z L xs) d 129 103 lv (y :: st) σ Q) := r_aload_n (k := 0) (hz_129.trans rfl)
theorem w_129_103 {w : Value} : dx_W (tb_Z L xs) d 129 103 lv (w :: st) σ Q ↔ wO (dx_gf (tb_K L xs) σ w 9 31) (fun y => dx_W (tb_Z L xs) d 129 106 lv (y :: st) σ Q) := r_getfield (hz_129.trans rfl)
theorem w_129_106 : dx_W (tb_Z L xs) d 129 106 lv st σ Q ↔ wR (dx_lk lv 0) (fun y => dx_W (tb_Z L xs) d 129 107 lv (y :: st) σ Q) := r_aload_n (k := 0) (hz_129.trans rfl)
theorem w_129_107 {w : Value} : dx_W (tb_Z L xs) d 129 107 lv (w :: st) σ Q ↔ wO (dx_gf (tb_K L xs) σ w 9 3) (fun y => dx_W (tb_Z L xs) d 129 110 lv (y :: st) σ Q) := r_getfield (hz_129.trans rfl)
theorem w_129_110 : dx_W (tb_Z L xs) d 129 110 lv st σ Q ↔ wI (dx_lk lv 3) (fun y => dx_W (tb_Z L xs) d 129 111 lv (.int y :: st) σ Q) := r_iload_n (k := 3) (hz_129.trans rfl)
theorem w_129_111 {w : Value} {y : Int32} : dx_W (tb_Z L xs) d 129 111 lv (.int y :: w :: st) σ Q ↔ wO (dx_ei (tb_K L xs) σ 0 w y) (fun u => dx_W (tb_Z L xs) d 129 112 lv (.int u :: st) σ Q) := r_iaload (hz_129.trans rfl)
theorem w_129_112 {w : Value} {y : Int32} {u : Int32} : dx_W (tb_Z L xs) d 129 112 lv (.int u :: .int y :: w :: st) σ Q ↔ wO (dx_pi σ 0 w y u) (fun σ1 => dx_W (tb_Z L xs) d 129 113 lv st σ1 Q) := r_iastore (hz_129.trans rfl)
theorem w_129_113 : dx_W (tb_Z L xs) d 129 113 lv st σ Q ↔ wR (dx_lk lv 0) (fun y => dx_W (tb_Z L xs) d 129 114 lv (y :: st) σ Q) := r_aload_n (k := 0) (hz_129.trans rfl)
theorem w_129_114_int {x : Int32} : dx_W (tb_Z L xs) d 129 114 lv (.int x :: st) σ Q ↔ dx_W (tb_Z L xs) d 129 115 lv (.int x :: .int x :: st) σ Q := r_dup_int (hz_129.trans rfl)
theorem w_129_114_ref {x : Nat} : dx_W (tb_Z L xs) d 129 114 lv (.ref x :: st) σ Q ↔ dx_W (tb_Z L xs) d 129 115 lv (.ref x :: .ref x :: st) σ Q := r_dup_ref (hz_129.trans rfl)
theorem w_129_114_retAddr {x : Nat} : dx_W (tb_Z L xs) d 129 114 lv (.retAddr x :: st) σ Q ↔ dx_W (tb_Z L xs) d 129 115 lv (.retAddr x :: .retAddr x :: st) σ Q := r_dup_retAddr (hz_129.trans rfl)
theorem w_129_115 {w : Value} : dx_W (tb_Z L xs) d 129 115 lv (w :: st) σ Q ↔ wO (dx_gf (tb_K L xs) σ w 9 31) (fun y => dx_W (tb_Z L xs) d 129 118 lv (y :: st) σ Q) := r_getfield (hz_129.trans rfl)
theorem w_129_118 : dx_W (tb_Z L xs) d 129 118 lv st σ Q ↔ dx_W (tb_Z L xs) d 129 119 lv (.int 1 :: st) σ Q := r_iconst (n := 1) (hz_129.trans rfl)
theorem w_129_119 {x y : Int32} : dx_W (tb_Z L xs) d 129 119 lv (.int y :: .int x :: st) σ Q ↔ dx_W (tb_Z L xs) d 129 120 lv (.int (x + y) :: st) σ Q := r_iadd (hz_129.trans rfl)
theorem w_129_120 {u w : Value} : dx_W (tb_Z L xs) d 129 120 lv (u :: w :: st) σ Q ↔ wO (dx_pf σ w 9 31 0 u) (fun σ1 => dx_W (tb_Z L xs) d 129 123 lv st σ1 Q) := r_putfield (f := 0) (hz_129.trans rfl)
theorem w_129_123 : dx_W (tb_Z L xs) d 129 123 lv st σ Q ↔ wR (dx_lk lv 0) (fun y => dx_W (tb_Z L xs) d 129 124 lv (y :: st) σ Q) := r_aload_n (k := 0) (hz_129.trans rfl)
theorem w_129_124 {w : Value} : dx_W (tb_Z L xs) d 129 124 lv (w :: st) σ Q ↔ wO (dx_gf (tb_K L xs) σ w 9 2) (fun y => dx_W (tb_Z L xs) d 129 127 lv (y :: st) σ Q) := r_getfield (hz_129.trans rfl)
theorem w_129_127 : dx_W (tb_Z L xs) d 129 127 lv st σ Q ↔ wI (dx_lk lv 3) (fun y => dx_W (tb_Z L xs) d 129 128 lv (.int y :: st) σ Q) := r_iload_n (k := 3) (hz_129.trans rfl)
theorem w_129_128 : dx_W (tb_Z L xs) d 129 128 lv st σ Q ↔ wR (dx_lk lv 0) (fun y => dx_W (tb_Z L xs) d 129 129 lv (y :: st) σ Q) := r_aload_n (k := 0) (hz_129.trans rfl)
theorem w_129_129 {w : Value} : dx_W (tb_Z L xs) d 129 129 lv (w :: st) σ Q ↔ wO (dx_gf (tb_K L xs) σ w 9 23) (fun y => dx_W (tb_Z L xs) d 129 132 lv (y :: st) σ Q) := r_getfield (hz_129.trans rfl)
theorem w_129_132 : dx_W (tb_Z L xs) d 129 132 lv st σ Q ↔ wR (dx_lk lv 0) (fun y => dx_W (tb_Z L xs) d 129 133 lv (y :: st) σ Q) := r_aload_n (k := 0) (hz_129.trans rfl)
theorem w_129_133 {w : Value} : dx_W (tb_Z L xs) d 129 133 lv (w :: st) σ Q ↔ wO (dx_gf (tb_K L xs) σ w 9 30) (fun y => dx_W (tb_Z L xs) d 129 136 lv (y :: st) σ Q) := r_getfield (hz_129.trans rfl)
theorem w_129_136 {w : Value} {y : Int32} : dx_W (tb_Z L xs) d 129 136 lv (.int y :: w :: st) σ Q ↔ wO (dx_ei (tb_K L xs) σ 0 w y) (fun u => dx_W (tb_Z L xs) d 129 137 lv (.int u :: st) σ Q) := r_iaload (hz_129.trans rfl)
theorem w_129_137 {w : Value} {y : Int32} {u : Int32} : dx_W (tb_Z L xs) d 129 137 lv (.int u :: .int y :: w :: st) σ Q ↔ wO (dx_pi σ 0 w y u) (fun σ1 => dx_W (tb_Z L xs) d 129 138 lv st σ1 Q) := r_iastore (hz_129.trans rfl)
theorem w_129_138 : dx_W (tb_Z L xs) d 129 138 lv st σ Q ↔ wR (dx_lk lv 0) (fun y => dx_W (tb_Z L xs) d 129 139 lv (y :: st) σ Q) := r_aload_n (k := 0) (hz_129.trans rfl)
theorem w_129_139 {w : Value} : dx_W (tb_Z L xs) d 129 139 lv (w :: st) σ Q ↔ wO (dx_gf (tb_K L xs) σ w 9 3) (fun y => dx_W (tb_Z L xs) d 129 142 lv (y :: st) σ Q) := r_getfield (hz_129.trans rfl)
theorem w_129_142 : dx_W (tb_Z L xs) d 129 142 lv st σ Q ↔ wI (dx_lk lv 3) (fun y => dx_W (tb_Z L xs) d 129 143 lv (.int y :: st) σ Q) := r_iload_n (k := 3) (hz_129.trans rfl)
theorem w_129_143 : dx_W (tb_Z L xs) d 129 143 lv st σ Q ↔ wR (dx_lk lv 0) (fun y => dx_W (tb_Z L xs) d 129 144 lv (y :: st) σ Q) := r_aload_n (k := 0) (hz_129.trans rfl)
theorem w_129_144 {w : Value} : dx_W (tb_Z L xs) d 129 144 lv (w :: st) σ Q ↔ wO (dx_gf (tb_K L xs) σ w 9 24) (fun y => dx_W (tb_Z L xs) d 129 147 lv (y :: st) σ Q) := r_getfield (hz_129.trans rfl)
theorem w_129_147 : dx_W (tb_Z L xs) d 129 147 lv st σ Q ↔ wR (dx_lk lv 0) (fun y => dx_W (tb_Z L xs) d 129 148 lv (y :: st) σ Q) := r_aload_n (k := 0) (hz_129.trans rfl)
theorem w_129_148 {w : Value} : dx_W (tb_Z L xs) d 129 148 lv (w :: st) σ Q ↔ wO (dx_gf (tb_K L xs) σ w 9 30) (fun y => dx_W (tb_Z L xs) d 129 151 lv (y :: st) σ Q) := r_getfield (hz_129.trans rfl)
theorem w_129_151 {w : Value} {y : Int32} : dx_W (tb_Z L xs) d 129 151 lv (.int y :: w :: st) σ Q ↔ wO (dx_ei (tb_K L xs) σ 0 w y) (fun u => dx_W (tb_Z L xs) d 129 152 lv (.int u :: st) σ Q) := r_iaload (hz_129.trans rfl)
theorem w_129_152 {w : Value} {y : Int32} {u : Int32} : dx_W (tb_Z L xs) d 129 152 lv (.int u :: .int y :: w :: st) σ Q ↔ wO (dx_pi σ 0 w y u) (fun σ1 => dx_W (tb_Z L xs) d 129 153 lv st σ1 Q) := r_iastore (hz_129.trans rfl)
theorem w_129_153 : dx_W (tb_Z L xs) d 129 153 lv st σ Q ↔ wR (dx_lk lv 0) (fun y => dx_W (tb_Z L xs) d 129 154 lv (y :: st) σ Q) := r_aload_n (k := 0) (hz_129.trans rfl)
theorem w_129_154 {w : Value} : dx_W (tb_Z L xs) d 129 154 lv (w :: st) σ Q ↔ wO (dx_gf (tb_K L xs) σ w 9 15) (fun y => dx_W (tb_Z L xs) d 129 157 lv (y :: st) σ Q) := r_getfield (hz_129.trans rfl)
theorem w_129_157 : dx_W (tb_Z L xs) d 129 157 lv st σ Q ↔ wI (dx_lk lv 1) (fun y => dx_W (tb_Z L xs) d 129 158 lv (.int y :: st) σ Q) := r_iload_n (k := 1) (hz_129.trans rfl)
theorem w_129_158 {w : Value} {y : Int32} : dx_W (tb_Z L xs) d 129 158 lv (.int y :: w :: st) σ Q ↔ wO (dx_ei (tb_K L xs) σ 0 w y) (fun u => dx_W (tb_Z L xs) d 129 159 lv (.int u :: st) σ Q) := r_iaload (hz_129.trans rfl)
theorem w_129_159 {x : Int32} : dx_W (tb_Z L xs) d 129 159 lv [.int x] σ Q ↔ Q (.inl (some (.int x))) σ := r_ireturn (hz_129.trans rfl) rfl rfl
theorem hz_130 {pc : Nat} : (tb_Z L xs).1 130 pc = dx_at tb_m130 pc := rfl
theorem w_130_0 : dx_W (tb_Z L xs) d 130 0 lv st σ Q ↔ wI (dx_lk lv 0) (fun y => dx_W (tb_Z L xs) d 130 1 lv (.int y :: st) σ Q) := r_iload_n (k := 0) (hz_130.trans rfl)
theorem w_130_1 {x : Int32} : dx_W (tb_Z L xs) d 130 1 lv (.int x :: st) σ Q ↔ (if x = 60 then dx_W (tb_Z L xs) d 130 52 lv st σ Q else if x = 62 then dx_W (tb_Z L xs) d 130 64 lv st σ Q else if x = 69 then dx_W (tb_Z L xs) d 130 100 lv st σ Q else if x = 71 then dx_W (tb_Z L xs) d 130 88 lv st σ Q else if x = 76 then dx_W (tb_Z L xs) d 130 76 lv st σ Q else dx_W (tb_Z L xs) d 130 112 lv st σ Q) := by
  by_cases h0 : x = 60
  · subst h0
    rw [if_pos rfl]
    exact r_sw (t := 52) (hz_130.trans rfl) rfl rfl
  rw [if_neg h0]
  by_cases h1 : x = 62
  · subst h1
    rw [if_pos rfl]
    exact r_sw (t := 64) (hz_130.trans rfl) rfl rfl
  rw [if_neg h1]
  by_cases h2 : x = 69
  · subst h2
    rw [if_pos rfl]
    exact r_sw (t := 100) (hz_130.trans rfl) rfl rfl
  rw [if_neg h2]
  by_cases h3 : x = 71
  · subst h3
    rw [if_pos rfl]
    exact r_sw (t := 88) (hz_130.trans rfl) rfl rfl
  rw [if_neg h3]
  by_cases h4 : x = 76
  · subst h4
    rw [if_pos rfl]
    exact r_sw (t := 76) (hz_130.trans rfl) rfl rfl
  rw [if_neg h4]
  refine r_look (t := 112) (hz_130.trans rfl) (by decide) ?_
  simp only [lv_osw h0 (show (60 : Int32).toInt = 60 from rfl), lv_osw h1 (show (62 : Int32).toInt = 62 from rfl), lv_osw h2 (show (69 : Int32).toInt = 69 from rfl), lv_osw h3 (show (71 : Int32).toInt = 71 from rfl), lv_osw h4 (show (76 : Int32).toInt = 76 from rfl)]
  rfl
theorem w_130_52 : dx_W (tb_Z L xs) d 130 52 lv st σ Q ↔ wJ (dx_lk lv 1) (fun y => dx_W (tb_Z L xs) d 130 53 lv (.long y :: st) σ Q) := r_lload_n (k := 1) (hz_130.trans rfl)
theorem w_130_53 : dx_W (tb_Z L xs) d 130 53 lv st σ Q ↔ wJ (dx_lk lv 3) (fun y => dx_W (tb_Z L xs) d 130 54 lv (.long y :: st) σ Q) := r_lload_n (k := 3) (hz_130.trans rfl)
theorem w_130_54 {x y : Int64} : dx_W (tb_Z L xs) d 130 54 lv (.long y :: .long x :: st) σ Q ↔ dx_W (tb_Z L xs) d 130 55 lv (.int (lg_cmp x y) :: st) σ Q := r_lcmp (hz_130.trans rfl)
theorem w_130_55 {x : Int32} : dx_W (tb_Z L xs) d 130 55 lv (.int x :: st) σ Q ↔ (if 0 ≤ x then dx_W (tb_Z L xs) d 130 62 lv st σ Q else dx_W (tb_Z L xs) d 130 58 lv st σ Q) := r_if_ge (off := 7) (t := 62) (hz_130.trans rfl) (by decide)
theorem w_130_58 : dx_W (tb_Z L xs) d 130 58 lv st σ Q ↔ dx_W (tb_Z L xs) d 130 59 lv (.int 1 :: st) σ Q := r_iconst (n := 1) (hz_130.trans rfl)
theorem w_130_59 : dx_W (tb_Z L xs) d 130 59 lv st σ Q ↔ dx_W (tb_Z L xs) d 130 63 lv st σ Q := r_goto (off := 4) (t := 63) (hz_130.trans rfl) (by decide)
theorem w_130_62 : dx_W (tb_Z L xs) d 130 62 lv st σ Q ↔ dx_W (tb_Z L xs) d 130 63 lv (.int 0 :: st) σ Q := r_iconst (n := 0) (hz_130.trans rfl)
theorem w_130_63 {x : Int32} : dx_W (tb_Z L xs) d 130 63 lv [.int x] σ Q ↔ narrow .boolean (.int x) = .int x ∧ Q (.inl (some (.int x))) σ := c_ireturn (hz_130.trans rfl) rfl
theorem w_130_64 : dx_W (tb_Z L xs) d 130 64 lv st σ Q ↔ wJ (dx_lk lv 1) (fun y => dx_W (tb_Z L xs) d 130 65 lv (.long y :: st) σ Q) := r_lload_n (k := 1) (hz_130.trans rfl)
theorem w_130_65 : dx_W (tb_Z L xs) d 130 65 lv st σ Q ↔ wJ (dx_lk lv 3) (fun y => dx_W (tb_Z L xs) d 130 66 lv (.long y :: st) σ Q) := r_lload_n (k := 3) (hz_130.trans rfl)
theorem w_130_66 {x y : Int64} : dx_W (tb_Z L xs) d 130 66 lv (.long y :: .long x :: st) σ Q ↔ dx_W (tb_Z L xs) d 130 67 lv (.int (lg_cmp x y) :: st) σ Q := r_lcmp (hz_130.trans rfl)
theorem w_130_67 {x : Int32} : dx_W (tb_Z L xs) d 130 67 lv (.int x :: st) σ Q ↔ (if x ≤ 0 then dx_W (tb_Z L xs) d 130 74 lv st σ Q else dx_W (tb_Z L xs) d 130 70 lv st σ Q) := r_if_le (off := 7) (t := 74) (hz_130.trans rfl) (by decide)
theorem w_130_70 : dx_W (tb_Z L xs) d 130 70 lv st σ Q ↔ dx_W (tb_Z L xs) d 130 71 lv (.int 1 :: st) σ Q := r_iconst (n := 1) (hz_130.trans rfl)
theorem w_130_71 : dx_W (tb_Z L xs) d 130 71 lv st σ Q ↔ dx_W (tb_Z L xs) d 130 75 lv st σ Q := r_goto (off := 4) (t := 75) (hz_130.trans rfl) (by decide)
theorem w_130_74 : dx_W (tb_Z L xs) d 130 74 lv st σ Q ↔ dx_W (tb_Z L xs) d 130 75 lv (.int 0 :: st) σ Q := r_iconst (n := 0) (hz_130.trans rfl)
theorem w_130_75 {x : Int32} : dx_W (tb_Z L xs) d 130 75 lv [.int x] σ Q ↔ narrow .boolean (.int x) = .int x ∧ Q (.inl (some (.int x))) σ := c_ireturn (hz_130.trans rfl) rfl
theorem w_130_76 : dx_W (tb_Z L xs) d 130 76 lv st σ Q ↔ wJ (dx_lk lv 1) (fun y => dx_W (tb_Z L xs) d 130 77 lv (.long y :: st) σ Q) := r_lload_n (k := 1) (hz_130.trans rfl)
theorem w_130_77 : dx_W (tb_Z L xs) d 130 77 lv st σ Q ↔ wJ (dx_lk lv 3) (fun y => dx_W (tb_Z L xs) d 130 78 lv (.long y :: st) σ Q) := r_lload_n (k := 3) (hz_130.trans rfl)
theorem w_130_78 {x y : Int64} : dx_W (tb_Z L xs) d 130 78 lv (.long y :: .long x :: st) σ Q ↔ dx_W (tb_Z L xs) d 130 79 lv (.int (lg_cmp x y) :: st) σ Q := r_lcmp (hz_130.trans rfl)
theorem w_130_79 {x : Int32} : dx_W (tb_Z L xs) d 130 79 lv (.int x :: st) σ Q ↔ (if 0 < x then dx_W (tb_Z L xs) d 130 86 lv st σ Q else dx_W (tb_Z L xs) d 130 82 lv st σ Q) := r_if_gt (off := 7) (t := 86) (hz_130.trans rfl) (by decide)
theorem w_130_82 : dx_W (tb_Z L xs) d 130 82 lv st σ Q ↔ dx_W (tb_Z L xs) d 130 83 lv (.int 1 :: st) σ Q := r_iconst (n := 1) (hz_130.trans rfl)
theorem w_130_83 : dx_W (tb_Z L xs) d 130 83 lv st σ Q ↔ dx_W (tb_Z L xs) d 130 87 lv st σ Q := r_goto (off := 4) (t := 87) (hz_130.trans rfl) (by decide)
theorem w_130_86 : dx_W (tb_Z L xs) d 130 86 lv st σ Q ↔ dx_W (tb_Z L xs) d 130 87 lv (.int 0 :: st) σ Q := r_iconst (n := 0) (hz_130.trans rfl)
theorem w_130_87 {x : Int32} : dx_W (tb_Z L xs) d 130 87 lv [.int x] σ Q ↔ narrow .boolean (.int x) = .int x ∧ Q (.inl (some (.int x))) σ := c_ireturn (hz_130.trans rfl) rfl
theorem w_130_88 : dx_W (tb_Z L xs) d 130 88 lv st σ Q ↔ wJ (dx_lk lv 1) (fun y => dx_W (tb_Z L xs) d 130 89 lv (.long y :: st) σ Q) := r_lload_n (k := 1) (hz_130.trans rfl)
theorem w_130_89 : dx_W (tb_Z L xs) d 130 89 lv st σ Q ↔ wJ (dx_lk lv 3) (fun y => dx_W (tb_Z L xs) d 130 90 lv (.long y :: st) σ Q) := r_lload_n (k := 3) (hz_130.trans rfl)
theorem w_130_90 {x y : Int64} : dx_W (tb_Z L xs) d 130 90 lv (.long y :: .long x :: st) σ Q ↔ dx_W (tb_Z L xs) d 130 91 lv (.int (lg_cmp x y) :: st) σ Q := r_lcmp (hz_130.trans rfl)
theorem w_130_91 {x : Int32} : dx_W (tb_Z L xs) d 130 91 lv (.int x :: st) σ Q ↔ (if x < 0 then dx_W (tb_Z L xs) d 130 98 lv st σ Q else dx_W (tb_Z L xs) d 130 94 lv st σ Q) := r_if_lt (off := 7) (t := 98) (hz_130.trans rfl) (by decide)
theorem w_130_94 : dx_W (tb_Z L xs) d 130 94 lv st σ Q ↔ dx_W (tb_Z L xs) d 130 95 lv (.int 1 :: st) σ Q := r_iconst (n := 1) (hz_130.trans rfl)
theorem w_130_95 : dx_W (tb_Z L xs) d 130 95 lv st σ Q ↔ dx_W (tb_Z L xs) d 130 99 lv st σ Q := r_goto (off := 4) (t := 99) (hz_130.trans rfl) (by decide)
theorem w_130_98 : dx_W (tb_Z L xs) d 130 98 lv st σ Q ↔ dx_W (tb_Z L xs) d 130 99 lv (.int 0 :: st) σ Q := r_iconst (n := 0) (hz_130.trans rfl)
theorem w_130_99 {x : Int32} : dx_W (tb_Z L xs) d 130 99 lv [.int x] σ Q ↔ narrow .boolean (.int x) = .int x ∧ Q (.inl (some (.int x))) σ := c_ireturn (hz_130.trans rfl) rfl
theorem w_130_100 : dx_W (tb_Z L xs) d 130 100 lv st σ Q ↔ wJ (dx_lk lv 1) (fun y => dx_W (tb_Z L xs) d 130 101 lv (.long y :: st) σ Q) := r_lload_n (k := 1) (hz_130.trans rfl)
theorem w_130_101 : dx_W (tb_Z L xs) d 130 101 lv st σ Q ↔ wJ (dx_lk lv 3) (fun y => dx_W (tb_Z L xs) d 130 102 lv (.long y :: st) σ Q) := r_lload_n (k := 3) (hz_130.trans rfl)
theorem w_130_102 {x y : Int64} : dx_W (tb_Z L xs) d 130 102 lv (.long y :: .long x :: st) σ Q ↔ dx_W (tb_Z L xs) d 130 103 lv (.int (lg_cmp x y) :: st) σ Q := r_lcmp (hz_130.trans rfl)
theorem w_130_103 {x : Int32} : dx_W (tb_Z L xs) d 130 103 lv (.int x :: st) σ Q ↔ (if ¬ x = 0 then dx_W (tb_Z L xs) d 130 110 lv st σ Q else dx_W (tb_Z L xs) d 130 106 lv st σ Q) := r_if_ne (off := 7) (t := 110) (hz_130.trans rfl) (by decide)
theorem w_130_106 : dx_W (tb_Z L xs) d 130 106 lv st σ Q ↔ dx_W (tb_Z L xs) d 130 107 lv (.int 1 :: st) σ Q := r_iconst (n := 1) (hz_130.trans rfl)
theorem w_130_107 : dx_W (tb_Z L xs) d 130 107 lv st σ Q ↔ dx_W (tb_Z L xs) d 130 111 lv st σ Q := r_goto (off := 4) (t := 111) (hz_130.trans rfl) (by decide)
theorem w_130_110 : dx_W (tb_Z L xs) d 130 110 lv st σ Q ↔ dx_W (tb_Z L xs) d 130 111 lv (.int 0 :: st) σ Q := r_iconst (n := 0) (hz_130.trans rfl)
theorem w_130_111 {x : Int32} : dx_W (tb_Z L xs) d 130 111 lv [.int x] σ Q ↔ narrow .boolean (.int x) = .int x ∧ Q (.inl (some (.int x))) σ := c_ireturn (hz_130.trans rfl) rfl
theorem w_130_112 : dx_W (tb_Z L xs) d 130 112 lv st σ Q ↔ wJ (dx_lk lv 1) (fun y => dx_W (tb_Z L xs) d 130 113 lv (.long y :: st) σ Q) := r_lload_n (k := 1) (hz_130.trans rfl)
theorem w_130_113 : dx_W (tb_Z L xs) d 130 113 lv st σ Q ↔ wJ (dx_lk lv 3) (fun y => dx_W (tb_Z L xs) d 130 114 lv (.long y :: st) σ Q) := r_lload_n (k := 3) (hz_130.trans rfl)
theorem w_130_114 {x y : Int64} : dx_W (tb_Z L xs) d 130 114 lv (.long y :: .long x :: st) σ Q ↔ dx_W (tb_Z L xs) d 130 115 lv (.int (lg_cmp x y) :: st) σ Q := r_lcmp (hz_130.trans rfl)
theorem w_130_115 {x : Int32} : dx_W (tb_Z L xs) d 130 115 lv (.int x :: st) σ Q ↔ (if x = 0 then dx_W (tb_Z L xs) d 130 122 lv st σ Q else dx_W (tb_Z L xs) d 130 118 lv st σ Q) := r_if_eq (off := 7) (t := 122) (hz_130.trans rfl) (by decide)
theorem w_130_118 : dx_W (tb_Z L xs) d 130 118 lv st σ Q ↔ dx_W (tb_Z L xs) d 130 119 lv (.int 1 :: st) σ Q := r_iconst (n := 1) (hz_130.trans rfl)
theorem w_130_119 : dx_W (tb_Z L xs) d 130 119 lv st σ Q ↔ dx_W (tb_Z L xs) d 130 123 lv st σ Q := r_goto (off := 4) (t := 123) (hz_130.trans rfl) (by decide)
theorem w_130_122 : dx_W (tb_Z L xs) d 130 122 lv st σ Q ↔ dx_W (tb_Z L xs) d 130 123 lv (.int 0 :: st) σ Q := r_iconst (n := 0) (hz_130.trans rfl)
theorem w_130_123 {x : Int32} : dx_W (tb_Z L xs) d 130 123 lv [.int x] σ Q ↔ narrow .boolean (.int x) = .int x ∧ Q (.inl (some (.int x))) σ := c_ireturn (hz_130.trans rfl) rfl
theorem hz_131 {pc : Nat} : (tb_Z L xs).1 131 pc = dx_at tb_m131 pc := rfl
theorem w_131_0 : dx_W (tb_Z L xs) d 131 0 lv st σ Q ↔ wR (dx_lk lv 0) (fun y => dx_W (tb_Z L xs) d 131 1 lv (y :: st) σ Q) := r_aload_n (k := 0) (hz_131.trans rfl)
theorem w_131_1 {w : Value} : dx_W (tb_Z L xs) d 131 1 lv (w :: st) σ Q ↔ wO (dx_gf (tb_K L xs) σ w 9 11) (fun y => dx_W (tb_Z L xs) d 131 4 lv (y :: st) σ Q) := r_getfield (hz_131.trans rfl)
theorem w_131_4 : dx_W (tb_Z L xs) d 131 4 lv st σ Q ↔ wI (dx_lk lv 1) (fun y => dx_W (tb_Z L xs) d 131 5 lv (.int y :: st) σ Q) := r_iload_n (k := 1) (hz_131.trans rfl)
theorem w_131_5 {w : Value} {y : Int32} : dx_W (tb_Z L xs) d 131 5 lv (.int y :: w :: st) σ Q ↔ wO (dx_ei (tb_K L xs) σ 0 w y) (fun u => dx_W (tb_Z L xs) d 131 6 lv (.int u :: st) σ Q) := r_iaload (hz_131.trans rfl)
theorem w_131_6 {x : Int32} : dx_W (tb_Z L xs) d 131 6 lv (.int x :: st) σ Q ↔ (if x = 8 then dx_W (tb_Z L xs) d 131 80 lv st σ Q else if x = 9 then dx_W (tb_Z L xs) d 131 109 lv st σ Q else if x = 10 then dx_W (tb_Z L xs) d 131 141 lv st σ Q else if x = 11 then dx_W (tb_Z L xs) d 131 173 lv st σ Q else if x = 12 then dx_W (tb_Z L xs) d 131 181 lv st σ Q else if x = 13 then dx_W (tb_Z L xs) d 131 181 lv st σ Q else if x = 14 then dx_W (tb_Z L xs) d 131 48 lv st σ Q else dx_W (tb_Z L xs) d 131 181 lv st σ Q) := by
  by_cases h0 : x = 8
  · subst h0
    rw [if_pos rfl]
    exact r_sw (t := 80) (hz_131.trans rfl) rfl rfl
  rw [if_neg h0]
  by_cases h1 : x = 9
  · subst h1
    rw [if_pos rfl]
    exact r_sw (t := 109) (hz_131.trans rfl) rfl rfl
  rw [if_neg h1]
  by_cases h2 : x = 10
  · subst h2
    rw [if_pos rfl]
    exact r_sw (t := 141) (hz_131.trans rfl) rfl rfl
  rw [if_neg h2]
  by_cases h3 : x = 11
  · subst h3
    rw [if_pos rfl]
    exact r_sw (t := 173) (hz_131.trans rfl) rfl rfl
  rw [if_neg h3]
  by_cases h4 : x = 12
  · subst h4
    rw [if_pos rfl]
    exact r_sw (t := 181) (hz_131.trans rfl) rfl rfl
  rw [if_neg h4]
  by_cases h5 : x = 13
  · subst h5
    rw [if_pos rfl]
    exact r_sw (t := 181) (hz_131.trans rfl) rfl rfl
  rw [if_neg h5]
  by_cases h6 : x = 14
  · subst h6
    rw [if_pos rfl]
    exact r_sw (t := 48) (hz_131.trans rfl) rfl rfl
  rw [if_neg h6]
  refine r_table (t := 181) (hz_131.trans rfl) (by decide) ?_ (by decide)
  have g0 := lv_neT h0 (show (8 : Int32).toInt = 8 from rfl)
  have g1 := lv_neT h1 (show (9 : Int32).toInt = 9 from rfl)
  have g2 := lv_neT h2 (show (10 : Int32).toInt = 10 from rfl)
  have g3 := lv_neT h3 (show (11 : Int32).toInt = 11 from rfl)
  have g4 := lv_neT h4 (show (12 : Int32).toInt = 12 from rfl)
  have g5 := lv_neT h5 (show (13 : Int32).toInt = 13 from rfl)
  have g6 := lv_neT h6 (show (14 : Int32).toInt = 14 from rfl)
  omega
theorem w_131_48 : dx_W (tb_Z L xs) d 131 48 lv st σ Q ↔ wR (dx_lk lv 0) (fun y => dx_W (tb_Z L xs) d 131 49 lv (y :: st) σ Q) := r_aload_n (k := 0) (hz_131.trans rfl)
theorem w_131_49 {w : Value} : dx_W (tb_Z L xs) d 131 49 lv (w :: st) σ Q ↔ wO (dx_gf (tb_K L xs) σ w 9 33) (fun y => dx_W (tb_Z L xs) d 131 52 lv (y :: st) σ Q) := r_getfield (hz_131.trans rfl)
theorem w_131_52 : dx_W (tb_Z L xs) d 131 52 lv st σ Q ↔ wR (dx_lk lv 0) (fun y => dx_W (tb_Z L xs) d 131 53 lv (y :: st) σ Q) := r_aload_n (k := 0) (hz_131.trans rfl)
theorem w_131_53 {w : Value} : dx_W (tb_Z L xs) d 131 53 lv (w :: st) σ Q ↔ wO (dx_gf (tb_K L xs) σ w 9 32) (fun y => dx_W (tb_Z L xs) d 131 56 lv (y :: st) σ Q) := r_getfield (hz_131.trans rfl)
theorem w_131_56 {x y : Int32} : dx_W (tb_Z L xs) d 131 56 lv (.int y :: .int x :: st) σ Q ↔ (if ¬ x = y then dx_W (tb_Z L xs) d 131 66 lv st σ Q else dx_W (tb_Z L xs) d 131 59 lv st σ Q) := r_ic_ne (off := 10) (t := 66) (hz_131.trans rfl) (by decide)
theorem w_131_59 : dx_W (tb_Z L xs) d 131 59 lv st σ Q ↔ wR (dx_lk lv 0) (fun y => dx_W (tb_Z L xs) d 131 60 lv (y :: st) σ Q) := r_aload_n (k := 0) (hz_131.trans rfl)
theorem w_131_60 : dx_W (tb_Z L xs) d 131 60 lv st σ Q ↔ dx_W (tb_Z L xs) d 131 61 lv (.int 4 :: st) σ Q := r_iconst (n := 4) (hz_131.trans rfl)
theorem w_131_61 {u w : Value} : dx_W (tb_Z L xs) d 131 61 lv (u :: w :: st) σ Q ↔ wO (dx_pf σ w 9 34 0 u) (fun σ1 => dx_W (tb_Z L xs) d 131 64 lv st σ1 Q) := r_putfield (f := 0) (hz_131.trans rfl)
theorem w_131_64 : dx_W (tb_Z L xs) d 131 64 lv st σ Q ↔ dx_W (tb_Z L xs) d 131 65 lv (.int (-1) :: st) σ Q := r_iconst (n := (-1)) (hz_131.trans rfl)
theorem w_131_65 {x : Int32} : dx_W (tb_Z L xs) d 131 65 lv [.int x] σ Q ↔ Q (.inl (some (.int x))) σ := r_ireturn (hz_131.trans rfl) rfl rfl
theorem w_131_66 : dx_W (tb_Z L xs) d 131 66 lv st σ Q ↔ wR (dx_lk lv 0) (fun y => dx_W (tb_Z L xs) d 131 67 lv (y :: st) σ Q) := r_aload_n (k := 0) (hz_131.trans rfl)
theorem w_131_67_int {x : Int32} : dx_W (tb_Z L xs) d 131 67 lv (.int x :: st) σ Q ↔ dx_W (tb_Z L xs) d 131 68 lv (.int x :: .int x :: st) σ Q := r_dup_int (hz_131.trans rfl)
theorem w_131_67_ref {x : Nat} : dx_W (tb_Z L xs) d 131 67 lv (.ref x :: st) σ Q ↔ dx_W (tb_Z L xs) d 131 68 lv (.ref x :: .ref x :: st) σ Q := r_dup_ref (hz_131.trans rfl)
theorem w_131_67_retAddr {x : Nat} : dx_W (tb_Z L xs) d 131 67 lv (.retAddr x :: st) σ Q ↔ dx_W (tb_Z L xs) d 131 68 lv (.retAddr x :: .retAddr x :: st) σ Q := r_dup_retAddr (hz_131.trans rfl)
theorem w_131_68 {w : Value} : dx_W (tb_Z L xs) d 131 68 lv (w :: st) σ Q ↔ wO (dx_gf (tb_K L xs) σ w 9 33) (fun y => dx_W (tb_Z L xs) d 131 71 lv (y :: st) σ Q) := r_getfield (hz_131.trans rfl)
theorem w_131_71 : dx_W (tb_Z L xs) d 131 71 lv st σ Q ↔ dx_W (tb_Z L xs) d 131 72 lv (.int 1 :: st) σ Q := r_iconst (n := 1) (hz_131.trans rfl)
theorem w_131_72 {x y : Int32} : dx_W (tb_Z L xs) d 131 72 lv (.int y :: .int x :: st) σ Q ↔ dx_W (tb_Z L xs) d 131 73 lv (.int (x + y) :: st) σ Q := r_iadd (hz_131.trans rfl)
theorem w_131_73 {u w : Value} : dx_W (tb_Z L xs) d 131 73 lv (u :: w :: st) σ Q ↔ wO (dx_pf σ w 9 33 0 u) (fun σ1 => dx_W (tb_Z L xs) d 131 76 lv st σ1 Q) := r_putfield (f := 0) (hz_131.trans rfl)
theorem w_131_76 : dx_W (tb_Z L xs) d 131 76 lv st σ Q ↔ wI (dx_lk lv 1) (fun y => dx_W (tb_Z L xs) d 131 77 lv (.int y :: st) σ Q) := r_iload_n (k := 1) (hz_131.trans rfl)
theorem w_131_77 : dx_W (tb_Z L xs) d 131 77 lv st σ Q ↔ dx_W (tb_Z L xs) d 131 78 lv (.int 1 :: st) σ Q := r_iconst (n := 1) (hz_131.trans rfl)
theorem w_131_78 {x y : Int32} : dx_W (tb_Z L xs) d 131 78 lv (.int y :: .int x :: st) σ Q ↔ dx_W (tb_Z L xs) d 131 79 lv (.int (x + y) :: st) σ Q := r_iadd (hz_131.trans rfl)
theorem w_131_79 {x : Int32} : dx_W (tb_Z L xs) d 131 79 lv [.int x] σ Q ↔ Q (.inl (some (.int x))) σ := r_ireturn (hz_131.trans rfl) rfl rfl
theorem w_131_80 : dx_W (tb_Z L xs) d 131 80 lv st σ Q ↔ wR (dx_lk lv 0) (fun y => dx_W (tb_Z L xs) d 131 81 lv (y :: st) σ Q) := r_aload_n (k := 0) (hz_131.trans rfl)
theorem w_131_81_int {x : Int32} : dx_W (tb_Z L xs) d 131 81 lv (.int x :: st) σ Q ↔ dx_W (tb_Z L xs) d 131 82 lv (.int x :: .int x :: st) σ Q := r_dup_int (hz_131.trans rfl)
theorem w_131_81_ref {x : Nat} : dx_W (tb_Z L xs) d 131 81 lv (.ref x :: st) σ Q ↔ dx_W (tb_Z L xs) d 131 82 lv (.ref x :: .ref x :: st) σ Q := r_dup_ref (hz_131.trans rfl)
theorem w_131_81_retAddr {x : Nat} : dx_W (tb_Z L xs) d 131 81 lv (.retAddr x :: st) σ Q ↔ dx_W (tb_Z L xs) d 131 82 lv (.retAddr x :: .retAddr x :: st) σ Q := r_dup_retAddr (hz_131.trans rfl)
theorem w_131_82 {w : Value} : dx_W (tb_Z L xs) d 131 82 lv (w :: st) σ Q ↔ wO (dx_gf (tb_K L xs) σ w 9 30) (fun y => dx_W (tb_Z L xs) d 131 85 lv (y :: st) σ Q) := r_getfield (hz_131.trans rfl)
theorem w_131_85 : dx_W (tb_Z L xs) d 131 85 lv st σ Q ↔ dx_W (tb_Z L xs) d 131 86 lv (.int 1 :: st) σ Q := r_iconst (n := 1) (hz_131.trans rfl)
theorem w_131_86 {x y : Int32} : dx_W (tb_Z L xs) d 131 86 lv (.int y :: .int x :: st) σ Q ↔ dx_W (tb_Z L xs) d 131 87 lv (.int (x - y) :: st) σ Q := r_isub (hz_131.trans rfl)
theorem w_131_87 {u w : Value} : dx_W (tb_Z L xs) d 131 87 lv (u :: w :: st) σ Q ↔ wO (dx_pf σ w 9 30 0 u) (fun σ1 => dx_W (tb_Z L xs) d 131 90 lv st σ1 Q) := r_putfield (f := 0) (hz_131.trans rfl)
theorem w_131_90 : dx_W (tb_Z L xs) d 131 90 lv st σ Q ↔ wR (dx_lk lv 0) (fun y => dx_W (tb_Z L xs) d 131 91 lv (y :: st) σ Q) := r_aload_n (k := 0) (hz_131.trans rfl)
theorem w_131_91 {w : Value} : dx_W (tb_Z L xs) d 131 91 lv (w :: st) σ Q ↔ wO (dx_gf (tb_K L xs) σ w 9 2) (fun y => dx_W (tb_Z L xs) d 131 94 lv (y :: st) σ Q) := r_getfield (hz_131.trans rfl)
theorem w_131_94 : dx_W (tb_Z L xs) d 131 94 lv st σ Q ↔ wI (dx_lk lv 2) (fun y => dx_W (tb_Z L xs) d 131 95 lv (.int y :: st) σ Q) := r_iload_n (k := 2) (hz_131.trans rfl)
theorem w_131_95 : dx_W (tb_Z L xs) d 131 95 lv st σ Q ↔ wI (dx_lk lv 3) (fun y => dx_W (tb_Z L xs) d 131 96 lv (.int y :: st) σ Q) := r_iload_n (k := 3) (hz_131.trans rfl)
theorem w_131_96 {w : Value} {y : Int32} {u : Int32} : dx_W (tb_Z L xs) d 131 96 lv (.int u :: .int y :: w :: st) σ Q ↔ wO (dx_pi σ 0 w y u) (fun σ1 => dx_W (tb_Z L xs) d 131 97 lv st σ1 Q) := r_iastore (hz_131.trans rfl)
theorem w_131_97 : dx_W (tb_Z L xs) d 131 97 lv st σ Q ↔ wR (dx_lk lv 0) (fun y => dx_W (tb_Z L xs) d 131 98 lv (y :: st) σ Q) := r_aload_n (k := 0) (hz_131.trans rfl)
theorem w_131_98 {w : Value} : dx_W (tb_Z L xs) d 131 98 lv (w :: st) σ Q ↔ wO (dx_gf (tb_K L xs) σ w 9 3) (fun y => dx_W (tb_Z L xs) d 131 101 lv (y :: st) σ Q) := r_getfield (hz_131.trans rfl)
theorem w_131_101 : dx_W (tb_Z L xs) d 131 101 lv st σ Q ↔ wI (dx_lk lv 2) (fun y => dx_W (tb_Z L xs) d 131 102 lv (.int y :: st) σ Q) := r_iload_n (k := 2) (hz_131.trans rfl)
theorem w_131_102 : dx_W (tb_Z L xs) d 131 102 lv st σ Q ↔ wI (dx_lk lv 4) (fun y => dx_W (tb_Z L xs) d 131 104 lv (.int y :: st) σ Q) := r_iload (k := 4) (hz_131.trans rfl)
theorem w_131_104 {w : Value} {y : Int32} {u : Int32} : dx_W (tb_Z L xs) d 131 104 lv (.int u :: .int y :: w :: st) σ Q ↔ wO (dx_pi σ 0 w y u) (fun σ1 => dx_W (tb_Z L xs) d 131 105 lv st σ1 Q) := r_iastore (hz_131.trans rfl)
theorem w_131_105 : dx_W (tb_Z L xs) d 131 105 lv st σ Q ↔ wI (dx_lk lv 1) (fun y => dx_W (tb_Z L xs) d 131 106 lv (.int y :: st) σ Q) := r_iload_n (k := 1) (hz_131.trans rfl)
theorem w_131_106 : dx_W (tb_Z L xs) d 131 106 lv st σ Q ↔ dx_W (tb_Z L xs) d 131 107 lv (.int 1 :: st) σ Q := r_iconst (n := 1) (hz_131.trans rfl)
theorem w_131_107 {x y : Int32} : dx_W (tb_Z L xs) d 131 107 lv (.int y :: .int x :: st) σ Q ↔ dx_W (tb_Z L xs) d 131 108 lv (.int (x + y) :: st) σ Q := r_iadd (hz_131.trans rfl)
theorem w_131_108 {x : Int32} : dx_W (tb_Z L xs) d 131 108 lv [.int x] σ Q ↔ Q (.inl (some (.int x))) σ := r_ireturn (hz_131.trans rfl) rfl rfl
theorem w_131_109 : dx_W (tb_Z L xs) d 131 109 lv st σ Q ↔ wR (dx_lk lv 0) (fun y => dx_W (tb_Z L xs) d 131 110 lv (y :: st) σ Q) := r_aload_n (k := 0) (hz_131.trans rfl)
theorem w_131_110_int {x : Int32} : dx_W (tb_Z L xs) d 131 110 lv (.int x :: st) σ Q ↔ dx_W (tb_Z L xs) d 131 111 lv (.int x :: .int x :: st) σ Q := r_dup_int (hz_131.trans rfl)
theorem w_131_110_ref {x : Nat} : dx_W (tb_Z L xs) d 131 110 lv (.ref x :: st) σ Q ↔ dx_W (tb_Z L xs) d 131 111 lv (.ref x :: .ref x :: st) σ Q := r_dup_ref (hz_131.trans rfl)
theorem w_131_110_retAddr {x : Nat} : dx_W (tb_Z L xs) d 131 110 lv (.retAddr x :: st) σ Q ↔ dx_W (tb_Z L xs) d 131 111 lv (.retAddr x :: .retAddr x :: st) σ Q := r_dup_retAddr (hz_131.trans rfl)
theorem w_131_111 {w : Value} : dx_W (tb_Z L xs) d 131 111 lv (w :: st) σ Q ↔ wO (dx_gf (tb_K L xs) σ w 9 30) (fun y => dx_W (tb_Z L xs) d 131 114 lv (y :: st) σ Q) := r_getfield (hz_131.trans rfl)
theorem w_131_114 : dx_W (tb_Z L xs) d 131 114 lv st σ Q ↔ dx_W (tb_Z L xs) d 131 115 lv (.int 1 :: st) σ Q := r_iconst (n := 1) (hz_131.trans rfl)
theorem w_131_115 {x y : Int32} : dx_W (tb_Z L xs) d 131 115 lv (.int y :: .int x :: st) σ Q ↔ dx_W (tb_Z L xs) d 131 116 lv (.int (x - y) :: st) σ Q := r_isub (hz_131.trans rfl)
theorem w_131_116 {u w : Value} : dx_W (tb_Z L xs) d 131 116 lv (u :: w :: st) σ Q ↔ wO (dx_pf σ w 9 30 0 u) (fun σ1 => dx_W (tb_Z L xs) d 131 119 lv st σ1 Q) := r_putfield (f := 0) (hz_131.trans rfl)
theorem w_131_119 : dx_W (tb_Z L xs) d 131 119 lv st σ Q ↔ wR (dx_lk lv 0) (fun y => dx_W (tb_Z L xs) d 131 120 lv (y :: st) σ Q) := r_aload_n (k := 0) (hz_131.trans rfl)
theorem w_131_120 : dx_W (tb_Z L xs) d 131 120 lv st σ Q ↔ wI (dx_lk lv 3) (fun y => dx_W (tb_Z L xs) d 131 121 lv (.int y :: st) σ Q) := r_iload_n (k := 3) (hz_131.trans rfl)
theorem w_131_121 : dx_W (tb_Z L xs) d 131 121 lv st σ Q ↔ wI (dx_lk lv 4) (fun y => dx_W (tb_Z L xs) d 131 123 lv (.int y :: st) σ Q) := r_iload (k := 4) (hz_131.trans rfl)
theorem w_131_123 {v0 v1 v2 : Value}  : dx_W (tb_Z L xs) d 131 123 lv (v2 :: v1 :: v0 :: st) σ Q ↔ (dx_ct st ≤ 8 ∧ dx_ci (tb_K L xs) σ v0 = some 9) ∧ dx_M (tb_Z L xs) d 132 [v0, v1, v2] σ (wK (tb_Z L xs) d 131 126 lv st Q) := c_callv (av := [v1, v2]) (hz_131.trans rfl)
theorem w_131_126 {x : Int32} : dx_W (tb_Z L xs) d 131 126 lv (.int x :: st) σ Q ↔ dx_W (tb_Z L xs) d 131 128 (dx_s1 lv 5 (.int x)) st σ Q := r_istore (k := 5) (hz_131.trans rfl) (show 5 < tb_l 131 by decide)
theorem w_131_128 : dx_W (tb_Z L xs) d 131 128 lv st σ Q ↔ wI (dx_lk lv 5) (fun y => dx_W (tb_Z L xs) d 131 130 lv (.int y :: st) σ Q) := r_iload (k := 5) (hz_131.trans rfl)
theorem w_131_130 {x : Int32} : dx_W (tb_Z L xs) d 131 130 lv (.int x :: st) σ Q ↔ (if x = 0 then dx_W (tb_Z L xs) d 131 139 lv st σ Q else dx_W (tb_Z L xs) d 131 133 lv st σ Q) := r_if_eq (off := 9) (t := 139) (hz_131.trans rfl) (by decide)
theorem w_131_133 : dx_W (tb_Z L xs) d 131 133 lv st σ Q ↔ wI (dx_lk lv 1) (fun y => dx_W (tb_Z L xs) d 131 134 lv (.int y :: st) σ Q) := r_iload_n (k := 1) (hz_131.trans rfl)
theorem w_131_134 : dx_W (tb_Z L xs) d 131 134 lv st σ Q ↔ dx_W (tb_Z L xs) d 131 135 lv (.int 1 :: st) σ Q := r_iconst (n := 1) (hz_131.trans rfl)
theorem w_131_135 {x y : Int32} : dx_W (tb_Z L xs) d 131 135 lv (.int y :: .int x :: st) σ Q ↔ dx_W (tb_Z L xs) d 131 136 lv (.int (x + y) :: st) σ Q := r_iadd (hz_131.trans rfl)
theorem w_131_136 : dx_W (tb_Z L xs) d 131 136 lv st σ Q ↔ dx_W (tb_Z L xs) d 131 140 lv st σ Q := r_goto (off := 4) (t := 140) (hz_131.trans rfl) (by decide)
theorem w_131_139 : dx_W (tb_Z L xs) d 131 139 lv st σ Q ↔ dx_W (tb_Z L xs) d 131 140 lv (.int (-1) :: st) σ Q := r_iconst (n := (-1)) (hz_131.trans rfl)
theorem w_131_140 {x : Int32} : dx_W (tb_Z L xs) d 131 140 lv [.int x] σ Q ↔ Q (.inl (some (.int x))) σ := r_ireturn (hz_131.trans rfl) rfl rfl
theorem w_131_141 : dx_W (tb_Z L xs) d 131 141 lv st σ Q ↔ wR (dx_lk lv 0) (fun y => dx_W (tb_Z L xs) d 131 142 lv (y :: st) σ Q) := r_aload_n (k := 0) (hz_131.trans rfl)
theorem w_131_142_int {x : Int32} : dx_W (tb_Z L xs) d 131 142 lv (.int x :: st) σ Q ↔ dx_W (tb_Z L xs) d 131 143 lv (.int x :: .int x :: st) σ Q := r_dup_int (hz_131.trans rfl)
theorem w_131_142_ref {x : Nat} : dx_W (tb_Z L xs) d 131 142 lv (.ref x :: st) σ Q ↔ dx_W (tb_Z L xs) d 131 143 lv (.ref x :: .ref x :: st) σ Q := r_dup_ref (hz_131.trans rfl)
theorem w_131_142_retAddr {x : Nat} : dx_W (tb_Z L xs) d 131 142 lv (.retAddr x :: st) σ Q ↔ dx_W (tb_Z L xs) d 131 143 lv (.retAddr x :: .retAddr x :: st) σ Q := r_dup_retAddr (hz_131.trans rfl)
theorem w_131_143 {w : Value} : dx_W (tb_Z L xs) d 131 143 lv (w :: st) σ Q ↔ wO (dx_gf (tb_K L xs) σ w 9 30) (fun y => dx_W (tb_Z L xs) d 131 146 lv (y :: st) σ Q) := r_getfield (hz_131.trans rfl)
theorem w_131_146 : dx_W (tb_Z L xs) d 131 146 lv st σ Q ↔ dx_W (tb_Z L xs) d 131 147 lv (.int 1 :: st) σ Q := r_iconst (n := 1) (hz_131.trans rfl)
theorem w_131_147 {x y : Int32} : dx_W (tb_Z L xs) d 131 147 lv (.int y :: .int x :: st) σ Q ↔ dx_W (tb_Z L xs) d 131 148 lv (.int (x - y) :: st) σ Q := r_isub (hz_131.trans rfl)
theorem w_131_148 {u w : Value} : dx_W (tb_Z L xs) d 131 148 lv (u :: w :: st) σ Q ↔ wO (dx_pf σ w 9 30 0 u) (fun σ1 => dx_W (tb_Z L xs) d 131 151 lv st σ1 Q) := r_putfield (f := 0) (hz_131.trans rfl)
theorem w_131_151 : dx_W (tb_Z L xs) d 131 151 lv st σ Q ↔ wR (dx_lk lv 0) (fun y => dx_W (tb_Z L xs) d 131 152 lv (y :: st) σ Q) := r_aload_n (k := 0) (hz_131.trans rfl)
theorem w_131_152 : dx_W (tb_Z L xs) d 131 152 lv st σ Q ↔ wI (dx_lk lv 3) (fun y => dx_W (tb_Z L xs) d 131 153 lv (.int y :: st) σ Q) := r_iload_n (k := 3) (hz_131.trans rfl)
theorem w_131_153 : dx_W (tb_Z L xs) d 131 153 lv st σ Q ↔ wI (dx_lk lv 4) (fun y => dx_W (tb_Z L xs) d 131 155 lv (.int y :: st) σ Q) := r_iload (k := 4) (hz_131.trans rfl)
theorem w_131_155 {v0 v1 v2 : Value}  : dx_W (tb_Z L xs) d 131 155 lv (v2 :: v1 :: v0 :: st) σ Q ↔ (dx_ct st ≤ 8 ∧ dx_ci (tb_K L xs) σ v0 = some 9) ∧ dx_M (tb_Z L xs) d 133 [v0, v1, v2] σ (wK (tb_Z L xs) d 131 158 lv st Q) := c_callv (av := [v1, v2]) (hz_131.trans rfl)
theorem w_131_158 {x : Int32} : dx_W (tb_Z L xs) d 131 158 lv (.int x :: st) σ Q ↔ dx_W (tb_Z L xs) d 131 160 (dx_s1 lv 6 (.int x)) st σ Q := r_istore (k := 6) (hz_131.trans rfl) (show 6 < tb_l 131 by decide)
theorem w_131_160 : dx_W (tb_Z L xs) d 131 160 lv st σ Q ↔ wI (dx_lk lv 6) (fun y => dx_W (tb_Z L xs) d 131 162 lv (.int y :: st) σ Q) := r_iload (k := 6) (hz_131.trans rfl)
theorem w_131_162 {x : Int32} : dx_W (tb_Z L xs) d 131 162 lv (.int x :: st) σ Q ↔ (if x = 0 then dx_W (tb_Z L xs) d 131 171 lv st σ Q else dx_W (tb_Z L xs) d 131 165 lv st σ Q) := r_if_eq (off := 9) (t := 171) (hz_131.trans rfl) (by decide)
theorem w_131_165 : dx_W (tb_Z L xs) d 131 165 lv st σ Q ↔ wI (dx_lk lv 1) (fun y => dx_W (tb_Z L xs) d 131 166 lv (.int y :: st) σ Q) := r_iload_n (k := 1) (hz_131.trans rfl)
theorem w_131_166 : dx_W (tb_Z L xs) d 131 166 lv st σ Q ↔ dx_W (tb_Z L xs) d 131 167 lv (.int 1 :: st) σ Q := r_iconst (n := 1) (hz_131.trans rfl)
theorem w_131_167 {x y : Int32} : dx_W (tb_Z L xs) d 131 167 lv (.int y :: .int x :: st) σ Q ↔ dx_W (tb_Z L xs) d 131 168 lv (.int (x + y) :: st) σ Q := r_iadd (hz_131.trans rfl)
theorem w_131_168 : dx_W (tb_Z L xs) d 131 168 lv st σ Q ↔ dx_W (tb_Z L xs) d 131 172 lv st σ Q := r_goto (off := 4) (t := 172) (hz_131.trans rfl) (by decide)
theorem w_131_171 : dx_W (tb_Z L xs) d 131 171 lv st σ Q ↔ dx_W (tb_Z L xs) d 131 172 lv (.int (-1) :: st) σ Q := r_iconst (n := (-1)) (hz_131.trans rfl)
theorem w_131_172 {x : Int32} : dx_W (tb_Z L xs) d 131 172 lv [.int x] σ Q ↔ Q (.inl (some (.int x))) σ := r_ireturn (hz_131.trans rfl) rfl rfl
theorem w_131_173 : dx_W (tb_Z L xs) d 131 173 lv st σ Q ↔ wR (dx_lk lv 0) (fun y => dx_W (tb_Z L xs) d 131 174 lv (y :: st) σ Q) := r_aload_n (k := 0) (hz_131.trans rfl)
theorem w_131_174 : dx_W (tb_Z L xs) d 131 174 lv st σ Q ↔ wI (dx_lk lv 3) (fun y => dx_W (tb_Z L xs) d 131 175 lv (.int y :: st) σ Q) := r_iload_n (k := 3) (hz_131.trans rfl)
theorem w_131_175 : dx_W (tb_Z L xs) d 131 175 lv st σ Q ↔ wI (dx_lk lv 4) (fun y => dx_W (tb_Z L xs) d 131 177 lv (.int y :: st) σ Q) := r_iload (k := 4) (hz_131.trans rfl)
theorem w_131_177 {v0 v1 v2 : Value}  : dx_W (tb_Z L xs) d 131 177 lv (v2 :: v1 :: v0 :: st) σ Q ↔ (dx_ct st ≤ 8 ∧ dx_ci (tb_K L xs) σ v0 = some 9) ∧ dx_M (tb_Z L xs) d 135 [v0, v1, v2] σ (wK (tb_Z L xs) d 131 180 lv st Q) := c_callv (av := [v1, v2]) (hz_131.trans rfl)
theorem w_131_180 {x : Int32} : dx_W (tb_Z L xs) d 131 180 lv [.int x] σ Q ↔ Q (.inl (some (.int x))) σ := r_ireturn (hz_131.trans rfl) rfl rfl
theorem w_131_181 : dx_W (tb_Z L xs) d 131 181 lv st σ Q ↔ wR (dx_lk lv 0) (fun y => dx_W (tb_Z L xs) d 131 182 lv (y :: st) σ Q) := r_aload_n (k := 0) (hz_131.trans rfl)
theorem w_131_182 {w : Value} : dx_W (tb_Z L xs) d 131 182 lv (w :: st) σ Q ↔ wO (dx_gf (tb_K L xs) σ w 9 31) (fun y => dx_W (tb_Z L xs) d 131 185 lv (y :: st) σ Q) := r_getfield (hz_131.trans rfl)
theorem w_131_185 {x : Int32} : dx_W (tb_Z L xs) d 131 185 lv (.int x :: st) σ Q ↔ (if x ≤ 0 then dx_W (tb_Z L xs) d 131 197 lv st σ Q else dx_W (tb_Z L xs) d 131 188 lv st σ Q) := r_if_le (off := 12) (t := 197) (hz_131.trans rfl) (by decide)
theorem w_131_188 : dx_W (tb_Z L xs) d 131 188 lv st σ Q ↔ wR (dx_lk lv 0) (fun y => dx_W (tb_Z L xs) d 131 189 lv (y :: st) σ Q) := r_aload_n (k := 0) (hz_131.trans rfl)
theorem w_131_189 : dx_W (tb_Z L xs) d 131 189 lv st σ Q ↔ dx_W (tb_Z L xs) d 131 190 lv (.int 0 :: st) σ Q := r_iconst (n := 0) (hz_131.trans rfl)
theorem w_131_190 : dx_W (tb_Z L xs) d 131 190 lv st σ Q ↔ dx_W (tb_Z L xs) d 131 191 lv (.int 0 :: st) σ Q := r_iconst (n := 0) (hz_131.trans rfl)
theorem w_131_191 {v0 v1 v2 : Value}  : dx_W (tb_Z L xs) d 131 191 lv (v2 :: v1 :: v0 :: st) σ Q ↔ (dx_ct st ≤ 8 ∧ dx_ci (tb_K L xs) σ v0 = some 9) ∧ dx_M (tb_Z L xs) d 135 [v0, v1, v2] σ (wK (tb_Z L xs) d 131 194 lv st Q) := c_callv (av := [v1, v2]) (hz_131.trans rfl)
theorem w_131_194 : dx_W (tb_Z L xs) d 131 194 lv st σ Q ↔ dx_W (tb_Z L xs) d 131 198 lv st σ Q := r_goto (off := 4) (t := 198) (hz_131.trans rfl) (by decide)
theorem w_131_197 : dx_W (tb_Z L xs) d 131 197 lv st σ Q ↔ dx_W (tb_Z L xs) d 131 198 lv (.int (-1) :: st) σ Q := r_iconst (n := (-1)) (hz_131.trans rfl)
theorem w_131_198 {x : Int32} : dx_W (tb_Z L xs) d 131 198 lv [.int x] σ Q ↔ Q (.inl (some (.int x))) σ := r_ireturn (hz_131.trans rfl) rfl rfl
theorem hz_132 {pc : Nat} : (tb_Z L xs).1 132 pc = dx_at tb_m132 pc := rfl
theorem w_132_0 : dx_W (tb_Z L xs) d 132 0 lv st σ Q ↔ wI (dx_lk lv 2) (fun y => dx_W (tb_Z L xs) d 132 1 lv (.int y :: st) σ Q) := r_iload_n (k := 2) (hz_132.trans rfl)
theorem w_132_1 {v0 : Value}  : dx_W (tb_Z L xs) d 132 1 lv (v0 :: st) σ Q ↔ dx_ct st ≤ 8 ∧ dx_M (tb_Z L xs) d 124 [v0] σ (wK (tb_Z L xs) d 132 4 lv st Q) := c_calls (av := [v0]) (hz_132.trans rfl)
theorem w_132_4 {x : Int64} : dx_W (tb_Z L xs) d 132 4 lv (.long x :: st) σ Q ↔ dx_W (tb_Z L xs) d 132 5 (dx_s2 lv 3 (.long x)) st σ Q := r_lstore_n (k := 3) (hz_132.trans rfl) (show 3 + 1 < tb_l 132 by decide)
theorem w_132_5 : dx_W (tb_Z L xs) d 132 5 lv st σ Q ↔ wI (dx_lk lv 1) (fun y => dx_W (tb_Z L xs) d 132 6 lv (.int y :: st) σ Q) := r_iload_n (k := 1) (hz_132.trans rfl)
theorem w_132_6 {x : Int32} : dx_W (tb_Z L xs) d 132 6 lv (.int x :: st) σ Q ↔ dx_W (tb_Z L xs) d 132 7 lv (.long x.toInt64 :: st) σ Q := r_i2l (hz_132.trans rfl)
theorem w_132_7 : dx_W (tb_Z L xs) d 132 7 lv st σ Q ↔ wJ (dx_lk lv 3) (fun y => dx_W (tb_Z L xs) d 132 8 lv (.long y :: st) σ Q) := r_lload_n (k := 3) (hz_132.trans rfl)
theorem w_132_8 {x y : Int64} : dx_W (tb_Z L xs) d 132 8 lv (.long y :: .long x :: st) σ Q ↔ ¬ y = 0 ∧ dx_W (tb_Z L xs) d 132 9 lv (.long (x - x / y * y) :: st) σ Q := c_lrem (hz_132.trans rfl)
theorem w_132_9 : dx_W (tb_Z L xs) d 132 9 lv st σ Q ↔ dx_W (tb_Z L xs) d 132 10 lv (.long 0 :: st) σ Q := r_lconst (n := 0) (hz_132.trans rfl)
theorem w_132_10 {x y : Int64} : dx_W (tb_Z L xs) d 132 10 lv (.long y :: .long x :: st) σ Q ↔ dx_W (tb_Z L xs) d 132 11 lv (.int (lg_cmp x y) :: st) σ Q := r_lcmp (hz_132.trans rfl)
theorem w_132_11 {x : Int32} : dx_W (tb_Z L xs) d 132 11 lv (.int x :: st) σ Q ↔ (if ¬ x = 0 then dx_W (tb_Z L xs) d 132 34 lv st σ Q else dx_W (tb_Z L xs) d 132 14 lv st σ Q) := r_if_ne (off := 23) (t := 34) (hz_132.trans rfl) (by decide)
theorem w_132_14 : dx_W (tb_Z L xs) d 132 14 lv st σ Q ↔ wI (dx_lk lv 1) (fun y => dx_W (tb_Z L xs) d 132 15 lv (.int y :: st) σ Q) := r_iload_n (k := 1) (hz_132.trans rfl)
theorem w_132_15 {x : Int32} : dx_W (tb_Z L xs) d 132 15 lv (.int x :: st) σ Q ↔ dx_W (tb_Z L xs) d 132 16 lv (.long x.toInt64 :: st) σ Q := r_i2l (hz_132.trans rfl)
theorem w_132_16 : dx_W (tb_Z L xs) d 132 16 lv st σ Q ↔ wJ (dx_lk lv 3) (fun y => dx_W (tb_Z L xs) d 132 17 lv (.long y :: st) σ Q) := r_lload_n (k := 3) (hz_132.trans rfl)
theorem w_132_17 {x y : Int64} : dx_W (tb_Z L xs) d 132 17 lv (.long y :: .long x :: st) σ Q ↔ ¬ y = 0 ∧ dx_W (tb_Z L xs) d 132 18 lv (.long (x / y) :: st) σ Q := c_ldiv (hz_132.trans rfl)
theorem w_132_18 : dx_W (tb_Z L xs) d 132 18 lv st σ Q ↔ dx_W (tb_Z L xs) d 132 19 lv (.long 0 :: st) σ Q := r_lconst (n := 0) (hz_132.trans rfl)
theorem w_132_19 {x y : Int64} : dx_W (tb_Z L xs) d 132 19 lv (.long y :: .long x :: st) σ Q ↔ dx_W (tb_Z L xs) d 132 20 lv (.int (lg_cmp x y) :: st) σ Q := r_lcmp (hz_132.trans rfl)
theorem w_132_20 {x : Int32} : dx_W (tb_Z L xs) d 132 20 lv (.int x :: st) σ Q ↔ (if x < 0 then dx_W (tb_Z L xs) d 132 34 lv st σ Q else dx_W (tb_Z L xs) d 132 23 lv st σ Q) := r_if_lt (off := 14) (t := 34) (hz_132.trans rfl) (by decide)
theorem w_132_23 : dx_W (tb_Z L xs) d 132 23 lv st σ Q ↔ wI (dx_lk lv 1) (fun y => dx_W (tb_Z L xs) d 132 24 lv (.int y :: st) σ Q) := r_iload_n (k := 1) (hz_132.trans rfl)
theorem w_132_24 {x : Int32} : dx_W (tb_Z L xs) d 132 24 lv (.int x :: st) σ Q ↔ dx_W (tb_Z L xs) d 132 25 lv (.long x.toInt64 :: st) σ Q := r_i2l (hz_132.trans rfl)
theorem w_132_25 : dx_W (tb_Z L xs) d 132 25 lv st σ Q ↔ wJ (dx_lk lv 3) (fun y => dx_W (tb_Z L xs) d 132 26 lv (.long y :: st) σ Q) := r_lload_n (k := 3) (hz_132.trans rfl)
theorem w_132_26 {x y : Int64} : dx_W (tb_Z L xs) d 132 26 lv (.long y :: .long x :: st) σ Q ↔ ¬ y = 0 ∧ dx_W (tb_Z L xs) d 132 27 lv (.long (x / y) :: st) σ Q := c_ldiv (hz_132.trans rfl)
theorem w_132_27 : dx_W (tb_Z L xs) d 132 27 lv st σ Q ↔ dx_W (tb_Z L xs) d 132 30 lv (.long 4 :: st) σ Q := r_ldc2_w (hz_132.trans rfl)
theorem w_132_30 {x y : Int64} : dx_W (tb_Z L xs) d 132 30 lv (.long y :: .long x :: st) σ Q ↔ dx_W (tb_Z L xs) d 132 31 lv (.int (lg_cmp x y) :: st) σ Q := r_lcmp (hz_132.trans rfl)
theorem w_132_31 {x : Int32} : dx_W (tb_Z L xs) d 132 31 lv (.int x :: st) σ Q ↔ (if x ≤ 0 then dx_W (tb_Z L xs) d 132 41 lv st σ Q else dx_W (tb_Z L xs) d 132 34 lv st σ Q) := r_if_le (off := 10) (t := 41) (hz_132.trans rfl) (by decide)
theorem w_132_34 : dx_W (tb_Z L xs) d 132 34 lv st σ Q ↔ wR (dx_lk lv 0) (fun y => dx_W (tb_Z L xs) d 132 35 lv (y :: st) σ Q) := r_aload_n (k := 0) (hz_132.trans rfl)
theorem w_132_35 : dx_W (tb_Z L xs) d 132 35 lv st σ Q ↔ dx_W (tb_Z L xs) d 132 36 lv (.int 5 :: st) σ Q := r_iconst (n := 5) (hz_132.trans rfl)
theorem w_132_36 {u w : Value} : dx_W (tb_Z L xs) d 132 36 lv (u :: w :: st) σ Q ↔ wO (dx_pf σ w 9 34 0 u) (fun σ1 => dx_W (tb_Z L xs) d 132 39 lv st σ1 Q) := r_putfield (f := 0) (hz_132.trans rfl)
theorem w_132_39 : dx_W (tb_Z L xs) d 132 39 lv st σ Q ↔ dx_W (tb_Z L xs) d 132 40 lv (.int 0 :: st) σ Q := r_iconst (n := 0) (hz_132.trans rfl)
theorem w_132_40 {x : Int32} : dx_W (tb_Z L xs) d 132 40 lv [.int x] σ Q ↔ narrow .boolean (.int x) = .int x ∧ Q (.inl (some (.int x))) σ := c_ireturn (hz_132.trans rfl) rfl
theorem w_132_41 : dx_W (tb_Z L xs) d 132 41 lv st σ Q ↔ wR (dx_lk lv 0) (fun y => dx_W (tb_Z L xs) d 132 42 lv (y :: st) σ Q) := r_aload_n (k := 0) (hz_132.trans rfl)
theorem w_132_42 : dx_W (tb_Z L xs) d 132 42 lv st σ Q ↔ wI (dx_lk lv 1) (fun y => dx_W (tb_Z L xs) d 132 43 lv (.int y :: st) σ Q) := r_iload_n (k := 1) (hz_132.trans rfl)
theorem w_132_43 {x : Int32} : dx_W (tb_Z L xs) d 132 43 lv (.int x :: st) σ Q ↔ dx_W (tb_Z L xs) d 132 44 lv (.long x.toInt64 :: st) σ Q := r_i2l (hz_132.trans rfl)
theorem w_132_44 : dx_W (tb_Z L xs) d 132 44 lv st σ Q ↔ wJ (dx_lk lv 3) (fun y => dx_W (tb_Z L xs) d 132 45 lv (.long y :: st) σ Q) := r_lload_n (k := 3) (hz_132.trans rfl)
theorem w_132_45 {x y : Int64} : dx_W (tb_Z L xs) d 132 45 lv (.long y :: .long x :: st) σ Q ↔ ¬ y = 0 ∧ dx_W (tb_Z L xs) d 132 46 lv (.long (x / y) :: st) σ Q := c_ldiv (hz_132.trans rfl)
theorem w_132_46 {x : Int64} : dx_W (tb_Z L xs) d 132 46 lv (.long x :: st) σ Q ↔ dx_W (tb_Z L xs) d 132 47 lv (.int x.toInt32 :: st) σ Q := r_l2i (hz_132.trans rfl)
theorem w_132_47 {u w : Value} : dx_W (tb_Z L xs) d 132 47 lv (u :: w :: st) σ Q ↔ wO (dx_pf σ w 9 4 0 u) (fun σ1 => dx_W (tb_Z L xs) d 132 50 lv st σ1 Q) := r_putfield (f := 0) (hz_132.trans rfl)
theorem w_132_50 : dx_W (tb_Z L xs) d 132 50 lv st σ Q ↔ dx_W (tb_Z L xs) d 132 51 lv (.int 1 :: st) σ Q := r_iconst (n := 1) (hz_132.trans rfl)
theorem w_132_51 {x : Int32} : dx_W (tb_Z L xs) d 132 51 lv [.int x] σ Q ↔ narrow .boolean (.int x) = .int x ∧ Q (.inl (some (.int x))) σ := c_ireturn (hz_132.trans rfl) rfl
theorem hz_133 {pc : Nat} : (tb_Z L xs).1 133 pc = dx_at tb_m133 pc := rfl
theorem w_133_0 : dx_W (tb_Z L xs) d 133 0 lv st σ Q ↔ wI (dx_lk lv 1) (fun y => dx_W (tb_Z L xs) d 133 1 lv (.int y :: st) σ Q) := r_iload_n (k := 1) (hz_133.trans rfl)
theorem w_133_1 {x : Int32} : dx_W (tb_Z L xs) d 133 1 lv (.int x :: st) σ Q ↔ (if 0 ≤ x then dx_W (tb_Z L xs) d 133 10 lv st σ Q else dx_W (tb_Z L xs) d 133 4 lv st σ Q) := r_if_ge (off := 9) (t := 10) (hz_133.trans rfl) (by decide)
theorem w_133_4 : dx_W (tb_Z L xs) d 133 4 lv st σ Q ↔ wI (dx_lk lv 1) (fun y => dx_W (tb_Z L xs) d 133 5 lv (.int y :: st) σ Q) := r_iload_n (k := 1) (hz_133.trans rfl)
theorem w_133_5 {x : Int32} : dx_W (tb_Z L xs) d 133 5 lv (.int x :: st) σ Q ↔ dx_W (tb_Z L xs) d 133 6 lv (.long x.toInt64 :: st) σ Q := r_i2l (hz_133.trans rfl)
theorem w_133_6 {x : Int64} : dx_W (tb_Z L xs) d 133 6 lv (.long x :: st) σ Q ↔ dx_W (tb_Z L xs) d 133 7 lv (.long (-x) :: st) σ Q := r_lneg (hz_133.trans rfl)
theorem w_133_7 : dx_W (tb_Z L xs) d 133 7 lv st σ Q ↔ dx_W (tb_Z L xs) d 133 12 lv st σ Q := r_goto (off := 5) (t := 12) (hz_133.trans rfl) (by decide)
theorem w_133_10 : dx_W (tb_Z L xs) d 133 10 lv st σ Q ↔ wI (dx_lk lv 1) (fun y => dx_W (tb_Z L xs) d 133 11 lv (.int y :: st) σ Q) := r_iload_n (k := 1) (hz_133.trans rfl)
theorem w_133_11 {x : Int32} : dx_W (tb_Z L xs) d 133 11 lv (.int x :: st) σ Q ↔ dx_W (tb_Z L xs) d 133 12 lv (.long x.toInt64 :: st) σ Q := r_i2l (hz_133.trans rfl)
theorem w_133_12 {x : Int64} : dx_W (tb_Z L xs) d 133 12 lv (.long x :: st) σ Q ↔ dx_W (tb_Z L xs) d 133 13 (dx_s2 lv 3 (.long x)) st σ Q := r_lstore_n (k := 3) (hz_133.trans rfl) (show 3 + 1 < tb_l 133 by decide)
theorem w_133_13 : dx_W (tb_Z L xs) d 133 13 lv st σ Q ↔ dx_W (tb_Z L xs) d 133 14 lv (.int 1 :: st) σ Q := r_iconst (n := 1) (hz_133.trans rfl)
theorem w_133_14 {x : Int32} : dx_W (tb_Z L xs) d 133 14 lv (.int x :: st) σ Q ↔ dx_W (tb_Z L xs) d 133 16 (dx_s1 lv 5 (.int x)) st σ Q := r_istore (k := 5) (hz_133.trans rfl) (show 5 < tb_l 133 by decide)
theorem w_133_16 : dx_W (tb_Z L xs) d 133 16 lv st σ Q ↔ wJ (dx_lk lv 3) (fun y => dx_W (tb_Z L xs) d 133 17 lv (.long y :: st) σ Q) := r_lload_n (k := 3) (hz_133.trans rfl)
theorem w_133_17 : dx_W (tb_Z L xs) d 133 17 lv st σ Q ↔ wI (dx_lk lv 5) (fun y => dx_W (tb_Z L xs) d 133 19 lv (.int y :: st) σ Q) := r_iload (k := 5) (hz_133.trans rfl)
theorem w_133_19 {v0 : Value}  : dx_W (tb_Z L xs) d 133 19 lv (v0 :: st) σ Q ↔ dx_ct st ≤ 8 ∧ dx_M (tb_Z L xs) d 124 [v0] σ (wK (tb_Z L xs) d 133 22 lv st Q) := c_calls (av := [v0]) (hz_133.trans rfl)
theorem w_133_22 {x y : Int64} : dx_W (tb_Z L xs) d 133 22 lv (.long y :: .long x :: st) σ Q ↔ ¬ y = 0 ∧ dx_W (tb_Z L xs) d 133 23 lv (.long (x / y) :: st) σ Q := c_ldiv (hz_133.trans rfl)
theorem w_133_23 : dx_W (tb_Z L xs) d 133 23 lv st σ Q ↔ dx_W (tb_Z L xs) d 133 24 lv (.long 0 :: st) σ Q := r_lconst (n := 0) (hz_133.trans rfl)
theorem w_133_24 {x y : Int64} : dx_W (tb_Z L xs) d 133 24 lv (.long y :: .long x :: st) σ Q ↔ dx_W (tb_Z L xs) d 133 25 lv (.int (lg_cmp x y) :: st) σ Q := r_lcmp (hz_133.trans rfl)
theorem w_133_25 {x : Int32} : dx_W (tb_Z L xs) d 133 25 lv (.int x :: st) σ Q ↔ (if x ≤ 0 then dx_W (tb_Z L xs) d 133 34 lv st σ Q else dx_W (tb_Z L xs) d 133 28 lv st σ Q) := r_if_le (off := 9) (t := 34) (hz_133.trans rfl) (by decide)
theorem w_133_28 : dx_W (tb_Z L xs) d 133 28 lv st σ Q ↔ wI (dx_lk lv 5) (fun y => dx_W (tb_Z L xs) d 133 31 (dx_s1 lv 5 (.int (y + 1))) st σ Q) := r_iincv (k := 5) (n := 1) (hz_133.trans rfl) (show 5 < tb_l 133 by decide) (by decide)
theorem w_133_31 : dx_W (tb_Z L xs) d 133 31 lv st σ Q ↔ dx_W (tb_Z L xs) d 133 16 lv st σ Q := r_goto (off := (-15)) (t := 16) (hz_133.trans rfl) (by decide)
theorem w_133_34 : dx_W (tb_Z L xs) d 133 34 lv st σ Q ↔ wI (dx_lk lv 5) (fun y => dx_W (tb_Z L xs) d 133 36 lv (.int y :: st) σ Q) := r_iload (k := 5) (hz_133.trans rfl)
theorem w_133_36 : dx_W (tb_Z L xs) d 133 36 lv st σ Q ↔ wI (dx_lk lv 2) (fun y => dx_W (tb_Z L xs) d 133 37 lv (.int y :: st) σ Q) := r_iload_n (k := 2) (hz_133.trans rfl)
theorem w_133_37 {x y : Int32} : dx_W (tb_Z L xs) d 133 37 lv (.int y :: .int x :: st) σ Q ↔ (if x ≤ y then dx_W (tb_Z L xs) d 133 47 lv st σ Q else dx_W (tb_Z L xs) d 133 40 lv st σ Q) := r_ic_le (off := 10) (t := 47) (hz_133.trans rfl) (by decide)
theorem w_133_40 : dx_W (tb_Z L xs) d 133 40 lv st σ Q ↔ wI (dx_lk lv 5) (fun y => dx_W (tb_Z L xs) d 133 42 lv (.int y :: st) σ Q) := r_iload (k := 5) (hz_133.trans rfl)
theorem w_133_42 : dx_W (tb_Z L xs) d 133 42 lv st σ Q ↔ wI (dx_lk lv 2) (fun y => dx_W (tb_Z L xs) d 133 43 lv (.int y :: st) σ Q) := r_iload_n (k := 2) (hz_133.trans rfl)
theorem w_133_43 {x y : Int32} : dx_W (tb_Z L xs) d 133 43 lv (.int y :: .int x :: st) σ Q ↔ dx_W (tb_Z L xs) d 133 44 lv (.int (x - y) :: st) σ Q := r_isub (hz_133.trans rfl)
theorem w_133_44 : dx_W (tb_Z L xs) d 133 44 lv st σ Q ↔ dx_W (tb_Z L xs) d 133 48 lv st σ Q := r_goto (off := 4) (t := 48) (hz_133.trans rfl) (by decide)
theorem w_133_47 : dx_W (tb_Z L xs) d 133 47 lv st σ Q ↔ dx_W (tb_Z L xs) d 133 48 lv (.int 1 :: st) σ Q := r_iconst (n := 1) (hz_133.trans rfl)
theorem w_133_48 {x : Int32} : dx_W (tb_Z L xs) d 133 48 lv (.int x :: st) σ Q ↔ dx_W (tb_Z L xs) d 133 50 (dx_s1 lv 6 (.int x)) st σ Q := r_istore (k := 6) (hz_133.trans rfl) (show 6 < tb_l 133 by decide)
theorem w_133_50 : dx_W (tb_Z L xs) d 133 50 lv st σ Q ↔ wI (dx_lk lv 1) (fun y => dx_W (tb_Z L xs) d 133 51 lv (.int y :: st) σ Q) := r_iload_n (k := 1) (hz_133.trans rfl)
theorem w_133_51 {x : Int32} : dx_W (tb_Z L xs) d 133 51 lv (.int x :: st) σ Q ↔ (if 0 ≤ x then dx_W (tb_Z L xs) d 133 58 lv st σ Q else dx_W (tb_Z L xs) d 133 54 lv st σ Q) := r_if_ge (off := 7) (t := 58) (hz_133.trans rfl) (by decide)
theorem w_133_54 : dx_W (tb_Z L xs) d 133 54 lv st σ Q ↔ dx_W (tb_Z L xs) d 133 55 lv (.int 1 :: st) σ Q := r_iconst (n := 1) (hz_133.trans rfl)
theorem w_133_55 : dx_W (tb_Z L xs) d 133 55 lv st σ Q ↔ dx_W (tb_Z L xs) d 133 59 lv st σ Q := r_goto (off := 4) (t := 59) (hz_133.trans rfl) (by decide)
theorem w_133_58 : dx_W (tb_Z L xs) d 133 58 lv st σ Q ↔ dx_W (tb_Z L xs) d 133 59 lv (.int 0 :: st) σ Q := r_iconst (n := 0) (hz_133.trans rfl)
theorem w_133_59 : dx_W (tb_Z L xs) d 133 59 lv st σ Q ↔ wI (dx_lk lv 6) (fun y => dx_W (tb_Z L xs) d 133 61 lv (.int y :: st) σ Q) := r_iload (k := 6) (hz_133.trans rfl)
theorem w_133_61 {x y : Int32} : dx_W (tb_Z L xs) d 133 61 lv (.int y :: .int x :: st) σ Q ↔ dx_W (tb_Z L xs) d 133 62 lv (.int (x + y) :: st) σ Q := r_iadd (hz_133.trans rfl)
theorem w_133_62 : dx_W (tb_Z L xs) d 133 62 lv st σ Q ↔ wI (dx_lk lv 2) (fun y => dx_W (tb_Z L xs) d 133 63 lv (.int y :: st) σ Q) := r_iload_n (k := 2) (hz_133.trans rfl)
theorem w_133_63 {x : Int32} : dx_W (tb_Z L xs) d 133 63 lv (.int x :: st) σ Q ↔ (if x ≤ 0 then dx_W (tb_Z L xs) d 133 72 lv st σ Q else dx_W (tb_Z L xs) d 133 66 lv st σ Q) := r_if_le (off := 9) (t := 72) (hz_133.trans rfl) (by decide)
theorem w_133_66 : dx_W (tb_Z L xs) d 133 66 lv st σ Q ↔ dx_W (tb_Z L xs) d 133 67 lv (.int 1 :: st) σ Q := r_iconst (n := 1) (hz_133.trans rfl)
theorem w_133_67 : dx_W (tb_Z L xs) d 133 67 lv st σ Q ↔ wI (dx_lk lv 2) (fun y => dx_W (tb_Z L xs) d 133 68 lv (.int y :: st) σ Q) := r_iload_n (k := 2) (hz_133.trans rfl)
theorem w_133_68 {x y : Int32} : dx_W (tb_Z L xs) d 133 68 lv (.int y :: .int x :: st) σ Q ↔ dx_W (tb_Z L xs) d 133 69 lv (.int (x + y) :: st) σ Q := r_iadd (hz_133.trans rfl)
theorem w_133_69 : dx_W (tb_Z L xs) d 133 69 lv st σ Q ↔ dx_W (tb_Z L xs) d 133 73 lv st σ Q := r_goto (off := 4) (t := 73) (hz_133.trans rfl) (by decide)
theorem w_133_72 : dx_W (tb_Z L xs) d 133 72 lv st σ Q ↔ dx_W (tb_Z L xs) d 133 73 lv (.int 0 :: st) σ Q := r_iconst (n := 0) (hz_133.trans rfl)
theorem w_133_73 {x y : Int32} : dx_W (tb_Z L xs) d 133 73 lv (.int y :: .int x :: st) σ Q ↔ dx_W (tb_Z L xs) d 133 74 lv (.int (x + y) :: st) σ Q := r_iadd (hz_133.trans rfl)
theorem w_133_74 : dx_W (tb_Z L xs) d 133 74 lv st σ Q ↔ dx_W (tb_Z L xs) d 133 75 lv (.int 1 :: st) σ Q := r_iconst (n := 1) (hz_133.trans rfl)
theorem w_133_75 {x y : Int32} : dx_W (tb_Z L xs) d 133 75 lv (.int y :: .int x :: st) σ Q ↔ dx_W (tb_Z L xs) d 133 76 lv (.int (x + y) :: st) σ Q := r_iadd (hz_133.trans rfl)
theorem w_133_76 {x : Int32} : dx_W (tb_Z L xs) d 133 76 lv (.int x :: st) σ Q ↔ dx_W (tb_Z L xs) d 133 78 (dx_s1 lv 7 (.int x)) st σ Q := r_istore (k := 7) (hz_133.trans rfl) (show 7 < tb_l 133 by decide)
theorem w_133_78 : dx_W (tb_Z L xs) d 133 78 lv st σ Q ↔ wR (dx_lk lv 0) (fun y => dx_W (tb_Z L xs) d 133 79 lv (y :: st) σ Q) := r_aload_n (k := 0) (hz_133.trans rfl)
theorem w_133_79 {w : Value} : dx_W (tb_Z L xs) d 133 79 lv (w :: st) σ Q ↔ wO (dx_gf (tb_K L xs) σ w 9 37) (fun y => dx_W (tb_Z L xs) d 133 82 lv (y :: st) σ Q) := r_getfield (hz_133.trans rfl)
theorem w_133_82 : dx_W (tb_Z L xs) d 133 82 lv st σ Q ↔ wI (dx_lk lv 7) (fun y => dx_W (tb_Z L xs) d 133 84 lv (.int y :: st) σ Q) := r_iload (k := 7) (hz_133.trans rfl)
theorem w_133_84 {x y : Int32} : dx_W (tb_Z L xs) d 133 84 lv (.int y :: .int x :: st) σ Q ↔ dx_W (tb_Z L xs) d 133 85 lv (.int (x + y) :: st) σ Q := r_iadd (hz_133.trans rfl)
theorem w_133_85 : dx_W (tb_Z L xs) d 133 85 lv st σ Q ↔ dx_W (tb_Z L xs) d 133 88 lv (.int 300 :: st) σ Q := r_sipush (n := 300) (hz_133.trans rfl)
theorem w_133_88 {x y : Int32} : dx_W (tb_Z L xs) d 133 88 lv (.int y :: .int x :: st) σ Q ↔ (if x ≤ y then dx_W (tb_Z L xs) d 133 99 lv st σ Q else dx_W (tb_Z L xs) d 133 91 lv st σ Q) := r_ic_le (off := 11) (t := 99) (hz_133.trans rfl) (by decide)
theorem w_133_91 : dx_W (tb_Z L xs) d 133 91 lv st σ Q ↔ wR (dx_lk lv 0) (fun y => dx_W (tb_Z L xs) d 133 92 lv (y :: st) σ Q) := r_aload_n (k := 0) (hz_133.trans rfl)
theorem w_133_92 : dx_W (tb_Z L xs) d 133 92 lv st σ Q ↔ dx_W (tb_Z L xs) d 133 94 lv (.int 8 :: st) σ Q := r_bipush (n := 8) (hz_133.trans rfl)
theorem w_133_94 {u w : Value} : dx_W (tb_Z L xs) d 133 94 lv (u :: w :: st) σ Q ↔ wO (dx_pf σ w 9 34 0 u) (fun σ1 => dx_W (tb_Z L xs) d 133 97 lv st σ1 Q) := r_putfield (f := 0) (hz_133.trans rfl)
theorem w_133_97 : dx_W (tb_Z L xs) d 133 97 lv st σ Q ↔ dx_W (tb_Z L xs) d 133 98 lv (.int 0 :: st) σ Q := r_iconst (n := 0) (hz_133.trans rfl)
theorem w_133_98 {x : Int32} : dx_W (tb_Z L xs) d 133 98 lv [.int x] σ Q ↔ narrow .boolean (.int x) = .int x ∧ Q (.inl (some (.int x))) σ := c_ireturn (hz_133.trans rfl) rfl
theorem w_133_99 : dx_W (tb_Z L xs) d 133 99 lv st σ Q ↔ wR (dx_lk lv 0) (fun y => dx_W (tb_Z L xs) d 133 100 lv (y :: st) σ Q) := r_aload_n (k := 0) (hz_133.trans rfl)
theorem w_133_100 {w : Value} : dx_W (tb_Z L xs) d 133 100 lv (w :: st) σ Q ↔ wO (dx_gf (tb_K L xs) σ w 9 37) (fun y => dx_W (tb_Z L xs) d 133 103 lv (y :: st) σ Q) := r_getfield (hz_133.trans rfl)
theorem w_133_103 {x : Int32} : dx_W (tb_Z L xs) d 133 103 lv (.int x :: st) σ Q ↔ dx_W (tb_Z L xs) d 133 105 (dx_s1 lv 8 (.int x)) st σ Q := r_istore (k := 8) (hz_133.trans rfl) (show 8 < tb_l 133 by decide)
theorem w_133_105 : dx_W (tb_Z L xs) d 133 105 lv st σ Q ↔ wI (dx_lk lv 1) (fun y => dx_W (tb_Z L xs) d 133 106 lv (.int y :: st) σ Q) := r_iload_n (k := 1) (hz_133.trans rfl)
theorem w_133_106 {x : Int32} : dx_W (tb_Z L xs) d 133 106 lv (.int x :: st) σ Q ↔ (if 0 ≤ x then dx_W (tb_Z L xs) d 133 120 lv st σ Q else dx_W (tb_Z L xs) d 133 109 lv st σ Q) := r_if_ge (off := 14) (t := 120) (hz_133.trans rfl) (by decide)
theorem w_133_109 : dx_W (tb_Z L xs) d 133 109 lv st σ Q ↔ wR (dx_lk lv 0) (fun y => dx_W (tb_Z L xs) d 133 110 lv (y :: st) σ Q) := r_aload_n (k := 0) (hz_133.trans rfl)
theorem w_133_110 : dx_W (tb_Z L xs) d 133 110 lv st σ Q ↔ dx_W (tb_Z L xs) d 133 112 lv (.int 45 :: st) σ Q := r_bipush (n := 45) (hz_133.trans rfl)
theorem w_133_112 : dx_W (tb_Z L xs) d 133 112 lv st σ Q ↔ wI (dx_lk lv 8) (fun y => dx_W (tb_Z L xs) d 133 114 lv (.int y :: st) σ Q) := r_iload (k := 8) (hz_133.trans rfl)
theorem w_133_114 {v0 v1 v2 : Value}  : dx_W (tb_Z L xs) d 133 114 lv (v2 :: v1 :: v0 :: st) σ Q ↔ (dx_ct st ≤ 8 ∧ dx_ci (tb_K L xs) σ v0 = some 9) ∧ dx_M (tb_Z L xs) d 134 [v0, v1, v2] σ (wK (tb_Z L xs) d 133 117 lv st Q) := c_callv (av := [v1, v2]) (hz_133.trans rfl)
theorem w_133_117 : dx_W (tb_Z L xs) d 133 117 lv st σ Q ↔ wI (dx_lk lv 8) (fun y => dx_W (tb_Z L xs) d 133 120 (dx_s1 lv 8 (.int (y + 1))) st σ Q) := r_iincv (k := 8) (n := 1) (hz_133.trans rfl) (show 8 < tb_l 133 by decide) (by decide)
theorem w_133_120 : dx_W (tb_Z L xs) d 133 120 lv st σ Q ↔ wI (dx_lk lv 6) (fun y => dx_W (tb_Z L xs) d 133 122 lv (.int y :: st) σ Q) := r_iload (k := 6) (hz_133.trans rfl)
theorem w_133_122 : dx_W (tb_Z L xs) d 133 122 lv st σ Q ↔ wI (dx_lk lv 2) (fun y => dx_W (tb_Z L xs) d 133 123 lv (.int y :: st) σ Q) := r_iload_n (k := 2) (hz_133.trans rfl)
theorem w_133_123 {x y : Int32} : dx_W (tb_Z L xs) d 133 123 lv (.int y :: .int x :: st) σ Q ↔ dx_W (tb_Z L xs) d 133 124 lv (.int (x + y) :: st) σ Q := r_iadd (hz_133.trans rfl)
theorem w_133_124 : dx_W (tb_Z L xs) d 133 124 lv st σ Q ↔ dx_W (tb_Z L xs) d 133 125 lv (.int 1 :: st) σ Q := r_iconst (n := 1) (hz_133.trans rfl)
theorem w_133_125 {x y : Int32} : dx_W (tb_Z L xs) d 133 125 lv (.int y :: .int x :: st) σ Q ↔ dx_W (tb_Z L xs) d 133 126 lv (.int (x - y) :: st) σ Q := r_isub (hz_133.trans rfl)
theorem w_133_126 {x : Int32} : dx_W (tb_Z L xs) d 133 126 lv (.int x :: st) σ Q ↔ dx_W (tb_Z L xs) d 133 128 (dx_s1 lv 9 (.int x)) st σ Q := r_istore (k := 9) (hz_133.trans rfl) (show 9 < tb_l 133 by decide)
theorem w_133_128 : dx_W (tb_Z L xs) d 133 128 lv st σ Q ↔ wI (dx_lk lv 9) (fun y => dx_W (tb_Z L xs) d 133 130 lv (.int y :: st) σ Q) := r_iload (k := 9) (hz_133.trans rfl)
theorem w_133_130 {x : Int32} : dx_W (tb_Z L xs) d 133 130 lv (.int x :: st) σ Q ↔ (if x < 0 then dx_W (tb_Z L xs) d 133 182 lv st σ Q else dx_W (tb_Z L xs) d 133 133 lv st σ Q) := r_if_lt (off := 52) (t := 182) (hz_133.trans rfl) (by decide)
theorem w_133_133 : dx_W (tb_Z L xs) d 133 133 lv st σ Q ↔ wI (dx_lk lv 9) (fun y => dx_W (tb_Z L xs) d 133 135 lv (.int y :: st) σ Q) := r_iload (k := 9) (hz_133.trans rfl)
theorem w_133_135 : dx_W (tb_Z L xs) d 133 135 lv st σ Q ↔ wI (dx_lk lv 2) (fun y => dx_W (tb_Z L xs) d 133 136 lv (.int y :: st) σ Q) := r_iload_n (k := 2) (hz_133.trans rfl)
theorem w_133_136 : dx_W (tb_Z L xs) d 133 136 lv st σ Q ↔ dx_W (tb_Z L xs) d 133 137 lv (.int 1 :: st) σ Q := r_iconst (n := 1) (hz_133.trans rfl)
theorem w_133_137 {x y : Int32} : dx_W (tb_Z L xs) d 133 137 lv (.int y :: .int x :: st) σ Q ↔ dx_W (tb_Z L xs) d 133 138 lv (.int (x - y) :: st) σ Q := r_isub (hz_133.trans rfl)
theorem w_133_138 {x y : Int32} : dx_W (tb_Z L xs) d 133 138 lv (.int y :: .int x :: st) σ Q ↔ (if ¬ x = y then dx_W (tb_Z L xs) d 133 152 lv st σ Q else dx_W (tb_Z L xs) d 133 141 lv st σ Q) := r_ic_ne (off := 14) (t := 152) (hz_133.trans rfl) (by decide)
theorem w_133_141 : dx_W (tb_Z L xs) d 133 141 lv st σ Q ↔ wR (dx_lk lv 0) (fun y => dx_W (tb_Z L xs) d 133 142 lv (y :: st) σ Q) := r_aload_n (k := 0) (hz_133.trans rfl)
theorem w_133_142 : dx_W (tb_Z L xs) d 133 142 lv st σ Q ↔ dx_W (tb_Z L xs) d 133 144 lv (.int 46 :: st) σ Q := r_bipush (n := 46) (hz_133.trans rfl)
theorem w_133_144 : dx_W (tb_Z L xs) d 133 144 lv st σ Q ↔ wI (dx_lk lv 8) (fun y => dx_W (tb_Z L xs) d 133 146 lv (.int y :: st) σ Q) := r_iload (k := 8) (hz_133.trans rfl)
theorem w_133_146 {v0 v1 v2 : Value}  : dx_W (tb_Z L xs) d 133 146 lv (v2 :: v1 :: v0 :: st) σ Q ↔ (dx_ct st ≤ 8 ∧ dx_ci (tb_K L xs) σ v0 = some 9) ∧ dx_M (tb_Z L xs) d 134 [v0, v1, v2] σ (wK (tb_Z L xs) d 133 149 lv st Q) := c_callv (av := [v1, v2]) (hz_133.trans rfl)
theorem w_133_149 : dx_W (tb_Z L xs) d 133 149 lv st σ Q ↔ wI (dx_lk lv 8) (fun y => dx_W (tb_Z L xs) d 133 152 (dx_s1 lv 8 (.int (y + 1))) st σ Q) := r_iincv (k := 8) (n := 1) (hz_133.trans rfl) (show 8 < tb_l 133 by decide) (by decide)
theorem w_133_152 : dx_W (tb_Z L xs) d 133 152 lv st σ Q ↔ wR (dx_lk lv 0) (fun y => dx_W (tb_Z L xs) d 133 153 lv (y :: st) σ Q) := r_aload_n (k := 0) (hz_133.trans rfl)
theorem w_133_153 : dx_W (tb_Z L xs) d 133 153 lv st σ Q ↔ dx_W (tb_Z L xs) d 133 155 lv (.int 48 :: st) σ Q := r_bipush (n := 48) (hz_133.trans rfl)
theorem w_133_155 : dx_W (tb_Z L xs) d 133 155 lv st σ Q ↔ wJ (dx_lk lv 3) (fun y => dx_W (tb_Z L xs) d 133 156 lv (.long y :: st) σ Q) := r_lload_n (k := 3) (hz_133.trans rfl)
theorem w_133_156 : dx_W (tb_Z L xs) d 133 156 lv st σ Q ↔ wI (dx_lk lv 9) (fun y => dx_W (tb_Z L xs) d 133 158 lv (.int y :: st) σ Q) := r_iload (k := 9) (hz_133.trans rfl)
theorem w_133_158 {v0 : Value}  : dx_W (tb_Z L xs) d 133 158 lv (v0 :: st) σ Q ↔ dx_ct st ≤ 8 ∧ dx_M (tb_Z L xs) d 124 [v0] σ (wK (tb_Z L xs) d 133 161 lv st Q) := c_calls (av := [v0]) (hz_133.trans rfl)
theorem w_133_161 {x y : Int64} : dx_W (tb_Z L xs) d 133 161 lv (.long y :: .long x :: st) σ Q ↔ ¬ y = 0 ∧ dx_W (tb_Z L xs) d 133 162 lv (.long (x / y) :: st) σ Q := c_ldiv (hz_133.trans rfl)
theorem w_133_162 : dx_W (tb_Z L xs) d 133 162 lv st σ Q ↔ dx_W (tb_Z L xs) d 133 165 lv (.long 10 :: st) σ Q := r_ldc2_w (hz_133.trans rfl)
theorem w_133_165 {x y : Int64} : dx_W (tb_Z L xs) d 133 165 lv (.long y :: .long x :: st) σ Q ↔ ¬ y = 0 ∧ dx_W (tb_Z L xs) d 133 166 lv (.long (x - x / y * y) :: st) σ Q := c_lrem (hz_133.trans rfl)
theorem w_133_166 {x : Int64} : dx_W (tb_Z L xs) d 133 166 lv (.long x :: st) σ Q ↔ dx_W (tb_Z L xs) d 133 167 lv (.int x.toInt32 :: st) σ Q := r_l2i (hz_133.trans rfl)
theorem w_133_167 {x y : Int32} : dx_W (tb_Z L xs) d 133 167 lv (.int y :: .int x :: st) σ Q ↔ dx_W (tb_Z L xs) d 133 168 lv (.int (x + y) :: st) σ Q := r_iadd (hz_133.trans rfl)
theorem w_133_168 : dx_W (tb_Z L xs) d 133 168 lv st σ Q ↔ wI (dx_lk lv 8) (fun y => dx_W (tb_Z L xs) d 133 170 lv (.int y :: st) σ Q) := r_iload (k := 8) (hz_133.trans rfl)
theorem w_133_170 {v0 v1 v2 : Value}  : dx_W (tb_Z L xs) d 133 170 lv (v2 :: v1 :: v0 :: st) σ Q ↔ (dx_ct st ≤ 8 ∧ dx_ci (tb_K L xs) σ v0 = some 9) ∧ dx_M (tb_Z L xs) d 134 [v0, v1, v2] σ (wK (tb_Z L xs) d 133 173 lv st Q) := c_callv (av := [v1, v2]) (hz_133.trans rfl)
theorem w_133_173 : dx_W (tb_Z L xs) d 133 173 lv st σ Q ↔ wI (dx_lk lv 8) (fun y => dx_W (tb_Z L xs) d 133 176 (dx_s1 lv 8 (.int (y + 1))) st σ Q) := r_iincv (k := 8) (n := 1) (hz_133.trans rfl) (show 8 < tb_l 133 by decide) (by decide)
theorem w_133_176 : dx_W (tb_Z L xs) d 133 176 lv st σ Q ↔ wI (dx_lk lv 9) (fun y => dx_W (tb_Z L xs) d 133 179 (dx_s1 lv 9 (.int (y + (-1)))) st σ Q) := r_iincv (k := 9) (n := (-1)) (hz_133.trans rfl) (show 9 < tb_l 133 by decide) (by decide)
theorem w_133_179 : dx_W (tb_Z L xs) d 133 179 lv st σ Q ↔ dx_W (tb_Z L xs) d 133 128 lv st σ Q := r_goto (off := (-51)) (t := 128) (hz_133.trans rfl) (by decide)
theorem w_133_182 : dx_W (tb_Z L xs) d 133 182 lv st σ Q ↔ wR (dx_lk lv 0) (fun y => dx_W (tb_Z L xs) d 133 183 lv (y :: st) σ Q) := r_aload_n (k := 0) (hz_133.trans rfl)
theorem w_133_183 : dx_W (tb_Z L xs) d 133 183 lv st σ Q ↔ dx_W (tb_Z L xs) d 133 185 lv (.int 10 :: st) σ Q := r_bipush (n := 10) (hz_133.trans rfl)
theorem w_133_185 : dx_W (tb_Z L xs) d 133 185 lv st σ Q ↔ wI (dx_lk lv 8) (fun y => dx_W (tb_Z L xs) d 133 187 lv (.int y :: st) σ Q) := r_iload (k := 8) (hz_133.trans rfl)
theorem w_133_187 {v0 v1 v2 : Value}  : dx_W (tb_Z L xs) d 133 187 lv (v2 :: v1 :: v0 :: st) σ Q ↔ (dx_ct st ≤ 8 ∧ dx_ci (tb_K L xs) σ v0 = some 9) ∧ dx_M (tb_Z L xs) d 134 [v0, v1, v2] σ (wK (tb_Z L xs) d 133 190 lv st Q) := c_callv (av := [v1, v2]) (hz_133.trans rfl)
theorem w_133_190 : dx_W (tb_Z L xs) d 133 190 lv st σ Q ↔ wR (dx_lk lv 0) (fun y => dx_W (tb_Z L xs) d 133 191 lv (y :: st) σ Q) := r_aload_n (k := 0) (hz_133.trans rfl)
theorem w_133_191_int {x : Int32} : dx_W (tb_Z L xs) d 133 191 lv (.int x :: st) σ Q ↔ dx_W (tb_Z L xs) d 133 192 lv (.int x :: .int x :: st) σ Q := r_dup_int (hz_133.trans rfl)
theorem w_133_191_ref {x : Nat} : dx_W (tb_Z L xs) d 133 191 lv (.ref x :: st) σ Q ↔ dx_W (tb_Z L xs) d 133 192 lv (.ref x :: .ref x :: st) σ Q := r_dup_ref (hz_133.trans rfl)
theorem w_133_191_retAddr {x : Nat} : dx_W (tb_Z L xs) d 133 191 lv (.retAddr x :: st) σ Q ↔ dx_W (tb_Z L xs) d 133 192 lv (.retAddr x :: .retAddr x :: st) σ Q := r_dup_retAddr (hz_133.trans rfl)
theorem w_133_192 {w : Value} : dx_W (tb_Z L xs) d 133 192 lv (w :: st) σ Q ↔ wO (dx_gf (tb_K L xs) σ w 9 37) (fun y => dx_W (tb_Z L xs) d 133 195 lv (y :: st) σ Q) := r_getfield (hz_133.trans rfl)
theorem w_133_195 : dx_W (tb_Z L xs) d 133 195 lv st σ Q ↔ wI (dx_lk lv 7) (fun y => dx_W (tb_Z L xs) d 133 197 lv (.int y :: st) σ Q) := r_iload (k := 7) (hz_133.trans rfl)
theorem w_133_197 {x y : Int32} : dx_W (tb_Z L xs) d 133 197 lv (.int y :: .int x :: st) σ Q ↔ dx_W (tb_Z L xs) d 133 198 lv (.int (x + y) :: st) σ Q := r_iadd (hz_133.trans rfl)
theorem w_133_198 {u w : Value} : dx_W (tb_Z L xs) d 133 198 lv (u :: w :: st) σ Q ↔ wO (dx_pf σ w 9 37 0 u) (fun σ1 => dx_W (tb_Z L xs) d 133 201 lv st σ1 Q) := r_putfield (f := 0) (hz_133.trans rfl)
theorem w_133_201 : dx_W (tb_Z L xs) d 133 201 lv st σ Q ↔ dx_W (tb_Z L xs) d 133 202 lv (.int 1 :: st) σ Q := r_iconst (n := 1) (hz_133.trans rfl)
theorem w_133_202 {x : Int32} : dx_W (tb_Z L xs) d 133 202 lv [.int x] σ Q ↔ narrow .boolean (.int x) = .int x ∧ Q (.inl (some (.int x))) σ := c_ireturn (hz_133.trans rfl) rfl
theorem hz_134 {pc : Nat} : (tb_Z L xs).1 134 pc = dx_at tb_m134 pc := rfl
theorem w_134_0 : dx_W (tb_Z L xs) d 134 0 lv st σ Q ↔ wR (dx_lk lv 0) (fun y => dx_W (tb_Z L xs) d 134 1 lv (y :: st) σ Q) := r_aload_n (k := 0) (hz_134.trans rfl)
theorem w_134_1 {w : Value} : dx_W (tb_Z L xs) d 134 1 lv (w :: st) σ Q ↔ wO (dx_gf (tb_K L xs) σ w 9 36) (fun y => dx_W (tb_Z L xs) d 134 4 lv (y :: st) σ Q) := r_getfield (hz_134.trans rfl)
theorem w_134_4 : dx_W (tb_Z L xs) d 134 4 lv st σ Q ↔ wI (dx_lk lv 2) (fun y => dx_W (tb_Z L xs) d 134 5 lv (.int y :: st) σ Q) := r_iload_n (k := 2) (hz_134.trans rfl)
theorem w_134_5 : dx_W (tb_Z L xs) d 134 5 lv st σ Q ↔ wI (dx_lk lv 1) (fun y => dx_W (tb_Z L xs) d 134 6 lv (.int y :: st) σ Q) := r_iload_n (k := 1) (hz_134.trans rfl)
theorem w_134_6 {w : Value} {y : Int32} {u : Int32} : dx_W (tb_Z L xs) d 134 6 lv (.int u :: .int y :: w :: st) σ Q ↔ wO (dx_pi σ 0 w y u) (fun σ1 => dx_W (tb_Z L xs) d 134 7 lv st σ1 Q) := r_iastore (hz_134.trans rfl)
theorem w_134_7 : dx_W (tb_Z L xs) d 134 7 lv [] σ Q ↔ Q (.inl none) σ := r_return (hz_134.trans rfl) rfl
theorem hz_135 {pc : Nat} : (tb_Z L xs).1 135 pc = dx_at tb_m135 pc := rfl
theorem w_135_0 : dx_W (tb_Z L xs) d 135 0 lv st σ Q ↔ wR (dx_lk lv 0) (fun y => dx_W (tb_Z L xs) d 135 1 lv (y :: st) σ Q) := r_aload_n (k := 0) (hz_135.trans rfl)
theorem w_135_1_int {x : Int32} : dx_W (tb_Z L xs) d 135 1 lv (.int x :: st) σ Q ↔ dx_W (tb_Z L xs) d 135 2 lv (.int x :: .int x :: st) σ Q := r_dup_int (hz_135.trans rfl)
theorem w_135_1_ref {x : Nat} : dx_W (tb_Z L xs) d 135 1 lv (.ref x :: st) σ Q ↔ dx_W (tb_Z L xs) d 135 2 lv (.ref x :: .ref x :: st) σ Q := r_dup_ref (hz_135.trans rfl)
theorem w_135_1_retAddr {x : Nat} : dx_W (tb_Z L xs) d 135 1 lv (.retAddr x :: st) σ Q ↔ dx_W (tb_Z L xs) d 135 2 lv (.retAddr x :: .retAddr x :: st) σ Q := r_dup_retAddr (hz_135.trans rfl)
theorem w_135_2 {w : Value} : dx_W (tb_Z L xs) d 135 2 lv (w :: st) σ Q ↔ wO (dx_gf (tb_K L xs) σ w 9 31) (fun y => dx_W (tb_Z L xs) d 135 5 lv (y :: st) σ Q) := r_getfield (hz_135.trans rfl)
theorem w_135_5 : dx_W (tb_Z L xs) d 135 5 lv st σ Q ↔ dx_W (tb_Z L xs) d 135 6 lv (.int 1 :: st) σ Q := r_iconst (n := 1) (hz_135.trans rfl)
theorem w_135_6 {x y : Int32} : dx_W (tb_Z L xs) d 135 6 lv (.int y :: .int x :: st) σ Q ↔ dx_W (tb_Z L xs) d 135 7 lv (.int (x - y) :: st) σ Q := r_isub (hz_135.trans rfl)
theorem w_135_7 {u w : Value} : dx_W (tb_Z L xs) d 135 7 lv (u :: w :: st) σ Q ↔ wO (dx_pf σ w 9 31 0 u) (fun σ1 => dx_W (tb_Z L xs) d 135 10 lv st σ1 Q) := r_putfield (f := 0) (hz_135.trans rfl)
theorem w_135_10 : dx_W (tb_Z L xs) d 135 10 lv st σ Q ↔ wR (dx_lk lv 0) (fun y => dx_W (tb_Z L xs) d 135 11 lv (y :: st) σ Q) := r_aload_n (k := 0) (hz_135.trans rfl)
theorem w_135_11 {w : Value} : dx_W (tb_Z L xs) d 135 11 lv (w :: st) σ Q ↔ wO (dx_gf (tb_K L xs) σ w 9 2) (fun y => dx_W (tb_Z L xs) d 135 14 lv (y :: st) σ Q) := r_getfield (hz_135.trans rfl)
theorem w_135_14 : dx_W (tb_Z L xs) d 135 14 lv st σ Q ↔ wR (dx_lk lv 0) (fun y => dx_W (tb_Z L xs) d 135 15 lv (y :: st) σ Q) := r_aload_n (k := 0) (hz_135.trans rfl)
theorem w_135_15 {w : Value} : dx_W (tb_Z L xs) d 135 15 lv (w :: st) σ Q ↔ wO (dx_gf (tb_K L xs) σ w 9 27) (fun y => dx_W (tb_Z L xs) d 135 18 lv (y :: st) σ Q) := r_getfield (hz_135.trans rfl)
theorem w_135_18 : dx_W (tb_Z L xs) d 135 18 lv st σ Q ↔ wR (dx_lk lv 0) (fun y => dx_W (tb_Z L xs) d 135 19 lv (y :: st) σ Q) := r_aload_n (k := 0) (hz_135.trans rfl)
theorem w_135_19 {w : Value} : dx_W (tb_Z L xs) d 135 19 lv (w :: st) σ Q ↔ wO (dx_gf (tb_K L xs) σ w 9 31) (fun y => dx_W (tb_Z L xs) d 135 22 lv (y :: st) σ Q) := r_getfield (hz_135.trans rfl)
theorem w_135_22 {w : Value} {y : Int32} : dx_W (tb_Z L xs) d 135 22 lv (.int y :: w :: st) σ Q ↔ wO (dx_ei (tb_K L xs) σ 0 w y) (fun u => dx_W (tb_Z L xs) d 135 23 lv (.int u :: st) σ Q) := r_iaload (hz_135.trans rfl)
theorem w_135_23 : dx_W (tb_Z L xs) d 135 23 lv st σ Q ↔ wR (dx_lk lv 0) (fun y => dx_W (tb_Z L xs) d 135 24 lv (y :: st) σ Q) := r_aload_n (k := 0) (hz_135.trans rfl)
theorem w_135_24 {w : Value} : dx_W (tb_Z L xs) d 135 24 lv (w :: st) σ Q ↔ wO (dx_gf (tb_K L xs) σ w 9 28) (fun y => dx_W (tb_Z L xs) d 135 27 lv (y :: st) σ Q) := r_getfield (hz_135.trans rfl)
theorem w_135_27 : dx_W (tb_Z L xs) d 135 27 lv st σ Q ↔ wR (dx_lk lv 0) (fun y => dx_W (tb_Z L xs) d 135 28 lv (y :: st) σ Q) := r_aload_n (k := 0) (hz_135.trans rfl)
theorem w_135_28 {w : Value} : dx_W (tb_Z L xs) d 135 28 lv (w :: st) σ Q ↔ wO (dx_gf (tb_K L xs) σ w 9 31) (fun y => dx_W (tb_Z L xs) d 135 31 lv (y :: st) σ Q) := r_getfield (hz_135.trans rfl)
theorem w_135_31 {w : Value} {y : Int32} : dx_W (tb_Z L xs) d 135 31 lv (.int y :: w :: st) σ Q ↔ wO (dx_ei (tb_K L xs) σ 0 w y) (fun u => dx_W (tb_Z L xs) d 135 32 lv (.int u :: st) σ Q) := r_iaload (hz_135.trans rfl)
theorem w_135_32 {w : Value} {y : Int32} {u : Int32} : dx_W (tb_Z L xs) d 135 32 lv (.int u :: .int y :: w :: st) σ Q ↔ wO (dx_pi σ 0 w y u) (fun σ1 => dx_W (tb_Z L xs) d 135 33 lv st σ1 Q) := r_iastore (hz_135.trans rfl)
theorem w_135_33 : dx_W (tb_Z L xs) d 135 33 lv st σ Q ↔ wR (dx_lk lv 0) (fun y => dx_W (tb_Z L xs) d 135 34 lv (y :: st) σ Q) := r_aload_n (k := 0) (hz_135.trans rfl)
theorem w_135_34 {w : Value} : dx_W (tb_Z L xs) d 135 34 lv (w :: st) σ Q ↔ wO (dx_gf (tb_K L xs) σ w 9 3) (fun y => dx_W (tb_Z L xs) d 135 37 lv (y :: st) σ Q) := r_getfield (hz_135.trans rfl)
theorem w_135_37 : dx_W (tb_Z L xs) d 135 37 lv st σ Q ↔ wR (dx_lk lv 0) (fun y => dx_W (tb_Z L xs) d 135 38 lv (y :: st) σ Q) := r_aload_n (k := 0) (hz_135.trans rfl)
theorem w_135_38 {w : Value} : dx_W (tb_Z L xs) d 135 38 lv (w :: st) σ Q ↔ wO (dx_gf (tb_K L xs) σ w 9 27) (fun y => dx_W (tb_Z L xs) d 135 41 lv (y :: st) σ Q) := r_getfield (hz_135.trans rfl)
theorem w_135_41 : dx_W (tb_Z L xs) d 135 41 lv st σ Q ↔ wR (dx_lk lv 0) (fun y => dx_W (tb_Z L xs) d 135 42 lv (y :: st) σ Q) := r_aload_n (k := 0) (hz_135.trans rfl)
theorem w_135_42 {w : Value} : dx_W (tb_Z L xs) d 135 42 lv (w :: st) σ Q ↔ wO (dx_gf (tb_K L xs) σ w 9 31) (fun y => dx_W (tb_Z L xs) d 135 45 lv (y :: st) σ Q) := r_getfield (hz_135.trans rfl)
theorem w_135_45 {w : Value} {y : Int32} : dx_W (tb_Z L xs) d 135 45 lv (.int y :: w :: st) σ Q ↔ wO (dx_ei (tb_K L xs) σ 0 w y) (fun u => dx_W (tb_Z L xs) d 135 46 lv (.int u :: st) σ Q) := r_iaload (hz_135.trans rfl)
theorem w_135_46 : dx_W (tb_Z L xs) d 135 46 lv st σ Q ↔ wR (dx_lk lv 0) (fun y => dx_W (tb_Z L xs) d 135 47 lv (y :: st) σ Q) := r_aload_n (k := 0) (hz_135.trans rfl)
theorem w_135_47 {w : Value} : dx_W (tb_Z L xs) d 135 47 lv (w :: st) σ Q ↔ wO (dx_gf (tb_K L xs) σ w 9 29) (fun y => dx_W (tb_Z L xs) d 135 50 lv (y :: st) σ Q) := r_getfield (hz_135.trans rfl)
theorem w_135_50 : dx_W (tb_Z L xs) d 135 50 lv st σ Q ↔ wR (dx_lk lv 0) (fun y => dx_W (tb_Z L xs) d 135 51 lv (y :: st) σ Q) := r_aload_n (k := 0) (hz_135.trans rfl)
theorem w_135_51 {w : Value} : dx_W (tb_Z L xs) d 135 51 lv (w :: st) σ Q ↔ wO (dx_gf (tb_K L xs) σ w 9 31) (fun y => dx_W (tb_Z L xs) d 135 54 lv (y :: st) σ Q) := r_getfield (hz_135.trans rfl)
theorem w_135_54 {w : Value} {y : Int32} : dx_W (tb_Z L xs) d 135 54 lv (.int y :: w :: st) σ Q ↔ wO (dx_ei (tb_K L xs) σ 0 w y) (fun u => dx_W (tb_Z L xs) d 135 55 lv (.int u :: st) σ Q) := r_iaload (hz_135.trans rfl)
theorem w_135_55 {w : Value} {y : Int32} {u : Int32} : dx_W (tb_Z L xs) d 135 55 lv (.int u :: .int y :: w :: st) σ Q ↔ wO (dx_pi σ 0 w y u) (fun σ1 => dx_W (tb_Z L xs) d 135 56 lv st σ1 Q) := r_iastore (hz_135.trans rfl)
theorem w_135_56 : dx_W (tb_Z L xs) d 135 56 lv st σ Q ↔ wR (dx_lk lv 0) (fun y => dx_W (tb_Z L xs) d 135 57 lv (y :: st) σ Q) := r_aload_n (k := 0) (hz_135.trans rfl)
theorem w_135_57 : dx_W (tb_Z L xs) d 135 57 lv st σ Q ↔ wR (dx_lk lv 0) (fun y => dx_W (tb_Z L xs) d 135 58 lv (y :: st) σ Q) := r_aload_n (k := 0) (hz_135.trans rfl)
theorem w_135_58 {w : Value} : dx_W (tb_Z L xs) d 135 58 lv (w :: st) σ Q ↔ wO (dx_gf (tb_K L xs) σ w 9 26) (fun y => dx_W (tb_Z L xs) d 135 61 lv (y :: st) σ Q) := r_getfield (hz_135.trans rfl)
theorem w_135_61 : dx_W (tb_Z L xs) d 135 61 lv st σ Q ↔ wR (dx_lk lv 0) (fun y => dx_W (tb_Z L xs) d 135 62 lv (y :: st) σ Q) := r_aload_n (k := 0) (hz_135.trans rfl)
theorem w_135_62 {w : Value} : dx_W (tb_Z L xs) d 135 62 lv (w :: st) σ Q ↔ wO (dx_gf (tb_K L xs) σ w 9 31) (fun y => dx_W (tb_Z L xs) d 135 65 lv (y :: st) σ Q) := r_getfield (hz_135.trans rfl)
theorem w_135_65 {w : Value} {y : Int32} : dx_W (tb_Z L xs) d 135 65 lv (.int y :: w :: st) σ Q ↔ wO (dx_ei (tb_K L xs) σ 0 w y) (fun u => dx_W (tb_Z L xs) d 135 66 lv (.int u :: st) σ Q) := r_iaload (hz_135.trans rfl)
theorem w_135_66 {u w : Value} : dx_W (tb_Z L xs) d 135 66 lv (u :: w :: st) σ Q ↔ wO (dx_pf σ w 9 30 0 u) (fun σ1 => dx_W (tb_Z L xs) d 135 69 lv st σ1 Q) := r_putfield (f := 0) (hz_135.trans rfl)
theorem w_135_69 : dx_W (tb_Z L xs) d 135 69 lv st σ Q ↔ wR (dx_lk lv 0) (fun y => dx_W (tb_Z L xs) d 135 70 lv (y :: st) σ Q) := r_aload_n (k := 0) (hz_135.trans rfl)
theorem w_135_70 : dx_W (tb_Z L xs) d 135 70 lv st σ Q ↔ wI (dx_lk lv 1) (fun y => dx_W (tb_Z L xs) d 135 71 lv (.int y :: st) σ Q) := r_iload_n (k := 1) (hz_135.trans rfl)
theorem w_135_71 : dx_W (tb_Z L xs) d 135 71 lv st σ Q ↔ wI (dx_lk lv 2) (fun y => dx_W (tb_Z L xs) d 135 72 lv (.int y :: st) σ Q) := r_iload_n (k := 2) (hz_135.trans rfl)
theorem w_135_72 {v0 v1 v2 : Value}  : dx_W (tb_Z L xs) d 135 72 lv (v2 :: v1 :: v0 :: st) σ Q ↔ (dx_ct st ≤ 8 ∧ dx_ci (tb_K L xs) σ v0 = some 9) ∧ dx_M (tb_Z L xs) d 122 [v0, v1, v2] σ (wK (tb_Z L xs) d 135 75 lv st Q) := c_callv (av := [v1, v2]) (hz_135.trans rfl)
theorem w_135_75 : dx_W (tb_Z L xs) d 135 75 lv st σ Q ↔ wR (dx_lk lv 0) (fun y => dx_W (tb_Z L xs) d 135 76 lv (y :: st) σ Q) := r_aload_n (k := 0) (hz_135.trans rfl)
theorem w_135_76 {w : Value} : dx_W (tb_Z L xs) d 135 76 lv (w :: st) σ Q ↔ wO (dx_gf (tb_K L xs) σ w 9 25) (fun y => dx_W (tb_Z L xs) d 135 79 lv (y :: st) σ Q) := r_getfield (hz_135.trans rfl)
theorem w_135_79 : dx_W (tb_Z L xs) d 135 79 lv st σ Q ↔ wR (dx_lk lv 0) (fun y => dx_W (tb_Z L xs) d 135 80 lv (y :: st) σ Q) := r_aload_n (k := 0) (hz_135.trans rfl)
theorem w_135_80 {w : Value} : dx_W (tb_Z L xs) d 135 80 lv (w :: st) σ Q ↔ wO (dx_gf (tb_K L xs) σ w 9 31) (fun y => dx_W (tb_Z L xs) d 135 83 lv (y :: st) σ Q) := r_getfield (hz_135.trans rfl)
theorem w_135_83 {w : Value} {y : Int32} : dx_W (tb_Z L xs) d 135 83 lv (.int y :: w :: st) σ Q ↔ wO (dx_ei (tb_K L xs) σ 0 w y) (fun u => dx_W (tb_Z L xs) d 135 84 lv (.int u :: st) σ Q) := r_iaload (hz_135.trans rfl)
theorem w_135_84 {x : Int32} : dx_W (tb_Z L xs) d 135 84 lv [.int x] σ Q ↔ Q (.inl (some (.int x))) σ := r_ireturn (hz_135.trans rfl) rfl rfl
theorem hz_136 {pc : Nat} : (tb_Z L xs).1 136 pc = dx_at tb_m136 pc := rfl
theorem w_136_0 : dx_W (tb_Z L xs) d 136 0 lv st σ Q ↔ wR (dx_lk lv 0) (fun y => dx_W (tb_Z L xs) d 136 1 lv (y :: st) σ Q) := r_aload_n (k := 0) (hz_136.trans rfl)
theorem w_136_1 {w : Value} : dx_W (tb_Z L xs) d 136 1 lv (w :: st) σ Q ↔ wO (dx_gf (tb_K L xs) σ w 9 34) (fun y => dx_W (tb_Z L xs) d 136 4 lv (y :: st) σ Q) := r_getfield (hz_136.trans rfl)
theorem w_136_4 {x : Int32} : dx_W (tb_Z L xs) d 136 4 lv [.int x] σ Q ↔ Q (.inl (some (.int x))) σ := r_ireturn (hz_136.trans rfl) rfl rfl
theorem hz_137 {pc : Nat} : (tb_Z L xs).1 137 pc = dx_at tb_m137 pc := rfl
theorem w_137_0 : dx_W (tb_Z L xs) d 137 0 lv st σ Q ↔ wR (dx_lk lv 0) (fun y => dx_W (tb_Z L xs) d 137 1 lv (y :: st) σ Q) := r_aload_n (k := 0) (hz_137.trans rfl)
theorem w_137_1 {w : Value} : dx_W (tb_Z L xs) d 137 1 lv (w :: st) σ Q ↔ wO (dx_gf (tb_K L xs) σ w 9 33) (fun y => dx_W (tb_Z L xs) d 137 4 lv (y :: st) σ Q) := r_getfield (hz_137.trans rfl)
theorem w_137_4 {x : Int32} : dx_W (tb_Z L xs) d 137 4 lv [.int x] σ Q ↔ Q (.inl (some (.int x))) σ := r_ireturn (hz_137.trans rfl) rfl rfl
theorem hz_138 {pc : Nat} : (tb_Z L xs).1 138 pc = dx_at tb_m138 pc := rfl
theorem w_138_0 : dx_W (tb_Z L xs) d 138 0 lv st σ Q ↔ wR (dx_lk lv 0) (fun y => dx_W (tb_Z L xs) d 138 1 lv (y :: st) σ Q) := r_aload_n (k := 0) (hz_138.trans rfl)
theorem w_138_1 {w : Value} : dx_W (tb_Z L xs) d 138 1 lv (w :: st) σ Q ↔ wO (dx_gf (tb_K L xs) σ w 9 37) (fun y => dx_W (tb_Z L xs) d 138 4 lv (y :: st) σ Q) := r_getfield (hz_138.trans rfl)
theorem w_138_4 {x : Int32} : dx_W (tb_Z L xs) d 138 4 lv [.int x] σ Q ↔ Q (.inl (some (.int x))) σ := r_ireturn (hz_138.trans rfl) rfl rfl
theorem hz_139 {pc : Nat} : (tb_Z L xs).1 139 pc = dx_at tb_m139 pc := rfl
theorem w_139_0 : dx_W (tb_Z L xs) d 139 0 lv st σ Q ↔ wI (dx_lk lv 1) (fun y => dx_W (tb_Z L xs) d 139 1 lv (.int y :: st) σ Q) := r_iload_n (k := 1) (hz_139.trans rfl)
theorem w_139_1 {x : Int32} : dx_W (tb_Z L xs) d 139 1 lv (.int x :: st) σ Q ↔ (if x < 0 then dx_W (tb_Z L xs) d 139 21 lv st σ Q else dx_W (tb_Z L xs) d 139 4 lv st σ Q) := r_if_lt (off := 20) (t := 21) (hz_139.trans rfl) (by decide)
theorem w_139_4 : dx_W (tb_Z L xs) d 139 4 lv st σ Q ↔ wI (dx_lk lv 1) (fun y => dx_W (tb_Z L xs) d 139 5 lv (.int y :: st) σ Q) := r_iload_n (k := 1) (hz_139.trans rfl)
theorem w_139_5 : dx_W (tb_Z L xs) d 139 5 lv st σ Q ↔ wR (dx_lk lv 0) (fun y => dx_W (tb_Z L xs) d 139 6 lv (y :: st) σ Q) := r_aload_n (k := 0) (hz_139.trans rfl)
theorem w_139_6 {w : Value} : dx_W (tb_Z L xs) d 139 6 lv (w :: st) σ Q ↔ wO (dx_gf (tb_K L xs) σ w 9 37) (fun y => dx_W (tb_Z L xs) d 139 9 lv (y :: st) σ Q) := r_getfield (hz_139.trans rfl)
theorem w_139_9 {x y : Int32} : dx_W (tb_Z L xs) d 139 9 lv (.int y :: .int x :: st) σ Q ↔ (if y ≤ x then dx_W (tb_Z L xs) d 139 21 lv st σ Q else dx_W (tb_Z L xs) d 139 12 lv st σ Q) := r_ic_ge (off := 12) (t := 21) (hz_139.trans rfl) (by decide)
theorem w_139_12 : dx_W (tb_Z L xs) d 139 12 lv st σ Q ↔ wR (dx_lk lv 0) (fun y => dx_W (tb_Z L xs) d 139 13 lv (y :: st) σ Q) := r_aload_n (k := 0) (hz_139.trans rfl)
theorem w_139_13 {w : Value} : dx_W (tb_Z L xs) d 139 13 lv (w :: st) σ Q ↔ wO (dx_gf (tb_K L xs) σ w 9 36) (fun y => dx_W (tb_Z L xs) d 139 16 lv (y :: st) σ Q) := r_getfield (hz_139.trans rfl)
theorem w_139_16 : dx_W (tb_Z L xs) d 139 16 lv st σ Q ↔ wI (dx_lk lv 1) (fun y => dx_W (tb_Z L xs) d 139 17 lv (.int y :: st) σ Q) := r_iload_n (k := 1) (hz_139.trans rfl)
theorem w_139_17 {w : Value} {y : Int32} : dx_W (tb_Z L xs) d 139 17 lv (.int y :: w :: st) σ Q ↔ wO (dx_ei (tb_K L xs) σ 0 w y) (fun u => dx_W (tb_Z L xs) d 139 18 lv (.int u :: st) σ Q) := r_iaload (hz_139.trans rfl)
theorem w_139_18 : dx_W (tb_Z L xs) d 139 18 lv st σ Q ↔ dx_W (tb_Z L xs) d 139 22 lv st σ Q := r_goto (off := 4) (t := 22) (hz_139.trans rfl) (by decide)
theorem w_139_21 : dx_W (tb_Z L xs) d 139 21 lv st σ Q ↔ dx_W (tb_Z L xs) d 139 22 lv (.int (-1) :: st) σ Q := r_iconst (n := (-1)) (hz_139.trans rfl)
theorem w_139_22 {x : Int32} : dx_W (tb_Z L xs) d 139 22 lv [.int x] σ Q ↔ Q (.inl (some (.int x))) σ := r_ireturn (hz_139.trans rfl) rfl rfl
theorem hz_140 {pc : Nat} : (tb_Z L xs).1 140 pc = dx_at tb_m140 pc := rfl
theorem w_140_0 : dx_W (tb_Z L xs) d 140 0 lv st σ Q ↔ wI (dx_lk lv 1) (fun y => dx_W (tb_Z L xs) d 140 1 lv (.int y :: st) σ Q) := r_iload_n (k := 1) (hz_140.trans rfl)
theorem w_140_1 {x : Int32} : dx_W (tb_Z L xs) d 140 1 lv (.int x :: st) σ Q ↔ (if x < 0 then dx_W (tb_Z L xs) d 140 19 lv st σ Q else dx_W (tb_Z L xs) d 140 4 lv st σ Q) := r_if_lt (off := 18) (t := 19) (hz_140.trans rfl) (by decide)
theorem w_140_4 : dx_W (tb_Z L xs) d 140 4 lv st σ Q ↔ wI (dx_lk lv 1) (fun y => dx_W (tb_Z L xs) d 140 5 lv (.int y :: st) σ Q) := r_iload_n (k := 1) (hz_140.trans rfl)
theorem w_140_5 : dx_W (tb_Z L xs) d 140 5 lv st σ Q ↔ dx_W (tb_Z L xs) d 140 7 lv (.int 26 :: st) σ Q := r_bipush (n := 26) (hz_140.trans rfl)
theorem w_140_7 {x y : Int32} : dx_W (tb_Z L xs) d 140 7 lv (.int y :: .int x :: st) σ Q ↔ (if y ≤ x then dx_W (tb_Z L xs) d 140 19 lv st σ Q else dx_W (tb_Z L xs) d 140 10 lv st σ Q) := r_ic_ge (off := 12) (t := 19) (hz_140.trans rfl) (by decide)
theorem w_140_10 : dx_W (tb_Z L xs) d 140 10 lv st σ Q ↔ wR (dx_lk lv 0) (fun y => dx_W (tb_Z L xs) d 140 11 lv (y :: st) σ Q) := r_aload_n (k := 0) (hz_140.trans rfl)
theorem w_140_11 {w : Value} : dx_W (tb_Z L xs) d 140 11 lv (w :: st) σ Q ↔ wO (dx_gf (tb_K L xs) σ w 9 2) (fun y => dx_W (tb_Z L xs) d 140 14 lv (y :: st) σ Q) := r_getfield (hz_140.trans rfl)
theorem w_140_14 : dx_W (tb_Z L xs) d 140 14 lv st σ Q ↔ wI (dx_lk lv 1) (fun y => dx_W (tb_Z L xs) d 140 15 lv (.int y :: st) σ Q) := r_iload_n (k := 1) (hz_140.trans rfl)
theorem w_140_15 {w : Value} {y : Int32} : dx_W (tb_Z L xs) d 140 15 lv (.int y :: w :: st) σ Q ↔ wO (dx_ei (tb_K L xs) σ 0 w y) (fun u => dx_W (tb_Z L xs) d 140 16 lv (.int u :: st) σ Q) := r_iaload (hz_140.trans rfl)
theorem w_140_16 : dx_W (tb_Z L xs) d 140 16 lv st σ Q ↔ dx_W (tb_Z L xs) d 140 20 lv st σ Q := r_goto (off := 4) (t := 20) (hz_140.trans rfl) (by decide)
theorem w_140_19 : dx_W (tb_Z L xs) d 140 19 lv st σ Q ↔ dx_W (tb_Z L xs) d 140 20 lv (.int 0 :: st) σ Q := r_iconst (n := 0) (hz_140.trans rfl)
theorem w_140_20 {x : Int32} : dx_W (tb_Z L xs) d 140 20 lv [.int x] σ Q ↔ Q (.inl (some (.int x))) σ := r_ireturn (hz_140.trans rfl) rfl rfl
theorem hz_141 {pc : Nat} : (tb_Z L xs).1 141 pc = dx_at tb_m141 pc := rfl
theorem w_141_0 : dx_W (tb_Z L xs) d 141 0 lv st σ Q ↔ wI (dx_lk lv 1) (fun y => dx_W (tb_Z L xs) d 141 1 lv (.int y :: st) σ Q) := r_iload_n (k := 1) (hz_141.trans rfl)
theorem w_141_1 {x : Int32} : dx_W (tb_Z L xs) d 141 1 lv (.int x :: st) σ Q ↔ (if x < 0 then dx_W (tb_Z L xs) d 141 19 lv st σ Q else dx_W (tb_Z L xs) d 141 4 lv st σ Q) := r_if_lt (off := 18) (t := 19) (hz_141.trans rfl) (by decide)
theorem w_141_4 : dx_W (tb_Z L xs) d 141 4 lv st σ Q ↔ wI (dx_lk lv 1) (fun y => dx_W (tb_Z L xs) d 141 5 lv (.int y :: st) σ Q) := r_iload_n (k := 1) (hz_141.trans rfl)
theorem w_141_5 : dx_W (tb_Z L xs) d 141 5 lv st σ Q ↔ dx_W (tb_Z L xs) d 141 7 lv (.int 26 :: st) σ Q := r_bipush (n := 26) (hz_141.trans rfl)
theorem w_141_7 {x y : Int32} : dx_W (tb_Z L xs) d 141 7 lv (.int y :: .int x :: st) σ Q ↔ (if y ≤ x then dx_W (tb_Z L xs) d 141 19 lv st σ Q else dx_W (tb_Z L xs) d 141 10 lv st σ Q) := r_ic_ge (off := 12) (t := 19) (hz_141.trans rfl) (by decide)
theorem w_141_10 : dx_W (tb_Z L xs) d 141 10 lv st σ Q ↔ wR (dx_lk lv 0) (fun y => dx_W (tb_Z L xs) d 141 11 lv (y :: st) σ Q) := r_aload_n (k := 0) (hz_141.trans rfl)
theorem w_141_11 {w : Value} : dx_W (tb_Z L xs) d 141 11 lv (w :: st) σ Q ↔ wO (dx_gf (tb_K L xs) σ w 9 3) (fun y => dx_W (tb_Z L xs) d 141 14 lv (y :: st) σ Q) := r_getfield (hz_141.trans rfl)
theorem w_141_14 : dx_W (tb_Z L xs) d 141 14 lv st σ Q ↔ wI (dx_lk lv 1) (fun y => dx_W (tb_Z L xs) d 141 15 lv (.int y :: st) σ Q) := r_iload_n (k := 1) (hz_141.trans rfl)
theorem w_141_15 {w : Value} {y : Int32} : dx_W (tb_Z L xs) d 141 15 lv (.int y :: w :: st) σ Q ↔ wO (dx_ei (tb_K L xs) σ 0 w y) (fun u => dx_W (tb_Z L xs) d 141 16 lv (.int u :: st) σ Q) := r_iaload (hz_141.trans rfl)
theorem w_141_16 : dx_W (tb_Z L xs) d 141 16 lv st σ Q ↔ dx_W (tb_Z L xs) d 141 20 lv st σ Q := r_goto (off := 4) (t := 20) (hz_141.trans rfl) (by decide)
theorem w_141_19 : dx_W (tb_Z L xs) d 141 19 lv st σ Q ↔ dx_W (tb_Z L xs) d 141 20 lv (.int (-1) :: st) σ Q := r_iconst (n := (-1)) (hz_141.trans rfl)
theorem w_141_20 {x : Int32} : dx_W (tb_Z L xs) d 141 20 lv [.int x] σ Q ↔ Q (.inl (some (.int x))) σ := r_ireturn (hz_141.trans rfl) rfl rfl
theorem hz_142 {pc : Nat} : (tb_Z L xs).1 142 pc = dx_at tb_m142 pc := rfl
theorem w_142_0 : dx_W (tb_Z L xs) d 142 0 lv st σ Q ↔ wR (dx_lk lv 0) (fun y => dx_W (tb_Z L xs) d 142 1 lv (y :: st) σ Q) := r_aload_n (k := 0) (hz_142.trans rfl)
theorem w_142_1 {w : Value} : dx_W (tb_Z L xs) d 142 1 lv (w :: st) σ Q ↔ wO (dx_gf (tb_K L xs) σ w 9 4) (fun y => dx_W (tb_Z L xs) d 142 4 lv (y :: st) σ Q) := r_getfield (hz_142.trans rfl)
theorem w_142_4 {x : Int32} : dx_W (tb_Z L xs) d 142 4 lv [.int x] σ Q ↔ Q (.inl (some (.int x))) σ := r_ireturn (hz_142.trans rfl) rfl rfl
theorem hz_143 {pc : Nat} : (tb_Z L xs).1 143 pc = dx_at tb_m143 pc := rfl
theorem w_143_0 : dx_W (tb_Z L xs) d 143 0 lv st σ Q ↔ wR (dx_lk lv 0) (fun y => dx_W (tb_Z L xs) d 143 1 lv (y :: st) σ Q) := r_aload_n (k := 0) (hz_143.trans rfl)
theorem w_143_1 {w : Value} : dx_W (tb_Z L xs) d 143 1 lv (w :: st) σ Q ↔ wO (dx_gf (tb_K L xs) σ w 9 35) (fun y => dx_W (tb_Z L xs) d 143 4 lv (y :: st) σ Q) := r_getfield (hz_143.trans rfl)
theorem w_143_4 {x : Int32} : dx_W (tb_Z L xs) d 143 4 lv [.int x] σ Q ↔ Q (.inl (some (.int x))) σ := r_ireturn (hz_143.trans rfl) rfl rfl
end W9
