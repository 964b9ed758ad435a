/-! How lists of locals and what is looked up in them are reckoned. -/
def dx_dl (l : dx_L) (i : Nat) : dx_L := l.filter (fun q => !(q.1 == i) && !(q.1 + 1 == i && q.2.category == 2))
def dx_dm (l : dx_L) (i : Nat) : dx_L := l.filter (fun q => !(q.1 == i) && (!(q.1 == i + 1) && !(q.1 + 1 == i && q.2.category == 2)))
theorem s1_eq {l : dx_L} {i : Nat} {v : Value} : dx_s1 l i v = (i, v) :: dx_dl l i := rfl
theorem s2_eq {l : dx_L} {i : Nat} {v : Value} : dx_s2 l i v = (i, v) :: dx_dm l i := rfl
theorem dl_nil {i : Nat} : dx_dl [] i = [] := rfl
theorem dm_nil {i : Nat} : dx_dm [] i = [] := rfl
theorem dl_cons {l : dx_L} {i k : Nat} {v : Value} : dx_dl ((k, v) :: l) i = bif (!(k == i) && !(k + 1 == i && v.category == 2)) then (k, v) :: dx_dl l i else dx_dl l i := by
  show List.filter _ _ = _
  rw [List.filter_cons]
  cases (!(k == i) && !(k + 1 == i && v.category == 2)) <;> rfl
theorem dm_cons {l : dx_L} {i k : Nat} {v : Value} : dx_dm ((k, v) :: l) i = bif (!(k == i) && (!(k == i + 1) && !(k + 1 == i && v.category == 2))) then (k, v) :: dx_dm l i else dx_dm l i := by
  show List.filter _ _ = _
  rw [List.filter_cons]
  cases (!(k == i) && (!(k == i + 1) && !(k + 1 == i && v.category == 2))) <;> rfl
theorem lk_cons {l : dx_L} {i k : Nat} {v : Value} : dx_lk ((k, v) :: l) i = bif k == i then some v else dx_lk l i := by
  show (if k = i then some v else dx_lk l i) = _
  by_cases h : k = i
  · rw [if_pos h, show (k == i) = true from beq_iff_eq.mpr h]
    rfl
  · rw [if_neg h, show (k == i) = false from beq_eq_false_iff_ne.mpr h]
    rfl
theorem cat_int {x : Int32} : (Value.int x).category = 1 := rfl
theorem cat_long {x : Int64} : (Value.long x).category = 2 := rfl
theorem cat_ref {x : Nat} : (Value.ref x).category = 1 := rfl
theorem cat_con {x : Nat} : (Value.retAddr x).category = 1 := rfl
theorem args_nil {i : Nat} : lv_args i [] = [] := rfl
theorem args_int {i : Nat} {x : Int32} {l : List Value} : lv_args i (.int x :: l) = (i, .int x) :: lv_args (i + 1) l := rfl
theorem args_long {i : Nat} {x : Int64} {l : List Value} : lv_args i (.long x :: l) = (i, .long x) :: lv_args (i + 2) l := rfl
theorem args_ref {i : Nat} {x : Nat} {l : List Value} : lv_args i (.ref x :: l) = (i, .ref x) :: lv_args (i + 1) l := rfl
theorem args_con {i : Nat} {x : Nat} {l : List Value} : lv_args i (.retAddr x :: l) = (i, .retAddr x) :: lv_args (i + 1) l := rfl
theorem ct_nil : dx_ct [] = 0 := rfl
theorem ct_cons {v : Value} {l : List Value} : dx_ct (v :: l) = v.category + dx_ct l := rfl
theorem nb0 : (narrow .boolean (.int 0) = Value.int 0) = True := by decide
theorem nb1 : (narrow .boolean (.int 1) = Value.int 1) = True := by decide
