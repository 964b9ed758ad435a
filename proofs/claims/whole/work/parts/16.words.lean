/-! Printed by program: words of the tables, by their places. -/
def lw_ws : List Cond := lw_tbl.filter dx_gw
theorem lw_in {w : Cond} (h : w ∈ lw_tbl) (hg : dx_gw w = true) : w ∈ lw_ws := List.mem_filter.mpr ⟨h, hg⟩
theorem lw_wk : ∀ w ∈ lw_ws, dx_wk w := fun w hw => dx_gw_ok (List.mem_filter.mp hw).2
theorem uw_0 : ∀ w ∈ u_ws "DecimalRun" nm_T0 7, w ∈ lw_ws := fun w hw => by
  have hg : dx_gw w = true := List.all_eq_true.mp (show (u_ws "DecimalRun" nm_T0 7).all dx_gw = true by decide +kernel) w hw
  rw [show u_ws "DecimalRun" nm_T0 7 = [230, 232, 234, 236, 238, 240, 242].filterMap (fun i => tables_1[i]?) by decide +kernel] at hw
  obtain ⟨i, -, hi⟩ := List.mem_filterMap.mp hw
  exact lw_in (List.mem_append_right _ (List.mem_of_getElem? hi)) hg
def nm_ty0 : Nat → FieldType := fun k => match k with
  | 0 => .object "DecimalRun$Text"
  | 1 => .object "DecimalRun$Memory"
  | 2 => .object "DecimalRun$Outcome"
  | 3 => .object "DecimalRun$Code"
  | 4 => .object "DecimalRun$Scanner"
  | 5 => .object "DecimalRun$Parser"
  | _ => .object "DecimalRun$Machine"
theorem ty_0 : ∀ k, k < 7 → parseFieldDescriptor (nm_T0 k).2.2.1 = some (nm_ty0 k) := by decide +kernel
theorem na_0 : ∀ a, a < 7 → ∀ b, b < 7 → a ≠ b → (nm_T0 a).2.1 ≠ (nm_T0 b).2.1 := by decide +kernel
theorem uw_1 : ∀ w ∈ u_ws "DecimalRun$Text" nm_T1 2, w ∈ lw_ws := fun w hw => by
  have hg : dx_gw w = true := List.all_eq_true.mp (show (u_ws "DecimalRun$Text" nm_T1 2).all dx_gw = true by decide +kernel) w hw
  rw [show u_ws "DecimalRun$Text" nm_T1 2 = [43, 45].filterMap (fun i => tables_1[i]?) by decide +kernel] at hw
  obtain ⟨i, -, hi⟩ := List.mem_filterMap.mp hw
  exact lw_in (List.mem_append_right _ (List.mem_of_getElem? hi)) hg
def nm_ty1 : Nat → FieldType := fun k => match k with
  | 0 => .array .char
  | _ => .int
theorem ty_1 : ∀ k, k < 2 → parseFieldDescriptor (nm_T1 k).2.2.1 = some (nm_ty1 k) := by decide +kernel
theorem na_1 : ∀ a, a < 2 → ∀ b, b < 2 → a ≠ b → (nm_T1 a).2.1 ≠ (nm_T1 b).2.1 := by decide +kernel
theorem uw_2 : ∀ w ∈ u_ws "DecimalRun$Memory" nm_T2 2, w ∈ lw_ws := fun w hw => by
  have hg : dx_gw w = true := List.all_eq_true.mp (show (u_ws "DecimalRun$Memory" nm_T2 2).all dx_gw = true by decide +kernel) w hw
  rw [show u_ws "DecimalRun$Memory" nm_T2 2 = [62, 64].filterMap (fun i => tables_1[i]?) by decide +kernel] at hw
  obtain ⟨i, -, hi⟩ := List.mem_filterMap.mp hw
  exact lw_in (List.mem_append_right _ (List.mem_of_getElem? hi)) hg
def nm_ty2 : Nat → FieldType := fun k => match k with
  | 0 => .array .long
  | _ => .int
theorem ty_2 : ∀ k, k < 2 → parseFieldDescriptor (nm_T2 k).2.2.1 = some (nm_ty2 k) := by decide +kernel
theorem na_2 : ∀ a, a < 2 → ∀ b, b < 2 → a ≠ b → (nm_T2 a).2.1 ≠ (nm_T2 b).2.1 := by decide +kernel
theorem uw_3 : ∀ w ∈ u_ws "DecimalRun$Outcome" nm_T3 5, w ∈ lw_ws := fun w hw => by
  have hg : dx_gw w = true := List.all_eq_true.mp (show (u_ws "DecimalRun$Outcome" nm_T3 5).all dx_gw = true by decide +kernel) w hw
  rw [show u_ws "DecimalRun$Outcome" nm_T3 5 = [83, 85, 87, 89, 91].filterMap (fun i => tables_1[i]?) by decide +kernel] at hw
  obtain ⟨i, -, hi⟩ := List.mem_filterMap.mp hw
  exact lw_in (List.mem_append_right _ (List.mem_of_getElem? hi)) hg
def nm_ty3 : Nat → FieldType := fun k => match k with
  | 0 => .array .char
  | 1 => .int
  | 2 => .int
  | 3 => .int
  | _ => .int
theorem ty_3 : ∀ k, k < 5 → parseFieldDescriptor (nm_T3 k).2.2.1 = some (nm_ty3 k) := by decide +kernel
theorem na_3 : ∀ a, a < 5 → ∀ b, b < 5 → a ≠ b → (nm_T3 a).2.1 ≠ (nm_T3 b).2.1 := by decide +kernel
theorem uw_4 : ∀ w ∈ u_ws "DecimalRun$Code" nm_T4 5, w ∈ lw_ws := fun w hw => by
  have hg : dx_gw w = true := List.all_eq_true.mp (show (u_ws "DecimalRun$Code" nm_T4 5).all dx_gw = true by decide +kernel) w hw
  rw [show u_ws "DecimalRun$Code" nm_T4 5 = [111, 113, 115, 117, 119].filterMap (fun i => tables_1[i]?) by decide +kernel] at hw
  obtain ⟨i, -, hi⟩ := List.mem_filterMap.mp hw
  exact lw_in (List.mem_append_right _ (List.mem_of_getElem? hi)) hg
def nm_ty4 : Nat → FieldType := fun k => match k with
  | 0 => .array .int
  | 1 => .array .long
  | 2 => .array .int
  | 3 => .array .int
  | _ => .int
theorem ty_4 : ∀ k, k < 5 → parseFieldDescriptor (nm_T4 k).2.2.1 = some (nm_ty4 k) := by decide +kernel
theorem na_4 : ∀ a, a < 5 → ∀ b, b < 5 → a ≠ b → (nm_T4 a).2.1 ≠ (nm_T4 b).2.1 := by decide +kernel
theorem uw_5 : ∀ w ∈ u_ws "DecimalRun$Scanner" nm_T5 5, w ∈ lw_ws := fun w hw => by
  have hg : dx_gw w = true := List.all_eq_true.mp (show (u_ws "DecimalRun$Scanner" nm_T5 5).all dx_gw = true by decide +kernel) w hw
  rw [show u_ws "DecimalRun$Scanner" nm_T5 5 = [137, 139, 141, 143, 145].filterMap (fun i => tables_1[i]?) by decide +kernel] at hw
  obtain ⟨i, -, hi⟩ := List.mem_filterMap.mp hw
  exact lw_in (List.mem_append_right _ (List.mem_of_getElem? hi)) hg
def nm_ty5 : Nat → FieldType := fun k => match k with
  | 0 => .object "DecimalRun$Text"
  | 1 => .object "DecimalRun$Outcome"
  | 2 => .array .int
  | 3 => .array .long
  | _ => .int
theorem ty_5 : ∀ k, k < 5 → parseFieldDescriptor (nm_T5 k).2.2.1 = some (nm_ty5 k) := by decide +kernel
theorem na_5 : ∀ a, a < 5 → ∀ b, b < 5 → a ≠ b → (nm_T5 a).2.1 ≠ (nm_T5 b).2.1 := by decide +kernel
theorem uw_6 : ∀ w ∈ u_ws "DecimalRun$Parser" nm_T6 5, w ∈ lw_ws := fun w hw => by
  have hg : dx_gw w = true := List.all_eq_true.mp (show (u_ws "DecimalRun$Parser" nm_T6 5).all dx_gw = true by decide +kernel) w hw
  rw [show u_ws "DecimalRun$Parser" nm_T6 5 = [159, 161, 163, 165, 167].filterMap (fun i => tables_1[i]?) by decide +kernel] at hw
  obtain ⟨i, -, hi⟩ := List.mem_filterMap.mp hw
  exact lw_in (List.mem_append_right _ (List.mem_of_getElem? hi)) hg
def nm_ty6 : Nat → FieldType := fun k => match k with
  | 0 => .object "DecimalRun$Scanner"
  | 1 => .object "DecimalRun$Code"
  | 2 => .object "DecimalRun$Outcome"
  | 3 => .int
  | _ => .boolean
theorem ty_6 : ∀ k, k < 5 → parseFieldDescriptor (nm_T6 k).2.2.1 = some (nm_ty6 k) := by decide +kernel
theorem na_6 : ∀ a, a < 5 → ∀ b, b < 5 → a ≠ b → (nm_T6 a).2.1 ≠ (nm_T6 b).2.1 := by decide +kernel
theorem uw_7 : ∀ w ∈ u_ws "DecimalRun$Machine" nm_T7 11, w ∈ lw_ws := fun w hw => by
  have hg : dx_gw w = true := List.all_eq_true.mp (show (u_ws "DecimalRun$Machine" nm_T7 11).all dx_gw = true by decide +kernel) w hw
  rw [show u_ws "DecimalRun$Machine" nm_T7 11 = [200, 202, 204, 206, 208, 210, 212, 214, 216, 218, 220].filterMap (fun i => tables_1[i]?) by decide +kernel] at hw
  obtain ⟨i, -, hi⟩ := List.mem_filterMap.mp hw
  exact lw_in (List.mem_append_right _ (List.mem_of_getElem? hi)) hg
def nm_ty7 : Nat → FieldType := fun k => match k with
  | 0 => .object "DecimalRun$Code"
  | 1 => .object "DecimalRun$Memory"
  | 2 => .object "DecimalRun$Outcome"
  | 3 => .object "DecimalRun$Arithmetic"
  | 4 => .array .long
  | 5 => .int
  | 6 => .int
  | 7 => .array .int
  | 8 => .array .int
  | 9 => .array .long
  | _ => .int
theorem ty_7 : ∀ k, k < 11 → parseFieldDescriptor (nm_T7 k).2.2.1 = some (nm_ty7 k) := by decide +kernel
theorem na_7 : ∀ a, a < 11 → ∀ b, b < 11 → a ≠ b → (nm_T7 a).2.1 ≠ (nm_T7 b).2.1 := by decide +kernel
theorem uw_8 : ∀ w ∈ u_ws "DecimalRun$Arithmetic" nm_T8 2, w ∈ lw_ws := fun w hw => by
  have hg : dx_gw w = true := List.all_eq_true.mp (show (u_ws "DecimalRun$Arithmetic" nm_T8 2).all dx_gw = true by decide +kernel) w hw
  rw [show u_ws "DecimalRun$Arithmetic" nm_T8 2 = [184, 186].filterMap (fun i => tables_1[i]?) by decide +kernel] at hw
  obtain ⟨i, -, hi⟩ := List.mem_filterMap.mp hw
  exact lw_in (List.mem_append_right _ (List.mem_of_getElem? hi)) hg
def nm_ty8 : Nat → FieldType := fun k => match k with
  | 0 => .object "DecimalRun$Memory"
  | _ => .object "DecimalRun$Outcome"
theorem ty_8 : ∀ k, k < 2 → parseFieldDescriptor (nm_T8 k).2.2.1 = some (nm_ty8 k) := by decide +kernel
theorem na_8 : ∀ a, a < 2 → ∀ b, b < 2 → a ≠ b → (nm_T8 a).2.1 ≠ (nm_T8 b).2.1 := by decide +kernel
theorem uw_9 : ∀ w ∈ u_ws "DecimalRunModel" nm_T9 40, w ∈ lw_ws := fun w hw => by
  have hg : dx_gw w = true := List.all_eq_true.mp (show (u_ws "DecimalRunModel" nm_T9 40).all dx_gw = true by decide +kernel) w hw
  rw [show u_ws "DecimalRunModel" nm_T9 40 = [874, 876, 878, 880, 882, 884, 886, 888, 890, 892, 894, 896, 898, 900, 902, 904, 906, 908, 910, 912, 914, 916, 918, 920, 922, 924, 926, 928, 930, 932, 934, 936, 938, 940, 942, 944, 946, 948, 950, 952].filterMap (fun i => tables_1[i]?) by decide +kernel] at hw
  obtain ⟨i, -, hi⟩ := List.mem_filterMap.mp hw
  exact lw_in (List.mem_append_right _ (List.mem_of_getElem? hi)) hg
def nm_ty9 : Nat → FieldType := fun k => match k with
  | 0 => .array .int
  | 1 => .int
  | 2 => .array .int
  | 3 => .array .int
  | 4 => .int
  | 5 => .array .int
  | 6 => .array .int
  | 7 => .array .int
  | 8 => .int
  | 9 => .int
  | 10 => .boolean
  | 11 => .array .int
  | 12 => .array .int
  | 13 => .array .int
  | 14 => .int
  | 15 => .array .int
  | 16 => .array .int
  | 17 => .array .int
  | 18 => .array .int
  | 19 => .array .int
  | 20 => .int
  | 21 => .int
  | 22 => .boolean
  | 23 => .array .int
  | 24 => .array .int
  | 25 => .array .int
  | 26 => .array .int
  | 27 => .array .int
  | 28 => .array .int
  | 29 => .array .int
  | 30 => .int
  | 31 => .int
  | 32 => .int
  | 33 => .int
  | 34 => .int
  | 35 => .int
  | 36 => .array .int
  | 37 => .int
  | 38 => .int
  | _ => .int
theorem ty_9 : ∀ k, k < 40 → parseFieldDescriptor (nm_T9 k).2.2.1 = some (nm_ty9 k) := by decide +kernel
theorem na_9 : ∀ a, a < 40 → ∀ b, b < 40 → a ≠ b → (nm_T9 a).2.1 ≠ (nm_T9 b).2.1 := by decide +kernel
theorem pn_0 : (parseMethodDescriptor "()V").map (fun d => d.parameters.length) = some 0 := by decide +kernel
theorem wm_29 : Cond.code ⟨"DecimalRun", "<init>", "()V"⟩ prog_1_method_1_code 1 none ∈ lw_ws := lw_in (List.mem_append_right _ (List.mem_of_getElem? (i := 29) (by decide +kernel))) rfl
theorem wm_1 : Cond.initialized "DecimalRun" ∈ lw_ws := lw_in (List.mem_append_right _ (List.mem_of_getElem? (i := 1) (by decide +kernel))) rfl
theorem gm_0 (L : Nat) (xs : Nat → Int32) : dx_gm lw_ws tb_Y tb_B (tb_Z L xs) 0 := ⟨by decide +kernel, wm_29, wm_1, ⟨by decide +kernel, by decide +kernel⟩, show tb_l 0 ≤ 45 by decide +kernel⟩
theorem pn_1 : (parseMethodDescriptor "(I)I").map (fun d => d.parameters.length) = some 1 := by decide +kernel
theorem wm_248 : Cond.code ⟨"DecimalRun", "feed", "(I)I"⟩ prog_1_method_2_code 2 (some .int) ∈ lw_ws := lw_in (List.mem_append_right _ (List.mem_of_getElem? (i := 248) (by decide +kernel))) rfl
theorem gm_1 (L : Nat) (xs : Nat → Int32) : dx_gm lw_ws tb_Y tb_B (tb_Z L xs) 1 := ⟨by decide +kernel, wm_248, wm_1, ⟨by decide +kernel, by decide +kernel⟩, show tb_l 1 ≤ 45 by decide +kernel⟩
theorem pn_2 : (parseMethodDescriptor "()I").map (fun d => d.parameters.length) = some 0 := by decide +kernel
theorem wm_259 : Cond.code ⟨"DecimalRun", "length", "()I"⟩ prog_1_method_3_code 1 (some .int) ∈ lw_ws := lw_in (List.mem_append_right _ (List.mem_of_getElem? (i := 259) (by decide +kernel))) rfl
theorem gm_2 (L : Nat) (xs : Nat → Int32) : dx_gm lw_ws tb_Y tb_B (tb_Z L xs) 2 := ⟨by decide +kernel, wm_259, wm_1, ⟨by decide +kernel, by decide +kernel⟩, show tb_l 2 ≤ 45 by decide +kernel⟩
theorem pn_3 : (parseMethodDescriptor "()V").map (fun d => d.parameters.length) = some 0 := by decide +kernel
theorem wm_263 : Cond.code ⟨"DecimalRun", "clear", "()V"⟩ prog_1_method_4_code 1 none ∈ lw_ws := lw_in (List.mem_append_right _ (List.mem_of_getElem? (i := 263) (by decide +kernel))) rfl
theorem gm_3 (L : Nat) (xs : Nat → Int32) : dx_gm lw_ws tb_Y tb_B (tb_Z L xs) 3 := ⟨by decide +kernel, wm_263, wm_1, ⟨by decide +kernel, by decide +kernel⟩, show tb_l 3 ≤ 45 by decide +kernel⟩
theorem pn_4 : (parseMethodDescriptor "()V").map (fun d => d.parameters.length) = some 0 := by decide +kernel
theorem wm_267 : Cond.code ⟨"DecimalRun", "reset", "()V"⟩ prog_1_method_5_code 1 none ∈ lw_ws := lw_in (List.mem_append_right _ (List.mem_of_getElem? (i := 267) (by decide +kernel))) rfl
theorem gm_4 (L : Nat) (xs : Nat → Int32) : dx_gm lw_ws tb_Y tb_B (tb_Z L xs) 4 := ⟨by decide +kernel, wm_267, wm_1, ⟨by decide +kernel, by decide +kernel⟩, show tb_l 4 ≤ 45 by decide +kernel⟩
theorem pn_5 : (parseMethodDescriptor "()I").map (fun d => d.parameters.length) = some 0 := by decide +kernel
theorem wm_278 : Cond.code ⟨"DecimalRun", "fault", "()I"⟩ prog_1_method_7_code 1 (some .int) ∈ lw_ws := lw_in (List.mem_append_right _ (List.mem_of_getElem? (i := 278) (by decide +kernel))) rfl
theorem gm_5 (L : Nat) (xs : Nat → Int32) : dx_gm lw_ws tb_Y tb_B (tb_Z L xs) 5 := ⟨by decide +kernel, wm_278, wm_1, ⟨by decide +kernel, by decide +kernel⟩, show tb_l 5 ≤ 45 by decide +kernel⟩
theorem pn_6 : (parseMethodDescriptor "()I").map (fun d => d.parameters.length) = some 0 := by decide +kernel
theorem wm_282 : Cond.code ⟨"DecimalRun", "steps", "()I"⟩ prog_1_method_8_code 1 (some .int) ∈ lw_ws := lw_in (List.mem_append_right _ (List.mem_of_getElem? (i := 282) (by decide +kernel))) rfl
theorem gm_6 (L : Nat) (xs : Nat → Int32) : dx_gm lw_ws tb_Y tb_B (tb_Z L xs) 6 := ⟨by decide +kernel, wm_282, wm_1, ⟨by decide +kernel, by decide +kernel⟩, show tb_l 6 ≤ 45 by decide +kernel⟩
theorem pn_7 : (parseMethodDescriptor "()I").map (fun d => d.parameters.length) = some 0 := by decide +kernel
theorem wm_286 : Cond.code ⟨"DecimalRun", "outLength", "()I"⟩ prog_1_method_9_code 1 (some .int) ∈ lw_ws := lw_in (List.mem_append_right _ (List.mem_of_getElem? (i := 286) (by decide +kernel))) rfl
theorem gm_7 (L : Nat) (xs : Nat → Int32) : dx_gm lw_ws tb_Y tb_B (tb_Z L xs) 7 := ⟨by decide +kernel, wm_286, wm_1, ⟨by decide +kernel, by decide +kernel⟩, show tb_l 7 ≤ 45 by decide +kernel⟩
theorem pn_8 : (parseMethodDescriptor "(I)I").map (fun d => d.parameters.length) = some 1 := by decide +kernel
theorem wm_290 : Cond.code ⟨"DecimalRun", "out", "(I)I"⟩ prog_1_method_10_code 2 (some .int) ∈ lw_ws := lw_in (List.mem_append_right _ (List.mem_of_getElem? (i := 290) (by decide +kernel))) rfl
theorem gm_8 (L : Nat) (xs : Nat → Int32) : dx_gm lw_ws tb_Y tb_B (tb_Z L xs) 8 := ⟨by decide +kernel, wm_290, wm_1, ⟨by decide +kernel, by decide +kernel⟩, show tb_l 8 ≤ 45 by decide +kernel⟩
theorem pn_9 : (parseMethodDescriptor "(I)I").map (fun d => d.parameters.length) = some 1 := by decide +kernel
theorem wm_294 : Cond.code ⟨"DecimalRun", "variable", "(I)I"⟩ prog_1_method_11_code 2 (some .int) ∈ lw_ws := lw_in (List.mem_append_right _ (List.mem_of_getElem? (i := 294) (by decide +kernel))) rfl
theorem gm_9 (L : Nat) (xs : Nat → Int32) : dx_gm lw_ws tb_Y tb_B (tb_Z L xs) 9 := ⟨by decide +kernel, wm_294, wm_1, ⟨by decide +kernel, by decide +kernel⟩, show tb_l 9 ≤ 45 by decide +kernel⟩
theorem pn_10 : (parseMethodDescriptor "(I)Z").map (fun d => d.parameters.length) = some 1 := by decide +kernel
theorem wm_297 : Cond.code ⟨"DecimalRun", "isVariable", "(I)Z"⟩ prog_1_method_14_code 1 (some .boolean) ∈ lw_ws := lw_in (List.mem_append_right _ (List.mem_of_getElem? (i := 297) (by decide +kernel))) rfl
theorem gm_10 (L : Nat) (xs : Nat → Int32) : dx_gm lw_ws tb_Y tb_B (tb_Z L xs) 10 := ⟨by decide +kernel, wm_297, wm_1, ⟨by decide +kernel, by decide +kernel⟩, show tb_l 10 ≤ 45 by decide +kernel⟩
theorem pn_11 : (parseMethodDescriptor "(I)I").map (fun d => d.parameters.length) = some 1 := by decide +kernel
theorem wm_304 : Cond.code ⟨"DecimalRun", "decimals", "(I)I"⟩ prog_1_method_12_code 2 (some .int) ∈ lw_ws := lw_in (List.mem_append_right _ (List.mem_of_getElem? (i := 304) (by decide +kernel))) rfl
theorem gm_11 (L : Nat) (xs : Nat → Int32) : dx_gm lw_ws tb_Y tb_B (tb_Z L xs) 11 := ⟨by decide +kernel, wm_304, wm_1, ⟨by decide +kernel, by decide +kernel⟩, show tb_l 11 ≤ 45 by decide +kernel⟩
theorem pn_12 : (parseMethodDescriptor "()I").map (fun d => d.parameters.length) = some 0 := by decide +kernel
theorem wm_312 : Cond.code ⟨"DecimalRun", "scale", "()I"⟩ prog_1_method_13_code 1 (some .int) ∈ lw_ws := lw_in (List.mem_append_right _ (List.mem_of_getElem? (i := 312) (by decide +kernel))) rfl
theorem gm_12 (L : Nat) (xs : Nat → Int32) : dx_gm lw_ws tb_Y tb_B (tb_Z L xs) 12 := ⟨by decide +kernel, wm_312, wm_1, ⟨by decide +kernel, by decide +kernel⟩, show tb_l 12 ≤ 45 by decide +kernel⟩
theorem pn_13 : (parseMethodDescriptor "(I)I").map (fun d => d.parameters.length) = some 1 := by decide +kernel
theorem wm_322 : Cond.code ⟨"DecimalRun", "run", "(I)I"⟩ prog_1_method_6_code 2 (some .int) ∈ lw_ws := lw_in (List.mem_append_right _ (List.mem_of_getElem? (i := 322) (by decide +kernel))) rfl
theorem gm_13 (L : Nat) (xs : Nat → Int32) : dx_gm lw_ws tb_Y tb_B (tb_Z L xs) 13 := ⟨by decide +kernel, wm_322, wm_1, ⟨by decide +kernel, by decide +kernel⟩, show tb_l 13 ≤ 45 by decide +kernel⟩
theorem pn_14 : (parseMethodDescriptor "()V").map (fun d => d.parameters.length) = some 0 := by decide +kernel
theorem wm_37 : Cond.code ⟨"DecimalRun$Text", "<init>", "()V"⟩ prog_9_method_1_code 1 none ∈ lw_ws := lw_in (List.mem_append_right _ (List.mem_of_getElem? (i := 37) (by decide +kernel))) rfl
theorem wm_2 : Cond.initialized "DecimalRun$Text" ∈ lw_ws := lw_in (List.mem_append_right _ (List.mem_of_getElem? (i := 2) (by decide +kernel))) rfl
theorem gm_14 (L : Nat) (xs : Nat → Int32) : dx_gm lw_ws tb_Y tb_B (tb_Z L xs) 14 := ⟨by decide +kernel, wm_37, wm_2, ⟨by decide +kernel, by decide +kernel⟩, show tb_l 14 ≤ 45 by decide +kernel⟩
theorem pn_15 : (parseMethodDescriptor "(I)I").map (fun d => d.parameters.length) = some 1 := by decide +kernel
theorem wm_252 : Cond.code ⟨"DecimalRun$Text", "append", "(I)I"⟩ prog_9_method_2_code 4 (some .int) ∈ lw_ws := lw_in (List.mem_append_right _ (List.mem_of_getElem? (i := 252) (by decide +kernel))) rfl
theorem gm_15 (L : Nat) (xs : Nat → Int32) : dx_gm lw_ws tb_Y tb_B (tb_Z L xs) 15 := ⟨by decide +kernel, wm_252, wm_2, ⟨by decide +kernel, by decide +kernel⟩, show tb_l 15 ≤ 45 by decide +kernel⟩
theorem pn_16 : (parseMethodDescriptor "(I)I").map (fun d => d.parameters.length) = some 1 := by decide +kernel
theorem wm_255 : Cond.code ⟨"DecimalRun$Text", "packed", "(I)I"⟩ prog_9_method_3_code 2 (some .int) ∈ lw_ws := lw_in (List.mem_append_right _ (List.mem_of_getElem? (i := 255) (by decide +kernel))) rfl
theorem gm_16 (L : Nat) (xs : Nat → Int32) : dx_gm lw_ws tb_Y tb_B (tb_Z L xs) 16 := ⟨by decide +kernel, wm_255, wm_2, ⟨by decide +kernel, by decide +kernel⟩, show tb_l 16 ≤ 45 by decide +kernel⟩
theorem pn_17 : (parseMethodDescriptor "(I)C").map (fun d => d.parameters.length) = some 1 := by decide +kernel
theorem wm_344 : Cond.code ⟨"DecimalRun$Text", "at", "(I)C"⟩ prog_9_method_4_code 2 (some .char) ∈ lw_ws := lw_in (List.mem_append_right _ (List.mem_of_getElem? (i := 344) (by decide +kernel))) rfl
theorem gm_17 (L : Nat) (xs : Nat → Int32) : dx_gm lw_ws tb_Y tb_B (tb_Z L xs) 17 := ⟨by decide +kernel, wm_344, wm_2, ⟨by decide +kernel, by decide +kernel⟩, show tb_l 17 ≤ 45 by decide +kernel⟩
theorem pn_18 : (parseMethodDescriptor "()V").map (fun d => d.parameters.length) = some 0 := by decide +kernel
theorem wm_53 : Cond.code ⟨"DecimalRun$Memory", "<init>", "()V"⟩ prog_5_method_1_code 1 none ∈ lw_ws := lw_in (List.mem_append_right _ (List.mem_of_getElem? (i := 53) (by decide +kernel))) rfl
theorem wm_3 : Cond.initialized "DecimalRun$Memory" ∈ lw_ws := lw_in (List.mem_append_right _ (List.mem_of_getElem? (i := 3) (by decide +kernel))) rfl
theorem gm_18 (L : Nat) (xs : Nat → Int32) : dx_gm lw_ws tb_Y tb_B (tb_Z L xs) 18 := ⟨by decide +kernel, wm_53, wm_3, ⟨by decide +kernel, by decide +kernel⟩, show tb_l 18 ≤ 45 by decide +kernel⟩
theorem pn_19 : (parseMethodDescriptor "()V").map (fun d => d.parameters.length) = some 0 := by decide +kernel
theorem wm_271 : Cond.code ⟨"DecimalRun$Memory", "forget", "()V"⟩ prog_5_method_2_code 1 none ∈ lw_ws := lw_in (List.mem_append_right _ (List.mem_of_getElem? (i := 271) (by decide +kernel))) rfl
theorem gm_19 (L : Nat) (xs : Nat → Int32) : dx_gm lw_ws tb_Y tb_B (tb_Z L xs) 19 := ⟨by decide +kernel, wm_271, wm_3, ⟨by decide +kernel, by decide +kernel⟩, show tb_l 19 ≤ 45 by decide +kernel⟩
theorem pn_20 : (parseMethodDescriptor "()V").map (fun d => d.parameters.length) = some 0 := by decide +kernel
theorem wm_72 : Cond.code ⟨"DecimalRun$Outcome", "<init>", "()V"⟩ prog_6_method_1_code 1 none ∈ lw_ws := lw_in (List.mem_append_right _ (List.mem_of_getElem? (i := 72) (by decide +kernel))) rfl
theorem wm_4 : Cond.initialized "DecimalRun$Outcome" ∈ lw_ws := lw_in (List.mem_append_right _ (List.mem_of_getElem? (i := 4) (by decide +kernel))) rfl
theorem gm_20 (L : Nat) (xs : Nat → Int32) : dx_gm lw_ws tb_Y tb_B (tb_Z L xs) 20 := ⟨by decide +kernel, wm_72, wm_4, ⟨by decide +kernel, by decide +kernel⟩, show tb_l 20 ≤ 45 by decide +kernel⟩
theorem pn_21 : (parseMethodDescriptor "(I)V").map (fun d => d.parameters.length) = some 1 := by decide +kernel
theorem wm_332 : Cond.code ⟨"DecimalRun$Outcome", "begin", "(I)V"⟩ prog_6_method_2_code 2 none ∈ lw_ws := lw_in (List.mem_append_right _ (List.mem_of_getElem? (i := 332) (by decide +kernel))) rfl
theorem gm_21 (L : Nat) (xs : Nat → Int32) : dx_gm lw_ws tb_Y tb_B (tb_Z L xs) 21 := ⟨by decide +kernel, wm_332, wm_4, ⟨by decide +kernel, by decide +kernel⟩, show tb_l 21 ≤ 45 by decide +kernel⟩
theorem pn_22 : (parseMethodDescriptor "(I)V").map (fun d => d.parameters.length) = some 1 := by decide +kernel
theorem wm_436 : Cond.code ⟨"DecimalRun$Outcome", "raise", "(I)V"⟩ prog_6_method_3_code 2 none ∈ lw_ws := lw_in (List.mem_append_right _ (List.mem_of_getElem? (i := 436) (by decide +kernel))) rfl
theorem gm_22 (L : Nat) (xs : Nat → Int32) : dx_gm lw_ws tb_Y tb_B (tb_Z L xs) 22 := ⟨by decide +kernel, wm_436, wm_4, ⟨by decide +kernel, by decide +kernel⟩, show tb_l 22 ≤ 45 by decide +kernel⟩
theorem pn_23 : (parseMethodDescriptor "()V").map (fun d => d.parameters.length) = some 0 := by decide +kernel
theorem wm_728 : Cond.code ⟨"DecimalRun$Outcome", "step", "()V"⟩ prog_6_method_4_code 1 none ∈ lw_ws := lw_in (List.mem_append_right _ (List.mem_of_getElem? (i := 728) (by decide +kernel))) rfl
theorem gm_23 (L : Nat) (xs : Nat → Int32) : dx_gm lw_ws tb_Y tb_B (tb_Z L xs) 23 := ⟨by decide +kernel, wm_728, wm_4, ⟨by decide +kernel, by decide +kernel⟩, show tb_l 23 ≤ 45 by decide +kernel⟩
theorem pn_24 : (parseMethodDescriptor "(J)V").map (fun d => d.parameters.length) = some 1 := by decide +kernel
theorem wm_755 : Cond.code ⟨"DecimalRun$Outcome", "write", "(J)V"⟩ prog_6_method_5_code 12 none ∈ lw_ws := lw_in (List.mem_append_right _ (List.mem_of_getElem? (i := 755) (by decide +kernel))) rfl
theorem gm_24 (L : Nat) (xs : Nat → Int32) : dx_gm lw_ws tb_Y tb_B (tb_Z L xs) 24 := ⟨by decide +kernel, wm_755, wm_4, ⟨by decide +kernel, by decide +kernel⟩, show tb_l 24 ≤ 45 by decide +kernel⟩
theorem pn_25 : (parseMethodDescriptor "(J)I").map (fun d => d.parameters.length) = some 1 := by decide +kernel
theorem wm_763 : Cond.code ⟨"DecimalRun$Outcome", "digitsOf", "(J)I"⟩ prog_6_method_6_code 3 (some .int) ∈ lw_ws := lw_in (List.mem_append_right _ (List.mem_of_getElem? (i := 763) (by decide +kernel))) rfl
theorem gm_25 (L : Nat) (xs : Nat → Int32) : dx_gm lw_ws tb_Y tb_B (tb_Z L xs) 25 := ⟨by decide +kernel, wm_763, wm_4, ⟨by decide +kernel, by decide +kernel⟩, show tb_l 25 ≤ 45 by decide +kernel⟩
theorem pn_26 : (parseMethodDescriptor "()V").map (fun d => d.parameters.length) = some 0 := by decide +kernel
theorem wm_98 : Cond.code ⟨"DecimalRun$Code", "<init>", "()V"⟩ prog_3_method_1_code 1 none ∈ lw_ws := lw_in (List.mem_append_right _ (List.mem_of_getElem? (i := 98) (by decide +kernel))) rfl
theorem wm_5 : Cond.initialized "DecimalRun$Code" ∈ lw_ws := lw_in (List.mem_append_right _ (List.mem_of_getElem? (i := 5) (by decide +kernel))) rfl
theorem gm_26 (L : Nat) (xs : Nat → Int32) : dx_gm lw_ws tb_Y tb_B (tb_Z L xs) 26 := ⟨by decide +kernel, wm_98, wm_5, ⟨by decide +kernel, by decide +kernel⟩, show tb_l 26 ≤ 45 by decide +kernel⟩
theorem pn_27 : (parseMethodDescriptor "()V").map (fun d => d.parameters.length) = some 0 := by decide +kernel
theorem wm_602 : Cond.code ⟨"DecimalRun$Code", "begin", "()V"⟩ prog_3_method_2_code 1 none ∈ lw_ws := lw_in (List.mem_append_right _ (List.mem_of_getElem? (i := 602) (by decide +kernel))) rfl
theorem gm_27 (L : Nat) (xs : Nat → Int32) : dx_gm lw_ws tb_Y tb_B (tb_Z L xs) 27 := ⟨by decide +kernel, wm_602, wm_5, ⟨by decide +kernel, by decide +kernel⟩, show tb_l 27 ≤ 45 by decide +kernel⟩
theorem pn_28 : (parseMethodDescriptor "(I)Z").map (fun d => d.parameters.length) = some 1 := by decide +kernel
theorem wm_638 : Cond.code ⟨"DecimalRun$Code", "isFunction", "(I)Z"⟩ prog_3_method_5_code 2 (some .boolean) ∈ lw_ws := lw_in (List.mem_append_right _ (List.mem_of_getElem? (i := 638) (by decide +kernel))) rfl
theorem gm_28 (L : Nat) (xs : Nat → Int32) : dx_gm lw_ws tb_Y tb_B (tb_Z L xs) 28 := ⟨by decide +kernel, wm_638, wm_5, ⟨by decide +kernel, by decide +kernel⟩, show tb_l 28 ≤ 45 by decide +kernel⟩
theorem pn_29 : (parseMethodDescriptor "(IJ)I").map (fun d => d.parameters.length) = some 2 := by decide +kernel
theorem wm_642 : Cond.code ⟨"DecimalRun$Code", "emit", "(IJ)I"⟩ prog_3_method_3_code 4 (some .int) ∈ lw_ws := lw_in (List.mem_append_right _ (List.mem_of_getElem? (i := 642) (by decide +kernel))) rfl
theorem gm_29 (L : Nat) (xs : Nat → Int32) : dx_gm lw_ws tb_Y tb_B (tb_Z L xs) 29 := ⟨by decide +kernel, wm_642, wm_5, ⟨by decide +kernel, by decide +kernel⟩, show tb_l 29 ≤ 45 by decide +kernel⟩
theorem pn_30 : (parseMethodDescriptor "(II)V").map (fun d => d.parameters.length) = some 2 := by decide +kernel
theorem wm_646 : Cond.code ⟨"DecimalRun$Code", "define", "(II)V"⟩ prog_3_method_6_code 3 none ∈ lw_ws := lw_in (List.mem_append_right _ (List.mem_of_getElem? (i := 646) (by decide +kernel))) rfl
theorem gm_30 (L : Nat) (xs : Nat → Int32) : dx_gm lw_ws tb_Y tb_B (tb_Z L xs) 30 := ⟨by decide +kernel, wm_646, wm_5, ⟨by decide +kernel, by decide +kernel⟩, show tb_l 30 ≤ 45 by decide +kernel⟩
theorem pn_31 : (parseMethodDescriptor "(I)V").map (fun d => d.parameters.length) = some 1 := by decide +kernel
theorem wm_658 : Cond.code ⟨"DecimalRun$Code", "land", "(I)V"⟩ prog_3_method_4_code 2 none ∈ lw_ws := lw_in (List.mem_append_right _ (List.mem_of_getElem? (i := 658) (by decide +kernel))) rfl
theorem gm_31 (L : Nat) (xs : Nat → Int32) : dx_gm lw_ws tb_Y tb_B (tb_Z L xs) 31 := ⟨by decide +kernel, wm_658, wm_5, ⟨by decide +kernel, by decide +kernel⟩, show tb_l 31 ≤ 45 by decide +kernel⟩
theorem pn_32 : (parseMethodDescriptor "(LDecimalRun$Text;LDecimalRun$Outcome;)V").map (fun d => d.parameters.length) = some 2 := by decide +kernel
theorem wm_127 : Cond.code ⟨"DecimalRun$Scanner", "<init>", "(LDecimalRun$Text;LDecimalRun$Outcome;)V"⟩ prog_8_method_1_code 3 none ∈ lw_ws := lw_in (List.mem_append_right _ (List.mem_of_getElem? (i := 127) (by decide +kernel))) rfl
theorem wm_6 : Cond.initialized "DecimalRun$Scanner" ∈ lw_ws := lw_in (List.mem_append_right _ (List.mem_of_getElem? (i := 6) (by decide +kernel))) rfl
theorem gm_32 (L : Nat) (xs : Nat → Int32) : dx_gm lw_ws tb_Y tb_B (tb_Z L xs) 32 := ⟨by decide +kernel, wm_127, wm_6, ⟨by decide +kernel, by decide +kernel⟩, show tb_l 32 ≤ 45 by decide +kernel⟩
theorem pn_33 : (parseMethodDescriptor "()V").map (fun d => d.parameters.length) = some 0 := by decide +kernel
theorem wm_336 : Cond.code ⟨"DecimalRun$Scanner", "scan", "()V"⟩ prog_8_method_2_code 2 none ∈ lw_ws := lw_in (List.mem_append_right _ (List.mem_of_getElem? (i := 336) (by decide +kernel))) rfl
theorem gm_33 (L : Nat) (xs : Nat → Int32) : dx_gm lw_ws tb_Y tb_B (tb_Z L xs) 33 := ⟨by decide +kernel, wm_336, wm_6, ⟨by decide +kernel, by decide +kernel⟩, show tb_l 33 ≤ 45 by decide +kernel⟩
theorem pn_34 : (parseMethodDescriptor "(I)I").map (fun d => d.parameters.length) = some 1 := by decide +kernel
theorem wm_340 : Cond.code ⟨"DecimalRun$Scanner", "take", "(I)I"⟩ prog_8_method_3_code 3 (some .int) ∈ lw_ws := lw_in (List.mem_append_right _ (List.mem_of_getElem? (i := 340) (by decide +kernel))) rfl
theorem gm_34 (L : Nat) (xs : Nat → Int32) : dx_gm lw_ws tb_Y tb_B (tb_Z L xs) 34 := ⟨by decide +kernel, wm_340, wm_6, ⟨by decide +kernel, by decide +kernel⟩, show tb_l 34 ≤ 45 by decide +kernel⟩
theorem pn_35 : (parseMethodDescriptor "(C)Z").map (fun d => d.parameters.length) = some 1 := by decide +kernel
theorem wm_347 : Cond.code ⟨"DecimalRun$Scanner", "isDigit", "(C)Z"⟩ prog_8_method_12_code 1 (some .boolean) ∈ lw_ws := lw_in (List.mem_append_right _ (List.mem_of_getElem? (i := 347) (by decide +kernel))) rfl
theorem gm_35 (L : Nat) (xs : Nat → Int32) : dx_gm lw_ws tb_Y tb_B (tb_Z L xs) 35 := ⟨by decide +kernel, wm_347, wm_6, ⟨by decide +kernel, by decide +kernel⟩, show tb_l 35 ≤ 45 by decide +kernel⟩
theorem pn_36 : (parseMethodDescriptor "(I)I").map (fun d => d.parameters.length) = some 1 := by decide +kernel
theorem wm_351 : Cond.code ⟨"DecimalRun$Scanner", "takeNumeral", "(I)I"⟩ prog_8_method_4_code 8 (some .int) ∈ lw_ws := lw_in (List.mem_append_right _ (List.mem_of_getElem? (i := 351) (by decide +kernel))) rfl
theorem gm_36 (L : Nat) (xs : Nat → Int32) : dx_gm lw_ws tb_Y tb_B (tb_Z L xs) 36 := ⟨by decide +kernel, wm_351, wm_6, ⟨by decide +kernel, by decide +kernel⟩, show tb_l 36 ≤ 45 by decide +kernel⟩
theorem pn_37 : (parseMethodDescriptor "(II)I").map (fun d => d.parameters.length) = some 2 := by decide +kernel
theorem wm_355 : Cond.code ⟨"DecimalRun$Scanner", "digits", "(II)I"⟩ prog_8_method_5_code 4 (some .int) ∈ lw_ws := lw_in (List.mem_append_right _ (List.mem_of_getElem? (i := 355) (by decide +kernel))) rfl
theorem gm_37 (L : Nat) (xs : Nat → Int32) : dx_gm lw_ws tb_Y tb_B (tb_Z L xs) 37 := ⟨by decide +kernel, wm_355, wm_6, ⟨by decide +kernel, by decide +kernel⟩, show tb_l 37 ≤ 45 by decide +kernel⟩
theorem pn_38 : (parseMethodDescriptor "(IJ)V").map (fun d => d.parameters.length) = some 2 := by decide +kernel
theorem wm_364 : Cond.code ⟨"DecimalRun$Scanner", "add", "(IJ)V"⟩ prog_8_method_11_code 4 none ∈ lw_ws := lw_in (List.mem_append_right _ (List.mem_of_getElem? (i := 364) (by decide +kernel))) rfl
theorem gm_38 (L : Nat) (xs : Nat → Int32) : dx_gm lw_ws tb_Y tb_B (tb_Z L xs) 38 := ⟨by decide +kernel, wm_364, wm_6, ⟨by decide +kernel, by decide +kernel⟩, show tb_l 38 ≤ 45 by decide +kernel⟩
theorem pn_39 : (parseMethodDescriptor "(C)Z").map (fun d => d.parameters.length) = some 1 := by decide +kernel
theorem wm_367 : Cond.code ⟨"DecimalRun$Scanner", "isLetter", "(C)Z"⟩ prog_8_method_13_code 1 (some .boolean) ∈ lw_ws := lw_in (List.mem_append_right _ (List.mem_of_getElem? (i := 367) (by decide +kernel))) rfl
theorem gm_39 (L : Nat) (xs : Nat → Int32) : dx_gm lw_ws tb_Y tb_B (tb_Z L xs) 39 := ⟨by decide +kernel, wm_367, wm_6, ⟨by decide +kernel, by decide +kernel⟩, show tb_l 39 ≤ 45 by decide +kernel⟩
theorem pn_40 : (parseMethodDescriptor "(I)I").map (fun d => d.parameters.length) = some 1 := by decide +kernel
theorem wm_371 : Cond.code ⟨"DecimalRun$Scanner", "takeWord", "(I)I"⟩ prog_8_method_6_code 3 (some .int) ∈ lw_ws := lw_in (List.mem_append_right _ (List.mem_of_getElem? (i := 371) (by decide +kernel))) rfl
theorem gm_40 (L : Nat) (xs : Nat → Int32) : dx_gm lw_ws tb_Y tb_B (tb_Z L xs) 40 := ⟨by decide +kernel, wm_371, wm_6, ⟨by decide +kernel, by decide +kernel⟩, show tb_l 40 ≤ 45 by decide +kernel⟩
theorem pn_41 : (parseMethodDescriptor "(II)I").map (fun d => d.parameters.length) = some 2 := by decide +kernel
theorem wm_375 : Cond.code ⟨"DecimalRun$Scanner", "reserved", "(II)I"⟩ prog_8_method_7_code 3 (some .int) ∈ lw_ws := lw_in (List.mem_append_right _ (List.mem_of_getElem? (i := 375) (by decide +kernel))) rfl
theorem gm_41 (L : Nat) (xs : Nat → Int32) : dx_gm lw_ws tb_Y tb_B (tb_Z L xs) 41 := ⟨by decide +kernel, wm_375, wm_6, ⟨by decide +kernel, by decide +kernel⟩, show tb_l 41 ≤ 45 by decide +kernel⟩
theorem pn_42 : (parseMethodDescriptor "(Ljava/lang/String;II)Z").map (fun d => d.parameters.length) = some 3 := by decide +kernel
theorem wm_380 : Cond.code ⟨"DecimalRun$Scanner", "spells", "(Ljava/lang/String;II)Z"⟩ prog_8_method_8_code 5 (some .boolean) ∈ lw_ws := lw_in (List.mem_append_right _ (List.mem_of_getElem? (i := 380) (by decide +kernel))) rfl
theorem gm_42 (L : Nat) (xs : Nat → Int32) : dx_gm lw_ws tb_Y tb_B (tb_Z L xs) 42 := ⟨by decide +kernel, wm_380, wm_6, ⟨by decide +kernel, by decide +kernel⟩, show tb_l 42 ≤ 45 by decide +kernel⟩
theorem pn_43 : (parseMethodDescriptor "(I)I").map (fun d => d.parameters.length) = some 1 := by decide +kernel
theorem wm_534 : Cond.code ⟨"DecimalRun$Scanner", "takeSymbol", "(I)I"⟩ prog_8_method_9_code 4 (some .int) ∈ lw_ws := lw_in (List.mem_append_right _ (List.mem_of_getElem? (i := 534) (by decide +kernel))) rfl
theorem gm_43 (L : Nat) (xs : Nat → Int32) : dx_gm lw_ws tb_Y tb_B (tb_Z L xs) 43 := ⟨by decide +kernel, wm_534, wm_6, ⟨by decide +kernel, by decide +kernel⟩, show tb_l 43 ≤ 45 by decide +kernel⟩
theorem pn_44 : (parseMethodDescriptor "(C)I").map (fun d => d.parameters.length) = some 1 := by decide +kernel
theorem wm_537 : Cond.code ⟨"DecimalRun$Scanner", "withEqualSign", "(C)I"⟩ prog_8_method_10_code 1 (some .int) ∈ lw_ws := lw_in (List.mem_append_right _ (List.mem_of_getElem? (i := 537) (by decide +kernel))) rfl
theorem gm_44 (L : Nat) (xs : Nat → Int32) : dx_gm lw_ws tb_Y tb_B (tb_Z L xs) 44 := ⟨by decide +kernel, wm_537, wm_6, ⟨by decide +kernel, by decide +kernel⟩, show tb_l 44 ≤ 45 by decide +kernel⟩
theorem pn_45 : (parseMethodDescriptor "(LDecimalRun$Scanner;LDecimalRun$Code;LDecimalRun$Outcome;)V").map (fun d => d.parameters.length) = some 3 := by decide +kernel
theorem wm_152 : Cond.code ⟨"DecimalRun$Parser", "<init>", "(LDecimalRun$Scanner;LDecimalRun$Code;LDecimalRun$Outcome;)V"⟩ prog_7_method_1_code 4 none ∈ lw_ws := lw_in (List.mem_append_right _ (List.mem_of_getElem? (i := 152) (by decide +kernel))) rfl
theorem wm_7 : Cond.initialized "DecimalRun$Parser" ∈ lw_ws := lw_in (List.mem_append_right _ (List.mem_of_getElem? (i := 7) (by decide +kernel))) rfl
theorem gm_45 (L : Nat) (xs : Nat → Int32) : dx_gm lw_ws tb_Y tb_B (tb_Z L xs) 45 := ⟨by decide +kernel, wm_152, wm_7, ⟨by decide +kernel, by decide +kernel⟩, show tb_l 45 ≤ 45 by decide +kernel⟩
theorem pn_46 : (parseMethodDescriptor "()V").map (fun d => d.parameters.length) = some 0 := by decide +kernel
theorem wm_598 : Cond.code ⟨"DecimalRun$Parser", "parse", "()V"⟩ prog_7_method_2_code 1 none ∈ lw_ws := lw_in (List.mem_append_right _ (List.mem_of_getElem? (i := 598) (by decide +kernel))) rfl
theorem gm_46 (L : Nat) (xs : Nat → Int32) : dx_gm lw_ws tb_Y tb_B (tb_Z L xs) 46 := ⟨by decide +kernel, wm_598, wm_7, ⟨by decide +kernel, by decide +kernel⟩, show tb_l 46 ≤ 45 by decide +kernel⟩
theorem pn_47 : (parseMethodDescriptor "(II)V").map (fun d => d.parameters.length) = some 2 := by decide +kernel
theorem wm_609 : Cond.code ⟨"DecimalRun$Parser", "list", "(II)V"⟩ prog_7_method_3_code 4 none ∈ lw_ws := lw_in (List.mem_append_right _ (List.mem_of_getElem? (i := 609) (by decide +kernel))) rfl
theorem gm_47 (L : Nat) (xs : Nat → Int32) : dx_gm lw_ws tb_Y tb_B (tb_Z L xs) 47 := ⟨by decide +kernel, wm_609, wm_7, ⟨by decide +kernel, by decide +kernel⟩, show tb_l 47 ≤ 45 by decide +kernel⟩
theorem pn_48 : (parseMethodDescriptor "()V").map (fun d => d.parameters.length) = some 0 := by decide +kernel
theorem wm_613 : Cond.code ⟨"DecimalRun$Parser", "skipSeparators", "()V"⟩ prog_7_method_23_code 2 none ∈ lw_ws := lw_in (List.mem_append_right _ (List.mem_of_getElem? (i := 613) (by decide +kernel))) rfl
theorem gm_48 (L : Nat) (xs : Nat → Int32) : dx_gm lw_ws tb_Y tb_B (tb_Z L xs) 48 := ⟨by decide +kernel, wm_613, wm_7, ⟨by decide +kernel, by decide +kernel⟩, show tb_l 48 ≤ 45 by decide +kernel⟩
theorem pn_49 : (parseMethodDescriptor "()I").map (fun d => d.parameters.length) = some 0 := by decide +kernel
theorem wm_617 : Cond.code ⟨"DecimalRun$Parser", "kind", "()I"⟩ prog_7_method_18_code 1 (some .int) ∈ lw_ws := lw_in (List.mem_append_right _ (List.mem_of_getElem? (i := 617) (by decide +kernel))) rfl
theorem gm_49 (L : Nat) (xs : Nat → Int32) : dx_gm lw_ws tb_Y tb_B (tb_Z L xs) 49 := ⟨by decide +kernel, wm_617, wm_7, ⟨by decide +kernel, by decide +kernel⟩, show tb_l 49 ≤ 45 by decide +kernel⟩
theorem pn_50 : (parseMethodDescriptor "()V").map (fun d => d.parameters.length) = some 0 := by decide +kernel
theorem wm_621 : Cond.code ⟨"DecimalRun$Parser", "advance", "()V"⟩ prog_7_method_20_code 1 none ∈ lw_ws := lw_in (List.mem_append_right _ (List.mem_of_getElem? (i := 621) (by decide +kernel))) rfl
theorem gm_50 (L : Nat) (xs : Nat → Int32) : dx_gm lw_ws tb_Y tb_B (tb_Z L xs) 50 := ⟨by decide +kernel, wm_621, wm_7, ⟨by decide +kernel, by decide +kernel⟩, show tb_l 50 ≤ 45 by decide +kernel⟩
theorem pn_51 : (parseMethodDescriptor "(I)V").map (fun d => d.parameters.length) = some 1 := by decide +kernel
theorem wm_625 : Cond.code ⟨"DecimalRun$Parser", "definition", "(I)V"⟩ prog_7_method_4_code 5 none ∈ lw_ws := lw_in (List.mem_append_right _ (List.mem_of_getElem? (i := 625) (by decide +kernel))) rfl
theorem gm_51 (L : Nat) (xs : Nat → Int32) : dx_gm lw_ws tb_Y tb_B (tb_Z L xs) 51 := ⟨by decide +kernel, wm_625, wm_7, ⟨by decide +kernel, by decide +kernel⟩, show tb_l 51 ≤ 45 by decide +kernel⟩
theorem pn_52 : (parseMethodDescriptor "(I)V").map (fun d => d.parameters.length) = some 1 := by decide +kernel
theorem wm_629 : Cond.code ⟨"DecimalRun$Parser", "expect", "(I)V"⟩ prog_7_method_21_code 2 none ∈ lw_ws := lw_in (List.mem_append_right _ (List.mem_of_getElem? (i := 629) (by decide +kernel))) rfl
theorem gm_52 (L : Nat) (xs : Nat → Int32) : dx_gm lw_ws tb_Y tb_B (tb_Z L xs) 52 := ⟨by decide +kernel, wm_629, wm_7, ⟨by decide +kernel, by decide +kernel⟩, show tb_l 52 ≤ 45 by decide +kernel⟩
theorem pn_53 : (parseMethodDescriptor "()I").map (fun d => d.parameters.length) = some 0 := by decide +kernel
theorem wm_634 : Cond.code ⟨"DecimalRun$Parser", "expectName", "()I"⟩ prog_7_method_22_code 2 (some .int) ∈ lw_ws := lw_in (List.mem_append_right _ (List.mem_of_getElem? (i := 634) (by decide +kernel))) rfl
theorem gm_53 (L : Nat) (xs : Nat → Int32) : dx_gm lw_ws tb_Y tb_B (tb_Z L xs) 53 := ⟨by decide +kernel, wm_634, wm_7, ⟨by decide +kernel, by decide +kernel⟩, show tb_l 53 ≤ 45 by decide +kernel⟩
theorem pn_54 : (parseMethodDescriptor "(I)V").map (fun d => d.parameters.length) = some 1 := by decide +kernel
theorem wm_650 : Cond.code ⟨"DecimalRun$Parser", "braces", "(I)V"⟩ prog_7_method_5_code 2 none ∈ lw_ws := lw_in (List.mem_append_right _ (List.mem_of_getElem? (i := 650) (by decide +kernel))) rfl
theorem gm_54 (L : Nat) (xs : Nat → Int32) : dx_gm lw_ws tb_Y tb_B (tb_Z L xs) 54 := ⟨by decide +kernel, wm_650, wm_7, ⟨by decide +kernel, by decide +kernel⟩, show tb_l 54 ≤ 45 by decide +kernel⟩
theorem pn_55 : (parseMethodDescriptor "(I)I").map (fun d => d.parameters.length) = some 1 := by decide +kernel
theorem wm_654 : Cond.code ⟨"DecimalRun$Parser", "deeper", "(I)I"⟩ prog_7_method_17_code 2 (some .int) ∈ lw_ws := lw_in (List.mem_append_right _ (List.mem_of_getElem? (i := 654) (by decide +kernel))) rfl
theorem gm_55 (L : Nat) (xs : Nat → Int32) : dx_gm lw_ws tb_Y tb_B (tb_Z L xs) 55 := ⟨by decide +kernel, wm_654, wm_7, ⟨by decide +kernel, by decide +kernel⟩, show tb_l 55 ≤ 45 by decide +kernel⟩
theorem pn_56 : (parseMethodDescriptor "(I)V").map (fun d => d.parameters.length) = some 1 := by decide +kernel
theorem wm_662 : Cond.code ⟨"DecimalRun$Parser", "statement", "(I)V"⟩ prog_7_method_6_code 3 none ∈ lw_ws := lw_in (List.mem_append_right _ (List.mem_of_getElem? (i := 662) (by decide +kernel))) rfl
theorem gm_56 (L : Nat) (xs : Nat → Int32) : dx_gm lw_ws tb_Y tb_B (tb_Z L xs) 56 := ⟨by decide +kernel, wm_662, wm_7, ⟨by decide +kernel, by decide +kernel⟩, show tb_l 56 ≤ 45 by decide +kernel⟩
theorem pn_57 : (parseMethodDescriptor "(I)V").map (fun d => d.parameters.length) = some 1 := by decide +kernel
theorem wm_666 : Cond.code ⟨"DecimalRun$Parser", "conditional", "(I)V"⟩ prog_7_method_7_code 5 none ∈ lw_ws := lw_in (List.mem_append_right _ (List.mem_of_getElem? (i := 666) (by decide +kernel))) rfl
theorem gm_57 (L : Nat) (xs : Nat → Int32) : dx_gm lw_ws tb_Y tb_B (tb_Z L xs) 57 := ⟨by decide +kernel, wm_666, wm_7, ⟨by decide +kernel, by decide +kernel⟩, show tb_l 57 ≤ 45 by decide +kernel⟩
theorem pn_58 : (parseMethodDescriptor "(I)V").map (fun d => d.parameters.length) = some 1 := by decide +kernel
theorem wm_670 : Cond.code ⟨"DecimalRun$Parser", "condition", "(I)V"⟩ prog_7_method_8_code 3 none ∈ lw_ws := lw_in (List.mem_append_right _ (List.mem_of_getElem? (i := 670) (by decide +kernel))) rfl
theorem gm_58 (L : Nat) (xs : Nat → Int32) : dx_gm lw_ws tb_Y tb_B (tb_Z L xs) 58 := ⟨by decide +kernel, wm_670, wm_7, ⟨by decide +kernel, by decide +kernel⟩, show tb_l 58 ≤ 45 by decide +kernel⟩
theorem pn_59 : (parseMethodDescriptor "(I)V").map (fun d => d.parameters.length) = some 1 := by decide +kernel
theorem wm_674 : Cond.code ⟨"DecimalRun$Parser", "expression", "(I)V"⟩ prog_7_method_11_code 4 none ∈ lw_ws := lw_in (List.mem_append_right _ (List.mem_of_getElem? (i := 674) (by decide +kernel))) rfl
theorem gm_59 (L : Nat) (xs : Nat → Int32) : dx_gm lw_ws tb_Y tb_B (tb_Z L xs) 59 := ⟨by decide +kernel, wm_674, wm_7, ⟨by decide +kernel, by decide +kernel⟩, show tb_l 59 ≤ 45 by decide +kernel⟩
theorem pn_60 : (parseMethodDescriptor "(I)V").map (fun d => d.parameters.length) = some 1 := by decide +kernel
theorem wm_678 : Cond.code ⟨"DecimalRun$Parser", "term", "(I)V"⟩ prog_7_method_12_code 4 none ∈ lw_ws := lw_in (List.mem_append_right _ (List.mem_of_getElem? (i := 678) (by decide +kernel))) rfl
theorem gm_60 (L : Nat) (xs : Nat → Int32) : dx_gm lw_ws tb_Y tb_B (tb_Z L xs) 60 := ⟨by decide +kernel, wm_678, wm_7, ⟨by decide +kernel, by decide +kernel⟩, show tb_l 60 ≤ 45 by decide +kernel⟩
theorem pn_61 : (parseMethodDescriptor "(I)V").map (fun d => d.parameters.length) = some 1 := by decide +kernel
theorem wm_682 : Cond.code ⟨"DecimalRun$Parser", "unary", "(I)V"⟩ prog_7_method_13_code 2 none ∈ lw_ws := lw_in (List.mem_append_right _ (List.mem_of_getElem? (i := 682) (by decide +kernel))) rfl
theorem gm_61 (L : Nat) (xs : Nat → Int32) : dx_gm lw_ws tb_Y tb_B (tb_Z L xs) 61 := ⟨by decide +kernel, wm_682, wm_7, ⟨by decide +kernel, by decide +kernel⟩, show tb_l 61 ≤ 45 by decide +kernel⟩
theorem pn_62 : (parseMethodDescriptor "(I)V").map (fun d => d.parameters.length) = some 1 := by decide +kernel
theorem wm_686 : Cond.code ⟨"DecimalRun$Parser", "power", "(I)V"⟩ prog_7_method_14_code 2 none ∈ lw_ws := lw_in (List.mem_append_right _ (List.mem_of_getElem? (i := 686) (by decide +kernel))) rfl
theorem gm_62 (L : Nat) (xs : Nat → Int32) : dx_gm lw_ws tb_Y tb_B (tb_Z L xs) 62 := ⟨by decide +kernel, wm_686, wm_7, ⟨by decide +kernel, by decide +kernel⟩, show tb_l 62 ≤ 45 by decide +kernel⟩
theorem pn_63 : (parseMethodDescriptor "(I)V").map (fun d => d.parameters.length) = some 1 := by decide +kernel
theorem wm_690 : Cond.code ⟨"DecimalRun$Parser", "atom", "(I)V"⟩ prog_7_method_15_code 5 none ∈ lw_ws := lw_in (List.mem_append_right _ (List.mem_of_getElem? (i := 690) (by decide +kernel))) rfl
theorem gm_63 (L : Nat) (xs : Nat → Int32) : dx_gm lw_ws tb_Y tb_B (tb_Z L xs) 63 := ⟨by decide +kernel, wm_690, wm_7, ⟨by decide +kernel, by decide +kernel⟩, show tb_l 63 ≤ 45 by decide +kernel⟩
theorem pn_64 : (parseMethodDescriptor "(I)V").map (fun d => d.parameters.length) = some 1 := by decide +kernel
theorem wm_694 : Cond.code ⟨"DecimalRun$Parser", "parentheses", "(I)V"⟩ prog_7_method_16_code 2 none ∈ lw_ws := lw_in (List.mem_append_right _ (List.mem_of_getElem? (i := 694) (by decide +kernel))) rfl
theorem gm_64 (L : Nat) (xs : Nat → Int32) : dx_gm lw_ws tb_Y tb_B (tb_Z L xs) 64 := ⟨by decide +kernel, wm_694, wm_7, ⟨by decide +kernel, by decide +kernel⟩, show tb_l 64 ≤ 45 by decide +kernel⟩
theorem pn_65 : (parseMethodDescriptor "(I)Z").map (fun d => d.parameters.length) = some 1 := by decide +kernel
theorem wm_697 : Cond.code ⟨"DecimalRun$Parser", "isFactorSign", "(I)Z"⟩ prog_7_method_25_code 1 (some .boolean) ∈ lw_ws := lw_in (List.mem_append_right _ (List.mem_of_getElem? (i := 697) (by decide +kernel))) rfl
theorem gm_65 (L : Nat) (xs : Nat → Int32) : dx_gm lw_ws tb_Y tb_B (tb_Z L xs) 65 := ⟨by decide +kernel, wm_697, wm_7, ⟨by decide +kernel, by decide +kernel⟩, show tb_l 65 ≤ 45 by decide +kernel⟩
theorem pn_66 : (parseMethodDescriptor "(I)Z").map (fun d => d.parameters.length) = some 1 := by decide +kernel
theorem wm_700 : Cond.code ⟨"DecimalRun$Parser", "isSign", "(I)Z"⟩ prog_7_method_24_code 1 (some .boolean) ∈ lw_ws := lw_in (List.mem_append_right _ (List.mem_of_getElem? (i := 700) (by decide +kernel))) rfl
theorem gm_66 (L : Nat) (xs : Nat → Int32) : dx_gm lw_ws tb_Y tb_B (tb_Z L xs) 66 := ⟨by decide +kernel, wm_700, wm_7, ⟨by decide +kernel, by decide +kernel⟩, show tb_l 66 ≤ 45 by decide +kernel⟩
theorem pn_67 : (parseMethodDescriptor "(I)Z").map (fun d => d.parameters.length) = some 1 := by decide +kernel
theorem wm_703 : Cond.code ⟨"DecimalRun$Parser", "isRelation", "(I)Z"⟩ prog_7_method_26_code 1 (some .boolean) ∈ lw_ws := lw_in (List.mem_append_right _ (List.mem_of_getElem? (i := 703) (by decide +kernel))) rfl
theorem gm_67 (L : Nat) (xs : Nat → Int32) : dx_gm lw_ws tb_Y tb_B (tb_Z L xs) 67 := ⟨by decide +kernel, wm_703, wm_7, ⟨by decide +kernel, by decide +kernel⟩, show tb_l 67 ≤ 45 by decide +kernel⟩
theorem pn_68 : (parseMethodDescriptor "(I)V").map (fun d => d.parameters.length) = some 1 := by decide +kernel
theorem wm_707 : Cond.code ⟨"DecimalRun$Parser", "giveBack", "(I)V"⟩ prog_7_method_9_code 2 none ∈ lw_ws := lw_in (List.mem_append_right _ (List.mem_of_getElem? (i := 707) (by decide +kernel))) rfl
theorem gm_68 (L : Nat) (xs : Nat → Int32) : dx_gm lw_ws tb_Y tb_B (tb_Z L xs) 68 := ⟨by decide +kernel, wm_707, wm_7, ⟨by decide +kernel, by decide +kernel⟩, show tb_l 68 ≤ 45 by decide +kernel⟩
theorem pn_69 : (parseMethodDescriptor "()I").map (fun d => d.parameters.length) = some 0 := by decide +kernel
theorem wm_711 : Cond.code ⟨"DecimalRun$Parser", "following", "()I"⟩ prog_7_method_19_code 1 (some .int) ∈ lw_ws := lw_in (List.mem_append_right _ (List.mem_of_getElem? (i := 711) (by decide +kernel))) rfl
theorem gm_69 (L : Nat) (xs : Nat → Int32) : dx_gm lw_ws tb_Y tb_B (tb_Z L xs) 69 := ⟨by decide +kernel, wm_711, wm_7, ⟨by decide +kernel, by decide +kernel⟩, show tb_l 69 ≤ 45 by decide +kernel⟩
theorem pn_70 : (parseMethodDescriptor "(I)V").map (fun d => d.parameters.length) = some 1 := by decide +kernel
theorem wm_715 : Cond.code ⟨"DecimalRun$Parser", "assignment", "(I)V"⟩ prog_7_method_10_code 5 none ∈ lw_ws := lw_in (List.mem_append_right _ (List.mem_of_getElem? (i := 715) (by decide +kernel))) rfl
theorem gm_70 (L : Nat) (xs : Nat → Int32) : dx_gm lw_ws tb_Y tb_B (tb_Z L xs) 70 := ⟨by decide +kernel, wm_715, wm_7, ⟨by decide +kernel, by decide +kernel⟩, show tb_l 70 ≤ 45 by decide +kernel⟩
theorem pn_71 : (parseMethodDescriptor "(LDecimalRun$Code;LDecimalRun$Memory;LDecimalRun$Outcome;)V").map (fun d => d.parameters.length) = some 3 := by decide +kernel
theorem wm_174 : Cond.code ⟨"DecimalRun$Machine", "<init>", "(LDecimalRun$Code;LDecimalRun$Memory;LDecimalRun$Outcome;)V"⟩ prog_4_method_1_code 4 none ∈ lw_ws := lw_in (List.mem_append_right _ (List.mem_of_getElem? (i := 174) (by decide +kernel))) rfl
theorem wm_8 : Cond.initialized "DecimalRun$Machine" ∈ lw_ws := lw_in (List.mem_append_right _ (List.mem_of_getElem? (i := 8) (by decide +kernel))) rfl
theorem gm_71 (L : Nat) (xs : Nat → Int32) : dx_gm lw_ws tb_Y tb_B (tb_Z L xs) 71 := ⟨by decide +kernel, wm_174, wm_8, ⟨by decide +kernel, by decide +kernel⟩, show tb_l 71 ≤ 45 by decide +kernel⟩
theorem pn_72 : (parseMethodDescriptor "()V").map (fun d => d.parameters.length) = some 0 := by decide +kernel
theorem wm_719 : Cond.code ⟨"DecimalRun$Machine", "execute", "()V"⟩ prog_4_method_2_code 3 none ∈ lw_ws := lw_in (List.mem_append_right _ (List.mem_of_getElem? (i := 719) (by decide +kernel))) rfl
theorem gm_72 (L : Nat) (xs : Nat → Int32) : dx_gm lw_ws tb_Y tb_B (tb_Z L xs) 72 := ⟨by decide +kernel, wm_719, wm_8, ⟨by decide +kernel, by decide +kernel⟩, show tb_l 72 ≤ 45 by decide +kernel⟩
theorem pn_73 : (parseMethodDescriptor "(IJ)V").map (fun d => d.parameters.length) = some 2 := by decide +kernel
theorem wm_724 : Cond.code ⟨"DecimalRun$Machine", "perform", "(IJ)V"⟩ prog_4_method_3_code 8 none ∈ lw_ws := lw_in (List.mem_append_right _ (List.mem_of_getElem? (i := 724) (by decide +kernel))) rfl
theorem gm_73 (L : Nat) (xs : Nat → Int32) : dx_gm lw_ws tb_Y tb_B (tb_Z L xs) 73 := ⟨by decide +kernel, wm_724, wm_8, ⟨by decide +kernel, by decide +kernel⟩, show tb_l 73 ≤ 45 by decide +kernel⟩
theorem pn_74 : (parseMethodDescriptor "(J)V").map (fun d => d.parameters.length) = some 1 := by decide +kernel
theorem wm_733 : Cond.code ⟨"DecimalRun$Machine", "push", "(J)V"⟩ prog_4_method_6_code 3 none ∈ lw_ws := lw_in (List.mem_append_right _ (List.mem_of_getElem? (i := 733) (by decide +kernel))) rfl
theorem gm_74 (L : Nat) (xs : Nat → Int32) : dx_gm lw_ws tb_Y tb_B (tb_Z L xs) 74 := ⟨by decide +kernel, wm_733, wm_8, ⟨by decide +kernel, by decide +kernel⟩, show tb_l 74 ≤ 45 by decide +kernel⟩
theorem pn_75 : (parseMethodDescriptor "()J").map (fun d => d.parameters.length) = some 0 := by decide +kernel
theorem wm_737 : Cond.code ⟨"DecimalRun$Machine", "pop", "()J"⟩ prog_4_method_7_code 1 (some .long) ∈ lw_ws := lw_in (List.mem_append_right _ (List.mem_of_getElem? (i := 737) (by decide +kernel))) rfl
theorem gm_75 (L : Nat) (xs : Nat → Int32) : dx_gm lw_ws tb_Y tb_B (tb_Z L xs) 75 := ⟨by decide +kernel, wm_737, wm_8, ⟨by decide +kernel, by decide +kernel⟩, show tb_l 75 ≤ 45 by decide +kernel⟩
theorem pn_76 : (parseMethodDescriptor "(I)V").map (fun d => d.parameters.length) = some 1 := by decide +kernel
theorem wm_771 : Cond.code ⟨"DecimalRun$Machine", "call", "(I)V"⟩ prog_4_method_4_code 5 none ∈ lw_ws := lw_in (List.mem_append_right _ (List.mem_of_getElem? (i := 771) (by decide +kernel))) rfl
theorem gm_76 (L : Nat) (xs : Nat → Int32) : dx_gm lw_ws tb_Y tb_B (tb_Z L xs) 76 := ⟨by decide +kernel, wm_771, wm_8, ⟨by decide +kernel, by decide +kernel⟩, show tb_l 76 ≤ 45 by decide +kernel⟩
theorem pn_77 : (parseMethodDescriptor "()V").map (fun d => d.parameters.length) = some 0 := by decide +kernel
theorem wm_777 : Cond.code ⟨"DecimalRun$Machine", "giveBack", "()V"⟩ prog_4_method_5_code 1 none ∈ lw_ws := lw_in (List.mem_append_right _ (List.mem_of_getElem? (i := 777) (by decide +kernel))) rfl
theorem gm_77 (L : Nat) (xs : Nat → Int32) : dx_gm lw_ws tb_Y tb_B (tb_Z L xs) 77 := ⟨by decide +kernel, wm_777, wm_8, ⟨by decide +kernel, by decide +kernel⟩, show tb_l 77 ≤ 45 by decide +kernel⟩
theorem pn_78 : (parseMethodDescriptor "(LDecimalRun$Memory;LDecimalRun$Outcome;)V").map (fun d => d.parameters.length) = some 2 := by decide +kernel
theorem wm_180 : Cond.code ⟨"DecimalRun$Arithmetic", "<init>", "(LDecimalRun$Memory;LDecimalRun$Outcome;)V"⟩ prog_2_method_1_code 3 none ∈ lw_ws := lw_in (List.mem_append_right _ (List.mem_of_getElem? (i := 180) (by decide +kernel))) rfl
theorem wm_9 : Cond.initialized "DecimalRun$Arithmetic" ∈ lw_ws := lw_in (List.mem_append_right _ (List.mem_of_getElem? (i := 9) (by decide +kernel))) rfl
theorem gm_78 (L : Nat) (xs : Nat → Int32) : dx_gm lw_ws tb_Y tb_B (tb_Z L xs) 78 := ⟨by decide +kernel, wm_180, wm_9, ⟨by decide +kernel, by decide +kernel⟩, show tb_l 78 ≤ 45 by decide +kernel⟩
theorem pn_79 : (parseMethodDescriptor "(J)J").map (fun d => d.parameters.length) = some 1 := by decide +kernel
theorem wm_300 : Cond.code ⟨"DecimalRun$Arithmetic", "mantissa", "(J)J"⟩ prog_2_method_3_code 2 (some .long) ∈ lw_ws := lw_in (List.mem_append_right _ (List.mem_of_getElem? (i := 300) (by decide +kernel))) rfl
theorem gm_79 (L : Nat) (xs : Nat → Int32) : dx_gm lw_ws tb_Y tb_B (tb_Z L xs) 79 := ⟨by decide +kernel, wm_300, wm_9, ⟨by decide +kernel, by decide +kernel⟩, show tb_l 79 ≤ 45 by decide +kernel⟩
theorem pn_80 : (parseMethodDescriptor "(J)I").map (fun d => d.parameters.length) = some 1 := by decide +kernel
theorem wm_307 : Cond.code ⟨"DecimalRun$Arithmetic", "places", "(J)I"⟩ prog_2_method_4_code 2 (some .int) ∈ lw_ws := lw_in (List.mem_append_right _ (List.mem_of_getElem? (i := 307) (by decide +kernel))) rfl
theorem gm_80 (L : Nat) (xs : Nat → Int32) : dx_gm lw_ws tb_Y tb_B (tb_Z L xs) 80 := ⟨by decide +kernel, wm_307, wm_9, ⟨by decide +kernel, by decide +kernel⟩, show tb_l 80 ≤ 45 by decide +kernel⟩
theorem pn_81 : (parseMethodDescriptor "(JI)J").map (fun d => d.parameters.length) = some 2 := by decide +kernel
theorem wm_360 : Cond.code ⟨"DecimalRun$Arithmetic", "pack", "(JI)J"⟩ prog_2_method_2_code 3 (some .long) ∈ lw_ws := lw_in (List.mem_append_right _ (List.mem_of_getElem? (i := 360) (by decide +kernel))) rfl
theorem gm_81 (L : Nat) (xs : Nat → Int32) : dx_gm lw_ws tb_Y tb_B (tb_Z L xs) 81 := ⟨by decide +kernel, wm_360, wm_9, ⟨by decide +kernel, by decide +kernel⟩, show tb_l 81 ≤ 45 by decide +kernel⟩
theorem pn_82 : (parseMethodDescriptor "(JII)I").map (fun d => d.parameters.length) = some 3 := by decide +kernel
theorem wm_742 : Cond.code ⟨"DecimalRun$Arithmetic", "whole", "(JII)I"⟩ prog_2_method_7_code 9 (some .int) ∈ lw_ws := lw_in (List.mem_append_right _ (List.mem_of_getElem? (i := 742) (by decide +kernel))) rfl
theorem gm_82 (L : Nat) (xs : Nat → Int32) : dx_gm lw_ws tb_Y tb_B (tb_Z L xs) 82 := ⟨by decide +kernel, wm_742, wm_9, ⟨by decide +kernel, by decide +kernel⟩, show tb_l 82 ≤ 45 by decide +kernel⟩
theorem pn_83 : (parseMethodDescriptor "(J)J").map (fun d => d.parameters.length) = some 1 := by decide +kernel
theorem wm_750 : Cond.code ⟨"DecimalRun$Arithmetic", "negated", "(J)J"⟩ prog_2_method_5_code 2 (some .long) ∈ lw_ws := lw_in (List.mem_append_right _ (List.mem_of_getElem? (i := 750) (by decide +kernel))) rfl
theorem gm_83 (L : Nat) (xs : Nat → Int32) : dx_gm lw_ws tb_Y tb_B (tb_Z L xs) 83 := ⟨by decide +kernel, wm_750, wm_9, ⟨by decide +kernel, by decide +kernel⟩, show tb_l 83 ≤ 45 by decide +kernel⟩
theorem pn_84 : (parseMethodDescriptor "(IJJ)J").map (fun d => d.parameters.length) = some 3 := by decide +kernel
theorem wm_781 : Cond.code ⟨"DecimalRun$Arithmetic", "operate", "(IJJ)J"⟩ prog_2_method_6_code 6 (some .long) ∈ lw_ws := lw_in (List.mem_append_right _ (List.mem_of_getElem? (i := 781) (by decide +kernel))) rfl
theorem gm_84 (L : Nat) (xs : Nat → Int32) : dx_gm lw_ws tb_Y tb_B (tb_Z L xs) 84 := ⟨by decide +kernel, wm_781, wm_9, ⟨by decide +kernel, by decide +kernel⟩, show tb_l 84 ≤ 45 by decide +kernel⟩
theorem pn_85 : (parseMethodDescriptor "(JJ)J").map (fun d => d.parameters.length) = some 2 := by decide +kernel
theorem wm_785 : Cond.code ⟨"DecimalRun$Arithmetic", "sum", "(JJ)J"⟩ prog_2_method_8_code 6 (some .long) ∈ lw_ws := lw_in (List.mem_append_right _ (List.mem_of_getElem? (i := 785) (by decide +kernel))) rfl
theorem gm_85 (L : Nat) (xs : Nat → Int32) : dx_gm lw_ws tb_Y tb_B (tb_Z L xs) 85 := ⟨by decide +kernel, wm_785, wm_9, ⟨by decide +kernel, by decide +kernel⟩, show tb_l 85 ≤ 45 by decide +kernel⟩
theorem pn_86 : (parseMethodDescriptor "(JI)J").map (fun d => d.parameters.length) = some 2 := by decide +kernel
theorem wm_789 : Cond.code ⟨"DecimalRun$Arithmetic", "aligned", "(JI)J"⟩ prog_2_method_14_code 3 (some .long) ∈ lw_ws := lw_in (List.mem_append_right _ (List.mem_of_getElem? (i := 789) (by decide +kernel))) rfl
theorem gm_86 (L : Nat) (xs : Nat → Int32) : dx_gm lw_ws tb_Y tb_B (tb_Z L xs) 86 := ⟨by decide +kernel, wm_789, wm_9, ⟨by decide +kernel, by decide +kernel⟩, show tb_l 86 ≤ 45 by decide +kernel⟩
theorem pn_87 : (parseMethodDescriptor "(JI)J").map (fun d => d.parameters.length) = some 2 := by decide +kernel
theorem wm_793 : Cond.code ⟨"DecimalRun$Arithmetic", "checked", "(JI)J"⟩ prog_2_method_15_code 4 (some .long) ∈ lw_ws := lw_in (List.mem_append_right _ (List.mem_of_getElem? (i := 793) (by decide +kernel))) rfl
theorem gm_87 (L : Nat) (xs : Nat → Int32) : dx_gm lw_ws tb_Y tb_B (tb_Z L xs) 87 := ⟨by decide +kernel, wm_793, wm_9, ⟨by decide +kernel, by decide +kernel⟩, show tb_l 87 ≤ 45 by decide +kernel⟩
theorem pn_88 : (parseMethodDescriptor "(JJ)J").map (fun d => d.parameters.length) = some 2 := by decide +kernel
theorem wm_800 : Cond.code ⟨"DecimalRun$Arithmetic", "product", "(JJ)J"⟩ prog_2_method_9_code 7 (some .long) ∈ lw_ws := lw_in (List.mem_append_right _ (List.mem_of_getElem? (i := 800) (by decide +kernel))) rfl
theorem gm_88 (L : Nat) (xs : Nat → Int32) : dx_gm lw_ws tb_Y tb_B (tb_Z L xs) 88 := ⟨by decide +kernel, wm_800, wm_9, ⟨by decide +kernel, by decide +kernel⟩, show tb_l 88 ≤ 45 by decide +kernel⟩
theorem pn_89 : (parseMethodDescriptor "(JJ)J").map (fun d => d.parameters.length) = some 2 := by decide +kernel
theorem wm_805 : Cond.code ⟨"DecimalRun$Arithmetic", "quotient", "(JJ)J"⟩ prog_2_method_10_code 7 (some .long) ∈ lw_ws := lw_in (List.mem_append_right _ (List.mem_of_getElem? (i := 805) (by decide +kernel))) rfl
theorem gm_89 (L : Nat) (xs : Nat → Int32) : dx_gm lw_ws tb_Y tb_B (tb_Z L xs) 89 := ⟨by decide +kernel, wm_805, wm_9, ⟨by decide +kernel, by decide +kernel⟩, show tb_l 89 ≤ 45 by decide +kernel⟩
theorem pn_90 : (parseMethodDescriptor "(J)V").map (fun d => d.parameters.length) = some 1 := by decide +kernel
theorem wm_809 : Cond.code ⟨"DecimalRun$Arithmetic", "refuseZero", "(J)V"⟩ prog_2_method_16_code 3 none ∈ lw_ws := lw_in (List.mem_append_right _ (List.mem_of_getElem? (i := 809) (by decide +kernel))) rfl
theorem gm_90 (L : Nat) (xs : Nat → Int32) : dx_gm lw_ws tb_Y tb_B (tb_Z L xs) 90 := ⟨by decide +kernel, wm_809, wm_9, ⟨by decide +kernel, by decide +kernel⟩, show tb_l 90 ≤ 45 by decide +kernel⟩
theorem pn_91 : (parseMethodDescriptor "(JJ)J").map (fun d => d.parameters.length) = some 2 := by decide +kernel
theorem wm_813 : Cond.code ⟨"DecimalRun$Arithmetic", "remainder", "(JJ)J"⟩ prog_2_method_11_code 6 (some .long) ∈ lw_ws := lw_in (List.mem_append_right _ (List.mem_of_getElem? (i := 813) (by decide +kernel))) rfl
theorem gm_91 (L : Nat) (xs : Nat → Int32) : dx_gm lw_ws tb_Y tb_B (tb_Z L xs) 91 := ⟨by decide +kernel, wm_813, wm_9, ⟨by decide +kernel, by decide +kernel⟩, show tb_l 91 ≤ 45 by decide +kernel⟩
theorem pn_92 : (parseMethodDescriptor "(JJ)J").map (fun d => d.parameters.length) = some 2 := by decide +kernel
theorem wm_817 : Cond.code ⟨"DecimalRun$Arithmetic", "power", "(JJ)J"⟩ prog_2_method_12_code 9 (some .long) ∈ lw_ws := lw_in (List.mem_append_right _ (List.mem_of_getElem? (i := 817) (by decide +kernel))) rfl
theorem gm_92 (L : Nat) (xs : Nat → Int32) : dx_gm lw_ws tb_Y tb_B (tb_Z L xs) 92 := ⟨by decide +kernel, wm_817, wm_9, ⟨by decide +kernel, by decide +kernel⟩, show tb_l 92 ≤ 45 by decide +kernel⟩
theorem pn_93 : (parseMethodDescriptor "(IJJ)Z").map (fun d => d.parameters.length) = some 3 := by decide +kernel
theorem wm_824 : Cond.code ⟨"DecimalRun$Arithmetic", "holds", "(IJJ)Z"⟩ prog_2_method_13_code 6 (some .boolean) ∈ lw_ws := lw_in (List.mem_append_right _ (List.mem_of_getElem? (i := 824) (by decide +kernel))) rfl
theorem gm_93 (L : Nat) (xs : Nat → Int32) : dx_gm lw_ws tb_Y tb_B (tb_Z L xs) 93 := ⟨by decide +kernel, wm_824, wm_9, ⟨by decide +kernel, by decide +kernel⟩, show tb_l 93 ≤ 45 by decide +kernel⟩
theorem pn_94 : (parseMethodDescriptor "()V").map (fun d => d.parameters.length) = some 0 := by decide +kernel
theorem wm_832 : Cond.code ⟨"DecimalRunModel", "<init>", "()V"⟩ prog_11_method_1_code 1 none ∈ lw_ws := lw_in (List.mem_append_right _ (List.mem_of_getElem? (i := 832) (by decide +kernel))) rfl
theorem wm_10 : Cond.initialized "DecimalRunModel" ∈ lw_ws := lw_in (List.mem_append_right _ (List.mem_of_getElem? (i := 10) (by decide +kernel))) rfl
theorem gm_94 (L : Nat) (xs : Nat → Int32) : dx_gm lw_ws tb_Y tb_B (tb_Z L xs) 94 := ⟨by decide +kernel, wm_832, wm_10, ⟨by decide +kernel, by decide +kernel⟩, show tb_l 94 ≤ 45 by decide +kernel⟩
theorem pn_95 : (parseMethodDescriptor "(I)I").map (fun d => d.parameters.length) = some 1 := by decide +kernel
theorem wm_958 : Cond.code ⟨"DecimalRunModel", "feed", "(I)I"⟩ prog_11_method_2_code 4 (some .int) ∈ lw_ws := lw_in (List.mem_append_right _ (List.mem_of_getElem? (i := 958) (by decide +kernel))) rfl
theorem gm_95 (L : Nat) (xs : Nat → Int32) : dx_gm lw_ws tb_Y tb_B (tb_Z L xs) 95 := ⟨by decide +kernel, wm_958, wm_10, ⟨by decide +kernel, by decide +kernel⟩, show tb_l 95 ≤ 45 by decide +kernel⟩
theorem pn_96 : (parseMethodDescriptor "()I").map (fun d => d.parameters.length) = some 0 := by decide +kernel
theorem wm_962 : Cond.code ⟨"DecimalRunModel", "length", "()I"⟩ prog_11_method_3_code 1 (some .int) ∈ lw_ws := lw_in (List.mem_append_right _ (List.mem_of_getElem? (i := 962) (by decide +kernel))) rfl
theorem gm_96 (L : Nat) (xs : Nat → Int32) : dx_gm lw_ws tb_Y tb_B (tb_Z L xs) 96 := ⟨by decide +kernel, wm_962, wm_10, ⟨by decide +kernel, by decide +kernel⟩, show tb_l 96 ≤ 45 by decide +kernel⟩
theorem pn_97 : (parseMethodDescriptor "()V").map (fun d => d.parameters.length) = some 0 := by decide +kernel
theorem wm_966 : Cond.code ⟨"DecimalRunModel", "clear", "()V"⟩ prog_11_method_4_code 1 none ∈ lw_ws := lw_in (List.mem_append_right _ (List.mem_of_getElem? (i := 966) (by decide +kernel))) rfl
theorem gm_97 (L : Nat) (xs : Nat → Int32) : dx_gm lw_ws tb_Y tb_B (tb_Z L xs) 97 := ⟨by decide +kernel, wm_966, wm_10, ⟨by decide +kernel, by decide +kernel⟩, show tb_l 97 ≤ 45 by decide +kernel⟩
theorem pn_98 : (parseMethodDescriptor "()V").map (fun d => d.parameters.length) = some 0 := by decide +kernel
theorem wm_970 : Cond.code ⟨"DecimalRunModel", "reset", "()V"⟩ prog_11_method_5_code 2 none ∈ lw_ws := lw_in (List.mem_append_right _ (List.mem_of_getElem? (i := 970) (by decide +kernel))) rfl
theorem gm_98 (L : Nat) (xs : Nat → Int32) : dx_gm lw_ws tb_Y tb_B (tb_Z L xs) 98 := ⟨by decide +kernel, wm_970, wm_10, ⟨by decide +kernel, by decide +kernel⟩, show tb_l 98 ≤ 45 by decide +kernel⟩
theorem pn_99 : (parseMethodDescriptor "(I)I").map (fun d => d.parameters.length) = some 1 := by decide +kernel
theorem wm_974 : Cond.code ⟨"DecimalRunModel", "run", "(I)I"⟩ prog_11_method_42_code 4 (some .int) ∈ lw_ws := lw_in (List.mem_append_right _ (List.mem_of_getElem? (i := 974) (by decide +kernel))) rfl
theorem gm_99 (L : Nat) (xs : Nat → Int32) : dx_gm lw_ws tb_Y tb_B (tb_Z L xs) 99 := ⟨by decide +kernel, wm_974, wm_10, ⟨by decide +kernel, by decide +kernel⟩, show tb_l 99 ≤ 45 by decide +kernel⟩
theorem pn_100 : (parseMethodDescriptor "()V").map (fun d => d.parameters.length) = some 0 := by decide +kernel
theorem wm_978 : Cond.code ⟨"DecimalRunModel", "split", "()V"⟩ prog_11_method_13_code 5 none ∈ lw_ws := lw_in (List.mem_append_right _ (List.mem_of_getElem? (i := 978) (by decide +kernel))) rfl
theorem gm_100 (L : Nat) (xs : Nat → Int32) : dx_gm lw_ws tb_Y tb_B (tb_Z L xs) 100 := ⟨by decide +kernel, wm_978, wm_10, ⟨by decide +kernel, by decide +kernel⟩, show tb_l 100 ≤ 45 by decide +kernel⟩
theorem pn_101 : (parseMethodDescriptor "(I)I").map (fun d => d.parameters.length) = some 1 := by decide +kernel
theorem wm_982 : Cond.code ⟨"DecimalRunModel", "charAt", "(I)I"⟩ prog_11_method_6_code 2 (some .int) ∈ lw_ws := lw_in (List.mem_append_right _ (List.mem_of_getElem? (i := 982) (by decide +kernel))) rfl
theorem gm_101 (L : Nat) (xs : Nat → Int32) : dx_gm lw_ws tb_Y tb_B (tb_Z L xs) 101 := ⟨by decide +kernel, wm_982, wm_10, ⟨by decide +kernel, by decide +kernel⟩, show tb_l 101 ≤ 45 by decide +kernel⟩
theorem pn_102 : (parseMethodDescriptor "(I)Z").map (fun d => d.parameters.length) = some 1 := by decide +kernel
theorem wm_985 : Cond.code ⟨"DecimalRunModel", "isDigit", "(I)Z"⟩ prog_11_method_7_code 1 (some .boolean) ∈ lw_ws := lw_in (List.mem_append_right _ (List.mem_of_getElem? (i := 985) (by decide +kernel))) rfl
theorem gm_102 (L : Nat) (xs : Nat → Int32) : dx_gm lw_ws tb_Y tb_B (tb_Z L xs) 102 := ⟨by decide +kernel, wm_985, wm_10, ⟨by decide +kernel, by decide +kernel⟩, show tb_l 102 ≤ 45 by decide +kernel⟩
theorem pn_103 : (parseMethodDescriptor "(I)I").map (fun d => d.parameters.length) = some 1 := by decide +kernel
theorem wm_989 : Cond.code ⟨"DecimalRunModel", "numeral", "(I)I"⟩ prog_11_method_10_code 6 (some .int) ∈ lw_ws := lw_in (List.mem_append_right _ (List.mem_of_getElem? (i := 989) (by decide +kernel))) rfl
theorem gm_103 (L : Nat) (xs : Nat → Int32) : dx_gm lw_ws tb_Y tb_B (tb_Z L xs) 103 := ⟨by decide +kernel, wm_989, wm_10, ⟨by decide +kernel, by decide +kernel⟩, show tb_l 103 ≤ 45 by decide +kernel⟩
theorem pn_104 : (parseMethodDescriptor "(III)V").map (fun d => d.parameters.length) = some 3 := by decide +kernel
theorem wm_993 : Cond.code ⟨"DecimalRunModel", "token", "(III)V"⟩ prog_11_method_9_code 4 none ∈ lw_ws := lw_in (List.mem_append_right _ (List.mem_of_getElem? (i := 993) (by decide +kernel))) rfl
theorem gm_104 (L : Nat) (xs : Nat → Int32) : dx_gm lw_ws tb_Y tb_B (tb_Z L xs) 104 := ⟨by decide +kernel, wm_993, wm_10, ⟨by decide +kernel, by decide +kernel⟩, show tb_l 104 ≤ 45 by decide +kernel⟩
theorem pn_105 : (parseMethodDescriptor "(I)Z").map (fun d => d.parameters.length) = some 1 := by decide +kernel
theorem wm_996 : Cond.code ⟨"DecimalRunModel", "isSmall", "(I)Z"⟩ prog_11_method_8_code 1 (some .boolean) ∈ lw_ws := lw_in (List.mem_append_right _ (List.mem_of_getElem? (i := 996) (by decide +kernel))) rfl
theorem gm_105 (L : Nat) (xs : Nat → Int32) : dx_gm lw_ws tb_Y tb_B (tb_Z L xs) 105 := ⟨by decide +kernel, wm_996, wm_10, ⟨by decide +kernel, by decide +kernel⟩, show tb_l 105 ≤ 45 by decide +kernel⟩
theorem pn_106 : (parseMethodDescriptor "(II)I").map (fun d => d.parameters.length) = some 2 := by decide +kernel
theorem wm_1000 : Cond.code ⟨"DecimalRunModel", "word", "(II)I"⟩ prog_11_method_11_code 9 (some .int) ∈ lw_ws := lw_in (List.mem_append_right _ (List.mem_of_getElem? (i := 1000) (by decide +kernel))) rfl
theorem gm_106 (L : Nat) (xs : Nat → Int32) : dx_gm lw_ws tb_Y tb_B (tb_Z L xs) 106 := ⟨by decide +kernel, wm_1000, wm_10, ⟨by decide +kernel, by decide +kernel⟩, show tb_l 106 ≤ 45 by decide +kernel⟩
theorem pn_107 : (parseMethodDescriptor "(I)I").map (fun d => d.parameters.length) = some 1 := by decide +kernel
theorem wm_1004 : Cond.code ⟨"DecimalRunModel", "sign", "(I)I"⟩ prog_11_method_12_code 4 (some .int) ∈ lw_ws := lw_in (List.mem_append_right _ (List.mem_of_getElem? (i := 1004) (by decide +kernel))) rfl
theorem gm_107 (L : Nat) (xs : Nat → Int32) : dx_gm lw_ws tb_Y tb_B (tb_Z L xs) 107 := ⟨by decide +kernel, wm_1004, wm_10, ⟨by decide +kernel, by decide +kernel⟩, show tb_l 107 ≤ 45 by decide +kernel⟩
theorem pn_108 : (parseMethodDescriptor "()V").map (fun d => d.parameters.length) = some 0 := by decide +kernel
theorem wm_1008 : Cond.code ⟨"DecimalRunModel", "parse", "()V"⟩ prog_11_method_19_code 5 none ∈ lw_ws := lw_in (List.mem_append_right _ (List.mem_of_getElem? (i := 1008) (by decide +kernel))) rfl
theorem gm_108 (L : Nat) (xs : Nat → Int32) : dx_gm lw_ws tb_Y tb_B (tb_Z L xs) 108 := ⟨by decide +kernel, wm_1008, wm_10, ⟨by decide +kernel, by decide +kernel⟩, show tb_l 108 ≤ 45 by decide +kernel⟩
theorem pn_109 : (parseMethodDescriptor "(III)V").map (fun d => d.parameters.length) = some 3 := by decide +kernel
theorem wm_1012 : Cond.code ⟨"DecimalRunModel", "push", "(III)V"⟩ prog_11_method_14_code 4 none ∈ lw_ws := lw_in (List.mem_append_right _ (List.mem_of_getElem? (i := 1012) (by decide +kernel))) rfl
theorem gm_109 (L : Nat) (xs : Nat → Int32) : dx_gm lw_ws tb_Y tb_B (tb_Z L xs) 109 := ⟨by decide +kernel, wm_1012, wm_10, ⟨by decide +kernel, by decide +kernel⟩, show tb_l 109 ≤ 45 by decide +kernel⟩
theorem pn_110 : (parseMethodDescriptor "(I)V").map (fun d => d.parameters.length) = some 1 := by decide +kernel
theorem wm_1016 : Cond.code ⟨"DecimalRunModel", "readList", "(I)V"⟩ prog_11_method_20_code 3 none ∈ lw_ws := lw_in (List.mem_append_right _ (List.mem_of_getElem? (i := 1016) (by decide +kernel))) rfl
theorem gm_110 (L : Nat) (xs : Nat → Int32) : dx_gm lw_ws tb_Y tb_B (tb_Z L xs) 110 := ⟨by decide +kernel, wm_1016, wm_10, ⟨by decide +kernel, by decide +kernel⟩, show tb_l 110 ≤ 45 by decide +kernel⟩
theorem pn_111 : (parseMethodDescriptor "()V").map (fun d => d.parameters.length) = some 0 := by decide +kernel
theorem wm_1020 : Cond.code ⟨"DecimalRunModel", "statement", "()V"⟩ prog_11_method_22_code 2 none ∈ lw_ws := lw_in (List.mem_append_right _ (List.mem_of_getElem? (i := 1020) (by decide +kernel))) rfl
theorem gm_111 (L : Nat) (xs : Nat → Int32) : dx_gm lw_ws tb_Y tb_B (tb_Z L xs) 111 := ⟨by decide +kernel, wm_1020, wm_10, ⟨by decide +kernel, by decide +kernel⟩, show tb_l 111 ≤ 45 by decide +kernel⟩
theorem pn_112 : (parseMethodDescriptor "(I)Z").map (fun d => d.parameters.length) = some 1 := by decide +kernel
theorem wm_1024 : Cond.code ⟨"DecimalRunModel", "accept", "(I)Z"⟩ prog_11_method_16_code 2 (some .boolean) ∈ lw_ws := lw_in (List.mem_append_right _ (List.mem_of_getElem? (i := 1024) (by decide +kernel))) rfl
theorem gm_112 (L : Nat) (xs : Nat → Int32) : dx_gm lw_ws tb_Y tb_B (tb_Z L xs) 112 := ⟨by decide +kernel, wm_1024, wm_10, ⟨by decide +kernel, by decide +kernel⟩, show tb_l 112 ≤ 45 by decide +kernel⟩
theorem pn_113 : (parseMethodDescriptor "()V").map (fun d => d.parameters.length) = some 0 := by decide +kernel
theorem wm_1028 : Cond.code ⟨"DecimalRunModel", "deeper", "()V"⟩ prog_11_method_18_code 1 none ∈ lw_ws := lw_in (List.mem_append_right _ (List.mem_of_getElem? (i := 1028) (by decide +kernel))) rfl
theorem gm_113 (L : Nat) (xs : Nat → Int32) : dx_gm lw_ws tb_Y tb_B (tb_Z L xs) 113 := ⟨by decide +kernel, wm_1028, wm_10, ⟨by decide +kernel, by decide +kernel⟩, show tb_l 113 ≤ 45 by decide +kernel⟩
theorem pn_114 : (parseMethodDescriptor "(III)V").map (fun d => d.parameters.length) = some 3 := by decide +kernel
theorem wm_1032 : Cond.code ⟨"DecimalRunModel", "emit", "(III)V"⟩ prog_11_method_15_code 4 none ∈ lw_ws := lw_in (List.mem_append_right _ (List.mem_of_getElem? (i := 1032) (by decide +kernel))) rfl
theorem gm_114 (L : Nat) (xs : Nat → Int32) : dx_gm lw_ws tb_Y tb_B (tb_Z L xs) 114 := ⟨by decide +kernel, wm_1032, wm_10, ⟨by decide +kernel, by decide +kernel⟩, show tb_l 114 ≤ 45 by decide +kernel⟩
theorem pn_115 : (parseMethodDescriptor "(I)V").map (fun d => d.parameters.length) = some 1 := by decide +kernel
theorem wm_1036 : Cond.code ⟨"DecimalRunModel", "expect", "(I)V"⟩ prog_11_method_17_code 3 none ∈ lw_ws := lw_in (List.mem_append_right _ (List.mem_of_getElem? (i := 1036) (by decide +kernel))) rfl
theorem gm_115 (L : Nat) (xs : Nat → Int32) : dx_gm lw_ws tb_Y tb_B (tb_Z L xs) 115 := ⟨by decide +kernel, wm_1036, wm_10, ⟨by decide +kernel, by decide +kernel⟩, show tb_l 115 ≤ 45 by decide +kernel⟩
theorem pn_116 : (parseMethodDescriptor "()V").map (fun d => d.parameters.length) = some 0 := by decide +kernel
theorem wm_1040 : Cond.code ⟨"DecimalRunModel", "define", "()V"⟩ prog_11_method_21_code 3 none ∈ lw_ws := lw_in (List.mem_append_right _ (List.mem_of_getElem? (i := 1040) (by decide +kernel))) rfl
theorem gm_116 (L : Nat) (xs : Nat → Int32) : dx_gm lw_ws tb_Y tb_B (tb_Z L xs) 116 := ⟨by decide +kernel, wm_1040, wm_10, ⟨by decide +kernel, by decide +kernel⟩, show tb_l 116 ≤ 45 by decide +kernel⟩
theorem pn_117 : (parseMethodDescriptor "(I)V").map (fun d => d.parameters.length) = some 1 := by decide +kernel
theorem wm_1044 : Cond.code ⟨"DecimalRunModel", "readExpression", "(I)V"⟩ prog_11_method_24_code 3 none ∈ lw_ws := lw_in (List.mem_append_right _ (List.mem_of_getElem? (i := 1044) (by decide +kernel))) rfl
theorem gm_117 (L : Nat) (xs : Nat → Int32) : dx_gm lw_ws tb_Y tb_B (tb_Z L xs) 117 := ⟨by decide +kernel, wm_1044, wm_10, ⟨by decide +kernel, by decide +kernel⟩, show tb_l 117 ≤ 45 by decide +kernel⟩
theorem pn_118 : (parseMethodDescriptor "(III)V").map (fun d => d.parameters.length) = some 3 := by decide +kernel
theorem wm_1048 : Cond.code ⟨"DecimalRunModel", "more", "(III)V"⟩ prog_11_method_25_code 4 none ∈ lw_ws := lw_in (List.mem_append_right _ (List.mem_of_getElem? (i := 1048) (by decide +kernel))) rfl
theorem gm_118 (L : Nat) (xs : Nat → Int32) : dx_gm lw_ws tb_Y tb_B (tb_Z L xs) 118 := ⟨by decide +kernel, wm_1048, wm_10, ⟨by decide +kernel, by decide +kernel⟩, show tb_l 118 ≤ 45 by decide +kernel⟩
theorem pn_119 : (parseMethodDescriptor "(I)V").map (fun d => d.parameters.length) = some 1 := by decide +kernel
theorem wm_1052 : Cond.code ⟨"DecimalRunModel", "primary", "(I)V"⟩ prog_11_method_26_code 2 none ∈ lw_ws := lw_in (List.mem_append_right _ (List.mem_of_getElem? (i := 1052) (by decide +kernel))) rfl
theorem gm_119 (L : Nat) (xs : Nat → Int32) : dx_gm lw_ws tb_Y tb_B (tb_Z L xs) 119 := ⟨by decide +kernel, wm_1052, wm_10, ⟨by decide +kernel, by decide +kernel⟩, show tb_l 119 ≤ 45 by decide +kernel⟩
theorem pn_120 : (parseMethodDescriptor "(III)V").map (fun d => d.parameters.length) = some 3 := by decide +kernel
theorem wm_1056 : Cond.code ⟨"DecimalRunModel", "readRest", "(III)V"⟩ prog_11_method_23_code 4 none ∈ lw_ws := lw_in (List.mem_append_right _ (List.mem_of_getElem? (i := 1056) (by decide +kernel))) rfl
theorem gm_120 (L : Nat) (xs : Nat → Int32) : dx_gm lw_ws tb_Y tb_B (tb_Z L xs) 120 := ⟨by decide +kernel, wm_1056, wm_10, ⟨by decide +kernel, by decide +kernel⟩, show tb_l 120 ≤ 45 by decide +kernel⟩
theorem pn_121 : (parseMethodDescriptor "(I)I").map (fun d => d.parameters.length) = some 1 := by decide +kernel
theorem wm_1061 : Cond.code ⟨"DecimalRunModel", "act", "(I)I"⟩ prog_11_method_40_code 8 (some .int) ∈ lw_ws := lw_in (List.mem_append_right _ (List.mem_of_getElem? (i := 1061) (by decide +kernel))) rfl
theorem gm_121 (L : Nat) (xs : Nat → Int32) : dx_gm lw_ws tb_Y tb_B (tb_Z L xs) 121 := ⟨by decide +kernel, wm_1061, wm_10, ⟨by decide +kernel, by decide +kernel⟩, show tb_l 121 ≤ 45 by decide +kernel⟩
theorem pn_122 : (parseMethodDescriptor "(II)V").map (fun d => d.parameters.length) = some 2 := by decide +kernel
theorem wm_1065 : Cond.code ⟨"DecimalRunModel", "pushValue", "(II)V"⟩ prog_11_method_34_code 3 none ∈ lw_ws := lw_in (List.mem_append_right _ (List.mem_of_getElem? (i := 1065) (by decide +kernel))) rfl
theorem gm_122 (L : Nat) (xs : Nat → Int32) : dx_gm lw_ws tb_Y tb_B (tb_Z L xs) 122 := ⟨by decide +kernel, wm_1065, wm_10, ⟨by decide +kernel, by decide +kernel⟩, show tb_l 122 ≤ 45 by decide +kernel⟩
theorem pn_123 : (parseMethodDescriptor "(IIIII)Z").map (fun d => d.parameters.length) = some 5 := by decide +kernel
theorem wm_1069 : Cond.code ⟨"DecimalRunModel", "operate", "(IIIII)Z"⟩ prog_11_method_32_code 11 (some .boolean) ∈ lw_ws := lw_in (List.mem_append_right _ (List.mem_of_getElem? (i := 1069) (by decide +kernel))) rfl
theorem gm_123 (L : Nat) (xs : Nat → Int32) : dx_gm lw_ws tb_Y tb_B (tb_Z L xs) 123 := ⟨by decide +kernel, wm_1069, wm_10, ⟨by decide +kernel, by decide +kernel⟩, show tb_l 123 ≤ 45 by decide +kernel⟩
theorem pn_124 : (parseMethodDescriptor "(I)J").map (fun d => d.parameters.length) = some 1 := by decide +kernel
theorem wm_1072 : Cond.code ⟨"DecimalRunModel", "ten", "(I)J"⟩ prog_11_method_27_code 4 (some .long) ∈ lw_ws := lw_in (List.mem_append_right _ (List.mem_of_getElem? (i := 1072) (by decide +kernel))) rfl
theorem gm_124 (L : Nat) (xs : Nat → Int32) : dx_gm lw_ws tb_Y tb_B (tb_Z L xs) 124 := ⟨by decide +kernel, wm_1072, wm_10, ⟨by decide +kernel, by decide +kernel⟩, show tb_l 124 ≤ 45 by decide +kernel⟩
theorem pn_125 : (parseMethodDescriptor "(JI)Z").map (fun d => d.parameters.length) = some 2 := by decide +kernel
theorem wm_1077 : Cond.code ⟨"DecimalRunModel", "result", "(JI)Z"⟩ prog_11_method_28_code 4 (some .boolean) ∈ lw_ws := lw_in (List.mem_append_right _ (List.mem_of_getElem? (i := 1077) (by decide +kernel))) rfl
theorem gm_125 (L : Nat) (xs : Nat → Int32) : dx_gm lw_ws tb_Y tb_B (tb_Z L xs) 125 := ⟨by decide +kernel, wm_1077, wm_10, ⟨by decide +kernel, by decide +kernel⟩, show tb_l 125 ≤ 45 by decide +kernel⟩
theorem pn_126 : (parseMethodDescriptor "(JIJI)Z").map (fun d => d.parameters.length) = some 4 := by decide +kernel
theorem wm_1083 : Cond.code ⟨"DecimalRunModel", "multiply", "(JIJI)Z"⟩ prog_11_method_29_code 9 (some .boolean) ∈ lw_ws := lw_in (List.mem_append_right _ (List.mem_of_getElem? (i := 1083) (by decide +kernel))) rfl
theorem gm_126 (L : Nat) (xs : Nat → Int32) : dx_gm lw_ws tb_Y tb_B (tb_Z L xs) 126 := ⟨by decide +kernel, wm_1083, wm_10, ⟨by decide +kernel, by decide +kernel⟩, show tb_l 126 ≤ 45 by decide +kernel⟩
theorem pn_127 : (parseMethodDescriptor "(JIJI)Z").map (fun d => d.parameters.length) = some 4 := by decide +kernel
theorem wm_1087 : Cond.code ⟨"DecimalRunModel", "divide", "(JIJI)Z"⟩ prog_11_method_30_code 7 (some .boolean) ∈ lw_ws := lw_in (List.mem_append_right _ (List.mem_of_getElem? (i := 1087) (by decide +kernel))) rfl
theorem gm_127 (L : Nat) (xs : Nat → Int32) : dx_gm lw_ws tb_Y tb_B (tb_Z L xs) 127 := ⟨by decide +kernel, wm_1087, wm_10, ⟨by decide +kernel, by decide +kernel⟩, show tb_l 127 ≤ 45 by decide +kernel⟩
theorem pn_128 : (parseMethodDescriptor "(IIII)Z").map (fun d => d.parameters.length) = some 4 := by decide +kernel
theorem wm_1091 : Cond.code ⟨"DecimalRunModel", "power", "(IIII)Z"⟩ prog_11_method_31_code 10 (some .boolean) ∈ lw_ws := lw_in (List.mem_append_right _ (List.mem_of_getElem? (i := 1091) (by decide +kernel))) rfl
theorem gm_128 (L : Nat) (xs : Nat → Int32) : dx_gm lw_ws tb_Y tb_B (tb_Z L xs) 128 := ⟨by decide +kernel, wm_1091, wm_10, ⟨by decide +kernel, by decide +kernel⟩, show tb_l 128 ≤ 45 by decide +kernel⟩
theorem pn_129 : (parseMethodDescriptor "(II)I").map (fun d => d.parameters.length) = some 2 := by decide +kernel
theorem wm_1097 : Cond.code ⟨"DecimalRunModel", "call", "(II)I"⟩ prog_11_method_37_code 4 (some .int) ∈ lw_ws := lw_in (List.mem_append_right _ (List.mem_of_getElem? (i := 1097) (by decide +kernel))) rfl
theorem gm_129 (L : Nat) (xs : Nat → Int32) : dx_gm lw_ws tb_Y tb_B (tb_Z L xs) 129 := ⟨by decide +kernel, wm_1097, wm_10, ⟨by decide +kernel, by decide +kernel⟩, show tb_l 129 ≤ 45 by decide +kernel⟩
theorem pn_130 : (parseMethodDescriptor "(IJJ)Z").map (fun d => d.parameters.length) = some 3 := by decide +kernel
theorem wm_1100 : Cond.code ⟨"DecimalRunModel", "holds", "(IJJ)Z"⟩ prog_11_method_33_code 5 (some .boolean) ∈ lw_ws := lw_in (List.mem_append_right _ (List.mem_of_getElem? (i := 1100) (by decide +kernel))) rfl
theorem gm_130 (L : Nat) (xs : Nat → Int32) : dx_gm lw_ws tb_Y tb_B (tb_Z L xs) 130 := ⟨by decide +kernel, wm_1100, wm_10, ⟨by decide +kernel, by decide +kernel⟩, show tb_l 130 ≤ 45 by decide +kernel⟩
theorem pn_131 : (parseMethodDescriptor "(IIII)I").map (fun d => d.parameters.length) = some 4 := by decide +kernel
theorem wm_1104 : Cond.code ⟨"DecimalRunModel", "finish", "(IIII)I"⟩ prog_11_method_41_code 7 (some .int) ∈ lw_ws := lw_in (List.mem_append_right _ (List.mem_of_getElem? (i := 1104) (by decide +kernel))) rfl
theorem gm_131 (L : Nat) (xs : Nat → Int32) : dx_gm lw_ws tb_Y tb_B (tb_Z L xs) 131 := ⟨by decide +kernel, wm_1104, wm_10, ⟨by decide +kernel, by decide +kernel⟩, show tb_l 131 ≤ 45 by decide +kernel⟩
theorem pn_132 : (parseMethodDescriptor "(II)Z").map (fun d => d.parameters.length) = some 2 := by decide +kernel
theorem wm_1108 : Cond.code ⟨"DecimalRunModel", "setScale", "(II)Z"⟩ prog_11_method_39_code 5 (some .boolean) ∈ lw_ws := lw_in (List.mem_append_right _ (List.mem_of_getElem? (i := 1108) (by decide +kernel))) rfl
theorem gm_132 (L : Nat) (xs : Nat → Int32) : dx_gm lw_ws tb_Y tb_B (tb_Z L xs) 132 := ⟨by decide +kernel, wm_1108, wm_10, ⟨by decide +kernel, by decide +kernel⟩, show tb_l 132 ≤ 45 by decide +kernel⟩
theorem pn_133 : (parseMethodDescriptor "(II)Z").map (fun d => d.parameters.length) = some 2 := by decide +kernel
theorem wm_1113 : Cond.code ⟨"DecimalRunModel", "write", "(II)Z"⟩ prog_11_method_36_code 10 (some .boolean) ∈ lw_ws := lw_in (List.mem_append_right _ (List.mem_of_getElem? (i := 1113) (by decide +kernel))) rfl
theorem gm_133 (L : Nat) (xs : Nat → Int32) : dx_gm lw_ws tb_Y tb_B (tb_Z L xs) 133 := ⟨by decide +kernel, wm_1113, wm_10, ⟨by decide +kernel, by decide +kernel⟩, show tb_l 133 ≤ 45 by decide +kernel⟩
theorem pn_134 : (parseMethodDescriptor "(II)V").map (fun d => d.parameters.length) = some 2 := by decide +kernel
theorem wm_1117 : Cond.code ⟨"DecimalRunModel", "put", "(II)V"⟩ prog_11_method_35_code 3 none ∈ lw_ws := lw_in (List.mem_append_right _ (List.mem_of_getElem? (i := 1117) (by decide +kernel))) rfl
theorem gm_134 (L : Nat) (xs : Nat → Int32) : dx_gm lw_ws tb_Y tb_B (tb_Z L xs) 134 := ⟨by decide +kernel, wm_1117, wm_10, ⟨by decide +kernel, by decide +kernel⟩, show tb_l 134 ≤ 45 by decide +kernel⟩
theorem pn_135 : (parseMethodDescriptor "(II)I").map (fun d => d.parameters.length) = some 2 := by decide +kernel
theorem wm_1121 : Cond.code ⟨"DecimalRunModel", "back", "(II)I"⟩ prog_11_method_38_code 3 (some .int) ∈ lw_ws := lw_in (List.mem_append_right _ (List.mem_of_getElem? (i := 1121) (by decide +kernel))) rfl
theorem gm_135 (L : Nat) (xs : Nat → Int32) : dx_gm lw_ws tb_Y tb_B (tb_Z L xs) 135 := ⟨by decide +kernel, wm_1121, wm_10, ⟨by decide +kernel, by decide +kernel⟩, show tb_l 135 ≤ 45 by decide +kernel⟩
theorem pn_136 : (parseMethodDescriptor "()I").map (fun d => d.parameters.length) = some 0 := by decide +kernel
theorem wm_1125 : Cond.code ⟨"DecimalRunModel", "fault", "()I"⟩ prog_11_method_43_code 1 (some .int) ∈ lw_ws := lw_in (List.mem_append_right _ (List.mem_of_getElem? (i := 1125) (by decide +kernel))) rfl
theorem gm_136 (L : Nat) (xs : Nat → Int32) : dx_gm lw_ws tb_Y tb_B (tb_Z L xs) 136 := ⟨by decide +kernel, wm_1125, wm_10, ⟨by decide +kernel, by decide +kernel⟩, show tb_l 136 ≤ 45 by decide +kernel⟩
theorem pn_137 : (parseMethodDescriptor "()I").map (fun d => d.parameters.length) = some 0 := by decide +kernel
theorem wm_1129 : Cond.code ⟨"DecimalRunModel", "steps", "()I"⟩ prog_11_method_44_code 1 (some .int) ∈ lw_ws := lw_in (List.mem_append_right _ (List.mem_of_getElem? (i := 1129) (by decide +kernel))) rfl
theorem gm_137 (L : Nat) (xs : Nat → Int32) : dx_gm lw_ws tb_Y tb_B (tb_Z L xs) 137 := ⟨by decide +kernel, wm_1129, wm_10, ⟨by decide +kernel, by decide +kernel⟩, show tb_l 137 ≤ 45 by decide +kernel⟩
theorem pn_138 : (parseMethodDescriptor "()I").map (fun d => d.parameters.length) = some 0 := by decide +kernel
theorem wm_1133 : Cond.code ⟨"DecimalRunModel", "outLength", "()I"⟩ prog_11_method_45_code 1 (some .int) ∈ lw_ws := lw_in (List.mem_append_right _ (List.mem_of_getElem? (i := 1133) (by decide +kernel))) rfl
theorem gm_138 (L : Nat) (xs : Nat → Int32) : dx_gm lw_ws tb_Y tb_B (tb_Z L xs) 138 := ⟨by decide +kernel, wm_1133, wm_10, ⟨by decide +kernel, by decide +kernel⟩, show tb_l 138 ≤ 45 by decide +kernel⟩
theorem pn_139 : (parseMethodDescriptor "(I)I").map (fun d => d.parameters.length) = some 1 := by decide +kernel
theorem wm_1137 : Cond.code ⟨"DecimalRunModel", "out", "(I)I"⟩ prog_11_method_46_code 2 (some .int) ∈ lw_ws := lw_in (List.mem_append_right _ (List.mem_of_getElem? (i := 1137) (by decide +kernel))) rfl
theorem gm_139 (L : Nat) (xs : Nat → Int32) : dx_gm lw_ws tb_Y tb_B (tb_Z L xs) 139 := ⟨by decide +kernel, wm_1137, wm_10, ⟨by decide +kernel, by decide +kernel⟩, show tb_l 139 ≤ 45 by decide +kernel⟩
theorem pn_140 : (parseMethodDescriptor "(I)I").map (fun d => d.parameters.length) = some 1 := by decide +kernel
theorem wm_1141 : Cond.code ⟨"DecimalRunModel", "variable", "(I)I"⟩ prog_11_method_47_code 2 (some .int) ∈ lw_ws := lw_in (List.mem_append_right _ (List.mem_of_getElem? (i := 1141) (by decide +kernel))) rfl
theorem gm_140 (L : Nat) (xs : Nat → Int32) : dx_gm lw_ws tb_Y tb_B (tb_Z L xs) 140 := ⟨by decide +kernel, wm_1141, wm_10, ⟨by decide +kernel, by decide +kernel⟩, show tb_l 140 ≤ 45 by decide +kernel⟩
theorem pn_141 : (parseMethodDescriptor "(I)I").map (fun d => d.parameters.length) = some 1 := by decide +kernel
theorem wm_1145 : Cond.code ⟨"DecimalRunModel", "decimals", "(I)I"⟩ prog_11_method_48_code 2 (some .int) ∈ lw_ws := lw_in (List.mem_append_right _ (List.mem_of_getElem? (i := 1145) (by decide +kernel))) rfl
theorem gm_141 (L : Nat) (xs : Nat → Int32) : dx_gm lw_ws tb_Y tb_B (tb_Z L xs) 141 := ⟨by decide +kernel, wm_1145, wm_10, ⟨by decide +kernel, by decide +kernel⟩, show tb_l 141 ≤ 45 by decide +kernel⟩
theorem pn_142 : (parseMethodDescriptor "()I").map (fun d => d.parameters.length) = some 0 := by decide +kernel
theorem wm_1149 : Cond.code ⟨"DecimalRunModel", "scale", "()I"⟩ prog_11_method_49_code 1 (some .int) ∈ lw_ws := lw_in (List.mem_append_right _ (List.mem_of_getElem? (i := 1149) (by decide +kernel))) rfl
theorem gm_142 (L : Nat) (xs : Nat → Int32) : dx_gm lw_ws tb_Y tb_B (tb_Z L xs) 142 := ⟨by decide +kernel, wm_1149, wm_10, ⟨by decide +kernel, by decide +kernel⟩, show tb_l 142 ≤ 45 by decide +kernel⟩
theorem pn_143 : (parseMethodDescriptor "()I").map (fun d => d.parameters.length) = some 0 := by decide +kernel
theorem wm_1153 : Cond.code ⟨"DecimalRunModel", "thrown", "()I"⟩ prog_11_method_50_code 1 (some .int) ∈ lw_ws := lw_in (List.mem_append_right _ (List.mem_of_getElem? (i := 1153) (by decide +kernel))) rfl
theorem gm_143 (L : Nat) (xs : Nat → Int32) : dx_gm lw_ws tb_Y tb_B (tb_Z L xs) 143 := ⟨by decide +kernel, wm_1153, wm_10, ⟨by decide +kernel, by decide +kernel⟩, show tb_l 143 ≤ 45 by decide +kernel⟩
theorem pn_144 : (parseMethodDescriptor "(II)I").map (fun d => d.parameters.length) = some 2 := by decide +kernel
theorem wm_325 : Cond.code ⟨"java/lang/Math", "min", "(II)I"⟩ prog_18_method_69_code 2 (some .int) ∈ lw_ws := lw_in (List.mem_append_right _ (List.mem_of_getElem? (i := 325) (by decide +kernel))) rfl
theorem wm_12 : Cond.initialized "java/lang/Math" ∈ lw_ws := lw_in (List.mem_append_right _ (List.mem_of_getElem? (i := 12) (by decide +kernel))) rfl
theorem gm_144 (L : Nat) (xs : Nat → Int32) : dx_gm lw_ws tb_Y tb_B (tb_Z L xs) 144 := ⟨by decide +kernel, wm_325, wm_12, ⟨by decide +kernel, by decide +kernel⟩, show tb_l 144 ≤ 45 by decide +kernel⟩
theorem pn_145 : (parseMethodDescriptor "(II)I").map (fun d => d.parameters.length) = some 2 := by decide +kernel
theorem wm_328 : Cond.code ⟨"java/lang/Math", "max", "(II)I"⟩ prog_18_method_65_code 2 (some .int) ∈ lw_ws := lw_in (List.mem_append_right _ (List.mem_of_getElem? (i := 328) (by decide +kernel))) rfl
theorem gm_145 (L : Nat) (xs : Nat → Int32) : dx_gm lw_ws tb_Y tb_B (tb_Z L xs) 145 := ⟨by decide +kernel, wm_328, wm_12, ⟨by decide +kernel, by decide +kernel⟩, show tb_l 145 ≤ 45 by decide +kernel⟩
theorem pn_146 : (parseMethodDescriptor "(J)J").map (fun d => d.parameters.length) = some 1 := by decide +kernel
theorem wm_760 : Cond.code ⟨"java/lang/Math", "abs", "(J)J"⟩ prog_18_method_61_code 2 (some .long) ∈ lw_ws := lw_in (List.mem_append_right _ (List.mem_of_getElem? (i := 760) (by decide +kernel))) rfl
theorem gm_146 (L : Nat) (xs : Nat → Int32) : dx_gm lw_ws tb_Y tb_B (tb_Z L xs) 146 := ⟨by decide +kernel, wm_760, wm_12, ⟨by decide +kernel, by decide +kernel⟩, show tb_l 146 ≤ 45 by decide +kernel⟩
theorem pn_147 : (parseMethodDescriptor "(I)I").map (fun d => d.parameters.length) = some 1 := by decide +kernel
theorem wm_821 : Cond.code ⟨"java/lang/Math", "abs", "(I)I"⟩ prog_18_method_59_code 1 (some .int) ∈ lw_ws := lw_in (List.mem_append_right _ (List.mem_of_getElem? (i := 821) (by decide +kernel))) rfl
theorem gm_147 (L : Nat) (xs : Nat → Int32) : dx_gm lw_ws tb_Y tb_B (tb_Z L xs) 147 := ⟨by decide +kernel, wm_821, wm_12, ⟨by decide +kernel, by decide +kernel⟩, show tb_l 147 ≤ 45 by decide +kernel⟩
theorem pn_148 : (parseMethodDescriptor "(JJ)I").map (fun d => d.parameters.length) = some 2 := by decide +kernel
theorem wm_827 : Cond.code ⟨"java/lang/Long", "compare", "(JJ)I"⟩ prog_17_method_42_code 4 (some .int) ∈ lw_ws := lw_in (List.mem_append_right _ (List.mem_of_getElem? (i := 827) (by decide +kernel))) rfl
theorem wm_24 : Cond.initialized "java/lang/Long" ∈ lw_ws := lw_in (List.mem_append_right _ (List.mem_of_getElem? (i := 24) (by decide +kernel))) rfl
theorem gm_148 (L : Nat) (xs : Nat → Int32) : dx_gm lw_ws tb_Y tb_B (tb_Z L xs) 148 := ⟨by decide +kernel, wm_827, wm_24, ⟨by decide +kernel, by decide +kernel⟩, show tb_l 148 ≤ 45 by decide +kernel⟩
theorem pn_149 : (parseMethodDescriptor "([JJ)V").map (fun d => d.parameters.length) = some 2 := by decide +kernel
theorem wm_274 : Cond.code ⟨"java/util/Arrays", "fill", "([JJ)V"⟩ prog_24_method_101_code 5 none ∈ lw_ws := lw_in (List.mem_append_right _ (List.mem_of_getElem? (i := 274) (by decide +kernel))) rfl
theorem wm_11 : Cond.initialized "java/util/Arrays" ∈ lw_ws := lw_in (List.mem_append_right _ (List.mem_of_getElem? (i := 11) (by decide +kernel))) rfl
theorem gm_149 (L : Nat) (xs : Nat → Int32) : dx_gm lw_ws tb_Y tb_B (tb_Z L xs) 149 := ⟨by decide +kernel, wm_274, wm_11, ⟨by decide +kernel, by decide +kernel⟩, show tb_l 149 ≤ 45 by decide +kernel⟩
theorem pn_150 : (parseMethodDescriptor "([II)V").map (fun d => d.parameters.length) = some 2 := by decide +kernel
theorem wm_605 : Cond.code ⟨"java/util/Arrays", "fill", "([II)V"⟩ prog_24_method_103_code 4 none ∈ lw_ws := lw_in (List.mem_append_right _ (List.mem_of_getElem? (i := 605) (by decide +kernel))) rfl
theorem gm_150 (L : Nat) (xs : Nat → Int32) : dx_gm lw_ws tb_Y tb_B (tb_Z L xs) 150 := ⟨by decide +kernel, wm_605, wm_11, ⟨by decide +kernel, by decide +kernel⟩, show tb_l 150 ≤ 45 by decide +kernel⟩
theorem pn_151 : (parseMethodDescriptor "()I").map (fun d => d.parameters.length) = some 0 := by decide +kernel
theorem wm_384 : Cond.code ⟨"java/lang/String", "length", "()I"⟩ prog_20_method_54_code 1 (some .int) ∈ lw_ws := lw_in (List.mem_append_right _ (List.mem_of_getElem? (i := 384) (by decide +kernel))) rfl
theorem wm_13 : Cond.initialized "java/lang/String" ∈ lw_ws := lw_in (List.mem_append_right _ (List.mem_of_getElem? (i := 13) (by decide +kernel))) rfl
theorem gm_151 (L : Nat) (xs : Nat → Int32) : dx_gm lw_ws tb_Y tb_B (tb_Z L xs) 151 := ⟨by decide +kernel, wm_384, wm_13, ⟨by decide +kernel, by decide +kernel⟩, show tb_l 151 ≤ 45 by decide +kernel⟩
theorem pn_152 : (parseMethodDescriptor "()B").map (fun d => d.parameters.length) = some 0 := by decide +kernel
theorem wm_388 : Cond.code ⟨"java/lang/String", "coder", "()B"⟩ prog_20_method_152_code 1 (some .byte) ∈ lw_ws := lw_in (List.mem_append_right _ (List.mem_of_getElem? (i := 388) (by decide +kernel))) rfl
theorem gm_152 (L : Nat) (xs : Nat → Int32) : dx_gm lw_ws tb_Y tb_B (tb_Z L xs) 152 := ⟨by decide +kernel, wm_388, wm_13, ⟨by decide +kernel, by decide +kernel⟩, show tb_l 152 ≤ 45 by decide +kernel⟩
theorem pn_153 : (parseMethodDescriptor "(I)C").map (fun d => d.parameters.length) = some 1 := by decide +kernel
theorem wm_394 : Cond.code ⟨"java/lang/String", "charAt", "(I)C"⟩ prog_20_method_56_code 2 (some .char) ∈ lw_ws := lw_in (List.mem_append_right _ (List.mem_of_getElem? (i := 394) (by decide +kernel))) rfl
theorem gm_153 (L : Nat) (xs : Nat → Int32) : dx_gm lw_ws tb_Y tb_B (tb_Z L xs) 153 := ⟨by decide +kernel, wm_394, wm_13, ⟨by decide +kernel, by decide +kernel⟩, show tb_l 153 ≤ 45 by decide +kernel⟩
theorem pn_154 : (parseMethodDescriptor "()Z").map (fun d => d.parameters.length) = some 0 := by decide +kernel
theorem wm_398 : Cond.code ⟨"java/lang/String", "isLatin1", "()Z"⟩ prog_20_method_154_code 1 (some .boolean) ∈ lw_ws := lw_in (List.mem_append_right _ (List.mem_of_getElem? (i := 398) (by decide +kernel))) rfl
theorem gm_154 (L : Nat) (xs : Nat → Int32) : dx_gm lw_ws tb_Y tb_B (tb_Z L xs) 154 := ⟨by decide +kernel, wm_398, wm_13, ⟨by decide +kernel, by decide +kernel⟩, show tb_l 154 ≤ 45 by decide +kernel⟩
theorem pn_155 : (parseMethodDescriptor "(II)V").map (fun d => d.parameters.length) = some 2 := by decide +kernel
theorem wm_404 : Cond.code ⟨"java/lang/String", "checkIndex", "(II)V"⟩ prog_20_method_155_code 2 none ∈ lw_ws := lw_in (List.mem_append_right _ (List.mem_of_getElem? (i := 404) (by decide +kernel))) rfl
theorem gm_155 (L : Nat) (xs : Nat → Int32) : dx_gm lw_ws tb_Y tb_B (tb_Z L xs) 155 := ⟨by decide +kernel, wm_404, wm_13, ⟨by decide +kernel, by decide +kernel⟩, show tb_l 155 ≤ 45 by decide +kernel⟩
theorem pn_156 : (parseMethodDescriptor "(I)I").map (fun d => d.parameters.length) = some 1 := by decide +kernel
theorem wm_542 : Cond.code ⟨"java/lang/String", "indexOf", "(I)I"⟩ prog_20_method_79_code 2 (some .int) ∈ lw_ws := lw_in (List.mem_append_right _ (List.mem_of_getElem? (i := 542) (by decide +kernel))) rfl
theorem gm_156 (L : Nat) (xs : Nat → Int32) : dx_gm lw_ws tb_Y tb_B (tb_Z L xs) 156 := ⟨by decide +kernel, wm_542, wm_13, ⟨by decide +kernel, by decide +kernel⟩, show tb_l 156 ≤ 45 by decide +kernel⟩
theorem pn_157 : (parseMethodDescriptor "(II)I").map (fun d => d.parameters.length) = some 2 := by decide +kernel
theorem wm_546 : Cond.code ⟨"java/lang/String", "indexOf", "(II)I"⟩ prog_20_method_80_code 3 (some .int) ∈ lw_ws := lw_in (List.mem_append_right _ (List.mem_of_getElem? (i := 546) (by decide +kernel))) rfl
theorem gm_157 (L : Nat) (xs : Nat → Int32) : dx_gm lw_ws tb_Y tb_B (tb_Z L xs) 157 := ⟨by decide +kernel, wm_546, wm_13, ⟨by decide +kernel, by decide +kernel⟩, show tb_l 157 ≤ 45 by decide +kernel⟩
theorem pn_158 : (parseMethodDescriptor "([BI)C").map (fun d => d.parameters.length) = some 2 := by decide +kernel
theorem wm_401 : Cond.code ⟨"java/lang/StringLatin1", "charAt", "([BI)C"⟩ prog_21_method_2_code 2 (some .char) ∈ lw_ws := lw_in (List.mem_append_right _ (List.mem_of_getElem? (i := 401) (by decide +kernel))) rfl
theorem wm_14 : Cond.initialized "java/lang/StringLatin1" ∈ lw_ws := lw_in (List.mem_append_right _ (List.mem_of_getElem? (i := 14) (by decide +kernel))) rfl
theorem gm_158 (L : Nat) (xs : Nat → Int32) : dx_gm lw_ws tb_Y tb_B (tb_Z L xs) 158 := ⟨by decide +kernel, wm_401, wm_14, ⟨by decide +kernel, by decide +kernel⟩, show tb_l 158 ≤ 45 by decide +kernel⟩
theorem pn_159 : (parseMethodDescriptor "([BIII)I").map (fun d => d.parameters.length) = some 4 := by decide +kernel
theorem wm_550 : Cond.code ⟨"java/lang/StringLatin1", "indexOf", "([BIII)I"⟩ prog_21_method_22_code 4 (some .int) ∈ lw_ws := lw_in (List.mem_append_right _ (List.mem_of_getElem? (i := 550) (by decide +kernel))) rfl
theorem gm_159 (L : Nat) (xs : Nat → Int32) : dx_gm lw_ws tb_Y tb_B (tb_Z L xs) 159 := ⟨by decide +kernel, wm_550, wm_14, ⟨by decide +kernel, by decide +kernel⟩, show tb_l 159 ≤ 45 by decide +kernel⟩
theorem pn_160 : (parseMethodDescriptor "(I)Z").map (fun d => d.parameters.length) = some 1 := by decide +kernel
theorem wm_553 : Cond.code ⟨"java/lang/StringLatin1", "canEncode", "(I)Z"⟩ prog_21_method_4_code 1 (some .boolean) ∈ lw_ws := lw_in (List.mem_append_right _ (List.mem_of_getElem? (i := 553) (by decide +kernel))) rfl
theorem gm_160 (L : Nat) (xs : Nat → Int32) : dx_gm lw_ws tb_Y tb_B (tb_Z L xs) 160 := ⟨by decide +kernel, wm_553, wm_14, ⟨by decide +kernel, by decide +kernel⟩, show tb_l 160 ≤ 45 by decide +kernel⟩
theorem pn_161 : (parseMethodDescriptor "([BIII)I").map (fun d => d.parameters.length) = some 4 := by decide +kernel
theorem wm_558 : Cond.code ⟨"java/lang/StringLatin1", "indexOfChar", "([BIII)I"⟩ prog_21_method_23_code 6 (some .int) ∈ lw_ws := lw_in (List.mem_append_right _ (List.mem_of_getElem? (i := 558) (by decide +kernel))) rfl
theorem gm_161 (L : Nat) (xs : Nat → Int32) : dx_gm lw_ws tb_Y tb_B (tb_Z L xs) 161 := ⟨by decide +kernel, wm_558, wm_14, ⟨by decide +kernel, by decide +kernel⟩, show tb_l 161 ≤ 45 by decide +kernel⟩
theorem pn_162 : (parseMethodDescriptor "(IILjava/util/function/BiFunction;)I").map (fun d => d.parameters.length) = some 3 := by decide +kernel
theorem wm_409 : Cond.code ⟨"jdk/internal/util/Preconditions", "checkIndex", "(IILjava/util/function/BiFunction;)I"⟩ prog_25_method_11_code 3 (some .int) ∈ lw_ws := lw_in (List.mem_append_right _ (List.mem_of_getElem? (i := 409) (by decide +kernel))) rfl
theorem wm_15 : Cond.initialized "jdk/internal/util/Preconditions" ∈ lw_ws := lw_in (List.mem_append_right _ (List.mem_of_getElem? (i := 15) (by decide +kernel))) rfl
theorem gm_162 (L : Nat) (xs : Nat → Int32) : dx_gm lw_ws tb_Y tb_B (tb_Z L xs) 162 := ⟨by decide +kernel, wm_409, wm_15, ⟨by decide +kernel, by decide +kernel⟩, show tb_l 162 ≤ 45 by decide +kernel⟩
theorem dx_pn {d : String} {n : Nat} (h : (parseMethodDescriptor d).map (fun d => d.parameters.length) = some n) : ∀ sig, parseMethodDescriptor d = some sig → n = sig.parameters.length := fun sig hs => by
  rw [hs] at h
  exact (Option.some.inj h).symm
theorem dx_pn1 {d : String} {n : Nat} (h : (parseMethodDescriptor d).map (fun d => d.parameters.length) = some n) : ∀ sig, parseMethodDescriptor d = some sig → n + 1 = sig.parameters.length + 1 := fun sig hs => by rw [dx_pn h sig hs]
theorem wm_30 : Cond.methodLink "DecimalRun" 3 ⟨"java/lang/Object", "<init>", "()V"⟩ ∈ lw_ws := lw_in (List.mem_append_right _ (List.mem_of_getElem? (i := 30) (by decide +kernel))) rfl
theorem wm_31 : Cond.instanceMethod ⟨"java/lang/Object", "<init>", "()V"⟩ ∈ lw_ws := lw_in (List.mem_append_right _ (List.mem_of_getElem? (i := 31) (by decide +kernel))) rfl
theorem wm_32 : Cond.code ⟨"java/lang/Object", "<init>", "()V"⟩ object_method_1_code 1 none ∈ lw_ws := lw_in (List.mem_append_right _ (List.mem_of_getElem? (i := 32) (by decide +kernel))) rfl
theorem wm_33 : Cond.classLink "DecimalRun" 9 "DecimalRun$Text" ∈ lw_ws := lw_in (List.mem_append_right _ (List.mem_of_getElem? (i := 33) (by decide +kernel))) rfl
theorem wm_34 : Cond.instantiable "DecimalRun$Text" 2 ∈ lw_ws := lw_in (List.mem_append_right _ (List.mem_of_getElem? (i := 34) (by decide +kernel))) rfl
theorem wm_36 : Cond.instanceMethod ⟨"DecimalRun$Text", "<init>", "()V"⟩ ∈ lw_ws := lw_in (List.mem_append_right _ (List.mem_of_getElem? (i := 36) (by decide +kernel))) rfl
theorem wm_35 : Cond.methodLinkNest "DecimalRun" 11 ⟨"DecimalRun$Text", "<init>", "()V"⟩ "DecimalRun" ∈ lw_ws := lw_in (List.mem_append_right _ (List.mem_of_getElem? (i := 35) (by decide +kernel))) rfl
theorem wm_49 : Cond.classLink "DecimalRun" 16 "DecimalRun$Memory" ∈ lw_ws := lw_in (List.mem_append_right _ (List.mem_of_getElem? (i := 49) (by decide +kernel))) rfl
theorem wm_50 : Cond.instantiable "DecimalRun$Memory" 2 ∈ lw_ws := lw_in (List.mem_append_right _ (List.mem_of_getElem? (i := 50) (by decide +kernel))) rfl
theorem wm_52 : Cond.instanceMethod ⟨"DecimalRun$Memory", "<init>", "()V"⟩ ∈ lw_ws := lw_in (List.mem_append_right _ (List.mem_of_getElem? (i := 52) (by decide +kernel))) rfl
theorem wm_51 : Cond.methodLinkNest "DecimalRun" 18 ⟨"DecimalRun$Memory", "<init>", "()V"⟩ "DecimalRun" ∈ lw_ws := lw_in (List.mem_append_right _ (List.mem_of_getElem? (i := 51) (by decide +kernel))) rfl
theorem wm_68 : Cond.classLink "DecimalRun" 23 "DecimalRun$Outcome" ∈ lw_ws := lw_in (List.mem_append_right _ (List.mem_of_getElem? (i := 68) (by decide +kernel))) rfl
theorem wm_69 : Cond.instantiable "DecimalRun$Outcome" 5 ∈ lw_ws := lw_in (List.mem_append_right _ (List.mem_of_getElem? (i := 69) (by decide +kernel))) rfl
theorem wm_71 : Cond.instanceMethod ⟨"DecimalRun$Outcome", "<init>", "()V"⟩ ∈ lw_ws := lw_in (List.mem_append_right _ (List.mem_of_getElem? (i := 71) (by decide +kernel))) rfl
theorem wm_70 : Cond.methodLinkNest "DecimalRun" 25 ⟨"DecimalRun$Outcome", "<init>", "()V"⟩ "DecimalRun" ∈ lw_ws := lw_in (List.mem_append_right _ (List.mem_of_getElem? (i := 70) (by decide +kernel))) rfl
theorem wm_94 : Cond.classLink "DecimalRun" 30 "DecimalRun$Code" ∈ lw_ws := lw_in (List.mem_append_right _ (List.mem_of_getElem? (i := 94) (by decide +kernel))) rfl
theorem wm_95 : Cond.instantiable "DecimalRun$Code" 5 ∈ lw_ws := lw_in (List.mem_append_right _ (List.mem_of_getElem? (i := 95) (by decide +kernel))) rfl
theorem wm_97 : Cond.instanceMethod ⟨"DecimalRun$Code", "<init>", "()V"⟩ ∈ lw_ws := lw_in (List.mem_append_right _ (List.mem_of_getElem? (i := 97) (by decide +kernel))) rfl
theorem wm_96 : Cond.methodLinkNest "DecimalRun" 32 ⟨"DecimalRun$Code", "<init>", "()V"⟩ "DecimalRun" ∈ lw_ws := lw_in (List.mem_append_right _ (List.mem_of_getElem? (i := 96) (by decide +kernel))) rfl
theorem wm_123 : Cond.classLink "DecimalRun" 37 "DecimalRun$Scanner" ∈ lw_ws := lw_in (List.mem_append_right _ (List.mem_of_getElem? (i := 123) (by decide +kernel))) rfl
theorem wm_124 : Cond.instantiable "DecimalRun$Scanner" 5 ∈ lw_ws := lw_in (List.mem_append_right _ (List.mem_of_getElem? (i := 124) (by decide +kernel))) rfl
theorem wm_223 : Cond.fieldLink "DecimalRun" 12 "DecimalRun" "text" "LDecimalRun$Text;" ∈ lw_ws := lw_in (List.mem_append_right _ (List.mem_of_getElem? (i := 223) (by decide +kernel))) rfl
theorem wm_225 : Cond.fieldLink "DecimalRun" 26 "DecimalRun" "outcome" "LDecimalRun$Outcome;" ∈ lw_ws := lw_in (List.mem_append_right _ (List.mem_of_getElem? (i := 225) (by decide +kernel))) rfl
theorem wm_126 : Cond.instanceMethod ⟨"DecimalRun$Scanner", "<init>", "(LDecimalRun$Text;LDecimalRun$Outcome;)V"⟩ ∈ lw_ws := lw_in (List.mem_append_right _ (List.mem_of_getElem? (i := 126) (by decide +kernel))) rfl
theorem wm_125 : Cond.methodLink "DecimalRun" 39 ⟨"DecimalRun$Scanner", "<init>", "(LDecimalRun$Text;LDecimalRun$Outcome;)V"⟩ ∈ lw_ws := lw_in (List.mem_append_right _ (List.mem_of_getElem? (i := 125) (by decide +kernel))) rfl
theorem wm_148 : Cond.classLink "DecimalRun" 46 "DecimalRun$Parser" ∈ lw_ws := lw_in (List.mem_append_right _ (List.mem_of_getElem? (i := 148) (by decide +kernel))) rfl
theorem wm_149 : Cond.instantiable "DecimalRun$Parser" 5 ∈ lw_ws := lw_in (List.mem_append_right _ (List.mem_of_getElem? (i := 149) (by decide +kernel))) rfl
theorem wm_227 : Cond.fieldLink "DecimalRun" 42 "DecimalRun" "scanner" "LDecimalRun$Scanner;" ∈ lw_ws := lw_in (List.mem_append_right _ (List.mem_of_getElem? (i := 227) (by decide +kernel))) rfl
theorem wm_226 : Cond.fieldLink "DecimalRun" 33 "DecimalRun" "code" "LDecimalRun$Code;" ∈ lw_ws := lw_in (List.mem_append_right _ (List.mem_of_getElem? (i := 226) (by decide +kernel))) rfl
theorem wm_151 : Cond.instanceMethod ⟨"DecimalRun$Parser", "<init>", "(LDecimalRun$Scanner;LDecimalRun$Code;LDecimalRun$Outcome;)V"⟩ ∈ lw_ws := lw_in (List.mem_append_right _ (List.mem_of_getElem? (i := 151) (by decide +kernel))) rfl
theorem wm_150 : Cond.methodLink "DecimalRun" 48 ⟨"DecimalRun$Parser", "<init>", "(LDecimalRun$Scanner;LDecimalRun$Code;LDecimalRun$Outcome;)V"⟩ ∈ lw_ws := lw_in (List.mem_append_right _ (List.mem_of_getElem? (i := 150) (by decide +kernel))) rfl
theorem wm_170 : Cond.classLink "DecimalRun" 55 "DecimalRun$Machine" ∈ lw_ws := lw_in (List.mem_append_right _ (List.mem_of_getElem? (i := 170) (by decide +kernel))) rfl
theorem wm_171 : Cond.instantiable "DecimalRun$Machine" 11 ∈ lw_ws := lw_in (List.mem_append_right _ (List.mem_of_getElem? (i := 171) (by decide +kernel))) rfl
theorem wm_224 : Cond.fieldLink "DecimalRun" 19 "DecimalRun" "memory" "LDecimalRun$Memory;" ∈ lw_ws := lw_in (List.mem_append_right _ (List.mem_of_getElem? (i := 224) (by decide +kernel))) rfl
theorem wm_173 : Cond.instanceMethod ⟨"DecimalRun$Machine", "<init>", "(LDecimalRun$Code;LDecimalRun$Memory;LDecimalRun$Outcome;)V"⟩ ∈ lw_ws := lw_in (List.mem_append_right _ (List.mem_of_getElem? (i := 173) (by decide +kernel))) rfl
theorem wm_172 : Cond.methodLink "DecimalRun" 57 ⟨"DecimalRun$Machine", "<init>", "(LDecimalRun$Code;LDecimalRun$Memory;LDecimalRun$Outcome;)V"⟩ ∈ lw_ws := lw_in (List.mem_append_right _ (List.mem_of_getElem? (i := 172) (by decide +kernel))) rfl
theorem wm_251 : Cond.selects "DecimalRun$Text" ⟨"DecimalRun$Text", "append", "(I)I"⟩ ⟨"DecimalRun$Text", "append", "(I)I"⟩ ∈ lw_ws := lw_in (List.mem_append_right _ (List.mem_of_getElem? (i := 251) (by decide +kernel))) rfl
theorem wm_250 : Cond.instanceMethod ⟨"DecimalRun$Text", "append", "(I)I"⟩ ∈ lw_ws := lw_in (List.mem_append_right _ (List.mem_of_getElem? (i := 250) (by decide +kernel))) rfl
theorem wm_249 : Cond.methodLink "DecimalRun" 64 ⟨"DecimalRun$Text", "append", "(I)I"⟩ ∈ lw_ws := lw_in (List.mem_append_right _ (List.mem_of_getElem? (i := 249) (by decide +kernel))) rfl
theorem wm_42 : Cond.fieldLinkNest "DecimalRun" 68 "DecimalRun$Text" "size" "I" "DecimalRun" ∈ lw_ws := lw_in (List.mem_append_right _ (List.mem_of_getElem? (i := 42) (by decide +kernel))) rfl
theorem wm_270 : Cond.selects "DecimalRun$Memory" ⟨"DecimalRun$Memory", "forget", "()V"⟩ ⟨"DecimalRun$Memory", "forget", "()V"⟩ ∈ lw_ws := lw_in (List.mem_append_right _ (List.mem_of_getElem? (i := 270) (by decide +kernel))) rfl
theorem wm_269 : Cond.instanceMethod ⟨"DecimalRun$Memory", "forget", "()V"⟩ ∈ lw_ws := lw_in (List.mem_append_right _ (List.mem_of_getElem? (i := 269) (by decide +kernel))) rfl
theorem wm_268 : Cond.methodLink "DecimalRun" 72 ⟨"DecimalRun$Memory", "forget", "()V"⟩ ∈ lw_ws := lw_in (List.mem_append_right _ (List.mem_of_getElem? (i := 268) (by decide +kernel))) rfl
theorem wm_79 : Cond.fieldLinkNest "DecimalRun" 100 "DecimalRun$Outcome" "fault" "I" "DecimalRun" ∈ lw_ws := lw_in (List.mem_append_right _ (List.mem_of_getElem? (i := 79) (by decide +kernel))) rfl
theorem wm_81 : Cond.fieldLinkNest "DecimalRun" 97 "DecimalRun$Outcome" "steps" "I" "DecimalRun" ∈ lw_ws := lw_in (List.mem_append_right _ (List.mem_of_getElem? (i := 81) (by decide +kernel))) rfl
theorem wm_77 : Cond.fieldLinkNest "DecimalRun" 103 "DecimalRun$Outcome" "size" "I" "DecimalRun" ∈ lw_ws := lw_in (List.mem_append_right _ (List.mem_of_getElem? (i := 77) (by decide +kernel))) rfl
theorem wm_75 : Cond.fieldLinkNest "DecimalRun" 104 "DecimalRun$Outcome" "written" "[C" "DecimalRun" ∈ lw_ws := lw_in (List.mem_append_right _ (List.mem_of_getElem? (i := 75) (by decide +kernel))) rfl
theorem wm_296 : Cond.static ⟨"DecimalRun", "isVariable", "(I)Z"⟩ ∈ lw_ws := lw_in (List.mem_append_right _ (List.mem_of_getElem? (i := 296) (by decide +kernel))) rfl
theorem wm_295 : Cond.methodLink "DecimalRun" 108 ⟨"DecimalRun", "isVariable", "(I)Z"⟩ ∈ lw_ws := lw_in (List.mem_append_right _ (List.mem_of_getElem? (i := 295) (by decide +kernel))) rfl
theorem wm_57 : Cond.fieldLinkNest "DecimalRun" 112 "DecimalRun$Memory" "variables" "[J" "DecimalRun" ∈ lw_ws := lw_in (List.mem_append_right _ (List.mem_of_getElem? (i := 57) (by decide +kernel))) rfl
theorem wm_299 : Cond.static ⟨"DecimalRun$Arithmetic", "mantissa", "(J)J"⟩ ∈ lw_ws := lw_in (List.mem_append_right _ (List.mem_of_getElem? (i := 299) (by decide +kernel))) rfl
theorem wm_298 : Cond.methodLink "DecimalRun" 116 ⟨"DecimalRun$Arithmetic", "mantissa", "(J)J"⟩ ∈ lw_ws := lw_in (List.mem_append_right _ (List.mem_of_getElem? (i := 298) (by decide +kernel))) rfl
theorem wm_306 : Cond.static ⟨"DecimalRun$Arithmetic", "places", "(J)I"⟩ ∈ lw_ws := lw_in (List.mem_append_right _ (List.mem_of_getElem? (i := 306) (by decide +kernel))) rfl
theorem wm_305 : Cond.methodLink "DecimalRun" 122 ⟨"DecimalRun$Arithmetic", "places", "(J)I"⟩ ∈ lw_ws := lw_in (List.mem_append_right _ (List.mem_of_getElem? (i := 305) (by decide +kernel))) rfl
theorem wm_61 : Cond.fieldLinkNest "DecimalRun" 126 "DecimalRun$Memory" "scale" "I" "DecimalRun" ∈ lw_ws := lw_in (List.mem_append_right _ (List.mem_of_getElem? (i := 61) (by decide +kernel))) rfl
theorem wm_324 : Cond.static ⟨"java/lang/Math", "min", "(II)I"⟩ ∈ lw_ws := lw_in (List.mem_append_right _ (List.mem_of_getElem? (i := 324) (by decide +kernel))) rfl
theorem wm_323 : Cond.methodLink "DecimalRun" 75 ⟨"java/lang/Math", "min", "(II)I"⟩ ∈ lw_ws := lw_in (List.mem_append_right _ (List.mem_of_getElem? (i := 323) (by decide +kernel))) rfl
theorem wm_327 : Cond.static ⟨"java/lang/Math", "max", "(II)I"⟩ ∈ lw_ws := lw_in (List.mem_append_right _ (List.mem_of_getElem? (i := 327) (by decide +kernel))) rfl
theorem wm_326 : Cond.methodLink "DecimalRun" 81 ⟨"java/lang/Math", "max", "(II)I"⟩ ∈ lw_ws := lw_in (List.mem_append_right _ (List.mem_of_getElem? (i := 326) (by decide +kernel))) rfl
theorem wm_331 : Cond.selects "DecimalRun$Outcome" ⟨"DecimalRun$Outcome", "begin", "(I)V"⟩ ⟨"DecimalRun$Outcome", "begin", "(I)V"⟩ ∈ lw_ws := lw_in (List.mem_append_right _ (List.mem_of_getElem? (i := 331) (by decide +kernel))) rfl
theorem wm_330 : Cond.instanceMethod ⟨"DecimalRun$Outcome", "begin", "(I)V"⟩ ∈ lw_ws := lw_in (List.mem_append_right _ (List.mem_of_getElem? (i := 330) (by decide +kernel))) rfl
theorem wm_329 : Cond.methodLink "DecimalRun" 84 ⟨"DecimalRun$Outcome", "begin", "(I)V"⟩ ∈ lw_ws := lw_in (List.mem_append_right _ (List.mem_of_getElem? (i := 329) (by decide +kernel))) rfl
theorem wm_335 : Cond.selects "DecimalRun$Scanner" ⟨"DecimalRun$Scanner", "scan", "()V"⟩ ⟨"DecimalRun$Scanner", "scan", "()V"⟩ ∈ lw_ws := lw_in (List.mem_append_right _ (List.mem_of_getElem? (i := 335) (by decide +kernel))) rfl
theorem wm_334 : Cond.instanceMethod ⟨"DecimalRun$Scanner", "scan", "()V"⟩ ∈ lw_ws := lw_in (List.mem_append_right _ (List.mem_of_getElem? (i := 334) (by decide +kernel))) rfl
theorem wm_333 : Cond.methodLink "DecimalRun" 88 ⟨"DecimalRun$Scanner", "scan", "()V"⟩ ∈ lw_ws := lw_in (List.mem_append_right _ (List.mem_of_getElem? (i := 333) (by decide +kernel))) rfl
theorem wm_228 : Cond.fieldLink "DecimalRun" 51 "DecimalRun" "parser" "LDecimalRun$Parser;" ∈ lw_ws := lw_in (List.mem_append_right _ (List.mem_of_getElem? (i := 228) (by decide +kernel))) rfl
theorem wm_597 : Cond.selects "DecimalRun$Parser" ⟨"DecimalRun$Parser", "parse", "()V"⟩ ⟨"DecimalRun$Parser", "parse", "()V"⟩ ∈ lw_ws := lw_in (List.mem_append_right _ (List.mem_of_getElem? (i := 597) (by decide +kernel))) rfl
theorem wm_596 : Cond.instanceMethod ⟨"DecimalRun$Parser", "parse", "()V"⟩ ∈ lw_ws := lw_in (List.mem_append_right _ (List.mem_of_getElem? (i := 596) (by decide +kernel))) rfl
theorem wm_595 : Cond.methodLink "DecimalRun" 91 ⟨"DecimalRun$Parser", "parse", "()V"⟩ ∈ lw_ws := lw_in (List.mem_append_right _ (List.mem_of_getElem? (i := 595) (by decide +kernel))) rfl
theorem wm_229 : Cond.fieldLink "DecimalRun" 60 "DecimalRun" "machine" "LDecimalRun$Machine;" ∈ lw_ws := lw_in (List.mem_append_right _ (List.mem_of_getElem? (i := 229) (by decide +kernel))) rfl
theorem wm_718 : Cond.selects "DecimalRun$Machine" ⟨"DecimalRun$Machine", "execute", "()V"⟩ ⟨"DecimalRun$Machine", "execute", "()V"⟩ ∈ lw_ws := lw_in (List.mem_append_right _ (List.mem_of_getElem? (i := 718) (by decide +kernel))) rfl
theorem wm_717 : Cond.instanceMethod ⟨"DecimalRun$Machine", "execute", "()V"⟩ ∈ lw_ws := lw_in (List.mem_append_right _ (List.mem_of_getElem? (i := 717) (by decide +kernel))) rfl
theorem wm_716 : Cond.methodLink "DecimalRun" 94 ⟨"DecimalRun$Machine", "execute", "()V"⟩ ∈ lw_ws := lw_in (List.mem_append_right _ (List.mem_of_getElem? (i := 716) (by decide +kernel))) rfl
theorem wm_38 : Cond.methodLink "DecimalRun$Text" 3 ⟨"java/lang/Object", "<init>", "()V"⟩ ∈ lw_ws := lw_in (List.mem_append_right _ (List.mem_of_getElem? (i := 38) (by decide +kernel))) rfl
theorem wm_48 : Cond.arrayClass .char ∈ lw_ws := lw_in (List.mem_append_right _ (List.mem_of_getElem? (i := 48) (by decide +kernel))) rfl
theorem wm_254 : Cond.static ⟨"DecimalRun$Text", "packed", "(I)I"⟩ ∈ lw_ws := lw_in (List.mem_append_right _ (List.mem_of_getElem? (i := 254) (by decide +kernel))) rfl
theorem wm_253 : Cond.methodLink "DecimalRun$Text" 15 ⟨"DecimalRun$Text", "packed", "(I)I"⟩ ∈ lw_ws := lw_in (List.mem_append_right _ (List.mem_of_getElem? (i := 253) (by decide +kernel))) rfl
theorem wm_40 : Cond.fieldLink "DecimalRun$Text" 19 "DecimalRun$Text" "size" "I" ∈ lw_ws := lw_in (List.mem_append_right _ (List.mem_of_getElem? (i := 40) (by decide +kernel))) rfl
theorem wm_39 : Cond.fieldLink "DecimalRun$Text" 9 "DecimalRun$Text" "characters" "[C" ∈ lw_ws := lw_in (List.mem_append_right _ (List.mem_of_getElem? (i := 39) (by decide +kernel))) rfl
theorem wm_54 : Cond.methodLink "DecimalRun$Memory" 3 ⟨"java/lang/Object", "<init>", "()V"⟩ ∈ lw_ws := lw_in (List.mem_append_right _ (List.mem_of_getElem? (i := 54) (by decide +kernel))) rfl
theorem wm_67 : Cond.arrayClass .long ∈ lw_ws := lw_in (List.mem_append_right _ (List.mem_of_getElem? (i := 67) (by decide +kernel))) rfl
theorem wm_55 : Cond.fieldLink "DecimalRun$Memory" 9 "DecimalRun$Memory" "variables" "[J" ∈ lw_ws := lw_in (List.mem_append_right _ (List.mem_of_getElem? (i := 55) (by decide +kernel))) rfl
theorem wm_273 : Cond.static ⟨"java/util/Arrays", "fill", "([JJ)V"⟩ ∈ lw_ws := lw_in (List.mem_append_right _ (List.mem_of_getElem? (i := 273) (by decide +kernel))) rfl
theorem wm_272 : Cond.methodLink "DecimalRun$Memory" 15 ⟨"java/util/Arrays", "fill", "([JJ)V"⟩ ∈ lw_ws := lw_in (List.mem_append_right _ (List.mem_of_getElem? (i := 272) (by decide +kernel))) rfl
theorem wm_58 : Cond.fieldLink "DecimalRun$Memory" 21 "DecimalRun$Memory" "scale" "I" ∈ lw_ws := lw_in (List.mem_append_right _ (List.mem_of_getElem? (i := 58) (by decide +kernel))) rfl
theorem wm_73 : Cond.methodLink "DecimalRun$Outcome" 3 ⟨"java/lang/Object", "<init>", "()V"⟩ ∈ lw_ws := lw_in (List.mem_append_right _ (List.mem_of_getElem? (i := 73) (by decide +kernel))) rfl
theorem wm_76 : Cond.fieldLink "DecimalRun$Outcome" 15 "DecimalRun$Outcome" "size" "I" ∈ lw_ws := lw_in (List.mem_append_right _ (List.mem_of_getElem? (i := 76) (by decide +kernel))) rfl
theorem wm_78 : Cond.fieldLink "DecimalRun$Outcome" 19 "DecimalRun$Outcome" "fault" "I" ∈ lw_ws := lw_in (List.mem_append_right _ (List.mem_of_getElem? (i := 78) (by decide +kernel))) rfl
theorem wm_80 : Cond.fieldLink "DecimalRun$Outcome" 22 "DecimalRun$Outcome" "steps" "I" ∈ lw_ws := lw_in (List.mem_append_right _ (List.mem_of_getElem? (i := 80) (by decide +kernel))) rfl
theorem wm_82 : Cond.fieldLink "DecimalRun$Outcome" 25 "DecimalRun$Outcome" "fuel" "I" ∈ lw_ws := lw_in (List.mem_append_right _ (List.mem_of_getElem? (i := 82) (by decide +kernel))) rfl
theorem wm_435 : Cond.selects "DecimalRun$Outcome" ⟨"DecimalRun$Outcome", "raise", "(I)V"⟩ ⟨"DecimalRun$Outcome", "raise", "(I)V"⟩ ∈ lw_ws := lw_in (List.mem_append_right _ (List.mem_of_getElem? (i := 435) (by decide +kernel))) rfl
theorem wm_434 : Cond.instanceMethod ⟨"DecimalRun$Outcome", "raise", "(I)V"⟩ ∈ lw_ws := lw_in (List.mem_append_right _ (List.mem_of_getElem? (i := 434) (by decide +kernel))) rfl
theorem wm_729 : Cond.methodLink "DecimalRun$Outcome" 37 ⟨"DecimalRun$Outcome", "raise", "(I)V"⟩ ∈ lw_ws := lw_in (List.mem_append_right _ (List.mem_of_getElem? (i := 729) (by decide +kernel))) rfl
theorem wm_756 : Cond.methodLink "DecimalRun$Outcome" 41 ⟨"DecimalRun$Arithmetic", "mantissa", "(J)J"⟩ ∈ lw_ws := lw_in (List.mem_append_right _ (List.mem_of_getElem? (i := 756) (by decide +kernel))) rfl
theorem wm_757 : Cond.methodLink "DecimalRun$Outcome" 47 ⟨"DecimalRun$Arithmetic", "places", "(J)I"⟩ ∈ lw_ws := lw_in (List.mem_append_right _ (List.mem_of_getElem? (i := 757) (by decide +kernel))) rfl
theorem wm_759 : Cond.static ⟨"java/lang/Math", "abs", "(J)J"⟩ ∈ lw_ws := lw_in (List.mem_append_right _ (List.mem_of_getElem? (i := 759) (by decide +kernel))) rfl
theorem wm_758 : Cond.methodLink "DecimalRun$Outcome" 51 ⟨"java/lang/Math", "abs", "(J)J"⟩ ∈ lw_ws := lw_in (List.mem_append_right _ (List.mem_of_getElem? (i := 758) (by decide +kernel))) rfl
theorem wm_762 : Cond.static ⟨"DecimalRun$Outcome", "digitsOf", "(J)I"⟩ ∈ lw_ws := lw_in (List.mem_append_right _ (List.mem_of_getElem? (i := 762) (by decide +kernel))) rfl
theorem wm_761 : Cond.methodLink "DecimalRun$Outcome" 56 ⟨"DecimalRun$Outcome", "digitsOf", "(J)I"⟩ ∈ lw_ws := lw_in (List.mem_append_right _ (List.mem_of_getElem? (i := 761) (by decide +kernel))) rfl
theorem wm_765 : Cond.methodLink "DecimalRun$Outcome" 59 ⟨"java/lang/Math", "max", "(II)I"⟩ ∈ lw_ws := lw_in (List.mem_append_right _ (List.mem_of_getElem? (i := 765) (by decide +kernel))) rfl
theorem wm_74 : Cond.fieldLink "DecimalRun$Outcome" 9 "DecimalRun$Outcome" "written" "[C" ∈ lw_ws := lw_in (List.mem_append_right _ (List.mem_of_getElem? (i := 74) (by decide +kernel))) rfl
theorem wm_766 : Cond.constantLong "DecimalRun$Outcome" 63 48 ∈ lw_ws := lw_in (List.mem_append_right _ (List.mem_of_getElem? (i := 766) (by decide +kernel))) rfl
theorem wm_767 : Cond.constantLong "DecimalRun$Outcome" 65 10 ∈ lw_ws := lw_in (List.mem_append_right _ (List.mem_of_getElem? (i := 767) (by decide +kernel))) rfl
theorem wm_764 : Cond.fieldLinkNest "DecimalRun$Outcome" 67 "DecimalRun$Arithmetic" "TEN_TO" "[J" "DecimalRun" ∈ lw_ws := lw_in (List.mem_append_right _ (List.mem_of_getElem? (i := 764) (by decide +kernel))) rfl
theorem wm_99 : Cond.methodLink "DecimalRun$Code" 3 ⟨"java/lang/Object", "<init>", "()V"⟩ ∈ lw_ws := lw_in (List.mem_append_right _ (List.mem_of_getElem? (i := 99) (by decide +kernel))) rfl
theorem wm_122 : Cond.arrayClass .int ∈ lw_ws := lw_in (List.mem_append_right _ (List.mem_of_getElem? (i := 122) (by decide +kernel))) rfl
theorem wm_108 : Cond.fieldLink "DecimalRun$Code" 25 "DecimalRun$Code" "size" "I" ∈ lw_ws := lw_in (List.mem_append_right _ (List.mem_of_getElem? (i := 108) (by decide +kernel))) rfl
theorem wm_104 : Cond.fieldLink "DecimalRun$Code" 19 "DecimalRun$Code" "entries" "[I" ∈ lw_ws := lw_in (List.mem_append_right _ (List.mem_of_getElem? (i := 104) (by decide +kernel))) rfl
theorem wm_604 : Cond.static ⟨"java/util/Arrays", "fill", "([II)V"⟩ ∈ lw_ws := lw_in (List.mem_append_right _ (List.mem_of_getElem? (i := 604) (by decide +kernel))) rfl
theorem wm_603 : Cond.methodLink "DecimalRun$Code" 29 ⟨"java/util/Arrays", "fill", "([II)V"⟩ ∈ lw_ws := lw_in (List.mem_append_right _ (List.mem_of_getElem? (i := 603) (by decide +kernel))) rfl
theorem wm_100 : Cond.fieldLink "DecimalRun$Code" 9 "DecimalRun$Code" "operations" "[I" ∈ lw_ws := lw_in (List.mem_append_right _ (List.mem_of_getElem? (i := 100) (by decide +kernel))) rfl
theorem wm_102 : Cond.fieldLink "DecimalRun$Code" 15 "DecimalRun$Code" "operands" "[J" ∈ lw_ws := lw_in (List.mem_append_right _ (List.mem_of_getElem? (i := 102) (by decide +kernel))) rfl
theorem wm_106 : Cond.fieldLink "DecimalRun$Code" 22 "DecimalRun$Code" "parameters" "[I" ∈ lw_ws := lw_in (List.mem_append_right _ (List.mem_of_getElem? (i := 106) (by decide +kernel))) rfl
theorem wm_128 : Cond.methodLink "DecimalRun$Scanner" 3 ⟨"java/lang/Object", "<init>", "()V"⟩ ∈ lw_ws := lw_in (List.mem_append_right _ (List.mem_of_getElem? (i := 128) (by decide +kernel))) rfl
theorem wm_135 : Cond.fieldLink "DecimalRun$Scanner" 27 "DecimalRun$Scanner" "count" "I" ∈ lw_ws := lw_in (List.mem_append_right _ (List.mem_of_getElem? (i := 135) (by decide +kernel))) rfl
theorem wm_129 : Cond.fieldLink "DecimalRun$Scanner" 19 "DecimalRun$Scanner" "text" "LDecimalRun$Text;" ∈ lw_ws := lw_in (List.mem_append_right _ (List.mem_of_getElem? (i := 129) (by decide +kernel))) rfl
theorem wm_41 : Cond.fieldLinkNest "DecimalRun$Scanner" 31 "DecimalRun$Text" "size" "I" "DecimalRun" ∈ lw_ws := lw_in (List.mem_append_right _ (List.mem_of_getElem? (i := 41) (by decide +kernel))) rfl
theorem wp_0 : Cond.selects "DecimalRun$Scanner" ⟨"DecimalRun$Scanner", "take", "(I)I"⟩ ⟨"DecimalRun$Scanner", "take", "(I)I"⟩ ∈ lw_ws := lw_in (List.mem_append_left _ (List.mem_of_getElem? (i := 0) (by decide +kernel))) rfl
theorem wm_339 : Cond.instanceMethod ⟨"DecimalRun$Scanner", "take", "(I)I"⟩ ∈ lw_ws := lw_in (List.mem_append_right _ (List.mem_of_getElem? (i := 339) (by decide +kernel))) rfl
theorem wm_337 : Cond.methodLink "DecimalRun$Scanner" 36 ⟨"DecimalRun$Scanner", "take", "(I)I"⟩ ∈ lw_ws := lw_in (List.mem_append_right _ (List.mem_of_getElem? (i := 337) (by decide +kernel))) rfl
theorem wm_594 : Cond.methodLink "DecimalRun$Scanner" 40 ⟨"java/lang/Math", "max", "(II)I"⟩ ∈ lw_ws := lw_in (List.mem_append_right _ (List.mem_of_getElem? (i := 594) (by decide +kernel))) rfl
theorem wm_131 : Cond.fieldLink "DecimalRun$Scanner" 9 "DecimalRun$Scanner" "kinds" "[I" ∈ lw_ws := lw_in (List.mem_append_right _ (List.mem_of_getElem? (i := 131) (by decide +kernel))) rfl
theorem wm_343 : Cond.selects "DecimalRun$Text" ⟨"DecimalRun$Text", "at", "(I)C"⟩ ⟨"DecimalRun$Text", "at", "(I)C"⟩ ∈ lw_ws := lw_in (List.mem_append_right _ (List.mem_of_getElem? (i := 343) (by decide +kernel))) rfl
theorem wm_342 : Cond.instanceMethod ⟨"DecimalRun$Text", "at", "(I)C"⟩ ∈ lw_ws := lw_in (List.mem_append_right _ (List.mem_of_getElem? (i := 342) (by decide +kernel))) rfl
theorem wm_341 : Cond.methodLink "DecimalRun$Scanner" 46 ⟨"DecimalRun$Text", "at", "(I)C"⟩ ∈ lw_ws := lw_in (List.mem_append_right _ (List.mem_of_getElem? (i := 341) (by decide +kernel))) rfl
theorem wm_346 : Cond.static ⟨"DecimalRun$Scanner", "isDigit", "(C)Z"⟩ ∈ lw_ws := lw_in (List.mem_append_right _ (List.mem_of_getElem? (i := 346) (by decide +kernel))) rfl
theorem wm_345 : Cond.methodLink "DecimalRun$Scanner" 50 ⟨"DecimalRun$Scanner", "isDigit", "(C)Z"⟩ ∈ lw_ws := lw_in (List.mem_append_right _ (List.mem_of_getElem? (i := 345) (by decide +kernel))) rfl
theorem wp_1 : Cond.selects "DecimalRun$Scanner" ⟨"DecimalRun$Scanner", "takeNumeral", "(I)I"⟩ ⟨"DecimalRun$Scanner", "takeNumeral", "(I)I"⟩ ∈ lw_ws := lw_in (List.mem_append_left _ (List.mem_of_getElem? (i := 1) (by decide +kernel))) rfl
theorem wm_350 : Cond.instanceMethod ⟨"DecimalRun$Scanner", "takeNumeral", "(I)I"⟩ ∈ lw_ws := lw_in (List.mem_append_right _ (List.mem_of_getElem? (i := 350) (by decide +kernel))) rfl
theorem wm_348 : Cond.methodLink "DecimalRun$Scanner" 54 ⟨"DecimalRun$Scanner", "takeNumeral", "(I)I"⟩ ∈ lw_ws := lw_in (List.mem_append_right _ (List.mem_of_getElem? (i := 348) (by decide +kernel))) rfl
theorem wm_366 : Cond.static ⟨"DecimalRun$Scanner", "isLetter", "(C)Z"⟩ ∈ lw_ws := lw_in (List.mem_append_right _ (List.mem_of_getElem? (i := 366) (by decide +kernel))) rfl
theorem wm_365 : Cond.methodLink "DecimalRun$Scanner" 57 ⟨"DecimalRun$Scanner", "isLetter", "(C)Z"⟩ ∈ lw_ws := lw_in (List.mem_append_right _ (List.mem_of_getElem? (i := 365) (by decide +kernel))) rfl
theorem wp_4 : Cond.selects "DecimalRun$Scanner" ⟨"DecimalRun$Scanner", "takeWord", "(I)I"⟩ ⟨"DecimalRun$Scanner", "takeWord", "(I)I"⟩ ∈ lw_ws := lw_in (List.mem_append_left _ (List.mem_of_getElem? (i := 4) (by decide +kernel))) rfl
theorem wm_370 : Cond.instanceMethod ⟨"DecimalRun$Scanner", "takeWord", "(I)I"⟩ ∈ lw_ws := lw_in (List.mem_append_right _ (List.mem_of_getElem? (i := 370) (by decide +kernel))) rfl
theorem wm_368 : Cond.methodLink "DecimalRun$Scanner" 60 ⟨"DecimalRun$Scanner", "takeWord", "(I)I"⟩ ∈ lw_ws := lw_in (List.mem_append_right _ (List.mem_of_getElem? (i := 368) (by decide +kernel))) rfl
theorem wp_8 : Cond.selects "DecimalRun$Scanner" ⟨"DecimalRun$Scanner", "takeSymbol", "(I)I"⟩ ⟨"DecimalRun$Scanner", "takeSymbol", "(I)I"⟩ ∈ lw_ws := lw_in (List.mem_append_left _ (List.mem_of_getElem? (i := 8) (by decide +kernel))) rfl
theorem wm_533 : Cond.instanceMethod ⟨"DecimalRun$Scanner", "takeSymbol", "(I)I"⟩ ∈ lw_ws := lw_in (List.mem_append_right _ (List.mem_of_getElem? (i := 533) (by decide +kernel))) rfl
theorem wm_531 : Cond.methodLink "DecimalRun$Scanner" 63 ⟨"DecimalRun$Scanner", "takeSymbol", "(I)I"⟩ ∈ lw_ws := lw_in (List.mem_append_right _ (List.mem_of_getElem? (i := 531) (by decide +kernel))) rfl
theorem wp_2 : Cond.selects "DecimalRun$Scanner" ⟨"DecimalRun$Scanner", "digits", "(II)I"⟩ ⟨"DecimalRun$Scanner", "digits", "(II)I"⟩ ∈ lw_ws := lw_in (List.mem_append_left _ (List.mem_of_getElem? (i := 2) (by decide +kernel))) rfl
theorem wm_354 : Cond.instanceMethod ⟨"DecimalRun$Scanner", "digits", "(II)I"⟩ ∈ lw_ws := lw_in (List.mem_append_right _ (List.mem_of_getElem? (i := 354) (by decide +kernel))) rfl
theorem wm_352 : Cond.methodLink "DecimalRun$Scanner" 66 ⟨"DecimalRun$Scanner", "digits", "(II)I"⟩ ∈ lw_ws := lw_in (List.mem_append_right _ (List.mem_of_getElem? (i := 352) (by decide +kernel))) rfl
theorem wm_356 : Cond.methodLink "DecimalRun$Scanner" 69 ⟨"java/lang/Math", "min", "(II)I"⟩ ∈ lw_ws := lw_in (List.mem_append_right _ (List.mem_of_getElem? (i := 356) (by decide +kernel))) rfl
theorem wm_357 : Cond.constantLong "DecimalRun$Scanner" 72 10 ∈ lw_ws := lw_in (List.mem_append_right _ (List.mem_of_getElem? (i := 357) (by decide +kernel))) rfl
theorem wm_359 : Cond.static ⟨"DecimalRun$Arithmetic", "pack", "(JI)J"⟩ ∈ lw_ws := lw_in (List.mem_append_right _ (List.mem_of_getElem? (i := 359) (by decide +kernel))) rfl
theorem wm_358 : Cond.methodLink "DecimalRun$Scanner" 74 ⟨"DecimalRun$Arithmetic", "pack", "(JI)J"⟩ ∈ lw_ws := lw_in (List.mem_append_right _ (List.mem_of_getElem? (i := 358) (by decide +kernel))) rfl
theorem wp_3 : Cond.selects "DecimalRun$Scanner" ⟨"DecimalRun$Scanner", "add", "(IJ)V"⟩ ⟨"DecimalRun$Scanner", "add", "(IJ)V"⟩ ∈ lw_ws := lw_in (List.mem_append_left _ (List.mem_of_getElem? (i := 3) (by decide +kernel))) rfl
theorem wm_363 : Cond.instanceMethod ⟨"DecimalRun$Scanner", "add", "(IJ)V"⟩ ∈ lw_ws := lw_in (List.mem_append_right _ (List.mem_of_getElem? (i := 363) (by decide +kernel))) rfl
theorem wm_361 : Cond.methodLink "DecimalRun$Scanner" 80 ⟨"DecimalRun$Scanner", "add", "(IJ)V"⟩ ∈ lw_ws := lw_in (List.mem_append_right _ (List.mem_of_getElem? (i := 361) (by decide +kernel))) rfl
theorem wm_133 : Cond.fieldLink "DecimalRun$Scanner" 15 "DecimalRun$Scanner" "values" "[J" ∈ lw_ws := lw_in (List.mem_append_right _ (List.mem_of_getElem? (i := 133) (by decide +kernel))) rfl
theorem wp_5 : Cond.selects "DecimalRun$Scanner" ⟨"DecimalRun$Scanner", "reserved", "(II)I"⟩ ⟨"DecimalRun$Scanner", "reserved", "(II)I"⟩ ∈ lw_ws := lw_in (List.mem_append_left _ (List.mem_of_getElem? (i := 5) (by decide +kernel))) rfl
theorem wm_374 : Cond.instanceMethod ⟨"DecimalRun$Scanner", "reserved", "(II)I"⟩ ∈ lw_ws := lw_in (List.mem_append_right _ (List.mem_of_getElem? (i := 374) (by decide +kernel))) rfl
theorem wm_372 : Cond.methodLink "DecimalRun$Scanner" 84 ⟨"DecimalRun$Scanner", "reserved", "(II)I"⟩ ∈ lw_ws := lw_in (List.mem_append_right _ (List.mem_of_getElem? (i := 372) (by decide +kernel))) rfl
theorem wp_6 : Cond.selects "DecimalRun$Scanner" ⟨"DecimalRun$Scanner", "spells", "(Ljava/lang/String;II)Z"⟩ ⟨"DecimalRun$Scanner", "spells", "(Ljava/lang/String;II)Z"⟩ ∈ lw_ws := lw_in (List.mem_append_left _ (List.mem_of_getElem? (i := 6) (by decide +kernel))) rfl
theorem wm_379 : Cond.instanceMethod ⟨"DecimalRun$Scanner", "spells", "(Ljava/lang/String;II)Z"⟩ ∈ lw_ws := lw_in (List.mem_append_right _ (List.mem_of_getElem? (i := 379) (by decide +kernel))) rfl
theorem wm_377 : Cond.methodLink "DecimalRun$Scanner" 89 ⟨"DecimalRun$Scanner", "spells", "(Ljava/lang/String;II)Z"⟩ ∈ lw_ws := lw_in (List.mem_append_right _ (List.mem_of_getElem? (i := 377) (by decide +kernel))) rfl
theorem wm_130 : Cond.fieldLink "DecimalRun$Scanner" 23 "DecimalRun$Scanner" "outcome" "LDecimalRun$Outcome;" ∈ lw_ws := lw_in (List.mem_append_right _ (List.mem_of_getElem? (i := 130) (by decide +kernel))) rfl
theorem wm_433 : Cond.methodLink "DecimalRun$Scanner" 101 ⟨"DecimalRun$Outcome", "raise", "(I)V"⟩ ∈ lw_ws := lw_in (List.mem_append_right _ (List.mem_of_getElem? (i := 433) (by decide +kernel))) rfl
theorem wm_383 : Cond.selects "java/lang/String" ⟨"java/lang/String", "length", "()I"⟩ ⟨"java/lang/String", "length", "()I"⟩ ∈ lw_ws := lw_in (List.mem_append_right _ (List.mem_of_getElem? (i := 383) (by decide +kernel))) rfl
theorem wm_382 : Cond.instanceMethod ⟨"java/lang/String", "length", "()I"⟩ ∈ lw_ws := lw_in (List.mem_append_right _ (List.mem_of_getElem? (i := 382) (by decide +kernel))) rfl
theorem wm_381 : Cond.methodLink "DecimalRun$Scanner" 107 ⟨"java/lang/String", "length", "()I"⟩ ∈ lw_ws := lw_in (List.mem_append_right _ (List.mem_of_getElem? (i := 381) (by decide +kernel))) rfl
theorem wm_393 : Cond.selects "java/lang/String" ⟨"java/lang/String", "charAt", "(I)C"⟩ ⟨"java/lang/String", "charAt", "(I)C"⟩ ∈ lw_ws := lw_in (List.mem_append_right _ (List.mem_of_getElem? (i := 393) (by decide +kernel))) rfl
theorem wm_392 : Cond.instanceMethod ⟨"java/lang/String", "charAt", "(I)C"⟩ ∈ lw_ws := lw_in (List.mem_append_right _ (List.mem_of_getElem? (i := 392) (by decide +kernel))) rfl
theorem wm_391 : Cond.methodLink "DecimalRun$Scanner" 113 ⟨"java/lang/String", "charAt", "(I)C"⟩ ∈ lw_ws := lw_in (List.mem_append_right _ (List.mem_of_getElem? (i := 391) (by decide +kernel))) rfl
theorem wm_536 : Cond.static ⟨"DecimalRun$Scanner", "withEqualSign", "(C)I"⟩ ∈ lw_ws := lw_in (List.mem_append_right _ (List.mem_of_getElem? (i := 536) (by decide +kernel))) rfl
theorem wm_535 : Cond.methodLink "DecimalRun$Scanner" 116 ⟨"DecimalRun$Scanner", "withEqualSign", "(C)I"⟩ ∈ lw_ws := lw_in (List.mem_append_right _ (List.mem_of_getElem? (i := 535) (by decide +kernel))) rfl
theorem wm_541 : Cond.selects "java/lang/String" ⟨"java/lang/String", "indexOf", "(I)I"⟩ ⟨"java/lang/String", "indexOf", "(I)I"⟩ ∈ lw_ws := lw_in (List.mem_append_right _ (List.mem_of_getElem? (i := 541) (by decide +kernel))) rfl
theorem wm_540 : Cond.instanceMethod ⟨"java/lang/String", "indexOf", "(I)I"⟩ ∈ lw_ws := lw_in (List.mem_append_right _ (List.mem_of_getElem? (i := 540) (by decide +kernel))) rfl
theorem wm_539 : Cond.methodLink "DecimalRun$Scanner" 122 ⟨"java/lang/String", "indexOf", "(I)I"⟩ ∈ lw_ws := lw_in (List.mem_append_right _ (List.mem_of_getElem? (i := 539) (by decide +kernel))) rfl
theorem wm_153 : Cond.methodLink "DecimalRun$Parser" 3 ⟨"java/lang/Object", "<init>", "()V"⟩ ∈ lw_ws := lw_in (List.mem_append_right _ (List.mem_of_getElem? (i := 153) (by decide +kernel))) rfl
theorem wm_157 : Cond.fieldLink "DecimalRun$Parser" 23 "DecimalRun$Parser" "place" "I" ∈ lw_ws := lw_in (List.mem_append_right _ (List.mem_of_getElem? (i := 157) (by decide +kernel))) rfl
theorem wm_158 : Cond.fieldLink "DecimalRun$Parser" 27 "DecimalRun$Parser" "inDefinition" "Z" ∈ lw_ws := lw_in (List.mem_append_right _ (List.mem_of_getElem? (i := 158) (by decide +kernel))) rfl
theorem wm_155 : Cond.fieldLink "DecimalRun$Parser" 15 "DecimalRun$Parser" "code" "LDecimalRun$Code;" ∈ lw_ws := lw_in (List.mem_append_right _ (List.mem_of_getElem? (i := 155) (by decide +kernel))) rfl
theorem wm_601 : Cond.selects "DecimalRun$Code" ⟨"DecimalRun$Code", "begin", "()V"⟩ ⟨"DecimalRun$Code", "begin", "()V"⟩ ∈ lw_ws := lw_in (List.mem_append_right _ (List.mem_of_getElem? (i := 601) (by decide +kernel))) rfl
theorem wm_600 : Cond.instanceMethod ⟨"DecimalRun$Code", "begin", "()V"⟩ ∈ lw_ws := lw_in (List.mem_append_right _ (List.mem_of_getElem? (i := 600) (by decide +kernel))) rfl
theorem wm_599 : Cond.methodLink "DecimalRun$Parser" 31 ⟨"DecimalRun$Code", "begin", "()V"⟩ ∈ lw_ws := lw_in (List.mem_append_right _ (List.mem_of_getElem? (i := 599) (by decide +kernel))) rfl
theorem wp_9 : Cond.selects "DecimalRun$Parser" ⟨"DecimalRun$Parser", "list", "(II)V"⟩ ⟨"DecimalRun$Parser", "list", "(II)V"⟩ ∈ lw_ws := lw_in (List.mem_append_left _ (List.mem_of_getElem? (i := 9) (by decide +kernel))) rfl
theorem wm_608 : Cond.instanceMethod ⟨"DecimalRun$Parser", "list", "(II)V"⟩ ∈ lw_ws := lw_in (List.mem_append_right _ (List.mem_of_getElem? (i := 608) (by decide +kernel))) rfl
theorem wm_606 : Cond.methodLink "DecimalRun$Parser" 36 ⟨"DecimalRun$Parser", "list", "(II)V"⟩ ∈ lw_ws := lw_in (List.mem_append_right _ (List.mem_of_getElem? (i := 606) (by decide +kernel))) rfl
theorem wp_10 : Cond.selects "DecimalRun$Parser" ⟨"DecimalRun$Parser", "skipSeparators", "()V"⟩ ⟨"DecimalRun$Parser", "skipSeparators", "()V"⟩ ∈ lw_ws := lw_in (List.mem_append_left _ (List.mem_of_getElem? (i := 10) (by decide +kernel))) rfl
theorem wm_612 : Cond.instanceMethod ⟨"DecimalRun$Parser", "skipSeparators", "()V"⟩ ∈ lw_ws := lw_in (List.mem_append_right _ (List.mem_of_getElem? (i := 612) (by decide +kernel))) rfl
theorem wm_610 : Cond.methodLink "DecimalRun$Parser" 40 ⟨"DecimalRun$Parser", "skipSeparators", "()V"⟩ ∈ lw_ws := lw_in (List.mem_append_right _ (List.mem_of_getElem? (i := 610) (by decide +kernel))) rfl
theorem wp_11 : Cond.selects "DecimalRun$Parser" ⟨"DecimalRun$Parser", "kind", "()I"⟩ ⟨"DecimalRun$Parser", "kind", "()I"⟩ ∈ lw_ws := lw_in (List.mem_append_left _ (List.mem_of_getElem? (i := 11) (by decide +kernel))) rfl
theorem wm_616 : Cond.instanceMethod ⟨"DecimalRun$Parser", "kind", "()I"⟩ ∈ lw_ws := lw_in (List.mem_append_right _ (List.mem_of_getElem? (i := 616) (by decide +kernel))) rfl
theorem wm_614 : Cond.methodLink "DecimalRun$Parser" 43 ⟨"DecimalRun$Parser", "kind", "()I"⟩ ∈ lw_ws := lw_in (List.mem_append_right _ (List.mem_of_getElem? (i := 614) (by decide +kernel))) rfl
theorem wp_13 : Cond.selects "DecimalRun$Parser" ⟨"DecimalRun$Parser", "definition", "(I)V"⟩ ⟨"DecimalRun$Parser", "definition", "(I)V"⟩ ∈ lw_ws := lw_in (List.mem_append_left _ (List.mem_of_getElem? (i := 13) (by decide +kernel))) rfl
theorem wm_624 : Cond.instanceMethod ⟨"DecimalRun$Parser", "definition", "(I)V"⟩ ∈ lw_ws := lw_in (List.mem_append_right _ (List.mem_of_getElem? (i := 624) (by decide +kernel))) rfl
theorem wm_622 : Cond.methodLink "DecimalRun$Parser" 47 ⟨"DecimalRun$Parser", "definition", "(I)V"⟩ ∈ lw_ws := lw_in (List.mem_append_right _ (List.mem_of_getElem? (i := 622) (by decide +kernel))) rfl
theorem wp_18 : Cond.selects "DecimalRun$Parser" ⟨"DecimalRun$Parser", "statement", "(I)V"⟩ ⟨"DecimalRun$Parser", "statement", "(I)V"⟩ ∈ lw_ws := lw_in (List.mem_append_left _ (List.mem_of_getElem? (i := 18) (by decide +kernel))) rfl
theorem wm_661 : Cond.instanceMethod ⟨"DecimalRun$Parser", "statement", "(I)V"⟩ ∈ lw_ws := lw_in (List.mem_append_right _ (List.mem_of_getElem? (i := 661) (by decide +kernel))) rfl
theorem wm_659 : Cond.methodLink "DecimalRun$Parser" 51 ⟨"DecimalRun$Parser", "statement", "(I)V"⟩ ∈ lw_ws := lw_in (List.mem_append_right _ (List.mem_of_getElem? (i := 659) (by decide +kernel))) rfl
theorem wp_14 : Cond.selects "DecimalRun$Parser" ⟨"DecimalRun$Parser", "expect", "(I)V"⟩ ⟨"DecimalRun$Parser", "expect", "(I)V"⟩ ∈ lw_ws := lw_in (List.mem_append_left _ (List.mem_of_getElem? (i := 14) (by decide +kernel))) rfl
theorem wm_628 : Cond.instanceMethod ⟨"DecimalRun$Parser", "expect", "(I)V"⟩ ∈ lw_ws := lw_in (List.mem_append_right _ (List.mem_of_getElem? (i := 628) (by decide +kernel))) rfl
theorem wm_626 : Cond.methodLink "DecimalRun$Parser" 54 ⟨"DecimalRun$Parser", "expect", "(I)V"⟩ ∈ lw_ws := lw_in (List.mem_append_right _ (List.mem_of_getElem? (i := 626) (by decide +kernel))) rfl
theorem wp_12 : Cond.selects "DecimalRun$Parser" ⟨"DecimalRun$Parser", "advance", "()V"⟩ ⟨"DecimalRun$Parser", "advance", "()V"⟩ ∈ lw_ws := lw_in (List.mem_append_left _ (List.mem_of_getElem? (i := 12) (by decide +kernel))) rfl
theorem wm_620 : Cond.instanceMethod ⟨"DecimalRun$Parser", "advance", "()V"⟩ ∈ lw_ws := lw_in (List.mem_append_right _ (List.mem_of_getElem? (i := 620) (by decide +kernel))) rfl
theorem wm_618 : Cond.methodLink "DecimalRun$Parser" 101 ⟨"DecimalRun$Parser", "advance", "()V"⟩ ∈ lw_ws := lw_in (List.mem_append_right _ (List.mem_of_getElem? (i := 618) (by decide +kernel))) rfl
theorem wm_154 : Cond.fieldLink "DecimalRun$Parser" 9 "DecimalRun$Parser" "tokens" "LDecimalRun$Scanner;" ∈ lw_ws := lw_in (List.mem_append_right _ (List.mem_of_getElem? (i := 154) (by decide +kernel))) rfl
theorem wm_132 : Cond.fieldLinkNest "DecimalRun$Parser" 140 "DecimalRun$Scanner" "kinds" "[I" "DecimalRun" ∈ lw_ws := lw_in (List.mem_append_right _ (List.mem_of_getElem? (i := 132) (by decide +kernel))) rfl
theorem wm_136 : Cond.fieldLinkNest "DecimalRun$Parser" 144 "DecimalRun$Scanner" "count" "I" "DecimalRun" ∈ lw_ws := lw_in (List.mem_append_right _ (List.mem_of_getElem? (i := 136) (by decide +kernel))) rfl
theorem wp_15 : Cond.selects "DecimalRun$Parser" ⟨"DecimalRun$Parser", "expectName", "()I"⟩ ⟨"DecimalRun$Parser", "expectName", "()I"⟩ ∈ lw_ws := lw_in (List.mem_append_left _ (List.mem_of_getElem? (i := 15) (by decide +kernel))) rfl
theorem wm_633 : Cond.instanceMethod ⟨"DecimalRun$Parser", "expectName", "()I"⟩ ∈ lw_ws := lw_in (List.mem_append_right _ (List.mem_of_getElem? (i := 633) (by decide +kernel))) rfl
theorem wm_631 : Cond.methodLink "DecimalRun$Parser" 57 ⟨"DecimalRun$Parser", "expectName", "()I"⟩ ∈ lw_ws := lw_in (List.mem_append_right _ (List.mem_of_getElem? (i := 631) (by decide +kernel))) rfl
theorem wm_637 : Cond.selects "DecimalRun$Code" ⟨"DecimalRun$Code", "isFunction", "(I)Z"⟩ ⟨"DecimalRun$Code", "isFunction", "(I)Z"⟩ ∈ lw_ws := lw_in (List.mem_append_right _ (List.mem_of_getElem? (i := 637) (by decide +kernel))) rfl
theorem wm_636 : Cond.instanceMethod ⟨"DecimalRun$Code", "isFunction", "(I)Z"⟩ ∈ lw_ws := lw_in (List.mem_append_right _ (List.mem_of_getElem? (i := 636) (by decide +kernel))) rfl
theorem wm_635 : Cond.methodLink "DecimalRun$Parser" 60 ⟨"DecimalRun$Code", "isFunction", "(I)Z"⟩ ∈ lw_ws := lw_in (List.mem_append_right _ (List.mem_of_getElem? (i := 635) (by decide +kernel))) rfl
theorem wm_156 : Cond.fieldLink "DecimalRun$Parser" 19 "DecimalRun$Parser" "outcome" "LDecimalRun$Outcome;" ∈ lw_ws := lw_in (List.mem_append_right _ (List.mem_of_getElem? (i := 156) (by decide +kernel))) rfl
theorem wm_630 : Cond.methodLink "DecimalRun$Parser" 64 ⟨"DecimalRun$Outcome", "raise", "(I)V"⟩ ∈ lw_ws := lw_in (List.mem_append_right _ (List.mem_of_getElem? (i := 630) (by decide +kernel))) rfl
theorem wm_641 : Cond.selects "DecimalRun$Code" ⟨"DecimalRun$Code", "emit", "(IJ)I"⟩ ⟨"DecimalRun$Code", "emit", "(IJ)I"⟩ ∈ lw_ws := lw_in (List.mem_append_right _ (List.mem_of_getElem? (i := 641) (by decide +kernel))) rfl
theorem wm_640 : Cond.instanceMethod ⟨"DecimalRun$Code", "emit", "(IJ)I"⟩ ∈ lw_ws := lw_in (List.mem_append_right _ (List.mem_of_getElem? (i := 640) (by decide +kernel))) rfl
theorem wm_639 : Cond.methodLink "DecimalRun$Parser" 69 ⟨"DecimalRun$Code", "emit", "(IJ)I"⟩ ∈ lw_ws := lw_in (List.mem_append_right _ (List.mem_of_getElem? (i := 639) (by decide +kernel))) rfl
theorem wm_645 : Cond.selects "DecimalRun$Code" ⟨"DecimalRun$Code", "define", "(II)V"⟩ ⟨"DecimalRun$Code", "define", "(II)V"⟩ ∈ lw_ws := lw_in (List.mem_append_right _ (List.mem_of_getElem? (i := 645) (by decide +kernel))) rfl
theorem wm_644 : Cond.instanceMethod ⟨"DecimalRun$Code", "define", "(II)V"⟩ ∈ lw_ws := lw_in (List.mem_append_right _ (List.mem_of_getElem? (i := 644) (by decide +kernel))) rfl
theorem wm_643 : Cond.methodLink "DecimalRun$Parser" 73 ⟨"DecimalRun$Code", "define", "(II)V"⟩ ∈ lw_ws := lw_in (List.mem_append_right _ (List.mem_of_getElem? (i := 643) (by decide +kernel))) rfl
theorem wp_16 : Cond.selects "DecimalRun$Parser" ⟨"DecimalRun$Parser", "braces", "(I)V"⟩ ⟨"DecimalRun$Parser", "braces", "(I)V"⟩ ∈ lw_ws := lw_in (List.mem_append_left _ (List.mem_of_getElem? (i := 16) (by decide +kernel))) rfl
theorem wm_649 : Cond.instanceMethod ⟨"DecimalRun$Parser", "braces", "(I)V"⟩ ∈ lw_ws := lw_in (List.mem_append_right _ (List.mem_of_getElem? (i := 649) (by decide +kernel))) rfl
theorem wm_647 : Cond.methodLink "DecimalRun$Parser" 76 ⟨"DecimalRun$Parser", "braces", "(I)V"⟩ ∈ lw_ws := lw_in (List.mem_append_right _ (List.mem_of_getElem? (i := 647) (by decide +kernel))) rfl
theorem wm_657 : Cond.selects "DecimalRun$Code" ⟨"DecimalRun$Code", "land", "(I)V"⟩ ⟨"DecimalRun$Code", "land", "(I)V"⟩ ∈ lw_ws := lw_in (List.mem_append_right _ (List.mem_of_getElem? (i := 657) (by decide +kernel))) rfl
theorem wm_656 : Cond.instanceMethod ⟨"DecimalRun$Code", "land", "(I)V"⟩ ∈ lw_ws := lw_in (List.mem_append_right _ (List.mem_of_getElem? (i := 656) (by decide +kernel))) rfl
theorem wm_655 : Cond.methodLink "DecimalRun$Parser" 79 ⟨"DecimalRun$Code", "land", "(I)V"⟩ ∈ lw_ws := lw_in (List.mem_append_right _ (List.mem_of_getElem? (i := 655) (by decide +kernel))) rfl
theorem wm_134 : Cond.fieldLinkNest "DecimalRun$Parser" 113 "DecimalRun$Scanner" "values" "[J" "DecimalRun" ∈ lw_ws := lw_in (List.mem_append_right _ (List.mem_of_getElem? (i := 134) (by decide +kernel))) rfl
theorem wp_17 : Cond.selects "DecimalRun$Parser" ⟨"DecimalRun$Parser", "deeper", "(I)I"⟩ ⟨"DecimalRun$Parser", "deeper", "(I)I"⟩ ∈ lw_ws := lw_in (List.mem_append_left _ (List.mem_of_getElem? (i := 17) (by decide +kernel))) rfl
theorem wm_653 : Cond.instanceMethod ⟨"DecimalRun$Parser", "deeper", "(I)I"⟩ ∈ lw_ws := lw_in (List.mem_append_right _ (List.mem_of_getElem? (i := 653) (by decide +kernel))) rfl
theorem wm_651 : Cond.methodLink "DecimalRun$Parser" 82 ⟨"DecimalRun$Parser", "deeper", "(I)I"⟩ ∈ lw_ws := lw_in (List.mem_append_right _ (List.mem_of_getElem? (i := 651) (by decide +kernel))) rfl
theorem wp_19 : Cond.selects "DecimalRun$Parser" ⟨"DecimalRun$Parser", "conditional", "(I)V"⟩ ⟨"DecimalRun$Parser", "conditional", "(I)V"⟩ ∈ lw_ws := lw_in (List.mem_append_left _ (List.mem_of_getElem? (i := 19) (by decide +kernel))) rfl
theorem wm_665 : Cond.instanceMethod ⟨"DecimalRun$Parser", "conditional", "(I)V"⟩ ∈ lw_ws := lw_in (List.mem_append_right _ (List.mem_of_getElem? (i := 665) (by decide +kernel))) rfl
theorem wm_663 : Cond.methodLink "DecimalRun$Parser" 86 ⟨"DecimalRun$Parser", "conditional", "(I)V"⟩ ∈ lw_ws := lw_in (List.mem_append_right _ (List.mem_of_getElem? (i := 663) (by decide +kernel))) rfl
theorem wp_27 : Cond.selects "DecimalRun$Parser" ⟨"DecimalRun$Parser", "giveBack", "(I)V"⟩ ⟨"DecimalRun$Parser", "giveBack", "(I)V"⟩ ∈ lw_ws := lw_in (List.mem_append_left _ (List.mem_of_getElem? (i := 27) (by decide +kernel))) rfl
theorem wm_706 : Cond.instanceMethod ⟨"DecimalRun$Parser", "giveBack", "(I)V"⟩ ∈ lw_ws := lw_in (List.mem_append_right _ (List.mem_of_getElem? (i := 706) (by decide +kernel))) rfl
theorem wm_704 : Cond.methodLink "DecimalRun$Parser" 89 ⟨"DecimalRun$Parser", "giveBack", "(I)V"⟩ ∈ lw_ws := lw_in (List.mem_append_right _ (List.mem_of_getElem? (i := 704) (by decide +kernel))) rfl
theorem wp_28 : Cond.selects "DecimalRun$Parser" ⟨"DecimalRun$Parser", "following", "()I"⟩ ⟨"DecimalRun$Parser", "following", "()I"⟩ ∈ lw_ws := lw_in (List.mem_append_left _ (List.mem_of_getElem? (i := 28) (by decide +kernel))) rfl
theorem wm_710 : Cond.instanceMethod ⟨"DecimalRun$Parser", "following", "()I"⟩ ∈ lw_ws := lw_in (List.mem_append_right _ (List.mem_of_getElem? (i := 710) (by decide +kernel))) rfl
theorem wm_708 : Cond.methodLink "DecimalRun$Parser" 92 ⟨"DecimalRun$Parser", "following", "()I"⟩ ∈ lw_ws := lw_in (List.mem_append_right _ (List.mem_of_getElem? (i := 708) (by decide +kernel))) rfl
theorem wp_29 : Cond.selects "DecimalRun$Parser" ⟨"DecimalRun$Parser", "assignment", "(I)V"⟩ ⟨"DecimalRun$Parser", "assignment", "(I)V"⟩ ∈ lw_ws := lw_in (List.mem_append_left _ (List.mem_of_getElem? (i := 29) (by decide +kernel))) rfl
theorem wm_714 : Cond.instanceMethod ⟨"DecimalRun$Parser", "assignment", "(I)V"⟩ ∈ lw_ws := lw_in (List.mem_append_right _ (List.mem_of_getElem? (i := 714) (by decide +kernel))) rfl
theorem wm_712 : Cond.methodLink "DecimalRun$Parser" 95 ⟨"DecimalRun$Parser", "assignment", "(I)V"⟩ ∈ lw_ws := lw_in (List.mem_append_right _ (List.mem_of_getElem? (i := 712) (by decide +kernel))) rfl
theorem wp_21 : Cond.selects "DecimalRun$Parser" ⟨"DecimalRun$Parser", "expression", "(I)V"⟩ ⟨"DecimalRun$Parser", "expression", "(I)V"⟩ ∈ lw_ws := lw_in (List.mem_append_left _ (List.mem_of_getElem? (i := 21) (by decide +kernel))) rfl
theorem wm_673 : Cond.instanceMethod ⟨"DecimalRun$Parser", "expression", "(I)V"⟩ ∈ lw_ws := lw_in (List.mem_append_right _ (List.mem_of_getElem? (i := 673) (by decide +kernel))) rfl
theorem wm_671 : Cond.methodLink "DecimalRun$Parser" 98 ⟨"DecimalRun$Parser", "expression", "(I)V"⟩ ∈ lw_ws := lw_in (List.mem_append_right _ (List.mem_of_getElem? (i := 671) (by decide +kernel))) rfl
theorem wm_110 : Cond.fieldLinkNest "DecimalRun$Parser" 104 "DecimalRun$Code" "size" "I" "DecimalRun" ∈ lw_ws := lw_in (List.mem_append_right _ (List.mem_of_getElem? (i := 110) (by decide +kernel))) rfl
theorem wp_20 : Cond.selects "DecimalRun$Parser" ⟨"DecimalRun$Parser", "condition", "(I)V"⟩ ⟨"DecimalRun$Parser", "condition", "(I)V"⟩ ∈ lw_ws := lw_in (List.mem_append_left _ (List.mem_of_getElem? (i := 20) (by decide +kernel))) rfl
theorem wm_669 : Cond.instanceMethod ⟨"DecimalRun$Parser", "condition", "(I)V"⟩ ∈ lw_ws := lw_in (List.mem_append_right _ (List.mem_of_getElem? (i := 669) (by decide +kernel))) rfl
theorem wm_667 : Cond.methodLink "DecimalRun$Parser" 107 ⟨"DecimalRun$Parser", "condition", "(I)V"⟩ ∈ lw_ws := lw_in (List.mem_append_right _ (List.mem_of_getElem? (i := 667) (by decide +kernel))) rfl
theorem wm_702 : Cond.static ⟨"DecimalRun$Parser", "isRelation", "(I)Z"⟩ ∈ lw_ws := lw_in (List.mem_append_right _ (List.mem_of_getElem? (i := 702) (by decide +kernel))) rfl
theorem wm_701 : Cond.methodLink "DecimalRun$Parser" 110 ⟨"DecimalRun$Parser", "isRelation", "(I)Z"⟩ ∈ lw_ws := lw_in (List.mem_append_right _ (List.mem_of_getElem? (i := 701) (by decide +kernel))) rfl
theorem wp_22 : Cond.selects "DecimalRun$Parser" ⟨"DecimalRun$Parser", "term", "(I)V"⟩ ⟨"DecimalRun$Parser", "term", "(I)V"⟩ ∈ lw_ws := lw_in (List.mem_append_left _ (List.mem_of_getElem? (i := 22) (by decide +kernel))) rfl
theorem wm_677 : Cond.instanceMethod ⟨"DecimalRun$Parser", "term", "(I)V"⟩ ∈ lw_ws := lw_in (List.mem_append_right _ (List.mem_of_getElem? (i := 677) (by decide +kernel))) rfl
theorem wm_675 : Cond.methodLink "DecimalRun$Parser" 119 ⟨"DecimalRun$Parser", "term", "(I)V"⟩ ∈ lw_ws := lw_in (List.mem_append_right _ (List.mem_of_getElem? (i := 675) (by decide +kernel))) rfl
theorem wm_699 : Cond.static ⟨"DecimalRun$Parser", "isSign", "(I)Z"⟩ ∈ lw_ws := lw_in (List.mem_append_right _ (List.mem_of_getElem? (i := 699) (by decide +kernel))) rfl
theorem wm_698 : Cond.methodLink "DecimalRun$Parser" 122 ⟨"DecimalRun$Parser", "isSign", "(I)Z"⟩ ∈ lw_ws := lw_in (List.mem_append_right _ (List.mem_of_getElem? (i := 698) (by decide +kernel))) rfl
theorem wp_23 : Cond.selects "DecimalRun$Parser" ⟨"DecimalRun$Parser", "unary", "(I)V"⟩ ⟨"DecimalRun$Parser", "unary", "(I)V"⟩ ∈ lw_ws := lw_in (List.mem_append_left _ (List.mem_of_getElem? (i := 23) (by decide +kernel))) rfl
theorem wm_681 : Cond.instanceMethod ⟨"DecimalRun$Parser", "unary", "(I)V"⟩ ∈ lw_ws := lw_in (List.mem_append_right _ (List.mem_of_getElem? (i := 681) (by decide +kernel))) rfl
theorem wm_679 : Cond.methodLink "DecimalRun$Parser" 125 ⟨"DecimalRun$Parser", "unary", "(I)V"⟩ ∈ lw_ws := lw_in (List.mem_append_right _ (List.mem_of_getElem? (i := 679) (by decide +kernel))) rfl
theorem wm_696 : Cond.static ⟨"DecimalRun$Parser", "isFactorSign", "(I)Z"⟩ ∈ lw_ws := lw_in (List.mem_append_right _ (List.mem_of_getElem? (i := 696) (by decide +kernel))) rfl
theorem wm_695 : Cond.methodLink "DecimalRun$Parser" 128 ⟨"DecimalRun$Parser", "isFactorSign", "(I)Z"⟩ ∈ lw_ws := lw_in (List.mem_append_right _ (List.mem_of_getElem? (i := 695) (by decide +kernel))) rfl
theorem wp_24 : Cond.selects "DecimalRun$Parser" ⟨"DecimalRun$Parser", "power", "(I)V"⟩ ⟨"DecimalRun$Parser", "power", "(I)V"⟩ ∈ lw_ws := lw_in (List.mem_append_left _ (List.mem_of_getElem? (i := 24) (by decide +kernel))) rfl
theorem wm_685 : Cond.instanceMethod ⟨"DecimalRun$Parser", "power", "(I)V"⟩ ∈ lw_ws := lw_in (List.mem_append_right _ (List.mem_of_getElem? (i := 685) (by decide +kernel))) rfl
theorem wm_683 : Cond.methodLink "DecimalRun$Parser" 131 ⟨"DecimalRun$Parser", "power", "(I)V"⟩ ∈ lw_ws := lw_in (List.mem_append_right _ (List.mem_of_getElem? (i := 683) (by decide +kernel))) rfl
theorem wp_25 : Cond.selects "DecimalRun$Parser" ⟨"DecimalRun$Parser", "atom", "(I)V"⟩ ⟨"DecimalRun$Parser", "atom", "(I)V"⟩ ∈ lw_ws := lw_in (List.mem_append_left _ (List.mem_of_getElem? (i := 25) (by decide +kernel))) rfl
theorem wm_689 : Cond.instanceMethod ⟨"DecimalRun$Parser", "atom", "(I)V"⟩ ∈ lw_ws := lw_in (List.mem_append_right _ (List.mem_of_getElem? (i := 689) (by decide +kernel))) rfl
theorem wm_687 : Cond.methodLink "DecimalRun$Parser" 134 ⟨"DecimalRun$Parser", "atom", "(I)V"⟩ ∈ lw_ws := lw_in (List.mem_append_right _ (List.mem_of_getElem? (i := 687) (by decide +kernel))) rfl
theorem wp_26 : Cond.selects "DecimalRun$Parser" ⟨"DecimalRun$Parser", "parentheses", "(I)V"⟩ ⟨"DecimalRun$Parser", "parentheses", "(I)V"⟩ ∈ lw_ws := lw_in (List.mem_append_left _ (List.mem_of_getElem? (i := 26) (by decide +kernel))) rfl
theorem wm_693 : Cond.instanceMethod ⟨"DecimalRun$Parser", "parentheses", "(I)V"⟩ ∈ lw_ws := lw_in (List.mem_append_right _ (List.mem_of_getElem? (i := 693) (by decide +kernel))) rfl
theorem wm_691 : Cond.methodLink "DecimalRun$Parser" 137 ⟨"DecimalRun$Parser", "parentheses", "(I)V"⟩ ∈ lw_ws := lw_in (List.mem_append_right _ (List.mem_of_getElem? (i := 691) (by decide +kernel))) rfl
theorem wm_175 : Cond.methodLink "DecimalRun$Machine" 3 ⟨"java/lang/Object", "<init>", "()V"⟩ ∈ lw_ws := lw_in (List.mem_append_right _ (List.mem_of_getElem? (i := 175) (by decide +kernel))) rfl
theorem wm_176 : Cond.classLink "DecimalRun$Machine" 37 "DecimalRun$Arithmetic" ∈ lw_ws := lw_in (List.mem_append_right _ (List.mem_of_getElem? (i := 176) (by decide +kernel))) rfl
theorem wm_177 : Cond.instantiable "DecimalRun$Arithmetic" 2 ∈ lw_ws := lw_in (List.mem_append_right _ (List.mem_of_getElem? (i := 177) (by decide +kernel))) rfl
theorem wm_179 : Cond.instanceMethod ⟨"DecimalRun$Arithmetic", "<init>", "(LDecimalRun$Memory;LDecimalRun$Outcome;)V"⟩ ∈ lw_ws := lw_in (List.mem_append_right _ (List.mem_of_getElem? (i := 179) (by decide +kernel))) rfl
theorem wm_178 : Cond.methodLink "DecimalRun$Machine" 39 ⟨"DecimalRun$Arithmetic", "<init>", "(LDecimalRun$Memory;LDecimalRun$Outcome;)V"⟩ ∈ lw_ws := lw_in (List.mem_append_right _ (List.mem_of_getElem? (i := 178) (by decide +kernel))) rfl
theorem wm_194 : Cond.fieldLink "DecimalRun$Machine" 46 "DecimalRun$Machine" "top" "I" ∈ lw_ws := lw_in (List.mem_append_right _ (List.mem_of_getElem? (i := 194) (by decide +kernel))) rfl
theorem wm_195 : Cond.fieldLink "DecimalRun$Machine" 50 "DecimalRun$Machine" "place" "I" ∈ lw_ws := lw_in (List.mem_append_right _ (List.mem_of_getElem? (i := 195) (by decide +kernel))) rfl
theorem wm_199 : Cond.fieldLink "DecimalRun$Machine" 53 "DecimalRun$Machine" "calls" "I" ∈ lw_ws := lw_in (List.mem_append_right _ (List.mem_of_getElem? (i := 199) (by decide +kernel))) rfl
theorem wm_720 : Cond.constant "DecimalRun$Machine" 56 3603600 ∈ lw_ws := lw_in (List.mem_append_right _ (List.mem_of_getElem? (i := 720) (by decide +kernel))) rfl
theorem wm_189 : Cond.fieldLink "DecimalRun$Machine" 25 "DecimalRun$Machine" "code" "LDecimalRun$Code;" ∈ lw_ws := lw_in (List.mem_append_right _ (List.mem_of_getElem? (i := 189) (by decide +kernel))) rfl
theorem wm_109 : Cond.fieldLinkNest "DecimalRun$Machine" 57 "DecimalRun$Code" "size" "I" "DecimalRun" ∈ lw_ws := lw_in (List.mem_append_right _ (List.mem_of_getElem? (i := 109) (by decide +kernel))) rfl
theorem wm_101 : Cond.fieldLinkNest "DecimalRun$Machine" 62 "DecimalRun$Code" "operations" "[I" "DecimalRun" ∈ lw_ws := lw_in (List.mem_append_right _ (List.mem_of_getElem? (i := 101) (by decide +kernel))) rfl
theorem wm_103 : Cond.fieldLinkNest "DecimalRun$Machine" 65 "DecimalRun$Code" "operands" "[J" "DecimalRun" ∈ lw_ws := lw_in (List.mem_append_right _ (List.mem_of_getElem? (i := 103) (by decide +kernel))) rfl
theorem wp_30 : Cond.selects "DecimalRun$Machine" ⟨"DecimalRun$Machine", "perform", "(IJ)V"⟩ ⟨"DecimalRun$Machine", "perform", "(IJ)V"⟩ ∈ lw_ws := lw_in (List.mem_append_left _ (List.mem_of_getElem? (i := 30) (by decide +kernel))) rfl
theorem wm_723 : Cond.instanceMethod ⟨"DecimalRun$Machine", "perform", "(IJ)V"⟩ ∈ lw_ws := lw_in (List.mem_append_right _ (List.mem_of_getElem? (i := 723) (by decide +kernel))) rfl
theorem wm_721 : Cond.methodLink "DecimalRun$Machine" 68 ⟨"DecimalRun$Machine", "perform", "(IJ)V"⟩ ∈ lw_ws := lw_in (List.mem_append_right _ (List.mem_of_getElem? (i := 721) (by decide +kernel))) rfl
theorem wm_191 : Cond.fieldLink "DecimalRun$Machine" 33 "DecimalRun$Machine" "outcome" "LDecimalRun$Outcome;" ∈ lw_ws := lw_in (List.mem_append_right _ (List.mem_of_getElem? (i := 191) (by decide +kernel))) rfl
theorem wm_727 : Cond.selects "DecimalRun$Outcome" ⟨"DecimalRun$Outcome", "step", "()V"⟩ ⟨"DecimalRun$Outcome", "step", "()V"⟩ ∈ lw_ws := lw_in (List.mem_append_right _ (List.mem_of_getElem? (i := 727) (by decide +kernel))) rfl
theorem wm_726 : Cond.instanceMethod ⟨"DecimalRun$Outcome", "step", "()V"⟩ ∈ lw_ws := lw_in (List.mem_append_right _ (List.mem_of_getElem? (i := 726) (by decide +kernel))) rfl
theorem wm_725 : Cond.methodLink "DecimalRun$Machine" 72 ⟨"DecimalRun$Outcome", "step", "()V"⟩ ∈ lw_ws := lw_in (List.mem_append_right _ (List.mem_of_getElem? (i := 725) (by decide +kernel))) rfl
theorem wp_31 : Cond.selects "DecimalRun$Machine" ⟨"DecimalRun$Machine", "push", "(J)V"⟩ ⟨"DecimalRun$Machine", "push", "(J)V"⟩ ∈ lw_ws := lw_in (List.mem_append_left _ (List.mem_of_getElem? (i := 31) (by decide +kernel))) rfl
theorem wm_732 : Cond.instanceMethod ⟨"DecimalRun$Machine", "push", "(J)V"⟩ ∈ lw_ws := lw_in (List.mem_append_right _ (List.mem_of_getElem? (i := 732) (by decide +kernel))) rfl
theorem wm_730 : Cond.methodLink "DecimalRun$Machine" 77 ⟨"DecimalRun$Machine", "push", "(J)V"⟩ ∈ lw_ws := lw_in (List.mem_append_right _ (List.mem_of_getElem? (i := 730) (by decide +kernel))) rfl
theorem wm_190 : Cond.fieldLink "DecimalRun$Machine" 29 "DecimalRun$Machine" "memory" "LDecimalRun$Memory;" ∈ lw_ws := lw_in (List.mem_append_right _ (List.mem_of_getElem? (i := 190) (by decide +kernel))) rfl
theorem wm_56 : Cond.fieldLinkNest "DecimalRun$Machine" 81 "DecimalRun$Memory" "variables" "[J" "DecimalRun" ∈ lw_ws := lw_in (List.mem_append_right _ (List.mem_of_getElem? (i := 56) (by decide +kernel))) rfl
theorem wp_32 : Cond.selects "DecimalRun$Machine" ⟨"DecimalRun$Machine", "pop", "()J"⟩ ⟨"DecimalRun$Machine", "pop", "()J"⟩ ∈ lw_ws := lw_in (List.mem_append_left _ (List.mem_of_getElem? (i := 32) (by decide +kernel))) rfl
theorem wm_736 : Cond.instanceMethod ⟨"DecimalRun$Machine", "pop", "()J"⟩ ∈ lw_ws := lw_in (List.mem_append_right _ (List.mem_of_getElem? (i := 736) (by decide +kernel))) rfl
theorem wm_734 : Cond.methodLink "DecimalRun$Machine" 86 ⟨"DecimalRun$Machine", "pop", "()J"⟩ ∈ lw_ws := lw_in (List.mem_append_right _ (List.mem_of_getElem? (i := 734) (by decide +kernel))) rfl
theorem wm_59 : Cond.fieldLinkNest "DecimalRun$Machine" 90 "DecimalRun$Memory" "scale" "I" "DecimalRun" ∈ lw_ws := lw_in (List.mem_append_right _ (List.mem_of_getElem? (i := 59) (by decide +kernel))) rfl
theorem wm_738 : Cond.methodLink "DecimalRun$Machine" 93 ⟨"DecimalRun$Arithmetic", "pack", "(JI)J"⟩ ∈ lw_ws := lw_in (List.mem_append_right _ (List.mem_of_getElem? (i := 738) (by decide +kernel))) rfl
theorem wm_192 : Cond.fieldLink "DecimalRun$Machine" 42 "DecimalRun$Machine" "arithmetic" "LDecimalRun$Arithmetic;" ∈ lw_ws := lw_in (List.mem_append_right _ (List.mem_of_getElem? (i := 192) (by decide +kernel))) rfl
theorem wm_741 : Cond.selects "DecimalRun$Arithmetic" ⟨"DecimalRun$Arithmetic", "whole", "(JII)I"⟩ ⟨"DecimalRun$Arithmetic", "whole", "(JII)I"⟩ ∈ lw_ws := lw_in (List.mem_append_right _ (List.mem_of_getElem? (i := 741) (by decide +kernel))) rfl
theorem wm_740 : Cond.instanceMethod ⟨"DecimalRun$Arithmetic", "whole", "(JII)I"⟩ ∈ lw_ws := lw_in (List.mem_append_right _ (List.mem_of_getElem? (i := 740) (by decide +kernel))) rfl
theorem wm_739 : Cond.methodLink "DecimalRun$Machine" 97 ⟨"DecimalRun$Arithmetic", "whole", "(JII)I"⟩ ∈ lw_ws := lw_in (List.mem_append_right _ (List.mem_of_getElem? (i := 739) (by decide +kernel))) rfl
theorem wm_749 : Cond.static ⟨"DecimalRun$Arithmetic", "negated", "(J)J"⟩ ∈ lw_ws := lw_in (List.mem_append_right _ (List.mem_of_getElem? (i := 749) (by decide +kernel))) rfl
theorem wm_748 : Cond.methodLink "DecimalRun$Machine" 101 ⟨"DecimalRun$Arithmetic", "negated", "(J)J"⟩ ∈ lw_ws := lw_in (List.mem_append_right _ (List.mem_of_getElem? (i := 748) (by decide +kernel))) rfl
theorem wm_754 : Cond.selects "DecimalRun$Outcome" ⟨"DecimalRun$Outcome", "write", "(J)V"⟩ ⟨"DecimalRun$Outcome", "write", "(J)V"⟩ ∈ lw_ws := lw_in (List.mem_append_right _ (List.mem_of_getElem? (i := 754) (by decide +kernel))) rfl
theorem wm_753 : Cond.instanceMethod ⟨"DecimalRun$Outcome", "write", "(J)V"⟩ ∈ lw_ws := lw_in (List.mem_append_right _ (List.mem_of_getElem? (i := 753) (by decide +kernel))) rfl
theorem wm_752 : Cond.methodLink "DecimalRun$Machine" 105 ⟨"DecimalRun$Outcome", "write", "(J)V"⟩ ∈ lw_ws := lw_in (List.mem_append_right _ (List.mem_of_getElem? (i := 752) (by decide +kernel))) rfl
theorem wp_33 : Cond.selects "DecimalRun$Machine" ⟨"DecimalRun$Machine", "call", "(I)V"⟩ ⟨"DecimalRun$Machine", "call", "(I)V"⟩ ∈ lw_ws := lw_in (List.mem_append_left _ (List.mem_of_getElem? (i := 33) (by decide +kernel))) rfl
theorem wm_770 : Cond.instanceMethod ⟨"DecimalRun$Machine", "call", "(I)V"⟩ ∈ lw_ws := lw_in (List.mem_append_right _ (List.mem_of_getElem? (i := 770) (by decide +kernel))) rfl
theorem wm_768 : Cond.methodLink "DecimalRun$Machine" 108 ⟨"DecimalRun$Machine", "call", "(I)V"⟩ ∈ lw_ws := lw_in (List.mem_append_right _ (List.mem_of_getElem? (i := 768) (by decide +kernel))) rfl
theorem wp_34 : Cond.selects "DecimalRun$Machine" ⟨"DecimalRun$Machine", "giveBack", "()V"⟩ ⟨"DecimalRun$Machine", "giveBack", "()V"⟩ ∈ lw_ws := lw_in (List.mem_append_left _ (List.mem_of_getElem? (i := 34) (by decide +kernel))) rfl
theorem wm_776 : Cond.instanceMethod ⟨"DecimalRun$Machine", "giveBack", "()V"⟩ ∈ lw_ws := lw_in (List.mem_append_right _ (List.mem_of_getElem? (i := 776) (by decide +kernel))) rfl
theorem wm_774 : Cond.methodLink "DecimalRun$Machine" 112 ⟨"DecimalRun$Machine", "giveBack", "()V"⟩ ∈ lw_ws := lw_in (List.mem_append_right _ (List.mem_of_getElem? (i := 774) (by decide +kernel))) rfl
theorem wm_780 : Cond.selects "DecimalRun$Arithmetic" ⟨"DecimalRun$Arithmetic", "operate", "(IJJ)J"⟩ ⟨"DecimalRun$Arithmetic", "operate", "(IJJ)J"⟩ ∈ lw_ws := lw_in (List.mem_append_right _ (List.mem_of_getElem? (i := 780) (by decide +kernel))) rfl
theorem wm_779 : Cond.instanceMethod ⟨"DecimalRun$Arithmetic", "operate", "(IJJ)J"⟩ ∈ lw_ws := lw_in (List.mem_append_right _ (List.mem_of_getElem? (i := 779) (by decide +kernel))) rfl
theorem wm_778 : Cond.methodLink "DecimalRun$Machine" 115 ⟨"DecimalRun$Arithmetic", "operate", "(IJJ)J"⟩ ∈ lw_ws := lw_in (List.mem_append_right _ (List.mem_of_getElem? (i := 778) (by decide +kernel))) rfl
theorem wm_193 : Cond.fieldLink "DecimalRun$Machine" 9 "DecimalRun$Machine" "stack" "[J" ∈ lw_ws := lw_in (List.mem_append_right _ (List.mem_of_getElem? (i := 193) (by decide +kernel))) rfl
theorem wm_772 : Cond.methodLink "DecimalRun$Machine" 119 ⟨"DecimalRun$Code", "isFunction", "(I)Z"⟩ ∈ lw_ws := lw_in (List.mem_append_right _ (List.mem_of_getElem? (i := 772) (by decide +kernel))) rfl
theorem wm_773 : Cond.methodLink "DecimalRun$Machine" 123 ⟨"DecimalRun$Outcome", "raise", "(I)V"⟩ ∈ lw_ws := lw_in (List.mem_append_right _ (List.mem_of_getElem? (i := 773) (by decide +kernel))) rfl
theorem wm_107 : Cond.fieldLinkNest "DecimalRun$Machine" 126 "DecimalRun$Code" "parameters" "[I" "DecimalRun" ∈ lw_ws := lw_in (List.mem_append_right _ (List.mem_of_getElem? (i := 107) (by decide +kernel))) rfl
theorem wm_196 : Cond.fieldLink "DecimalRun$Machine" 15 "DecimalRun$Machine" "returns" "[I" ∈ lw_ws := lw_in (List.mem_append_right _ (List.mem_of_getElem? (i := 196) (by decide +kernel))) rfl
theorem wm_197 : Cond.fieldLink "DecimalRun$Machine" 19 "DecimalRun$Machine" "parameters" "[I" ∈ lw_ws := lw_in (List.mem_append_right _ (List.mem_of_getElem? (i := 197) (by decide +kernel))) rfl
theorem wm_198 : Cond.fieldLink "DecimalRun$Machine" 22 "DecimalRun$Machine" "before" "[J" ∈ lw_ws := lw_in (List.mem_append_right _ (List.mem_of_getElem? (i := 198) (by decide +kernel))) rfl
theorem wm_105 : Cond.fieldLinkNest "DecimalRun$Machine" 127 "DecimalRun$Code" "entries" "[I" "DecimalRun" ∈ lw_ws := lw_in (List.mem_append_right _ (List.mem_of_getElem? (i := 105) (by decide +kernel))) rfl
theorem wm_181 : Cond.methodLink "DecimalRun$Arithmetic" 3 ⟨"java/lang/Object", "<init>", "()V"⟩ ∈ lw_ws := lw_in (List.mem_append_right _ (List.mem_of_getElem? (i := 181) (by decide +kernel))) rfl
theorem wm_308 : Cond.constantLong "DecimalRun$Arithmetic" 19 7 ∈ lw_ws := lw_in (List.mem_append_right _ (List.mem_of_getElem? (i := 308) (by decide +kernel))) rfl
theorem wm_743 : Cond.fieldLink "DecimalRun$Arithmetic" 56 "DecimalRun$Arithmetic" "TEN_TO" "[J" ∈ lw_ws := lw_in (List.mem_append_right _ (List.mem_of_getElem? (i := 743) (by decide +kernel))) rfl
theorem wm_745 : Cond.methodLink "DecimalRun$Arithmetic" 25 ⟨"DecimalRun$Arithmetic", "places", "(J)I"⟩ ∈ lw_ws := lw_in (List.mem_append_right _ (List.mem_of_getElem? (i := 745) (by decide +kernel))) rfl
theorem wm_746 : Cond.methodLink "DecimalRun$Arithmetic" 21 ⟨"DecimalRun$Arithmetic", "mantissa", "(J)J"⟩ ∈ lw_ws := lw_in (List.mem_append_right _ (List.mem_of_getElem? (i := 746) (by decide +kernel))) rfl
theorem wm_183 : Cond.fieldLink "DecimalRun$Arithmetic" 15 "DecimalRun$Arithmetic" "outcome" "LDecimalRun$Outcome;" ∈ lw_ws := lw_in (List.mem_append_right _ (List.mem_of_getElem? (i := 183) (by decide +kernel))) rfl
theorem wm_747 : Cond.methodLink "DecimalRun$Arithmetic" 60 ⟨"DecimalRun$Outcome", "raise", "(I)V"⟩ ∈ lw_ws := lw_in (List.mem_append_right _ (List.mem_of_getElem? (i := 747) (by decide +kernel))) rfl
theorem wm_751 : Cond.methodLink "DecimalRun$Arithmetic" 29 ⟨"DecimalRun$Arithmetic", "pack", "(JI)J"⟩ ∈ lw_ws := lw_in (List.mem_append_right _ (List.mem_of_getElem? (i := 751) (by decide +kernel))) rfl
theorem wp_35 : Cond.selects "DecimalRun$Arithmetic" ⟨"DecimalRun$Arithmetic", "sum", "(JJ)J"⟩ ⟨"DecimalRun$Arithmetic", "sum", "(JJ)J"⟩ ∈ lw_ws := lw_in (List.mem_append_left _ (List.mem_of_getElem? (i := 35) (by decide +kernel))) rfl
theorem wm_784 : Cond.instanceMethod ⟨"DecimalRun$Arithmetic", "sum", "(JJ)J"⟩ ∈ lw_ws := lw_in (List.mem_append_right _ (List.mem_of_getElem? (i := 784) (by decide +kernel))) rfl
theorem wm_782 : Cond.methodLink "DecimalRun$Arithmetic" 33 ⟨"DecimalRun$Arithmetic", "sum", "(JJ)J"⟩ ∈ lw_ws := lw_in (List.mem_append_right _ (List.mem_of_getElem? (i := 782) (by decide +kernel))) rfl
theorem wm_796 : Cond.methodLink "DecimalRun$Arithmetic" 37 ⟨"DecimalRun$Arithmetic", "negated", "(J)J"⟩ ∈ lw_ws := lw_in (List.mem_append_right _ (List.mem_of_getElem? (i := 796) (by decide +kernel))) rfl
theorem wp_37 : Cond.selects "DecimalRun$Arithmetic" ⟨"DecimalRun$Arithmetic", "product", "(JJ)J"⟩ ⟨"DecimalRun$Arithmetic", "product", "(JJ)J"⟩ ∈ lw_ws := lw_in (List.mem_append_left _ (List.mem_of_getElem? (i := 37) (by decide +kernel))) rfl
theorem wm_799 : Cond.instanceMethod ⟨"DecimalRun$Arithmetic", "product", "(JJ)J"⟩ ∈ lw_ws := lw_in (List.mem_append_right _ (List.mem_of_getElem? (i := 799) (by decide +kernel))) rfl
theorem wm_797 : Cond.methodLink "DecimalRun$Arithmetic" 40 ⟨"DecimalRun$Arithmetic", "product", "(JJ)J"⟩ ∈ lw_ws := lw_in (List.mem_append_right _ (List.mem_of_getElem? (i := 797) (by decide +kernel))) rfl
theorem wp_38 : Cond.selects "DecimalRun$Arithmetic" ⟨"DecimalRun$Arithmetic", "quotient", "(JJ)J"⟩ ⟨"DecimalRun$Arithmetic", "quotient", "(JJ)J"⟩ ∈ lw_ws := lw_in (List.mem_append_left _ (List.mem_of_getElem? (i := 38) (by decide +kernel))) rfl
theorem wm_804 : Cond.instanceMethod ⟨"DecimalRun$Arithmetic", "quotient", "(JJ)J"⟩ ∈ lw_ws := lw_in (List.mem_append_right _ (List.mem_of_getElem? (i := 804) (by decide +kernel))) rfl
theorem wm_802 : Cond.methodLink "DecimalRun$Arithmetic" 43 ⟨"DecimalRun$Arithmetic", "quotient", "(JJ)J"⟩ ∈ lw_ws := lw_in (List.mem_append_right _ (List.mem_of_getElem? (i := 802) (by decide +kernel))) rfl
theorem wp_40 : Cond.selects "DecimalRun$Arithmetic" ⟨"DecimalRun$Arithmetic", "remainder", "(JJ)J"⟩ ⟨"DecimalRun$Arithmetic", "remainder", "(JJ)J"⟩ ∈ lw_ws := lw_in (List.mem_append_left _ (List.mem_of_getElem? (i := 40) (by decide +kernel))) rfl
theorem wm_812 : Cond.instanceMethod ⟨"DecimalRun$Arithmetic", "remainder", "(JJ)J"⟩ ∈ lw_ws := lw_in (List.mem_append_right _ (List.mem_of_getElem? (i := 812) (by decide +kernel))) rfl
theorem wm_810 : Cond.methodLink "DecimalRun$Arithmetic" 46 ⟨"DecimalRun$Arithmetic", "remainder", "(JJ)J"⟩ ∈ lw_ws := lw_in (List.mem_append_right _ (List.mem_of_getElem? (i := 810) (by decide +kernel))) rfl
theorem wp_41 : Cond.selects "DecimalRun$Arithmetic" ⟨"DecimalRun$Arithmetic", "power", "(JJ)J"⟩ ⟨"DecimalRun$Arithmetic", "power", "(JJ)J"⟩ ∈ lw_ws := lw_in (List.mem_append_left _ (List.mem_of_getElem? (i := 41) (by decide +kernel))) rfl
theorem wm_816 : Cond.instanceMethod ⟨"DecimalRun$Arithmetic", "power", "(JJ)J"⟩ ∈ lw_ws := lw_in (List.mem_append_right _ (List.mem_of_getElem? (i := 816) (by decide +kernel))) rfl
theorem wm_814 : Cond.methodLink "DecimalRun$Arithmetic" 49 ⟨"DecimalRun$Arithmetic", "power", "(JJ)J"⟩ ∈ lw_ws := lw_in (List.mem_append_right _ (List.mem_of_getElem? (i := 814) (by decide +kernel))) rfl
theorem wm_823 : Cond.static ⟨"DecimalRun$Arithmetic", "holds", "(IJJ)Z"⟩ ∈ lw_ws := lw_in (List.mem_append_right _ (List.mem_of_getElem? (i := 823) (by decide +kernel))) rfl
theorem wm_822 : Cond.methodLink "DecimalRun$Arithmetic" 52 ⟨"DecimalRun$Arithmetic", "holds", "(IJJ)Z"⟩ ∈ lw_ws := lw_in (List.mem_append_right _ (List.mem_of_getElem? (i := 822) (by decide +kernel))) rfl
theorem wm_786 : Cond.methodLink "DecimalRun$Arithmetic" 66 ⟨"java/lang/Math", "max", "(II)I"⟩ ∈ lw_ws := lw_in (List.mem_append_right _ (List.mem_of_getElem? (i := 786) (by decide +kernel))) rfl
theorem wm_788 : Cond.static ⟨"DecimalRun$Arithmetic", "aligned", "(JI)J"⟩ ∈ lw_ws := lw_in (List.mem_append_right _ (List.mem_of_getElem? (i := 788) (by decide +kernel))) rfl
theorem wm_787 : Cond.methodLink "DecimalRun$Arithmetic" 72 ⟨"DecimalRun$Arithmetic", "aligned", "(JI)J"⟩ ∈ lw_ws := lw_in (List.mem_append_right _ (List.mem_of_getElem? (i := 787) (by decide +kernel))) rfl
theorem wp_36 : Cond.selects "DecimalRun$Arithmetic" ⟨"DecimalRun$Arithmetic", "checked", "(JI)J"⟩ ⟨"DecimalRun$Arithmetic", "checked", "(JI)J"⟩ ∈ lw_ws := lw_in (List.mem_append_left _ (List.mem_of_getElem? (i := 36) (by decide +kernel))) rfl
theorem wm_792 : Cond.instanceMethod ⟨"DecimalRun$Arithmetic", "checked", "(JI)J"⟩ ∈ lw_ws := lw_in (List.mem_append_right _ (List.mem_of_getElem? (i := 792) (by decide +kernel))) rfl
theorem wm_790 : Cond.methodLink "DecimalRun$Arithmetic" 75 ⟨"DecimalRun$Arithmetic", "checked", "(JI)J"⟩ ∈ lw_ws := lw_in (List.mem_append_right _ (List.mem_of_getElem? (i := 790) (by decide +kernel))) rfl
theorem wm_794 : Cond.constantLong "DecimalRun$Arithmetic" 105 999999999 ∈ lw_ws := lw_in (List.mem_append_right _ (List.mem_of_getElem? (i := 794) (by decide +kernel))) rfl
theorem wm_795 : Cond.constantLong "DecimalRun$Arithmetic" 107 (-999999999) ∈ lw_ws := lw_in (List.mem_append_right _ (List.mem_of_getElem? (i := 795) (by decide +kernel))) rfl
theorem wm_182 : Cond.fieldLink "DecimalRun$Arithmetic" 9 "DecimalRun$Arithmetic" "memory" "LDecimalRun$Memory;" ∈ lw_ws := lw_in (List.mem_append_right _ (List.mem_of_getElem? (i := 182) (by decide +kernel))) rfl
theorem wm_60 : Cond.fieldLinkNest "DecimalRun$Arithmetic" 78 "DecimalRun$Memory" "scale" "I" "DecimalRun" ∈ lw_ws := lw_in (List.mem_append_right _ (List.mem_of_getElem? (i := 60) (by decide +kernel))) rfl
theorem wm_801 : Cond.methodLink "DecimalRun$Arithmetic" 84 ⟨"java/lang/Math", "min", "(II)I"⟩ ∈ lw_ws := lw_in (List.mem_append_right _ (List.mem_of_getElem? (i := 801) (by decide +kernel))) rfl
theorem wp_39 : Cond.selects "DecimalRun$Arithmetic" ⟨"DecimalRun$Arithmetic", "refuseZero", "(J)V"⟩ ⟨"DecimalRun$Arithmetic", "refuseZero", "(J)V"⟩ ∈ lw_ws := lw_in (List.mem_append_left _ (List.mem_of_getElem? (i := 39) (by decide +kernel))) rfl
theorem wm_808 : Cond.instanceMethod ⟨"DecimalRun$Arithmetic", "refuseZero", "(J)V"⟩ ∈ lw_ws := lw_in (List.mem_append_right _ (List.mem_of_getElem? (i := 808) (by decide +kernel))) rfl
theorem wm_806 : Cond.methodLink "DecimalRun$Arithmetic" 87 ⟨"DecimalRun$Arithmetic", "refuseZero", "(J)V"⟩ ∈ lw_ws := lw_in (List.mem_append_right _ (List.mem_of_getElem? (i := 806) (by decide +kernel))) rfl
theorem wm_818 : Cond.methodLink "DecimalRun$Arithmetic" 91 ⟨"DecimalRun$Arithmetic", "whole", "(JII)I"⟩ ∈ lw_ws := lw_in (List.mem_append_right _ (List.mem_of_getElem? (i := 818) (by decide +kernel))) rfl
theorem wm_820 : Cond.static ⟨"java/lang/Math", "abs", "(I)I"⟩ ∈ lw_ws := lw_in (List.mem_append_right _ (List.mem_of_getElem? (i := 820) (by decide +kernel))) rfl
theorem wm_819 : Cond.methodLink "DecimalRun$Arithmetic" 95 ⟨"java/lang/Math", "abs", "(I)I"⟩ ∈ lw_ws := lw_in (List.mem_append_right _ (List.mem_of_getElem? (i := 819) (by decide +kernel))) rfl
theorem wm_826 : Cond.static ⟨"java/lang/Long", "compare", "(JJ)I"⟩ ∈ lw_ws := lw_in (List.mem_append_right _ (List.mem_of_getElem? (i := 826) (by decide +kernel))) rfl
theorem wm_825 : Cond.methodLink "DecimalRun$Arithmetic" 99 ⟨"java/lang/Long", "compare", "(JJ)I"⟩ ∈ lw_ws := lw_in (List.mem_append_right _ (List.mem_of_getElem? (i := 825) (by decide +kernel))) rfl
theorem wm_833 : Cond.methodLink "DecimalRunModel" 1 ⟨"java/lang/Object", "<init>", "()V"⟩ ∈ lw_ws := lw_in (List.mem_append_right _ (List.mem_of_getElem? (i := 833) (by decide +kernel))) rfl
theorem wm_838 : Cond.fieldLink "DecimalRunModel" 76 "DecimalRunModel" "scale" "I" ∈ lw_ws := lw_in (List.mem_append_right _ (List.mem_of_getElem? (i := 838) (by decide +kernel))) rfl
theorem wm_835 : Cond.fieldLink "DecimalRunModel" 80 "DecimalRunModel" "length" "I" ∈ lw_ws := lw_in (List.mem_append_right _ (List.mem_of_getElem? (i := 835) (by decide +kernel))) rfl
theorem wm_834 : Cond.fieldLink "DecimalRunModel" 7 "DecimalRunModel" "text" "[I" ∈ lw_ws := lw_in (List.mem_append_right _ (List.mem_of_getElem? (i := 834) (by decide +kernel))) rfl
theorem wm_836 : Cond.fieldLink "DecimalRunModel" 13 "DecimalRunModel" "ms" "[I" ∈ lw_ws := lw_in (List.mem_append_right _ (List.mem_of_getElem? (i := 836) (by decide +kernel))) rfl
theorem wm_837 : Cond.fieldLink "DecimalRunModel" 16 "DecimalRunModel" "ds" "[I" ∈ lw_ws := lw_in (List.mem_append_right _ (List.mem_of_getElem? (i := 837) (by decide +kernel))) rfl
theorem wm_866 : Cond.fieldLink "DecimalRunModel" 241 "DecimalRunModel" "fuel" "I" ∈ lw_ws := lw_in (List.mem_append_right _ (List.mem_of_getElem? (i := 866) (by decide +kernel))) rfl
theorem wm_867 : Cond.fieldLink "DecimalRunModel" 238 "DecimalRunModel" "steps" "I" ∈ lw_ws := lw_in (List.mem_append_right _ (List.mem_of_getElem? (i := 867) (by decide +kernel))) rfl
theorem wm_871 : Cond.fieldLink "DecimalRunModel" 208 "DecimalRunModel" "written" "I" ∈ lw_ws := lw_in (List.mem_append_right _ (List.mem_of_getElem? (i := 871) (by decide +kernel))) rfl
theorem wm_868 : Cond.fieldLink "DecimalRunModel" 173 "DecimalRunModel" "fault" "I" ∈ lw_ws := lw_in (List.mem_append_right _ (List.mem_of_getElem? (i := 868) (by decide +kernel))) rfl
theorem wm_869 : Cond.fieldLink "DecimalRunModel" 254 "DecimalRunModel" "thrown" "I" ∈ lw_ws := lw_in (List.mem_append_right _ (List.mem_of_getElem? (i := 869) (by decide +kernel))) rfl
theorem wm_844 : Cond.fieldLink "DecimalRunModel" 98 "DecimalRunModel" "faulty" "Z" ∈ lw_ws := lw_in (List.mem_append_right _ (List.mem_of_getElem? (i := 844) (by decide +kernel))) rfl
theorem wp_42 : Cond.selects "DecimalRunModel" ⟨"DecimalRunModel", "split", "()V"⟩ ⟨"DecimalRunModel", "split", "()V"⟩ ∈ lw_ws := lw_in (List.mem_append_left _ (List.mem_of_getElem? (i := 42) (by decide +kernel))) rfl
theorem wm_977 : Cond.instanceMethod ⟨"DecimalRunModel", "split", "()V"⟩ ∈ lw_ws := lw_in (List.mem_append_right _ (List.mem_of_getElem? (i := 977) (by decide +kernel))) rfl
theorem wm_975 : Cond.methodLink "DecimalRunModel" 257 ⟨"DecimalRunModel", "split", "()V"⟩ ∈ lw_ws := lw_in (List.mem_append_right _ (List.mem_of_getElem? (i := 975) (by decide +kernel))) rfl
theorem wp_48 : Cond.selects "DecimalRunModel" ⟨"DecimalRunModel", "parse", "()V"⟩ ⟨"DecimalRunModel", "parse", "()V"⟩ ∈ lw_ws := lw_in (List.mem_append_left _ (List.mem_of_getElem? (i := 48) (by decide +kernel))) rfl
theorem wm_1007 : Cond.instanceMethod ⟨"DecimalRunModel", "parse", "()V"⟩ ∈ lw_ws := lw_in (List.mem_append_right _ (List.mem_of_getElem? (i := 1007) (by decide +kernel))) rfl
theorem wm_1005 : Cond.methodLink "DecimalRunModel" 260 ⟨"DecimalRunModel", "parse", "()V"⟩ ∈ lw_ws := lw_in (List.mem_append_right _ (List.mem_of_getElem? (i := 1005) (by decide +kernel))) rfl
theorem wm_864 : Cond.fieldLink "DecimalRunModel" 205 "DecimalRunModel" "height" "I" ∈ lw_ws := lw_in (List.mem_append_right _ (List.mem_of_getElem? (i := 864) (by decide +kernel))) rfl
theorem wm_865 : Cond.fieldLink "DecimalRunModel" 215 "DecimalRunModel" "frames" "I" ∈ lw_ws := lw_in (List.mem_append_right _ (List.mem_of_getElem? (i := 865) (by decide +kernel))) rfl
theorem wm_1057 : Cond.constant "DecimalRunModel" 263 100000000 ∈ lw_ws := lw_in (List.mem_append_right _ (List.mem_of_getElem? (i := 1057) (by decide +kernel))) rfl
theorem wp_61 : Cond.selects "DecimalRunModel" ⟨"DecimalRunModel", "act", "(I)I"⟩ ⟨"DecimalRunModel", "act", "(I)I"⟩ ∈ lw_ws := lw_in (List.mem_append_left _ (List.mem_of_getElem? (i := 61) (by decide +kernel))) rfl
theorem wm_1060 : Cond.instanceMethod ⟨"DecimalRunModel", "act", "(I)I"⟩ ∈ lw_ws := lw_in (List.mem_append_right _ (List.mem_of_getElem? (i := 1060) (by decide +kernel))) rfl
theorem wm_1058 : Cond.methodLink "DecimalRunModel" 264 ⟨"DecimalRunModel", "act", "(I)I"⟩ ∈ lw_ws := lw_in (List.mem_append_right _ (List.mem_of_getElem? (i := 1058) (by decide +kernel))) rfl
theorem wm_842 : Cond.fieldLink "DecimalRunModel" 83 "DecimalRunModel" "tokens" "I" ∈ lw_ws := lw_in (List.mem_append_right _ (List.mem_of_getElem? (i := 842) (by decide +kernel))) rfl
theorem wp_43 : Cond.selects "DecimalRunModel" ⟨"DecimalRunModel", "charAt", "(I)I"⟩ ⟨"DecimalRunModel", "charAt", "(I)I"⟩ ∈ lw_ws := lw_in (List.mem_append_left _ (List.mem_of_getElem? (i := 43) (by decide +kernel))) rfl
theorem wm_981 : Cond.instanceMethod ⟨"DecimalRunModel", "charAt", "(I)I"⟩ ∈ lw_ws := lw_in (List.mem_append_right _ (List.mem_of_getElem? (i := 981) (by decide +kernel))) rfl
theorem wm_979 : Cond.methodLink "DecimalRunModel" 86 ⟨"DecimalRunModel", "charAt", "(I)I"⟩ ∈ lw_ws := lw_in (List.mem_append_right _ (List.mem_of_getElem? (i := 979) (by decide +kernel))) rfl
theorem wm_984 : Cond.static ⟨"DecimalRunModel", "isDigit", "(I)Z"⟩ ∈ lw_ws := lw_in (List.mem_append_right _ (List.mem_of_getElem? (i := 984) (by decide +kernel))) rfl
theorem wm_983 : Cond.methodLink "DecimalRunModel" 90 ⟨"DecimalRunModel", "isDigit", "(I)Z"⟩ ∈ lw_ws := lw_in (List.mem_append_right _ (List.mem_of_getElem? (i := 983) (by decide +kernel))) rfl
theorem wp_44 : Cond.selects "DecimalRunModel" ⟨"DecimalRunModel", "numeral", "(I)I"⟩ ⟨"DecimalRunModel", "numeral", "(I)I"⟩ ∈ lw_ws := lw_in (List.mem_append_left _ (List.mem_of_getElem? (i := 44) (by decide +kernel))) rfl
theorem wm_988 : Cond.instanceMethod ⟨"DecimalRunModel", "numeral", "(I)I"⟩ ∈ lw_ws := lw_in (List.mem_append_right _ (List.mem_of_getElem? (i := 988) (by decide +kernel))) rfl
theorem wm_986 : Cond.methodLink "DecimalRunModel" 102 ⟨"DecimalRunModel", "numeral", "(I)I"⟩ ∈ lw_ws := lw_in (List.mem_append_right _ (List.mem_of_getElem? (i := 986) (by decide +kernel))) rfl
theorem wm_995 : Cond.static ⟨"DecimalRunModel", "isSmall", "(I)Z"⟩ ∈ lw_ws := lw_in (List.mem_append_right _ (List.mem_of_getElem? (i := 995) (by decide +kernel))) rfl
theorem wm_994 : Cond.methodLink "DecimalRunModel" 105 ⟨"DecimalRunModel", "isSmall", "(I)Z"⟩ ∈ lw_ws := lw_in (List.mem_append_right _ (List.mem_of_getElem? (i := 994) (by decide +kernel))) rfl
theorem wp_46 : Cond.selects "DecimalRunModel" ⟨"DecimalRunModel", "word", "(II)I"⟩ ⟨"DecimalRunModel", "word", "(II)I"⟩ ∈ lw_ws := lw_in (List.mem_append_left _ (List.mem_of_getElem? (i := 46) (by decide +kernel))) rfl
theorem wm_999 : Cond.instanceMethod ⟨"DecimalRunModel", "word", "(II)I"⟩ ∈ lw_ws := lw_in (List.mem_append_right _ (List.mem_of_getElem? (i := 999) (by decide +kernel))) rfl
theorem wm_997 : Cond.methodLink "DecimalRunModel" 108 ⟨"DecimalRunModel", "word", "(II)I"⟩ ∈ lw_ws := lw_in (List.mem_append_right _ (List.mem_of_getElem? (i := 997) (by decide +kernel))) rfl
theorem wp_45 : Cond.selects "DecimalRunModel" ⟨"DecimalRunModel", "token", "(III)V"⟩ ⟨"DecimalRunModel", "token", "(III)V"⟩ ∈ lw_ws := lw_in (List.mem_append_left _ (List.mem_of_getElem? (i := 45) (by decide +kernel))) rfl
theorem wm_992 : Cond.instanceMethod ⟨"DecimalRunModel", "token", "(III)V"⟩ ∈ lw_ws := lw_in (List.mem_append_right _ (List.mem_of_getElem? (i := 992) (by decide +kernel))) rfl
theorem wm_990 : Cond.methodLink "DecimalRunModel" 94 ⟨"DecimalRunModel", "token", "(III)V"⟩ ∈ lw_ws := lw_in (List.mem_append_right _ (List.mem_of_getElem? (i := 990) (by decide +kernel))) rfl
theorem wp_47 : Cond.selects "DecimalRunModel" ⟨"DecimalRunModel", "sign", "(I)I"⟩ ⟨"DecimalRunModel", "sign", "(I)I"⟩ ∈ lw_ws := lw_in (List.mem_append_left _ (List.mem_of_getElem? (i := 47) (by decide +kernel))) rfl
theorem wm_1003 : Cond.instanceMethod ⟨"DecimalRunModel", "sign", "(I)I"⟩ ∈ lw_ws := lw_in (List.mem_append_right _ (List.mem_of_getElem? (i := 1003) (by decide +kernel))) rfl
theorem wm_1001 : Cond.methodLink "DecimalRunModel" 112 ⟨"DecimalRunModel", "sign", "(I)I"⟩ ∈ lw_ws := lw_in (List.mem_append_right _ (List.mem_of_getElem? (i := 1001) (by decide +kernel))) rfl
theorem wm_839 : Cond.fieldLink "DecimalRunModel" 19 "DecimalRunModel" "kinds" "[I" ∈ lw_ws := lw_in (List.mem_append_right _ (List.mem_of_getElem? (i := 839) (by decide +kernel))) rfl
theorem wm_840 : Cond.fieldLink "DecimalRunModel" 22 "DecimalRunModel" "values" "[I" ∈ lw_ws := lw_in (List.mem_append_right _ (List.mem_of_getElem? (i := 840) (by decide +kernel))) rfl
theorem wm_841 : Cond.fieldLink "DecimalRunModel" 25 "DecimalRunModel" "places" "[I" ∈ lw_ws := lw_in (List.mem_append_right _ (List.mem_of_getElem? (i := 841) (by decide +kernel))) rfl
theorem wm_843 : Cond.fieldLink "DecimalRunModel" 121 "DecimalRunModel" "at" "I" ∈ lw_ws := lw_in (List.mem_append_right _ (List.mem_of_getElem? (i := 843) (by decide +kernel))) rfl
theorem wm_848 : Cond.fieldLink "DecimalRunModel" 118 "DecimalRunModel" "size" "I" ∈ lw_ws := lw_in (List.mem_append_right _ (List.mem_of_getElem? (i := 848) (by decide +kernel))) rfl
theorem wm_854 : Cond.fieldLink "DecimalRunModel" 115 "DecimalRunModel" "plans" "I" ∈ lw_ws := lw_in (List.mem_append_right _ (List.mem_of_getElem? (i := 854) (by decide +kernel))) rfl
theorem wm_855 : Cond.fieldLink "DecimalRunModel" 127 "DecimalRunModel" "depth" "I" ∈ lw_ws := lw_in (List.mem_append_right _ (List.mem_of_getElem? (i := 855) (by decide +kernel))) rfl
theorem wm_856 : Cond.fieldLink "DecimalRunModel" 130 "DecimalRunModel" "within" "Z" ∈ lw_ws := lw_in (List.mem_append_right _ (List.mem_of_getElem? (i := 856) (by decide +kernel))) rfl
theorem wm_849 : Cond.fieldLink "DecimalRunModel" 37 "DecimalRunModel" "starts" "[I" ∈ lw_ws := lw_in (List.mem_append_right _ (List.mem_of_getElem? (i := 849) (by decide +kernel))) rfl
theorem wp_49 : Cond.selects "DecimalRunModel" ⟨"DecimalRunModel", "push", "(III)V"⟩ ⟨"DecimalRunModel", "push", "(III)V"⟩ ∈ lw_ws := lw_in (List.mem_append_left _ (List.mem_of_getElem? (i := 49) (by decide +kernel))) rfl
theorem wm_1011 : Cond.instanceMethod ⟨"DecimalRunModel", "push", "(III)V"⟩ ∈ lw_ws := lw_in (List.mem_append_right _ (List.mem_of_getElem? (i := 1011) (by decide +kernel))) rfl
theorem wm_1009 : Cond.methodLink "DecimalRunModel" 133 ⟨"DecimalRunModel", "push", "(III)V"⟩ ∈ lw_ws := lw_in (List.mem_append_right _ (List.mem_of_getElem? (i := 1009) (by decide +kernel))) rfl
theorem wm_851 : Cond.fieldLink "DecimalRunModel" 43 "DecimalRunModel" "plan" "[I" ∈ lw_ws := lw_in (List.mem_append_right _ (List.mem_of_getElem? (i := 851) (by decide +kernel))) rfl
theorem wm_852 : Cond.fieldLink "DecimalRunModel" 46 "DecimalRunModel" "planX" "[I" ∈ lw_ws := lw_in (List.mem_append_right _ (List.mem_of_getElem? (i := 852) (by decide +kernel))) rfl
theorem wm_853 : Cond.fieldLink "DecimalRunModel" 49 "DecimalRunModel" "planY" "[I" ∈ lw_ws := lw_in (List.mem_append_right _ (List.mem_of_getElem? (i := 853) (by decide +kernel))) rfl
theorem wp_50 : Cond.selects "DecimalRunModel" ⟨"DecimalRunModel", "readList", "(I)V"⟩ ⟨"DecimalRunModel", "readList", "(I)V"⟩ ∈ lw_ws := lw_in (List.mem_append_left _ (List.mem_of_getElem? (i := 50) (by decide +kernel))) rfl
theorem wm_1015 : Cond.instanceMethod ⟨"DecimalRunModel", "readList", "(I)V"⟩ ∈ lw_ws := lw_in (List.mem_append_right _ (List.mem_of_getElem? (i := 1015) (by decide +kernel))) rfl
theorem wm_1013 : Cond.methodLink "DecimalRunModel" 136 ⟨"DecimalRunModel", "readList", "(I)V"⟩ ∈ lw_ws := lw_in (List.mem_append_right _ (List.mem_of_getElem? (i := 1013) (by decide +kernel))) rfl
theorem wp_57 : Cond.selects "DecimalRunModel" ⟨"DecimalRunModel", "readExpression", "(I)V"⟩ ⟨"DecimalRunModel", "readExpression", "(I)V"⟩ ∈ lw_ws := lw_in (List.mem_append_left _ (List.mem_of_getElem? (i := 57) (by decide +kernel))) rfl
theorem wm_1043 : Cond.instanceMethod ⟨"DecimalRunModel", "readExpression", "(I)V"⟩ ∈ lw_ws := lw_in (List.mem_append_right _ (List.mem_of_getElem? (i := 1043) (by decide +kernel))) rfl
theorem wm_1041 : Cond.methodLink "DecimalRunModel" 140 ⟨"DecimalRunModel", "readExpression", "(I)V"⟩ ∈ lw_ws := lw_in (List.mem_append_right _ (List.mem_of_getElem? (i := 1041) (by decide +kernel))) rfl
theorem wp_54 : Cond.selects "DecimalRunModel" ⟨"DecimalRunModel", "emit", "(III)V"⟩ ⟨"DecimalRunModel", "emit", "(III)V"⟩ ∈ lw_ws := lw_in (List.mem_append_left _ (List.mem_of_getElem? (i := 54) (by decide +kernel))) rfl
theorem wm_1031 : Cond.instanceMethod ⟨"DecimalRunModel", "emit", "(III)V"⟩ ∈ lw_ws := lw_in (List.mem_append_right _ (List.mem_of_getElem? (i := 1031) (by decide +kernel))) rfl
theorem wm_1029 : Cond.methodLink "DecimalRunModel" 143 ⟨"DecimalRunModel", "emit", "(III)V"⟩ ∈ lw_ws := lw_in (List.mem_append_right _ (List.mem_of_getElem? (i := 1029) (by decide +kernel))) rfl
theorem wp_60 : Cond.selects "DecimalRunModel" ⟨"DecimalRunModel", "readRest", "(III)V"⟩ ⟨"DecimalRunModel", "readRest", "(III)V"⟩ ∈ lw_ws := lw_in (List.mem_append_left _ (List.mem_of_getElem? (i := 60) (by decide +kernel))) rfl
theorem wm_1055 : Cond.instanceMethod ⟨"DecimalRunModel", "readRest", "(III)V"⟩ ∈ lw_ws := lw_in (List.mem_append_right _ (List.mem_of_getElem? (i := 1055) (by decide +kernel))) rfl
theorem wm_1053 : Cond.methodLink "DecimalRunModel" 146 ⟨"DecimalRunModel", "readRest", "(III)V"⟩ ∈ lw_ws := lw_in (List.mem_append_right _ (List.mem_of_getElem? (i := 1053) (by decide +kernel))) rfl
theorem wp_51 : Cond.selects "DecimalRunModel" ⟨"DecimalRunModel", "statement", "()V"⟩ ⟨"DecimalRunModel", "statement", "()V"⟩ ∈ lw_ws := lw_in (List.mem_append_left _ (List.mem_of_getElem? (i := 51) (by decide +kernel))) rfl
theorem wm_1019 : Cond.instanceMethod ⟨"DecimalRunModel", "statement", "()V"⟩ ∈ lw_ws := lw_in (List.mem_append_right _ (List.mem_of_getElem? (i := 1019) (by decide +kernel))) rfl
theorem wm_1017 : Cond.methodLink "DecimalRunModel" 149 ⟨"DecimalRunModel", "statement", "()V"⟩ ∈ lw_ws := lw_in (List.mem_append_right _ (List.mem_of_getElem? (i := 1017) (by decide +kernel))) rfl
theorem wp_55 : Cond.selects "DecimalRunModel" ⟨"DecimalRunModel", "expect", "(I)V"⟩ ⟨"DecimalRunModel", "expect", "(I)V"⟩ ∈ lw_ws := lw_in (List.mem_append_left _ (List.mem_of_getElem? (i := 55) (by decide +kernel))) rfl
theorem wm_1035 : Cond.instanceMethod ⟨"DecimalRunModel", "expect", "(I)V"⟩ ∈ lw_ws := lw_in (List.mem_append_right _ (List.mem_of_getElem? (i := 1035) (by decide +kernel))) rfl
theorem wm_1033 : Cond.methodLink "DecimalRunModel" 152 ⟨"DecimalRunModel", "expect", "(I)V"⟩ ∈ lw_ws := lw_in (List.mem_append_right _ (List.mem_of_getElem? (i := 1033) (by decide +kernel))) rfl
theorem wp_52 : Cond.selects "DecimalRunModel" ⟨"DecimalRunModel", "accept", "(I)Z"⟩ ⟨"DecimalRunModel", "accept", "(I)Z"⟩ ∈ lw_ws := lw_in (List.mem_append_left _ (List.mem_of_getElem? (i := 52) (by decide +kernel))) rfl
theorem wm_1023 : Cond.instanceMethod ⟨"DecimalRunModel", "accept", "(I)Z"⟩ ∈ lw_ws := lw_in (List.mem_append_right _ (List.mem_of_getElem? (i := 1023) (by decide +kernel))) rfl
theorem wm_1021 : Cond.methodLink "DecimalRunModel" 124 ⟨"DecimalRunModel", "accept", "(I)Z"⟩ ∈ lw_ws := lw_in (List.mem_append_right _ (List.mem_of_getElem? (i := 1021) (by decide +kernel))) rfl
theorem wp_56 : Cond.selects "DecimalRunModel" ⟨"DecimalRunModel", "define", "()V"⟩ ⟨"DecimalRunModel", "define", "()V"⟩ ∈ lw_ws := lw_in (List.mem_append_left _ (List.mem_of_getElem? (i := 56) (by decide +kernel))) rfl
theorem wm_1039 : Cond.instanceMethod ⟨"DecimalRunModel", "define", "()V"⟩ ∈ lw_ws := lw_in (List.mem_append_right _ (List.mem_of_getElem? (i := 1039) (by decide +kernel))) rfl
theorem wm_1037 : Cond.methodLink "DecimalRunModel" 155 ⟨"DecimalRunModel", "define", "()V"⟩ ∈ lw_ws := lw_in (List.mem_append_right _ (List.mem_of_getElem? (i := 1037) (by decide +kernel))) rfl
theorem wp_53 : Cond.selects "DecimalRunModel" ⟨"DecimalRunModel", "deeper", "()V"⟩ ⟨"DecimalRunModel", "deeper", "()V"⟩ ∈ lw_ws := lw_in (List.mem_append_left _ (List.mem_of_getElem? (i := 53) (by decide +kernel))) rfl
theorem wm_1027 : Cond.instanceMethod ⟨"DecimalRunModel", "deeper", "()V"⟩ ∈ lw_ws := lw_in (List.mem_append_right _ (List.mem_of_getElem? (i := 1027) (by decide +kernel))) rfl
theorem wm_1025 : Cond.methodLink "DecimalRunModel" 158 ⟨"DecimalRunModel", "deeper", "()V"⟩ ∈ lw_ws := lw_in (List.mem_append_right _ (List.mem_of_getElem? (i := 1025) (by decide +kernel))) rfl
theorem wm_845 : Cond.fieldLink "DecimalRunModel" 28 "DecimalRunModel" "ops" "[I" ∈ lw_ws := lw_in (List.mem_append_right _ (List.mem_of_getElem? (i := 845) (by decide +kernel))) rfl
theorem wm_846 : Cond.fieldLink "DecimalRunModel" 31 "DecimalRunModel" "xs" "[I" ∈ lw_ws := lw_in (List.mem_append_right _ (List.mem_of_getElem? (i := 846) (by decide +kernel))) rfl
theorem wm_847 : Cond.fieldLink "DecimalRunModel" 34 "DecimalRunModel" "ys" "[I" ∈ lw_ws := lw_in (List.mem_append_right _ (List.mem_of_getElem? (i := 847) (by decide +kernel))) rfl
theorem wm_850 : Cond.fieldLink "DecimalRunModel" 40 "DecimalRunModel" "parameters" "[I" ∈ lw_ws := lw_in (List.mem_append_right _ (List.mem_of_getElem? (i := 850) (by decide +kernel))) rfl
theorem wp_58 : Cond.selects "DecimalRunModel" ⟨"DecimalRunModel", "more", "(III)V"⟩ ⟨"DecimalRunModel", "more", "(III)V"⟩ ∈ lw_ws := lw_in (List.mem_append_left _ (List.mem_of_getElem? (i := 58) (by decide +kernel))) rfl
theorem wm_1047 : Cond.instanceMethod ⟨"DecimalRunModel", "more", "(III)V"⟩ ∈ lw_ws := lw_in (List.mem_append_right _ (List.mem_of_getElem? (i := 1047) (by decide +kernel))) rfl
theorem wm_1045 : Cond.methodLink "DecimalRunModel" 161 ⟨"DecimalRunModel", "more", "(III)V"⟩ ∈ lw_ws := lw_in (List.mem_append_right _ (List.mem_of_getElem? (i := 1045) (by decide +kernel))) rfl
theorem wp_59 : Cond.selects "DecimalRunModel" ⟨"DecimalRunModel", "primary", "(I)V"⟩ ⟨"DecimalRunModel", "primary", "(I)V"⟩ ∈ lw_ws := lw_in (List.mem_append_left _ (List.mem_of_getElem? (i := 59) (by decide +kernel))) rfl
theorem wm_1051 : Cond.instanceMethod ⟨"DecimalRunModel", "primary", "(I)V"⟩ ∈ lw_ws := lw_in (List.mem_append_right _ (List.mem_of_getElem? (i := 1051) (by decide +kernel))) rfl
theorem wm_1049 : Cond.methodLink "DecimalRunModel" 164 ⟨"DecimalRunModel", "primary", "(I)V"⟩ ∈ lw_ws := lw_in (List.mem_append_right _ (List.mem_of_getElem? (i := 1049) (by decide +kernel))) rfl
theorem wm_857 : Cond.fieldLink "DecimalRunModel" 52 "DecimalRunModel" "stackM" "[I" ∈ lw_ws := lw_in (List.mem_append_right _ (List.mem_of_getElem? (i := 857) (by decide +kernel))) rfl
theorem wm_858 : Cond.fieldLink "DecimalRunModel" 55 "DecimalRunModel" "stackD" "[I" ∈ lw_ws := lw_in (List.mem_append_right _ (List.mem_of_getElem? (i := 858) (by decide +kernel))) rfl
theorem wp_62 : Cond.selects "DecimalRunModel" ⟨"DecimalRunModel", "pushValue", "(II)V"⟩ ⟨"DecimalRunModel", "pushValue", "(II)V"⟩ ∈ lw_ws := lw_in (List.mem_append_left _ (List.mem_of_getElem? (i := 62) (by decide +kernel))) rfl
theorem wm_1064 : Cond.instanceMethod ⟨"DecimalRunModel", "pushValue", "(II)V"⟩ ∈ lw_ws := lw_in (List.mem_append_right _ (List.mem_of_getElem? (i := 1064) (by decide +kernel))) rfl
theorem wm_1062 : Cond.methodLink "DecimalRunModel" 218 ⟨"DecimalRunModel", "pushValue", "(II)V"⟩ ∈ lw_ws := lw_in (List.mem_append_right _ (List.mem_of_getElem? (i := 1062) (by decide +kernel))) rfl
theorem wp_63 : Cond.selects "DecimalRunModel" ⟨"DecimalRunModel", "operate", "(IIIII)Z"⟩ ⟨"DecimalRunModel", "operate", "(IIIII)Z"⟩ ∈ lw_ws := lw_in (List.mem_append_left _ (List.mem_of_getElem? (i := 63) (by decide +kernel))) rfl
theorem wm_1068 : Cond.instanceMethod ⟨"DecimalRunModel", "operate", "(IIIII)Z"⟩ ∈ lw_ws := lw_in (List.mem_append_right _ (List.mem_of_getElem? (i := 1068) (by decide +kernel))) rfl
theorem wm_1066 : Cond.methodLink "DecimalRunModel" 223 ⟨"DecimalRunModel", "operate", "(IIIII)Z"⟩ ∈ lw_ws := lw_in (List.mem_append_right _ (List.mem_of_getElem? (i := 1066) (by decide +kernel))) rfl
theorem wm_872 : Cond.fieldLink "DecimalRunModel" 176 "DecimalRunModel" "resultM" "I" ∈ lw_ws := lw_in (List.mem_append_right _ (List.mem_of_getElem? (i := 872) (by decide +kernel))) rfl
theorem wm_873 : Cond.fieldLink "DecimalRunModel" 179 "DecimalRunModel" "resultD" "I" ∈ lw_ws := lw_in (List.mem_append_right _ (List.mem_of_getElem? (i := 873) (by decide +kernel))) rfl
theorem wp_68 : Cond.selects "DecimalRunModel" ⟨"DecimalRunModel", "call", "(II)I"⟩ ⟨"DecimalRunModel", "call", "(II)I"⟩ ∈ lw_ws := lw_in (List.mem_append_left _ (List.mem_of_getElem? (i := 68) (by decide +kernel))) rfl
theorem wm_1096 : Cond.instanceMethod ⟨"DecimalRunModel", "call", "(II)I"⟩ ∈ lw_ws := lw_in (List.mem_append_right _ (List.mem_of_getElem? (i := 1096) (by decide +kernel))) rfl
theorem wm_1094 : Cond.methodLink "DecimalRunModel" 227 ⟨"DecimalRunModel", "call", "(II)I"⟩ ∈ lw_ws := lw_in (List.mem_append_right _ (List.mem_of_getElem? (i := 1094) (by decide +kernel))) rfl
theorem wm_1071 : Cond.static ⟨"DecimalRunModel", "ten", "(I)J"⟩ ∈ lw_ws := lw_in (List.mem_append_right _ (List.mem_of_getElem? (i := 1071) (by decide +kernel))) rfl
theorem wm_1070 : Cond.methodLink "DecimalRunModel" 182 ⟨"DecimalRunModel", "ten", "(I)J"⟩ ∈ lw_ws := lw_in (List.mem_append_right _ (List.mem_of_getElem? (i := 1070) (by decide +kernel))) rfl
theorem wm_1099 : Cond.static ⟨"DecimalRunModel", "holds", "(IJJ)Z"⟩ ∈ lw_ws := lw_in (List.mem_append_right _ (List.mem_of_getElem? (i := 1099) (by decide +kernel))) rfl
theorem wm_1098 : Cond.methodLink "DecimalRunModel" 230 ⟨"DecimalRunModel", "holds", "(IJJ)Z"⟩ ∈ lw_ws := lw_in (List.mem_append_right _ (List.mem_of_getElem? (i := 1098) (by decide +kernel))) rfl
theorem wp_69 : Cond.selects "DecimalRunModel" ⟨"DecimalRunModel", "finish", "(IIII)I"⟩ ⟨"DecimalRunModel", "finish", "(IIII)I"⟩ ∈ lw_ws := lw_in (List.mem_append_left _ (List.mem_of_getElem? (i := 69) (by decide +kernel))) rfl
theorem wm_1103 : Cond.instanceMethod ⟨"DecimalRunModel", "finish", "(IIII)I"⟩ ∈ lw_ws := lw_in (List.mem_append_right _ (List.mem_of_getElem? (i := 1103) (by decide +kernel))) rfl
theorem wm_1101 : Cond.methodLink "DecimalRunModel" 234 ⟨"DecimalRunModel", "finish", "(IIII)I"⟩ ∈ lw_ws := lw_in (List.mem_append_right _ (List.mem_of_getElem? (i := 1101) (by decide +kernel))) rfl
theorem wp_64 : Cond.selects "DecimalRunModel" ⟨"DecimalRunModel", "result", "(JI)Z"⟩ ⟨"DecimalRunModel", "result", "(JI)Z"⟩ ∈ lw_ws := lw_in (List.mem_append_left _ (List.mem_of_getElem? (i := 64) (by decide +kernel))) rfl
theorem wm_1076 : Cond.instanceMethod ⟨"DecimalRunModel", "result", "(JI)Z"⟩ ∈ lw_ws := lw_in (List.mem_append_right _ (List.mem_of_getElem? (i := 1076) (by decide +kernel))) rfl
theorem wm_1074 : Cond.methodLink "DecimalRunModel" 186 ⟨"DecimalRunModel", "result", "(JI)Z"⟩ ∈ lw_ws := lw_in (List.mem_append_right _ (List.mem_of_getElem? (i := 1074) (by decide +kernel))) rfl
theorem wp_65 : Cond.selects "DecimalRunModel" ⟨"DecimalRunModel", "multiply", "(JIJI)Z"⟩ ⟨"DecimalRunModel", "multiply", "(JIJI)Z"⟩ ∈ lw_ws := lw_in (List.mem_append_left _ (List.mem_of_getElem? (i := 65) (by decide +kernel))) rfl
theorem wm_1082 : Cond.instanceMethod ⟨"DecimalRunModel", "multiply", "(JIJI)Z"⟩ ∈ lw_ws := lw_in (List.mem_append_right _ (List.mem_of_getElem? (i := 1082) (by decide +kernel))) rfl
theorem wm_1080 : Cond.methodLink "DecimalRunModel" 194 ⟨"DecimalRunModel", "multiply", "(JIJI)Z"⟩ ∈ lw_ws := lw_in (List.mem_append_right _ (List.mem_of_getElem? (i := 1080) (by decide +kernel))) rfl
theorem wp_66 : Cond.selects "DecimalRunModel" ⟨"DecimalRunModel", "divide", "(JIJI)Z"⟩ ⟨"DecimalRunModel", "divide", "(JIJI)Z"⟩ ∈ lw_ws := lw_in (List.mem_append_left _ (List.mem_of_getElem? (i := 66) (by decide +kernel))) rfl
theorem wm_1086 : Cond.instanceMethod ⟨"DecimalRunModel", "divide", "(JIJI)Z"⟩ ∈ lw_ws := lw_in (List.mem_append_right _ (List.mem_of_getElem? (i := 1086) (by decide +kernel))) rfl
theorem wm_1084 : Cond.methodLink "DecimalRunModel" 198 ⟨"DecimalRunModel", "divide", "(JIJI)Z"⟩ ∈ lw_ws := lw_in (List.mem_append_right _ (List.mem_of_getElem? (i := 1084) (by decide +kernel))) rfl
theorem wp_67 : Cond.selects "DecimalRunModel" ⟨"DecimalRunModel", "power", "(IIII)Z"⟩ ⟨"DecimalRunModel", "power", "(IIII)Z"⟩ ∈ lw_ws := lw_in (List.mem_append_left _ (List.mem_of_getElem? (i := 67) (by decide +kernel))) rfl
theorem wm_1090 : Cond.instanceMethod ⟨"DecimalRunModel", "power", "(IIII)Z"⟩ ∈ lw_ws := lw_in (List.mem_append_right _ (List.mem_of_getElem? (i := 1090) (by decide +kernel))) rfl
theorem wm_1088 : Cond.methodLink "DecimalRunModel" 201 ⟨"DecimalRunModel", "power", "(IIII)Z"⟩ ∈ lw_ws := lw_in (List.mem_append_right _ (List.mem_of_getElem? (i := 1088) (by decide +kernel))) rfl
theorem wm_1073 : Cond.constantLong "DecimalRunModel" 167 10 ∈ lw_ws := lw_in (List.mem_append_right _ (List.mem_of_getElem? (i := 1073) (by decide +kernel))) rfl
theorem wm_1078 : Cond.constantLong "DecimalRunModel" 169 (-999999999) ∈ lw_ws := lw_in (List.mem_append_right _ (List.mem_of_getElem? (i := 1078) (by decide +kernel))) rfl
theorem wm_1079 : Cond.constantLong "DecimalRunModel" 171 999999999 ∈ lw_ws := lw_in (List.mem_append_right _ (List.mem_of_getElem? (i := 1079) (by decide +kernel))) rfl
theorem wm_1092 : Cond.constantLong "DecimalRunModel" 190 (-99) ∈ lw_ws := lw_in (List.mem_append_right _ (List.mem_of_getElem? (i := 1092) (by decide +kernel))) rfl
theorem wm_1093 : Cond.constantLong "DecimalRunModel" 192 99 ∈ lw_ws := lw_in (List.mem_append_right _ (List.mem_of_getElem? (i := 1093) (by decide +kernel))) rfl
theorem wm_859 : Cond.fieldLink "DecimalRunModel" 58 "DecimalRunModel" "frameBack" "[I" ∈ lw_ws := lw_in (List.mem_append_right _ (List.mem_of_getElem? (i := 859) (by decide +kernel))) rfl
theorem wm_860 : Cond.fieldLink "DecimalRunModel" 61 "DecimalRunModel" "frameStack" "[I" ∈ lw_ws := lw_in (List.mem_append_right _ (List.mem_of_getElem? (i := 860) (by decide +kernel))) rfl
theorem wm_861 : Cond.fieldLink "DecimalRunModel" 64 "DecimalRunModel" "frameName" "[I" ∈ lw_ws := lw_in (List.mem_append_right _ (List.mem_of_getElem? (i := 861) (by decide +kernel))) rfl
theorem wm_862 : Cond.fieldLink "DecimalRunModel" 67 "DecimalRunModel" "frameM" "[I" ∈ lw_ws := lw_in (List.mem_append_right _ (List.mem_of_getElem? (i := 862) (by decide +kernel))) rfl
theorem wm_863 : Cond.fieldLink "DecimalRunModel" 70 "DecimalRunModel" "frameD" "[I" ∈ lw_ws := lw_in (List.mem_append_right _ (List.mem_of_getElem? (i := 863) (by decide +kernel))) rfl
theorem wp_70 : Cond.selects "DecimalRunModel" ⟨"DecimalRunModel", "setScale", "(II)Z"⟩ ⟨"DecimalRunModel", "setScale", "(II)Z"⟩ ∈ lw_ws := lw_in (List.mem_append_left _ (List.mem_of_getElem? (i := 70) (by decide +kernel))) rfl
theorem wm_1107 : Cond.instanceMethod ⟨"DecimalRunModel", "setScale", "(II)Z"⟩ ∈ lw_ws := lw_in (List.mem_append_right _ (List.mem_of_getElem? (i := 1107) (by decide +kernel))) rfl
theorem wm_1105 : Cond.methodLink "DecimalRunModel" 244 ⟨"DecimalRunModel", "setScale", "(II)Z"⟩ ∈ lw_ws := lw_in (List.mem_append_right _ (List.mem_of_getElem? (i := 1105) (by decide +kernel))) rfl
theorem wp_71 : Cond.selects "DecimalRunModel" ⟨"DecimalRunModel", "write", "(II)Z"⟩ ⟨"DecimalRunModel", "write", "(II)Z"⟩ ∈ lw_ws := lw_in (List.mem_append_left _ (List.mem_of_getElem? (i := 71) (by decide +kernel))) rfl
theorem wm_1112 : Cond.instanceMethod ⟨"DecimalRunModel", "write", "(II)Z"⟩ ∈ lw_ws := lw_in (List.mem_append_right _ (List.mem_of_getElem? (i := 1112) (by decide +kernel))) rfl
theorem wm_1110 : Cond.methodLink "DecimalRunModel" 248 ⟨"DecimalRunModel", "write", "(II)Z"⟩ ∈ lw_ws := lw_in (List.mem_append_right _ (List.mem_of_getElem? (i := 1110) (by decide +kernel))) rfl
theorem wp_73 : Cond.selects "DecimalRunModel" ⟨"DecimalRunModel", "back", "(II)I"⟩ ⟨"DecimalRunModel", "back", "(II)I"⟩ ∈ lw_ws := lw_in (List.mem_append_left _ (List.mem_of_getElem? (i := 73) (by decide +kernel))) rfl
theorem wm_1120 : Cond.instanceMethod ⟨"DecimalRunModel", "back", "(II)I"⟩ ∈ lw_ws := lw_in (List.mem_append_right _ (List.mem_of_getElem? (i := 1120) (by decide +kernel))) rfl
theorem wm_1118 : Cond.methodLink "DecimalRunModel" 251 ⟨"DecimalRunModel", "back", "(II)I"⟩ ∈ lw_ws := lw_in (List.mem_append_right _ (List.mem_of_getElem? (i := 1118) (by decide +kernel))) rfl
theorem wm_1109 : Cond.constantLong "DecimalRunModel" 221 4 ∈ lw_ws := lw_in (List.mem_append_right _ (List.mem_of_getElem? (i := 1109) (by decide +kernel))) rfl
theorem wp_72 : Cond.selects "DecimalRunModel" ⟨"DecimalRunModel", "put", "(II)V"⟩ ⟨"DecimalRunModel", "put", "(II)V"⟩ ∈ lw_ws := lw_in (List.mem_append_left _ (List.mem_of_getElem? (i := 72) (by decide +kernel))) rfl
theorem wm_1116 : Cond.instanceMethod ⟨"DecimalRunModel", "put", "(II)V"⟩ ∈ lw_ws := lw_in (List.mem_append_right _ (List.mem_of_getElem? (i := 1116) (by decide +kernel))) rfl
theorem wm_1114 : Cond.methodLink "DecimalRunModel" 211 ⟨"DecimalRunModel", "put", "(II)V"⟩ ∈ lw_ws := lw_in (List.mem_append_right _ (List.mem_of_getElem? (i := 1114) (by decide +kernel))) rfl
theorem wm_870 : Cond.fieldLink "DecimalRunModel" 73 "DecimalRunModel" "out" "[I" ∈ lw_ws := lw_in (List.mem_append_right _ (List.mem_of_getElem? (i := 870) (by decide +kernel))) rfl
theorem wm_1155 : Cond.fieldLink "java/lang/String" 9 "java/lang/String" "value" "[B" ∈ lw_ws := lw_in (List.mem_append_right _ (List.mem_of_getElem? (i := 1155) (by decide +kernel))) rfl
theorem wm_387 : Cond.selects "java/lang/String" ⟨"java/lang/String", "coder", "()B"⟩ ⟨"java/lang/String", "coder", "()B"⟩ ∈ lw_ws := lw_in (List.mem_append_right _ (List.mem_of_getElem? (i := 387) (by decide +kernel))) rfl
theorem wm_386 : Cond.instanceMethod ⟨"java/lang/String", "coder", "()B"⟩ ∈ lw_ws := lw_in (List.mem_append_right _ (List.mem_of_getElem? (i := 386) (by decide +kernel))) rfl
theorem wm_385 : Cond.methodLink "java/lang/String" 335 ⟨"java/lang/String", "coder", "()B"⟩ ∈ lw_ws := lw_in (List.mem_append_right _ (List.mem_of_getElem? (i := 385) (by decide +kernel))) rfl
theorem wm_389 : Cond.fieldLink "java/lang/String" 38 "java/lang/String" "COMPACT_STRINGS" "Z" ∈ lw_ws := lw_in (List.mem_append_right _ (List.mem_of_getElem? (i := 389) (by decide +kernel))) rfl
theorem wm_1156 : Cond.fieldLink "java/lang/String" 15 "java/lang/String" "coder" "B" ∈ lw_ws := lw_in (List.mem_append_right _ (List.mem_of_getElem? (i := 1156) (by decide +kernel))) rfl
theorem wm_397 : Cond.selects "java/lang/String" ⟨"java/lang/String", "isLatin1", "()Z"⟩ ⟨"java/lang/String", "isLatin1", "()Z"⟩ ∈ lw_ws := lw_in (List.mem_append_right _ (List.mem_of_getElem? (i := 397) (by decide +kernel))) rfl
theorem wm_396 : Cond.instanceMethod ⟨"java/lang/String", "isLatin1", "()Z"⟩ ∈ lw_ws := lw_in (List.mem_append_right _ (List.mem_of_getElem? (i := 396) (by decide +kernel))) rfl
theorem wm_395 : Cond.methodLink "java/lang/String" 492 ⟨"java/lang/String", "isLatin1", "()Z"⟩ ∈ lw_ws := lw_in (List.mem_append_right _ (List.mem_of_getElem? (i := 395) (by decide +kernel))) rfl
theorem wm_400 : Cond.static ⟨"java/lang/StringLatin1", "charAt", "([BI)C"⟩ ∈ lw_ws := lw_in (List.mem_append_right _ (List.mem_of_getElem? (i := 400) (by decide +kernel))) rfl
theorem wm_399 : Cond.methodLink "java/lang/String" 495 ⟨"java/lang/StringLatin1", "charAt", "([BI)C"⟩ ∈ lw_ws := lw_in (List.mem_append_right _ (List.mem_of_getElem? (i := 399) (by decide +kernel))) rfl
theorem wm_405 : Cond.fieldLink "java/lang/String" 1053 "jdk/internal/util/Preconditions" "SIOOBE_FORMATTER" "Ljava/util/function/BiFunction;" ∈ lw_ws := lw_in (List.mem_append_right _ (List.mem_of_getElem? (i := 405) (by decide +kernel))) rfl
theorem wm_408 : Cond.static ⟨"jdk/internal/util/Preconditions", "checkIndex", "(IILjava/util/function/BiFunction;)I"⟩ ∈ lw_ws := lw_in (List.mem_append_right _ (List.mem_of_getElem? (i := 408) (by decide +kernel))) rfl
theorem wm_407 : Cond.methodLink "java/lang/String" 1059 ⟨"jdk/internal/util/Preconditions", "checkIndex", "(IILjava/util/function/BiFunction;)I"⟩ ∈ lw_ws := lw_in (List.mem_append_right _ (List.mem_of_getElem? (i := 407) (by decide +kernel))) rfl
theorem wm_545 : Cond.selects "java/lang/String" ⟨"java/lang/String", "indexOf", "(II)I"⟩ ⟨"java/lang/String", "indexOf", "(II)I"⟩ ∈ lw_ws := lw_in (List.mem_append_right _ (List.mem_of_getElem? (i := 545) (by decide +kernel))) rfl
theorem wm_544 : Cond.instanceMethod ⟨"java/lang/String", "indexOf", "(II)I"⟩ ∈ lw_ws := lw_in (List.mem_append_right _ (List.mem_of_getElem? (i := 544) (by decide +kernel))) rfl
theorem wm_543 : Cond.methodLink "java/lang/String" 633 ⟨"java/lang/String", "indexOf", "(II)I"⟩ ∈ lw_ws := lw_in (List.mem_append_right _ (List.mem_of_getElem? (i := 543) (by decide +kernel))) rfl
theorem wm_547 : Cond.methodLink "java/lang/String" 505 ⟨"java/lang/String", "length", "()I"⟩ ∈ lw_ws := lw_in (List.mem_append_right _ (List.mem_of_getElem? (i := 547) (by decide +kernel))) rfl
theorem wm_549 : Cond.static ⟨"java/lang/StringLatin1", "indexOf", "([BIII)I"⟩ ∈ lw_ws := lw_in (List.mem_append_right _ (List.mem_of_getElem? (i := 549) (by decide +kernel))) rfl
theorem wm_548 : Cond.methodLink "java/lang/String" 637 ⟨"java/lang/StringLatin1", "indexOf", "([BIII)I"⟩ ∈ lw_ws := lw_in (List.mem_append_right _ (List.mem_of_getElem? (i := 548) (by decide +kernel))) rfl
theorem wm_403 : Cond.static ⟨"java/lang/String", "checkIndex", "(II)V"⟩ ∈ lw_ws := lw_in (List.mem_append_right _ (List.mem_of_getElem? (i := 403) (by decide +kernel))) rfl
theorem wm_402 : Cond.methodLink "java/lang/StringLatin1" 9 ⟨"java/lang/String", "checkIndex", "(II)V"⟩ ∈ lw_ws := lw_in (List.mem_append_right _ (List.mem_of_getElem? (i := 402) (by decide +kernel))) rfl
theorem wm_552 : Cond.static ⟨"java/lang/StringLatin1", "canEncode", "(I)Z"⟩ ∈ lw_ws := lw_in (List.mem_append_right _ (List.mem_of_getElem? (i := 552) (by decide +kernel))) rfl
theorem wm_551 : Cond.methodLink "java/lang/StringLatin1" 88 ⟨"java/lang/StringLatin1", "canEncode", "(I)Z"⟩ ∈ lw_ws := lw_in (List.mem_append_right _ (List.mem_of_getElem? (i := 551) (by decide +kernel))) rfl
theorem wm_554 : Cond.methodLink "java/lang/StringLatin1" 92 ⟨"java/lang/Math", "max", "(II)I"⟩ ∈ lw_ws := lw_in (List.mem_append_right _ (List.mem_of_getElem? (i := 554) (by decide +kernel))) rfl
theorem wm_555 : Cond.methodLink "java/lang/StringLatin1" 38 ⟨"java/lang/Math", "min", "(II)I"⟩ ∈ lw_ws := lw_in (List.mem_append_right _ (List.mem_of_getElem? (i := 555) (by decide +kernel))) rfl
theorem wm_557 : Cond.static ⟨"java/lang/StringLatin1", "indexOfChar", "([BIII)I"⟩ ∈ lw_ws := lw_in (List.mem_append_right _ (List.mem_of_getElem? (i := 557) (by decide +kernel))) rfl
theorem wm_556 : Cond.methodLink "java/lang/StringLatin1" 95 ⟨"java/lang/StringLatin1", "indexOfChar", "([BIII)I"⟩ ∈ lw_ws := lw_in (List.mem_append_right _ (List.mem_of_getElem? (i := 556) (by decide +kernel))) rfl
