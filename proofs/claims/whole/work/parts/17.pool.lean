/-! Printed by program: what the tables say of every pool entry that the code uses. -/
/-- what is known where an invocation of the system begins -/
def G0 (kd : Nat → Option Nat) (D : va_G) (tc : Nat → ClassId) (L : Nat) (xs : Nat → Int32) (A : Nat → Prop) (s : State) : Prop :=
  va_K D nm_cl (dx_tys tc) s ∧ dx_C nm_ql (tb_K L xs) kd A s ∧ va_Z "java/lang/String" "COMPACT_STRINGS" "Z" (.int 1) A s s.heap ∧ va_Z "jdk/internal/util/Preconditions" "SIOOBE_FORMATTER" "Ljava/util/function/BiFunction;" (va_rf (kd 1)) A s s.heap ∧ va_Z "DecimalRun$Arithmetic" "TEN_TO" "[J" (va_rf (kd 0)) A s s.heap ∧
  (∃ a : Nat, kd 2 = some a ∧ vk_R "DecimalRun$Scanner" 87 "if" a s) ∧ (∃ a : Nat, kd 3 = some a ∧ vk_R "DecimalRun$Scanner" 93 "while" a s) ∧ (∃ a : Nat, kd 4 = some a ∧ vk_R "DecimalRun$Scanner" 95 "define" a s) ∧ (∃ a : Nat, kd 5 = some a ∧ vk_R "DecimalRun$Scanner" 97 "return" a s) ∧ (∃ a : Nat, kd 6 = some a ∧ vk_R "DecimalRun$Scanner" 99 "scale" a s) ∧ (∃ a : Nat, kd 7 = some a ∧ vk_R "DecimalRun$Scanner" 120 "+-*/%^(){}=<>;" a s)
section PE
variable {kd : Nat → Option Nat} {D : va_G} {tc : Nat → ClassId} {L : Nat} {xs : Nat → Int32}
theorem gs_2 {A : Nat → Prop} {s : State} (h : G0 kd D tc L xs A s) : ∃ a : Nat, kd 2 = some a ∧ vk_R "DecimalRun$Scanner" 87 "if" a s := h.2.2.2.2.2.1
theorem gs_3 {A : Nat → Prop} {s : State} (h : G0 kd D tc L xs A s) : ∃ a : Nat, kd 3 = some a ∧ vk_R "DecimalRun$Scanner" 93 "while" a s := h.2.2.2.2.2.2.1
theorem gs_4 {A : Nat → Prop} {s : State} (h : G0 kd D tc L xs A s) : ∃ a : Nat, kd 4 = some a ∧ vk_R "DecimalRun$Scanner" 95 "define" a s := h.2.2.2.2.2.2.2.1
theorem gs_5 {A : Nat → Prop} {s : State} (h : G0 kd D tc L xs A s) : ∃ a : Nat, kd 5 = some a ∧ vk_R "DecimalRun$Scanner" 97 "return" a s := h.2.2.2.2.2.2.2.2.1
theorem gs_6 {A : Nat → Prop} {s : State} (h : G0 kd D tc L xs A s) : ∃ a : Nat, kd 6 = some a ∧ vk_R "DecimalRun$Scanner" 99 "scale" a s := h.2.2.2.2.2.2.2.2.2.1
theorem gs_7 {A : Nat → Prop} {s : State} (h : G0 kd D tc L xs A s) : ∃ a : Nat, kd 7 = some a ∧ vk_R "DecimalRun$Scanner" 120 "+-*/%^(){}=<>;" a s := h.2.2.2.2.2.2.2.2.2.2
def pe_ok (kd : Nat → Option Nat) (D : va_G) (tc : Nat → ClassId) (L : Nat) (xs : Nat → Int32) (own : String) (x : dx_I) : Prop := ∀ (A : Nat → Prop) (s : State) (args : Array Value), (∀ w ∈ lw_ws, w.before args s = true) → G0 kd D tc L xs A s →
  dx_kB nm_cl nm_ql kd A s args own x ∧ dx_kN nm_cl (tb_Z L xs) s args own x ∧ dx_kI nm_cl nm_ql s args own (tb_Y x.2.1) (tb_r x.2.1) x
def pc_ok (own nm : String) (x : dx_I) : Prop := ∀ (s : State) (args : Array Value), (∀ w ∈ lw_ws, w.before args s = true) → dx_kC nm_cl s args own nm x
theorem pe_0_0_0 : pe_ok kd D tc L xs "DecimalRun" (.invokespecial 3, 0, 1, 10, .null) := fun A s args hts hG => ⟨trivial, trivial, by
    show if (10 : Nat) = 0 then _ else _
    rw [if_neg (by decide)]
    exact ⟨hts _ wm_30, hts _ wm_31, hts _ wm_32⟩⟩
theorem pc_0_0_0 (nm : String) : pc_ok "DecimalRun" nm (.invokespecial 3, 0, 1, 10, .null) := fun s args hts => trivial
theorem pe_0_0_1 : pe_ok kd D tc L xs "DecimalRun" (.new 9, 1, 0, 0, .null) := fun A s args hts hG => ⟨trivial, fun _ => ⟨_, _, _, nm_ty1, rfl, fun w hw => hts w (uw_1 w hw), ty_1, hts _ wm_33, hts _ wm_34, hts _ wm_2, by decide, by decide, rfl⟩, trivial⟩
theorem pc_0_0_1 (nm : String) : pc_ok "DecimalRun" nm (.new 9, 1, 0, 0, .null) := fun s args hts => trivial
theorem pe_0_0_2 : pe_ok kd D tc L xs "DecimalRun" (.invokespecial 11, 14, 1, 0, .null) := fun A s args hts hG => ⟨trivial, trivial, by
    show if (0 : Nat) = 0 then _ else _
    rw [if_pos rfl]
    exact ⟨rfl, rfl, hts _ wm_36, Or.inr ⟨_, hts _ wm_35⟩, dx_pn1 pn_14⟩⟩
theorem pc_0_0_2 (nm : String) : pc_ok "DecimalRun" nm (.invokespecial 11, 14, 1, 0, .null) := fun s args hts => trivial
theorem pe_0_0_3 : pe_ok kd D tc L xs "DecimalRun" (.new 16, 2, 0, 0, .null) := fun A s args hts hG => ⟨trivial, fun _ => ⟨_, _, _, nm_ty2, rfl, fun w hw => hts w (uw_2 w hw), ty_2, hts _ wm_49, hts _ wm_50, hts _ wm_3, by decide, by decide, rfl⟩, trivial⟩
theorem pc_0_0_3 (nm : String) : pc_ok "DecimalRun" nm (.new 16, 2, 0, 0, .null) := fun s args hts => trivial
theorem pe_0_0_4 : pe_ok kd D tc L xs "DecimalRun" (.invokespecial 18, 18, 1, 0, .null) := fun A s args hts hG => ⟨trivial, trivial, by
    show if (0 : Nat) = 0 then _ else _
    rw [if_pos rfl]
    exact ⟨rfl, rfl, hts _ wm_52, Or.inr ⟨_, hts _ wm_51⟩, dx_pn1 pn_18⟩⟩
theorem pc_0_0_4 (nm : String) : pc_ok "DecimalRun" nm (.invokespecial 18, 18, 1, 0, .null) := fun s args hts => trivial
theorem pe_0_0_5 : pe_ok kd D tc L xs "DecimalRun" (.new 23, 3, 0, 0, .null) := fun A s args hts hG => ⟨trivial, fun _ => ⟨_, _, _, nm_ty3, rfl, fun w hw => hts w (uw_3 w hw), ty_3, hts _ wm_68, hts _ wm_69, hts _ wm_4, by decide, by decide, rfl⟩, trivial⟩
theorem pc_0_0_5 (nm : String) : pc_ok "DecimalRun" nm (.new 23, 3, 0, 0, .null) := fun s args hts => trivial
theorem pe_0_0_6 : pe_ok kd D tc L xs "DecimalRun" (.invokespecial 25, 20, 1, 0, .null) := fun A s args hts hG => ⟨trivial, trivial, by
    show if (0 : Nat) = 0 then _ else _
    rw [if_pos rfl]
    exact ⟨rfl, rfl, hts _ wm_71, Or.inr ⟨_, hts _ wm_70⟩, dx_pn1 pn_20⟩⟩
theorem pc_0_0_6 (nm : String) : pc_ok "DecimalRun" nm (.invokespecial 25, 20, 1, 0, .null) := fun s args hts => trivial
theorem pe_0_0_7 : pe_ok kd D tc L xs "DecimalRun" (.new 30, 4, 0, 0, .null) := fun A s args hts hG => ⟨trivial, fun _ => ⟨_, _, _, nm_ty4, rfl, fun w hw => hts w (uw_4 w hw), ty_4, hts _ wm_94, hts _ wm_95, hts _ wm_5, by decide, by decide, rfl⟩, trivial⟩
theorem pc_0_0_7 (nm : String) : pc_ok "DecimalRun" nm (.new 30, 4, 0, 0, .null) := fun s args hts => trivial
theorem pe_0_0_8 : pe_ok kd D tc L xs "DecimalRun" (.invokespecial 32, 26, 1, 0, .null) := fun A s args hts hG => ⟨trivial, trivial, by
    show if (0 : Nat) = 0 then _ else _
    rw [if_pos rfl]
    exact ⟨rfl, rfl, hts _ wm_97, Or.inr ⟨_, hts _ wm_96⟩, dx_pn1 pn_26⟩⟩
theorem pc_0_0_8 (nm : String) : pc_ok "DecimalRun" nm (.invokespecial 32, 26, 1, 0, .null) := fun s args hts => trivial
theorem pe_0_0_9 : pe_ok kd D tc L xs "DecimalRun" (.new 37, 5, 0, 0, .null) := fun A s args hts hG => ⟨trivial, fun _ => ⟨_, _, _, nm_ty5, rfl, fun w hw => hts w (uw_5 w hw), ty_5, hts _ wm_123, hts _ wm_124, hts _ wm_6, by decide, by decide, rfl⟩, trivial⟩
theorem pc_0_0_9 (nm : String) : pc_ok "DecimalRun" nm (.new 37, 5, 0, 0, .null) := fun s args hts => trivial
theorem pe_0_0_10 : pe_ok kd D tc L xs "DecimalRun" (.getfield 12, 0, 0, 0, .null) := fun A s args hts hG => ⟨Or.inl ⟨_, _, _, rfl, rfl, by decide, fun w hw => hts w (uw_0 w hw), Or.inl (hts _ wm_223)⟩, trivial, trivial⟩
theorem pc_0_0_10 (nm : String) : pc_ok "DecimalRun" nm (.getfield 12, 0, 0, 0, .null) := fun s args hts => trivial
theorem pe_0_0_11 : pe_ok kd D tc L xs "DecimalRun" (.getfield 26, 0, 2, 0, .null) := fun A s args hts hG => ⟨Or.inl ⟨_, _, _, rfl, rfl, by decide, fun w hw => hts w (uw_0 w hw), Or.inl (hts _ wm_225)⟩, trivial, trivial⟩
theorem pc_0_0_11 (nm : String) : pc_ok "DecimalRun" nm (.getfield 26, 0, 2, 0, .null) := fun s args hts => trivial
theorem pe_0_0_12 : pe_ok kd D tc L xs "DecimalRun" (.invokespecial 39, 32, 3, 0, .null) := fun A s args hts hG => ⟨trivial, trivial, by
    show if (0 : Nat) = 0 then _ else _
    rw [if_pos rfl]
    exact ⟨rfl, rfl, hts _ wm_126, Or.inl (hts _ wm_125), dx_pn1 pn_32⟩⟩
theorem pc_0_0_12 (nm : String) : pc_ok "DecimalRun" nm (.invokespecial 39, 32, 3, 0, .null) := fun s args hts => trivial
theorem pe_0_0_13 : pe_ok kd D tc L xs "DecimalRun" (.new 46, 6, 0, 0, .null) := fun A s args hts hG => ⟨trivial, fun _ => ⟨_, _, _, nm_ty6, rfl, fun w hw => hts w (uw_6 w hw), ty_6, hts _ wm_148, hts _ wm_149, hts _ wm_7, by decide, by decide, rfl⟩, trivial⟩
theorem pc_0_0_13 (nm : String) : pc_ok "DecimalRun" nm (.new 46, 6, 0, 0, .null) := fun s args hts => trivial
theorem pe_0_0_14 : pe_ok kd D tc L xs "DecimalRun" (.getfield 42, 0, 4, 0, .null) := fun A s args hts hG => ⟨Or.inl ⟨_, _, _, rfl, rfl, by decide, fun w hw => hts w (uw_0 w hw), Or.inl (hts _ wm_227)⟩, trivial, trivial⟩
theorem pc_0_0_14 (nm : String) : pc_ok "DecimalRun" nm (.getfield 42, 0, 4, 0, .null) := fun s args hts => trivial
theorem pe_0_0_15 : pe_ok kd D tc L xs "DecimalRun" (.getfield 33, 0, 3, 0, .null) := fun A s args hts hG => ⟨Or.inl ⟨_, _, _, rfl, rfl, by decide, fun w hw => hts w (uw_0 w hw), Or.inl (hts _ wm_226)⟩, trivial, trivial⟩
theorem pc_0_0_15 (nm : String) : pc_ok "DecimalRun" nm (.getfield 33, 0, 3, 0, .null) := fun s args hts => trivial
theorem pe_0_0_16 : pe_ok kd D tc L xs "DecimalRun" (.invokespecial 48, 45, 4, 0, .null) := fun A s args hts hG => ⟨trivial, trivial, by
    show if (0 : Nat) = 0 then _ else _
    rw [if_pos rfl]
    exact ⟨rfl, rfl, hts _ wm_151, Or.inl (hts _ wm_150), dx_pn1 pn_45⟩⟩
theorem pc_0_0_16 (nm : String) : pc_ok "DecimalRun" nm (.invokespecial 48, 45, 4, 0, .null) := fun s args hts => trivial
theorem pe_0_0_17 : pe_ok kd D tc L xs "DecimalRun" (.new 55, 7, 0, 0, .null) := fun A s args hts hG => ⟨trivial, fun _ => ⟨_, _, _, nm_ty7, rfl, fun w hw => hts w (uw_7 w hw), ty_7, hts _ wm_170, hts _ wm_171, hts _ wm_8, by decide, by decide, rfl⟩, trivial⟩
theorem pc_0_0_17 (nm : String) : pc_ok "DecimalRun" nm (.new 55, 7, 0, 0, .null) := fun s args hts => trivial
theorem pe_0_0_18 : pe_ok kd D tc L xs "DecimalRun" (.getfield 19, 0, 1, 0, .null) := fun A s args hts hG => ⟨Or.inl ⟨_, _, _, rfl, rfl, by decide, fun w hw => hts w (uw_0 w hw), Or.inl (hts _ wm_224)⟩, trivial, trivial⟩
theorem pc_0_0_18 (nm : String) : pc_ok "DecimalRun" nm (.getfield 19, 0, 1, 0, .null) := fun s args hts => trivial
theorem pe_0_0_19 : pe_ok kd D tc L xs "DecimalRun" (.invokespecial 57, 71, 4, 0, .null) := fun A s args hts hG => ⟨trivial, trivial, by
    show if (0 : Nat) = 0 then _ else _
    rw [if_pos rfl]
    exact ⟨rfl, rfl, hts _ wm_173, Or.inl (hts _ wm_172), dx_pn1 pn_71⟩⟩
theorem pc_0_0_19 (nm : String) : pc_ok "DecimalRun" nm (.invokespecial 57, 71, 4, 0, .null) := fun s args hts => trivial
theorem pe_0_0_20 : pe_ok kd D tc L xs "DecimalRun" (.invokevirtual 64, 15, 2, 1, .null) := fun A s args hts hG => ⟨trivial, trivial, ⟨⟨_, Or.inl ⟨rfl, rfl⟩, hts _ wm_251⟩, hts _ wm_250, Or.inl (hts _ wm_249), dx_pn1 pn_15⟩⟩
theorem pc_0_0_20 (nm : String) : pc_ok "DecimalRun" nm (.invokevirtual 64, 15, 2, 1, .null) := fun s args hts => trivial
theorem pe_0_0_21 : pe_ok kd D tc L xs "DecimalRun" (.getfield 68, 1, 1, 0, .null) := fun A s args hts hG => ⟨Or.inl ⟨_, _, _, rfl, rfl, by decide, fun w hw => hts w (uw_1 w hw), Or.inr ⟨_, hts _ wm_42⟩⟩, trivial, trivial⟩
theorem pc_0_0_21 (nm : String) : pc_ok "DecimalRun" nm (.getfield 68, 1, 1, 0, .null) := fun s args hts => trivial
theorem pe_0_0_22 : pe_ok kd D tc L xs "DecimalRun" (.putfield 68, 1, 1, 0, .null) := fun A s args hts hG => ⟨trivial, trivial, trivial⟩
theorem pc_0_0_22 (nm : String) : pc_ok "DecimalRun" nm (.putfield 68, 1, 1, 0, .null) := fun s args hts => ⟨_, _, _, nm_ty1, rfl, by decide, fun w hw => hts w (uw_1 w hw), ty_1, na_1, by decide, Or.inl ⟨rfl, Or.inr ⟨_, hts _ wm_42⟩⟩⟩
theorem pe_0_0_23 : pe_ok kd D tc L xs "DecimalRun" (.invokevirtual 72, 19, 1, 2, .null) := fun A s args hts hG => ⟨trivial, trivial, ⟨⟨_, Or.inl ⟨rfl, rfl⟩, hts _ wm_270⟩, hts _ wm_269, Or.inl (hts _ wm_268), dx_pn1 pn_19⟩⟩
theorem pc_0_0_23 (nm : String) : pc_ok "DecimalRun" nm (.invokevirtual 72, 19, 1, 2, .null) := fun s args hts => trivial
theorem pe_0_0_24 : pe_ok kd D tc L xs "DecimalRun" (.getfield 100, 3, 2, 0, .null) := fun A s args hts hG => ⟨Or.inl ⟨_, _, _, rfl, rfl, by decide, fun w hw => hts w (uw_3 w hw), Or.inr ⟨_, hts _ wm_79⟩⟩, trivial, trivial⟩
theorem pc_0_0_24 (nm : String) : pc_ok "DecimalRun" nm (.getfield 100, 3, 2, 0, .null) := fun s args hts => trivial
theorem pe_0_0_25 : pe_ok kd D tc L xs "DecimalRun" (.getfield 97, 3, 3, 0, .null) := fun A s args hts hG => ⟨Or.inl ⟨_, _, _, rfl, rfl, by decide, fun w hw => hts w (uw_3 w hw), Or.inr ⟨_, hts _ wm_81⟩⟩, trivial, trivial⟩
theorem pc_0_0_25 (nm : String) : pc_ok "DecimalRun" nm (.getfield 97, 3, 3, 0, .null) := fun s args hts => trivial
theorem pe_0_0_26 : pe_ok kd D tc L xs "DecimalRun" (.getfield 103, 3, 1, 0, .null) := fun A s args hts hG => ⟨Or.inl ⟨_, _, _, rfl, rfl, by decide, fun w hw => hts w (uw_3 w hw), Or.inr ⟨_, hts _ wm_77⟩⟩, trivial, trivial⟩
theorem pc_0_0_26 (nm : String) : pc_ok "DecimalRun" nm (.getfield 103, 3, 1, 0, .null) := fun s args hts => trivial
theorem pe_0_0_27 : pe_ok kd D tc L xs "DecimalRun" (.getfield 104, 3, 0, 0, .null) := fun A s args hts hG => ⟨Or.inl ⟨_, _, _, rfl, rfl, by decide, fun w hw => hts w (uw_3 w hw), Or.inr ⟨_, hts _ wm_75⟩⟩, trivial, trivial⟩
theorem pc_0_0_27 (nm : String) : pc_ok "DecimalRun" nm (.getfield 104, 3, 0, 0, .null) := fun s args hts => trivial
theorem pe_0_0_28 : pe_ok kd D tc L xs "DecimalRun" (.invokestatic 108, 10, 1, 0, .null) := fun A s args hts hG => ⟨trivial, trivial, ⟨hts _ wm_296, Or.inl (hts _ wm_295), dx_pn pn_10⟩⟩
theorem pc_0_0_28 (nm : String) : pc_ok "DecimalRun" nm (.invokestatic 108, 10, 1, 0, .null) := fun s args hts => trivial
theorem pe_0_0_29 : pe_ok kd D tc L xs "DecimalRun" (.getfield 112, 2, 0, 0, .null) := fun A s args hts hG => ⟨Or.inl ⟨_, _, _, rfl, rfl, by decide, fun w hw => hts w (uw_2 w hw), Or.inr ⟨_, hts _ wm_57⟩⟩, trivial, trivial⟩
theorem pc_0_0_29 (nm : String) : pc_ok "DecimalRun" nm (.getfield 112, 2, 0, 0, .null) := fun s args hts => trivial
theorem pe_0_0_30 : pe_ok kd D tc L xs "DecimalRun" (.invokestatic 116, 79, 1, 0, .null) := fun A s args hts hG => ⟨trivial, trivial, ⟨hts _ wm_299, Or.inl (hts _ wm_298), dx_pn pn_79⟩⟩
theorem pc_0_0_30 (nm : String) : pc_ok "DecimalRun" nm (.invokestatic 116, 79, 1, 0, .null) := fun s args hts => trivial
theorem pe_0_0_31 : pe_ok kd D tc L xs "DecimalRun" (.invokestatic 122, 80, 1, 0, .null) := fun A s args hts hG => ⟨trivial, trivial, ⟨hts _ wm_306, Or.inl (hts _ wm_305), dx_pn pn_80⟩⟩
theorem pc_0_0_31 (nm : String) : pc_ok "DecimalRun" nm (.invokestatic 122, 80, 1, 0, .null) := fun s args hts => trivial
theorem pe_0_0_32 : pe_ok kd D tc L xs "DecimalRun" (.getfield 126, 2, 1, 0, .null) := fun A s args hts hG => ⟨Or.inl ⟨_, _, _, rfl, rfl, by decide, fun w hw => hts w (uw_2 w hw), Or.inr ⟨_, hts _ wm_61⟩⟩, trivial, trivial⟩
theorem pc_0_0_32 (nm : String) : pc_ok "DecimalRun" nm (.getfield 126, 2, 1, 0, .null) := fun s args hts => trivial
theorem pe_0_0_33 : pe_ok kd D tc L xs "DecimalRun" (.invokestatic 75, 144, 2, 0, .null) := fun A s args hts hG => ⟨trivial, trivial, ⟨hts _ wm_324, Or.inl (hts _ wm_323), dx_pn pn_144⟩⟩
theorem pc_0_0_33 (nm : String) : pc_ok "DecimalRun" nm (.invokestatic 75, 144, 2, 0, .null) := fun s args hts => trivial
theorem pe_0_0_34 : pe_ok kd D tc L xs "DecimalRun" (.invokestatic 81, 145, 2, 0, .null) := fun A s args hts hG => ⟨trivial, trivial, ⟨hts _ wm_327, Or.inl (hts _ wm_326), dx_pn pn_145⟩⟩
theorem pc_0_0_34 (nm : String) : pc_ok "DecimalRun" nm (.invokestatic 81, 145, 2, 0, .null) := fun s args hts => trivial
theorem pe_0_0_35 : pe_ok kd D tc L xs "DecimalRun" (.invokevirtual 84, 21, 2, 3, .null) := fun A s args hts hG => ⟨trivial, trivial, ⟨⟨_, Or.inl ⟨rfl, rfl⟩, hts _ wm_331⟩, hts _ wm_330, Or.inl (hts _ wm_329), dx_pn1 pn_21⟩⟩
theorem pc_0_0_35 (nm : String) : pc_ok "DecimalRun" nm (.invokevirtual 84, 21, 2, 3, .null) := fun s args hts => trivial
theorem pe_0_0_36 : pe_ok kd D tc L xs "DecimalRun" (.invokevirtual 88, 33, 1, 5, .null) := fun A s args hts hG => ⟨trivial, trivial, ⟨⟨_, Or.inl ⟨rfl, rfl⟩, hts _ wm_335⟩, hts _ wm_334, Or.inl (hts _ wm_333), dx_pn1 pn_33⟩⟩
theorem pc_0_0_36 (nm : String) : pc_ok "DecimalRun" nm (.invokevirtual 88, 33, 1, 5, .null) := fun s args hts => trivial
theorem pe_0_0_37 : pe_ok kd D tc L xs "DecimalRun" (.getfield 51, 0, 5, 0, .null) := fun A s args hts hG => ⟨Or.inl ⟨_, _, _, rfl, rfl, by decide, fun w hw => hts w (uw_0 w hw), Or.inl (hts _ wm_228)⟩, trivial, trivial⟩
theorem pc_0_0_37 (nm : String) : pc_ok "DecimalRun" nm (.getfield 51, 0, 5, 0, .null) := fun s args hts => trivial
theorem pe_0_0_38 : pe_ok kd D tc L xs "DecimalRun" (.invokevirtual 91, 46, 1, 6, .null) := fun A s args hts hG => ⟨trivial, trivial, ⟨⟨_, Or.inl ⟨rfl, rfl⟩, hts _ wm_597⟩, hts _ wm_596, Or.inl (hts _ wm_595), dx_pn1 pn_46⟩⟩
theorem pc_0_0_38 (nm : String) : pc_ok "DecimalRun" nm (.invokevirtual 91, 46, 1, 6, .null) := fun s args hts => trivial
theorem pe_0_0_39 : pe_ok kd D tc L xs "DecimalRun" (.getfield 60, 0, 6, 0, .null) := fun A s args hts hG => ⟨Or.inl ⟨_, _, _, rfl, rfl, by decide, fun w hw => hts w (uw_0 w hw), Or.inl (hts _ wm_229)⟩, trivial, trivial⟩
theorem pc_0_0_39 (nm : String) : pc_ok "DecimalRun" nm (.getfield 60, 0, 6, 0, .null) := fun s args hts => trivial
theorem pe_0_0_40 : pe_ok kd D tc L xs "DecimalRun" (.invokevirtual 94, 72, 1, 7, .null) := fun A s args hts hG => ⟨trivial, trivial, ⟨⟨_, Or.inl ⟨rfl, rfl⟩, hts _ wm_718⟩, hts _ wm_717, Or.inl (hts _ wm_716), dx_pn1 pn_72⟩⟩
theorem pc_0_0_40 (nm : String) : pc_ok "DecimalRun" nm (.invokevirtual 94, 72, 1, 7, .null) := fun s args hts => trivial
def pl_0_0 : List dx_I := [(.invokespecial 3, 0, 1, 10, .null), (.new 9, 1, 0, 0, .null), (.invokespecial 11, 14, 1, 0, .null), (.new 16, 2, 0, 0, .null), (.invokespecial 18, 18, 1, 0, .null), (.new 23, 3, 0, 0, .null), (.invokespecial 25, 20, 1, 0, .null), (.new 30, 4, 0, 0, .null), (.invokespecial 32, 26, 1, 0, .null), (.new 37, 5, 0, 0, .null), (.getfield 12, 0, 0, 0, .null), (.getfield 26, 0, 2, 0, .null), (.invokespecial 39, 32, 3, 0, .null), (.new 46, 6, 0, 0, .null), (.getfield 42, 0, 4, 0, .null), (.getfield 33, 0, 3, 0, .null), (.invokespecial 48, 45, 4, 0, .null), (.new 55, 7, 0, 0, .null), (.getfield 19, 0, 1, 0, .null), (.invokespecial 57, 71, 4, 0, .null), (.invokevirtual 64, 15, 2, 1, .null), (.getfield 68, 1, 1, 0, .null), (.putfield 68, 1, 1, 0, .null), (.invokevirtual 72, 19, 1, 2, .null), (.getfield 100, 3, 2, 0, .null), (.getfield 97, 3, 3, 0, .null), (.getfield 103, 3, 1, 0, .null), (.getfield 104, 3, 0, 0, .null), (.invokestatic 108, 10, 1, 0, .null), (.getfield 112, 2, 0, 0, .null), (.invokestatic 116, 79, 1, 0, .null), (.invokestatic 122, 80, 1, 0, .null), (.getfield 126, 2, 1, 0, .null), (.invokestatic 75, 144, 2, 0, .null), (.invokestatic 81, 145, 2, 0, .null), (.invokevirtual 84, 21, 2, 3, .null), (.invokevirtual 88, 33, 1, 5, .null), (.getfield 51, 0, 5, 0, .null), (.invokevirtual 91, 46, 1, 6, .null), (.getfield 60, 0, 6, 0, .null), (.invokevirtual 94, 72, 1, 7, .null)]
theorem pa_0_0 (nm : String) : ∀ x ∈ pl_0_0, pe_ok kd D tc L xs "DecimalRun" x ∧ pc_ok "DecimalRun" nm x := List.forall_mem_cons.mpr ⟨⟨pe_0_0_0, pc_0_0_0 nm⟩, List.forall_mem_cons.mpr ⟨⟨pe_0_0_1, pc_0_0_1 nm⟩, List.forall_mem_cons.mpr ⟨⟨pe_0_0_2, pc_0_0_2 nm⟩, List.forall_mem_cons.mpr ⟨⟨pe_0_0_3, pc_0_0_3 nm⟩, List.forall_mem_cons.mpr ⟨⟨pe_0_0_4, pc_0_0_4 nm⟩, List.forall_mem_cons.mpr ⟨⟨pe_0_0_5, pc_0_0_5 nm⟩, List.forall_mem_cons.mpr ⟨⟨pe_0_0_6, pc_0_0_6 nm⟩, List.forall_mem_cons.mpr ⟨⟨pe_0_0_7, pc_0_0_7 nm⟩, List.forall_mem_cons.mpr ⟨⟨pe_0_0_8, pc_0_0_8 nm⟩, List.forall_mem_cons.mpr ⟨⟨pe_0_0_9, pc_0_0_9 nm⟩, List.forall_mem_cons.mpr ⟨⟨pe_0_0_10, pc_0_0_10 nm⟩, List.forall_mem_cons.mpr ⟨⟨pe_0_0_11, pc_0_0_11 nm⟩, List.forall_mem_cons.mpr ⟨⟨pe_0_0_12, pc_0_0_12 nm⟩, List.forall_mem_cons.mpr ⟨⟨pe_0_0_13, pc_0_0_13 nm⟩, List.forall_mem_cons.mpr ⟨⟨pe_0_0_14, pc_0_0_14 nm⟩, List.forall_mem_cons.mpr ⟨⟨pe_0_0_15, pc_0_0_15 nm⟩, List.forall_mem_cons.mpr ⟨⟨pe_0_0_16, pc_0_0_16 nm⟩, List.forall_mem_cons.mpr ⟨⟨pe_0_0_17, pc_0_0_17 nm⟩, List.forall_mem_cons.mpr ⟨⟨pe_0_0_18, pc_0_0_18 nm⟩, List.forall_mem_cons.mpr ⟨⟨pe_0_0_19, pc_0_0_19 nm⟩, List.forall_mem_cons.mpr ⟨⟨pe_0_0_20, pc_0_0_20 nm⟩, List.forall_mem_cons.mpr ⟨⟨pe_0_0_21, pc_0_0_21 nm⟩, List.forall_mem_cons.mpr ⟨⟨pe_0_0_22, pc_0_0_22 nm⟩, List.forall_mem_cons.mpr ⟨⟨pe_0_0_23, pc_0_0_23 nm⟩, List.forall_mem_cons.mpr ⟨⟨pe_0_0_24, pc_0_0_24 nm⟩, List.forall_mem_cons.mpr ⟨⟨pe_0_0_25, pc_0_0_25 nm⟩, List.forall_mem_cons.mpr ⟨⟨pe_0_0_26, pc_0_0_26 nm⟩, List.forall_mem_cons.mpr ⟨⟨pe_0_0_27, pc_0_0_27 nm⟩, List.forall_mem_cons.mpr ⟨⟨pe_0_0_28, pc_0_0_28 nm⟩, List.forall_mem_cons.mpr ⟨⟨pe_0_0_29, pc_0_0_29 nm⟩, List.forall_mem_cons.mpr ⟨⟨pe_0_0_30, pc_0_0_30 nm⟩, List.forall_mem_cons.mpr ⟨⟨pe_0_0_31, pc_0_0_31 nm⟩, List.forall_mem_cons.mpr ⟨⟨pe_0_0_32, pc_0_0_32 nm⟩, List.forall_mem_cons.mpr ⟨⟨pe_0_0_33, pc_0_0_33 nm⟩, List.forall_mem_cons.mpr ⟨⟨pe_0_0_34, pc_0_0_34 nm⟩, List.forall_mem_cons.mpr ⟨⟨pe_0_0_35, pc_0_0_35 nm⟩, List.forall_mem_cons.mpr ⟨⟨pe_0_0_36, pc_0_0_36 nm⟩, List.forall_mem_cons.mpr ⟨⟨pe_0_0_37, pc_0_0_37 nm⟩, List.forall_mem_cons.mpr ⟨⟨pe_0_0_38, pc_0_0_38 nm⟩, List.forall_mem_cons.mpr ⟨⟨pe_0_0_39, pc_0_0_39 nm⟩, List.forall_mem_cons.mpr ⟨⟨pe_0_0_40, pc_0_0_40 nm⟩, fun _ h => absurd h List.not_mem_nil⟩⟩⟩⟩⟩⟩⟩⟩⟩⟩⟩⟩⟩⟩⟩⟩⟩⟩⟩⟩⟩⟩⟩⟩⟩⟩⟩⟩⟩⟩⟩⟩⟩⟩⟩⟩⟩⟩⟩⟩⟩
theorem pe_0_1_0 : pe_ok kd D tc L xs "DecimalRun" (.putfield 12, 0, 0, 3, .null) := fun A s args hts hG => ⟨trivial, trivial, trivial⟩
theorem pc_0_1_0 : pc_ok "DecimalRun" "<init>" (.putfield 12, 0, 0, 3, .null) := fun s args hts => ⟨_, _, _, nm_ty0, rfl, by decide, fun w hw => hts w (uw_0 w hw), ty_0, na_0, by decide, Or.inr ⟨rfl, hts _ wm_223, rfl, rfl⟩⟩
theorem pe_0_1_1 : pe_ok kd D tc L xs "DecimalRun" (.putfield 19, 0, 1, 3, .null) := fun A s args hts hG => ⟨trivial, trivial, trivial⟩
theorem pc_0_1_1 : pc_ok "DecimalRun" "<init>" (.putfield 19, 0, 1, 3, .null) := fun s args hts => ⟨_, _, _, nm_ty0, rfl, by decide, fun w hw => hts w (uw_0 w hw), ty_0, na_0, by decide, Or.inr ⟨rfl, hts _ wm_224, rfl, rfl⟩⟩
theorem pe_0_1_2 : pe_ok kd D tc L xs "DecimalRun" (.putfield 26, 0, 2, 3, .null) := fun A s args hts hG => ⟨trivial, trivial, trivial⟩
theorem pc_0_1_2 : pc_ok "DecimalRun" "<init>" (.putfield 26, 0, 2, 3, .null) := fun s args hts => ⟨_, _, _, nm_ty0, rfl, by decide, fun w hw => hts w (uw_0 w hw), ty_0, na_0, by decide, Or.inr ⟨rfl, hts _ wm_225, rfl, rfl⟩⟩
theorem pe_0_1_3 : pe_ok kd D tc L xs "DecimalRun" (.putfield 33, 0, 3, 3, .null) := fun A s args hts hG => ⟨trivial, trivial, trivial⟩
theorem pc_0_1_3 : pc_ok "DecimalRun" "<init>" (.putfield 33, 0, 3, 3, .null) := fun s args hts => ⟨_, _, _, nm_ty0, rfl, by decide, fun w hw => hts w (uw_0 w hw), ty_0, na_0, by decide, Or.inr ⟨rfl, hts _ wm_226, rfl, rfl⟩⟩
theorem pe_0_1_4 : pe_ok kd D tc L xs "DecimalRun" (.putfield 42, 0, 4, 3, .null) := fun A s args hts hG => ⟨trivial, trivial, trivial⟩
theorem pc_0_1_4 : pc_ok "DecimalRun" "<init>" (.putfield 42, 0, 4, 3, .null) := fun s args hts => ⟨_, _, _, nm_ty0, rfl, by decide, fun w hw => hts w (uw_0 w hw), ty_0, na_0, by decide, Or.inr ⟨rfl, hts _ wm_227, rfl, rfl⟩⟩
theorem pe_0_1_5 : pe_ok kd D tc L xs "DecimalRun" (.putfield 51, 0, 5, 3, .null) := fun A s args hts hG => ⟨trivial, trivial, trivial⟩
theorem pc_0_1_5 : pc_ok "DecimalRun" "<init>" (.putfield 51, 0, 5, 3, .null) := fun s args hts => ⟨_, _, _, nm_ty0, rfl, by decide, fun w hw => hts w (uw_0 w hw), ty_0, na_0, by decide, Or.inr ⟨rfl, hts _ wm_228, rfl, rfl⟩⟩
theorem pe_0_1_6 : pe_ok kd D tc L xs "DecimalRun" (.putfield 60, 0, 6, 3, .null) := fun A s args hts hG => ⟨trivial, trivial, trivial⟩
theorem pc_0_1_6 : pc_ok "DecimalRun" "<init>" (.putfield 60, 0, 6, 3, .null) := fun s args hts => ⟨_, _, _, nm_ty0, rfl, by decide, fun w hw => hts w (uw_0 w hw), ty_0, na_0, by decide, Or.inr ⟨rfl, hts _ wm_229, rfl, rfl⟩⟩
def pl_0_1 : List dx_I := [(.putfield 12, 0, 0, 3, .null), (.putfield 19, 0, 1, 3, .null), (.putfield 26, 0, 2, 3, .null), (.putfield 33, 0, 3, 3, .null), (.putfield 42, 0, 4, 3, .null), (.putfield 51, 0, 5, 3, .null), (.putfield 60, 0, 6, 3, .null)]
theorem pa_0_1 : ∀ x ∈ pl_0_1, pe_ok kd D tc L xs "DecimalRun" x ∧ pc_ok "DecimalRun" "<init>" x := List.forall_mem_cons.mpr ⟨⟨pe_0_1_0, pc_0_1_0⟩, List.forall_mem_cons.mpr ⟨⟨pe_0_1_1, pc_0_1_1⟩, List.forall_mem_cons.mpr ⟨⟨pe_0_1_2, pc_0_1_2⟩, List.forall_mem_cons.mpr ⟨⟨pe_0_1_3, pc_0_1_3⟩, List.forall_mem_cons.mpr ⟨⟨pe_0_1_4, pc_0_1_4⟩, List.forall_mem_cons.mpr ⟨⟨pe_0_1_5, pc_0_1_5⟩, List.forall_mem_cons.mpr ⟨⟨pe_0_1_6, pc_0_1_6⟩, fun _ h => absurd h List.not_mem_nil⟩⟩⟩⟩⟩⟩⟩
theorem pe_1_0_0 : pe_ok kd D tc L xs "DecimalRun$Text" (.invokespecial 3, 0, 1, 10, .null) := fun A s args hts hG => ⟨trivial, trivial, by
    show if (10 : Nat) = 0 then _ else _
    rw [if_neg (by decide)]
    exact ⟨hts _ wm_38, hts _ wm_31, hts _ wm_32⟩⟩
theorem pc_1_0_0 (nm : String) : pc_ok "DecimalRun$Text" nm (.invokespecial 3, 0, 1, 10, .null) := fun s args hts => trivial
theorem pe_1_0_1 : pe_ok kd D tc L xs "DecimalRun$Text" (.newarray .char, 0, 0, 0, .null) := fun A s args hts hG => ⟨trivial, hts _ wm_48, trivial⟩
theorem pc_1_0_1 (nm : String) : pc_ok "DecimalRun$Text" nm (.newarray .char, 0, 0, 0, .null) := fun s args hts => trivial
theorem pe_1_0_2 : pe_ok kd D tc L xs "DecimalRun$Text" (.invokestatic 15, 16, 1, 0, .null) := fun A s args hts hG => ⟨trivial, trivial, ⟨hts _ wm_254, Or.inl (hts _ wm_253), dx_pn pn_16⟩⟩
theorem pc_1_0_2 (nm : String) : pc_ok "DecimalRun$Text" nm (.invokestatic 15, 16, 1, 0, .null) := fun s args hts => trivial
theorem pe_1_0_3 : pe_ok kd D tc L xs "DecimalRun$Text" (.getfield 19, 1, 1, 0, .null) := fun A s args hts hG => ⟨Or.inl ⟨_, _, _, rfl, rfl, by decide, fun w hw => hts w (uw_1 w hw), Or.inl (hts _ wm_40)⟩, trivial, trivial⟩
theorem pc_1_0_3 (nm : String) : pc_ok "DecimalRun$Text" nm (.getfield 19, 1, 1, 0, .null) := fun s args hts => trivial
theorem pe_1_0_4 : pe_ok kd D tc L xs "DecimalRun$Text" (.getfield 9, 1, 0, 0, .null) := fun A s args hts hG => ⟨Or.inl ⟨_, _, _, rfl, rfl, by decide, fun w hw => hts w (uw_1 w hw), Or.inl (hts _ wm_39)⟩, trivial, trivial⟩
theorem pc_1_0_4 (nm : String) : pc_ok "DecimalRun$Text" nm (.getfield 9, 1, 0, 0, .null) := fun s args hts => trivial
theorem pe_1_0_5 : pe_ok kd D tc L xs "DecimalRun$Text" (.putfield 19, 1, 1, 0, .null) := fun A s args hts hG => ⟨trivial, trivial, trivial⟩
theorem pc_1_0_5 (nm : String) : pc_ok "DecimalRun$Text" nm (.putfield 19, 1, 1, 0, .null) := fun s args hts => ⟨_, _, _, nm_ty1, rfl, by decide, fun w hw => hts w (uw_1 w hw), ty_1, na_1, by decide, Or.inl ⟨rfl, Or.inl (hts _ wm_40)⟩⟩
def pl_1_0 : List dx_I := [(.invokespecial 3, 0, 1, 10, .null), (.newarray .char, 0, 0, 0, .null), (.invokestatic 15, 16, 1, 0, .null), (.getfield 19, 1, 1, 0, .null), (.getfield 9, 1, 0, 0, .null), (.putfield 19, 1, 1, 0, .null)]
theorem pa_1_0 (nm : String) : ∀ x ∈ pl_1_0, pe_ok kd D tc L xs "DecimalRun$Text" x ∧ pc_ok "DecimalRun$Text" nm x := List.forall_mem_cons.mpr ⟨⟨pe_1_0_0, pc_1_0_0 nm⟩, List.forall_mem_cons.mpr ⟨⟨pe_1_0_1, pc_1_0_1 nm⟩, List.forall_mem_cons.mpr ⟨⟨pe_1_0_2, pc_1_0_2 nm⟩, List.forall_mem_cons.mpr ⟨⟨pe_1_0_3, pc_1_0_3 nm⟩, List.forall_mem_cons.mpr ⟨⟨pe_1_0_4, pc_1_0_4 nm⟩, List.forall_mem_cons.mpr ⟨⟨pe_1_0_5, pc_1_0_5 nm⟩, fun _ h => absurd h List.not_mem_nil⟩⟩⟩⟩⟩⟩
theorem pe_1_1_0 : pe_ok kd D tc L xs "DecimalRun$Text" (.putfield 9, 1, 0, 3, .null) := fun A s args hts hG => ⟨trivial, trivial, trivial⟩
theorem pc_1_1_0 : pc_ok "DecimalRun$Text" "<init>" (.putfield 9, 1, 0, 3, .null) := fun s args hts => ⟨_, _, _, nm_ty1, rfl, by decide, fun w hw => hts w (uw_1 w hw), ty_1, na_1, by decide, Or.inr ⟨rfl, hts _ wm_39, rfl, rfl⟩⟩
def pl_1_1 : List dx_I := [(.putfield 9, 1, 0, 3, .null)]
theorem pa_1_1 : ∀ x ∈ pl_1_1, pe_ok kd D tc L xs "DecimalRun$Text" x ∧ pc_ok "DecimalRun$Text" "<init>" x := List.forall_mem_cons.mpr ⟨⟨pe_1_1_0, pc_1_1_0⟩, fun _ h => absurd h List.not_mem_nil⟩
theorem pe_2_0_0 : pe_ok kd D tc L xs "DecimalRun$Memory" (.invokespecial 3, 0, 1, 10, .null) := fun A s args hts hG => ⟨trivial, trivial, by
    show if (10 : Nat) = 0 then _ else _
    rw [if_neg (by decide)]
    exact ⟨hts _ wm_54, hts _ wm_31, hts _ wm_32⟩⟩
theorem pc_2_0_0 (nm : String) : pc_ok "DecimalRun$Memory" nm (.invokespecial 3, 0, 1, 10, .null) := fun s args hts => trivial
theorem pe_2_0_1 : pe_ok kd D tc L xs "DecimalRun$Memory" (.newarray .long, 0, 0, 0, .null) := fun A s args hts hG => ⟨trivial, hts _ wm_67, trivial⟩
theorem pc_2_0_1 (nm : String) : pc_ok "DecimalRun$Memory" nm (.newarray .long, 0, 0, 0, .null) := fun s args hts => trivial
theorem pe_2_0_2 : pe_ok kd D tc L xs "DecimalRun$Memory" (.getfield 9, 2, 0, 0, .null) := fun A s args hts hG => ⟨Or.inl ⟨_, _, _, rfl, rfl, by decide, fun w hw => hts w (uw_2 w hw), Or.inl (hts _ wm_55)⟩, trivial, trivial⟩
theorem pc_2_0_2 (nm : String) : pc_ok "DecimalRun$Memory" nm (.getfield 9, 2, 0, 0, .null) := fun s args hts => trivial
theorem pe_2_0_3 : pe_ok kd D tc L xs "DecimalRun$Memory" (.invokestatic 15, 149, 2, 0, .null) := fun A s args hts hG => ⟨trivial, trivial, ⟨hts _ wm_273, Or.inl (hts _ wm_272), dx_pn pn_149⟩⟩
theorem pc_2_0_3 (nm : String) : pc_ok "DecimalRun$Memory" nm (.invokestatic 15, 149, 2, 0, .null) := fun s args hts => trivial
theorem pe_2_0_4 : pe_ok kd D tc L xs "DecimalRun$Memory" (.putfield 21, 2, 1, 0, .null) := fun A s args hts hG => ⟨trivial, trivial, trivial⟩
theorem pc_2_0_4 (nm : String) : pc_ok "DecimalRun$Memory" nm (.putfield 21, 2, 1, 0, .null) := fun s args hts => ⟨_, _, _, nm_ty2, rfl, by decide, fun w hw => hts w (uw_2 w hw), ty_2, na_2, by decide, Or.inl ⟨rfl, Or.inl (hts _ wm_58)⟩⟩
def pl_2_0 : List dx_I := [(.invokespecial 3, 0, 1, 10, .null), (.newarray .long, 0, 0, 0, .null), (.getfield 9, 2, 0, 0, .null), (.invokestatic 15, 149, 2, 0, .null), (.putfield 21, 2, 1, 0, .null)]
theorem pa_2_0 (nm : String) : ∀ x ∈ pl_2_0, pe_ok kd D tc L xs "DecimalRun$Memory" x ∧ pc_ok "DecimalRun$Memory" nm x := List.forall_mem_cons.mpr ⟨⟨pe_2_0_0, pc_2_0_0 nm⟩, List.forall_mem_cons.mpr ⟨⟨pe_2_0_1, pc_2_0_1 nm⟩, List.forall_mem_cons.mpr ⟨⟨pe_2_0_2, pc_2_0_2 nm⟩, List.forall_mem_cons.mpr ⟨⟨pe_2_0_3, pc_2_0_3 nm⟩, List.forall_mem_cons.mpr ⟨⟨pe_2_0_4, pc_2_0_4 nm⟩, fun _ h => absurd h List.not_mem_nil⟩⟩⟩⟩⟩
theorem pe_2_1_0 : pe_ok kd D tc L xs "DecimalRun$Memory" (.putfield 9, 2, 0, 3, .null) := fun A s args hts hG => ⟨trivial, trivial, trivial⟩
theorem pc_2_1_0 : pc_ok "DecimalRun$Memory" "<init>" (.putfield 9, 2, 0, 3, .null) := fun s args hts => ⟨_, _, _, nm_ty2, rfl, by decide, fun w hw => hts w (uw_2 w hw), ty_2, na_2, by decide, Or.inr ⟨rfl, hts _ wm_55, rfl, rfl⟩⟩
def pl_2_1 : List dx_I := [(.putfield 9, 2, 0, 3, .null)]
theorem pa_2_1 : ∀ x ∈ pl_2_1, pe_ok kd D tc L xs "DecimalRun$Memory" x ∧ pc_ok "DecimalRun$Memory" "<init>" x := List.forall_mem_cons.mpr ⟨⟨pe_2_1_0, pc_2_1_0⟩, fun _ h => absurd h List.not_mem_nil⟩
theorem pe_3_0_0 : pe_ok kd D tc L xs "DecimalRun$Outcome" (.invokespecial 3, 0, 1, 10, .null) := fun A s args hts hG => ⟨trivial, trivial, by
    show if (10 : Nat) = 0 then _ else _
    rw [if_neg (by decide)]
    exact ⟨hts _ wm_73, hts _ wm_31, hts _ wm_32⟩⟩
theorem pc_3_0_0 (nm : String) : pc_ok "DecimalRun$Outcome" nm (.invokespecial 3, 0, 1, 10, .null) := fun s args hts => trivial
theorem pe_3_0_1 : pe_ok kd D tc L xs "DecimalRun$Outcome" (.newarray .char, 0, 0, 0, .null) := fun A s args hts hG => ⟨trivial, hts _ wm_48, trivial⟩
theorem pc_3_0_1 (nm : String) : pc_ok "DecimalRun$Outcome" nm (.newarray .char, 0, 0, 0, .null) := fun s args hts => trivial
theorem pe_3_0_2 : pe_ok kd D tc L xs "DecimalRun$Outcome" (.putfield 15, 3, 1, 0, .null) := fun A s args hts hG => ⟨trivial, trivial, trivial⟩
theorem pc_3_0_2 (nm : String) : pc_ok "DecimalRun$Outcome" nm (.putfield 15, 3, 1, 0, .null) := fun s args hts => ⟨_, _, _, nm_ty3, rfl, by decide, fun w hw => hts w (uw_3 w hw), ty_3, na_3, by decide, Or.inl ⟨rfl, Or.inl (hts _ wm_76)⟩⟩
theorem pe_3_0_3 : pe_ok kd D tc L xs "DecimalRun$Outcome" (.putfield 19, 3, 2, 0, .null) := fun A s args hts hG => ⟨trivial, trivial, trivial⟩
theorem pc_3_0_3 (nm : String) : pc_ok "DecimalRun$Outcome" nm (.putfield 19, 3, 2, 0, .null) := fun s args hts => ⟨_, _, _, nm_ty3, rfl, by decide, fun w hw => hts w (uw_3 w hw), ty_3, na_3, by decide, Or.inl ⟨rfl, Or.inl (hts _ wm_78)⟩⟩
theorem pe_3_0_4 : pe_ok kd D tc L xs "DecimalRun$Outcome" (.putfield 22, 3, 3, 0, .null) := fun A s args hts hG => ⟨trivial, trivial, trivial⟩
theorem pc_3_0_4 (nm : String) : pc_ok "DecimalRun$Outcome" nm (.putfield 22, 3, 3, 0, .null) := fun s args hts => ⟨_, _, _, nm_ty3, rfl, by decide, fun w hw => hts w (uw_3 w hw), ty_3, na_3, by decide, Or.inl ⟨rfl, Or.inl (hts _ wm_80)⟩⟩
theorem pe_3_0_5 : pe_ok kd D tc L xs "DecimalRun$Outcome" (.putfield 25, 3, 4, 0, .null) := fun A s args hts hG => ⟨trivial, trivial, trivial⟩
theorem pc_3_0_5 (nm : String) : pc_ok "DecimalRun$Outcome" nm (.putfield 25, 3, 4, 0, .null) := fun s args hts => ⟨_, _, _, nm_ty3, rfl, by decide, fun w hw => hts w (uw_3 w hw), ty_3, na_3, by decide, Or.inl ⟨rfl, Or.inl (hts _ wm_82)⟩⟩
theorem pe_3_0_6 : pe_ok kd D tc L xs "DecimalRun$Outcome" (.new 28, 10, 0, 1, .null) := fun A s args hts hG => ⟨trivial, fun h => absurd h (by decide), trivial⟩
theorem pc_3_0_6 (nm : String) : pc_ok "DecimalRun$Outcome" nm (.new 28, 10, 0, 1, .null) := fun s args hts => trivial
theorem pe_3_0_7 : pe_ok kd D tc L xs "DecimalRun$Outcome" (.new 31, 11, 0, 1, .null) := fun A s args hts hG => ⟨trivial, fun h => absurd h (by decide), trivial⟩
theorem pc_3_0_7 (nm : String) : pc_ok "DecimalRun$Outcome" nm (.new 31, 11, 0, 1, .null) := fun s args hts => trivial
theorem pe_3_0_8 : pe_ok kd D tc L xs "DecimalRun$Outcome" (.new 34, 12, 0, 1, .null) := fun A s args hts hG => ⟨trivial, fun h => absurd h (by decide), trivial⟩
theorem pc_3_0_8 (nm : String) : pc_ok "DecimalRun$Outcome" nm (.new 34, 12, 0, 1, .null) := fun s args hts => trivial
theorem pe_3_0_9 : pe_ok kd D tc L xs "DecimalRun$Outcome" (.getfield 22, 3, 3, 0, .null) := fun A s args hts hG => ⟨Or.inl ⟨_, _, _, rfl, rfl, by decide, fun w hw => hts w (uw_3 w hw), Or.inl (hts _ wm_80)⟩, trivial, trivial⟩
theorem pc_3_0_9 (nm : String) : pc_ok "DecimalRun$Outcome" nm (.getfield 22, 3, 3, 0, .null) := fun s args hts => trivial
theorem pe_3_0_10 : pe_ok kd D tc L xs "DecimalRun$Outcome" (.getfield 25, 3, 4, 0, .null) := fun A s args hts hG => ⟨Or.inl ⟨_, _, _, rfl, rfl, by decide, fun w hw => hts w (uw_3 w hw), Or.inl (hts _ wm_82)⟩, trivial, trivial⟩
theorem pc_3_0_10 (nm : String) : pc_ok "DecimalRun$Outcome" nm (.getfield 25, 3, 4, 0, .null) := fun s args hts => trivial
theorem pe_3_0_11 : pe_ok kd D tc L xs "DecimalRun$Outcome" (.invokevirtual 37, 22, 2, 3, .null) := fun A s args hts hG => ⟨trivial, trivial, ⟨⟨_, Or.inl ⟨rfl, rfl⟩, hts _ wm_435⟩, hts _ wm_434, Or.inl (hts _ wm_729), dx_pn1 pn_22⟩⟩
theorem pc_3_0_11 (nm : String) : pc_ok "DecimalRun$Outcome" nm (.invokevirtual 37, 22, 2, 3, .null) := fun s args hts => trivial
theorem pe_3_0_12 : pe_ok kd D tc L xs "DecimalRun$Outcome" (.invokestatic 41, 79, 1, 0, .null) := fun A s args hts hG => ⟨trivial, trivial, ⟨hts _ wm_299, Or.inl (hts _ wm_756), dx_pn pn_79⟩⟩
theorem pc_3_0_12 (nm : String) : pc_ok "DecimalRun$Outcome" nm (.invokestatic 41, 79, 1, 0, .null) := fun s args hts => trivial
theorem pe_3_0_13 : pe_ok kd D tc L xs "DecimalRun$Outcome" (.invokestatic 47, 80, 1, 0, .null) := fun A s args hts hG => ⟨trivial, trivial, ⟨hts _ wm_306, Or.inl (hts _ wm_757), dx_pn pn_80⟩⟩
theorem pc_3_0_13 (nm : String) : pc_ok "DecimalRun$Outcome" nm (.invokestatic 47, 80, 1, 0, .null) := fun s args hts => trivial
theorem pe_3_0_14 : pe_ok kd D tc L xs "DecimalRun$Outcome" (.invokestatic 51, 146, 1, 0, .null) := fun A s args hts hG => ⟨trivial, trivial, ⟨hts _ wm_759, Or.inl (hts _ wm_758), dx_pn pn_146⟩⟩
theorem pc_3_0_14 (nm : String) : pc_ok "DecimalRun$Outcome" nm (.invokestatic 51, 146, 1, 0, .null) := fun s args hts => trivial
theorem pe_3_0_15 : pe_ok kd D tc L xs "DecimalRun$Outcome" (.invokestatic 56, 25, 1, 0, .null) := fun A s args hts hG => ⟨trivial, trivial, ⟨hts _ wm_762, Or.inl (hts _ wm_761), dx_pn pn_25⟩⟩
theorem pc_3_0_15 (nm : String) : pc_ok "DecimalRun$Outcome" nm (.invokestatic 56, 25, 1, 0, .null) := fun s args hts => trivial
theorem pe_3_0_16 : pe_ok kd D tc L xs "DecimalRun$Outcome" (.invokestatic 59, 145, 2, 0, .null) := fun A s args hts hG => ⟨trivial, trivial, ⟨hts _ wm_327, Or.inl (hts _ wm_765), dx_pn pn_145⟩⟩
theorem pc_3_0_16 (nm : String) : pc_ok "DecimalRun$Outcome" nm (.invokestatic 59, 145, 2, 0, .null) := fun s args hts => trivial
theorem pe_3_0_17 : pe_ok kd D tc L xs "DecimalRun$Outcome" (.getfield 15, 3, 1, 0, .null) := fun A s args hts hG => ⟨Or.inl ⟨_, _, _, rfl, rfl, by decide, fun w hw => hts w (uw_3 w hw), Or.inl (hts _ wm_76)⟩, trivial, trivial⟩
theorem pc_3_0_17 (nm : String) : pc_ok "DecimalRun$Outcome" nm (.getfield 15, 3, 1, 0, .null) := fun s args hts => trivial
theorem pe_3_0_18 : pe_ok kd D tc L xs "DecimalRun$Outcome" (.getfield 9, 3, 0, 0, .null) := fun A s args hts hG => ⟨Or.inl ⟨_, _, _, rfl, rfl, by decide, fun w hw => hts w (uw_3 w hw), Or.inl (hts _ wm_74)⟩, trivial, trivial⟩
theorem pc_3_0_18 (nm : String) : pc_ok "DecimalRun$Outcome" nm (.getfield 9, 3, 0, 0, .null) := fun s args hts => trivial
theorem pe_3_0_19 : pe_ok kd D tc L xs "DecimalRun$Outcome" (.ldc2_w 63, 0, 0, 0, .long 48) := fun A s args hts hG => ⟨⟨_, rfl, hts _ wm_766⟩, trivial, trivial⟩
theorem pc_3_0_19 (nm : String) : pc_ok "DecimalRun$Outcome" nm (.ldc2_w 63, 0, 0, 0, .long 48) := fun s args hts => trivial
theorem pe_3_0_20 : pe_ok kd D tc L xs "DecimalRun$Outcome" (.ldc2_w 65, 0, 0, 0, .long 10) := fun A s args hts hG => ⟨⟨_, rfl, hts _ wm_767⟩, trivial, trivial⟩
theorem pc_3_0_20 (nm : String) : pc_ok "DecimalRun$Outcome" nm (.ldc2_w 65, 0, 0, 0, .long 10) := fun s args hts => trivial
theorem pe_3_0_21 : pe_ok kd D tc L xs "DecimalRun$Outcome" (.getstatic 67, 0, 0, 0, .retAddr 0) := fun A s args hts hG => ⟨⟨"DecimalRun$Arithmetic", "TEN_TO", "[J", fun _ => hG.2.2.2.2.1, Or.inr ⟨_, hts _ wm_764⟩⟩, trivial, trivial⟩
theorem pc_3_0_21 (nm : String) : pc_ok "DecimalRun$Outcome" nm (.getstatic 67, 0, 0, 0, .retAddr 0) := fun s args hts => trivial
def pl_3_0 : List dx_I := [(.invokespecial 3, 0, 1, 10, .null), (.newarray .char, 0, 0, 0, .null), (.putfield 15, 3, 1, 0, .null), (.putfield 19, 3, 2, 0, .null), (.putfield 22, 3, 3, 0, .null), (.putfield 25, 3, 4, 0, .null), (.new 28, 10, 0, 1, .null), (.new 31, 11, 0, 1, .null), (.new 34, 12, 0, 1, .null), (.getfield 22, 3, 3, 0, .null), (.getfield 25, 3, 4, 0, .null), (.invokevirtual 37, 22, 2, 3, .null), (.invokestatic 41, 79, 1, 0, .null), (.invokestatic 47, 80, 1, 0, .null), (.invokestatic 51, 146, 1, 0, .null), (.invokestatic 56, 25, 1, 0, .null), (.invokestatic 59, 145, 2, 0, .null), (.getfield 15, 3, 1, 0, .null), (.getfield 9, 3, 0, 0, .null), (.ldc2_w 63, 0, 0, 0, .long 48), (.ldc2_w 65, 0, 0, 0, .long 10), (.getstatic 67, 0, 0, 0, .retAddr 0)]
theorem pa_3_0 (nm : String) : ∀ x ∈ pl_3_0, pe_ok kd D tc L xs "DecimalRun$Outcome" x ∧ pc_ok "DecimalRun$Outcome" nm x := List.forall_mem_cons.mpr ⟨⟨pe_3_0_0, pc_3_0_0 nm⟩, List.forall_mem_cons.mpr ⟨⟨pe_3_0_1, pc_3_0_1 nm⟩, List.forall_mem_cons.mpr ⟨⟨pe_3_0_2, pc_3_0_2 nm⟩, List.forall_mem_cons.mpr ⟨⟨pe_3_0_3, pc_3_0_3 nm⟩, List.forall_mem_cons.mpr ⟨⟨pe_3_0_4, pc_3_0_4 nm⟩, List.forall_mem_cons.mpr ⟨⟨pe_3_0_5, pc_3_0_5 nm⟩, List.forall_mem_cons.mpr ⟨⟨pe_3_0_6, pc_3_0_6 nm⟩, List.forall_mem_cons.mpr ⟨⟨pe_3_0_7, pc_3_0_7 nm⟩, List.forall_mem_cons.mpr ⟨⟨pe_3_0_8, pc_3_0_8 nm⟩, List.forall_mem_cons.mpr ⟨⟨pe_3_0_9, pc_3_0_9 nm⟩, List.forall_mem_cons.mpr ⟨⟨pe_3_0_10, pc_3_0_10 nm⟩, List.forall_mem_cons.mpr ⟨⟨pe_3_0_11, pc_3_0_11 nm⟩, List.forall_mem_cons.mpr ⟨⟨pe_3_0_12, pc_3_0_12 nm⟩, List.forall_mem_cons.mpr ⟨⟨pe_3_0_13, pc_3_0_13 nm⟩, List.forall_mem_cons.mpr ⟨⟨pe_3_0_14, pc_3_0_14 nm⟩, List.forall_mem_cons.mpr ⟨⟨pe_3_0_15, pc_3_0_15 nm⟩, List.forall_mem_cons.mpr ⟨⟨pe_3_0_16, pc_3_0_16 nm⟩, List.forall_mem_cons.mpr ⟨⟨pe_3_0_17, pc_3_0_17 nm⟩, List.forall_mem_cons.mpr ⟨⟨pe_3_0_18, pc_3_0_18 nm⟩, List.forall_mem_cons.mpr ⟨⟨pe_3_0_19, pc_3_0_19 nm⟩, List.forall_mem_cons.mpr ⟨⟨pe_3_0_20, pc_3_0_20 nm⟩, List.forall_mem_cons.mpr ⟨⟨pe_3_0_21, pc_3_0_21 nm⟩, fun _ h => absurd h List.not_mem_nil⟩⟩⟩⟩⟩⟩⟩⟩⟩⟩⟩⟩⟩⟩⟩⟩⟩⟩⟩⟩⟩⟩
theorem pe_3_1_0 : pe_ok kd D tc L xs "DecimalRun$Outcome" (.putfield 9, 3, 0, 3, .null) := fun A s args hts hG => ⟨trivial, trivial, trivial⟩
theorem pc_3_1_0 : pc_ok "DecimalRun$Outcome" "<init>" (.putfield 9, 3, 0, 3, .null) := fun s args hts => ⟨_, _, _, nm_ty3, rfl, by decide, fun w hw => hts w (uw_3 w hw), ty_3, na_3, by decide, Or.inr ⟨rfl, hts _ wm_74, rfl, rfl⟩⟩
def pl_3_1 : List dx_I := [(.putfield 9, 3, 0, 3, .null)]
theorem pa_3_1 : ∀ x ∈ pl_3_1, pe_ok kd D tc L xs "DecimalRun$Outcome" x ∧ pc_ok "DecimalRun$Outcome" "<init>" x := List.forall_mem_cons.mpr ⟨⟨pe_3_1_0, pc_3_1_0⟩, fun _ h => absurd h List.not_mem_nil⟩
theorem pe_4_0_0 : pe_ok kd D tc L xs "DecimalRun$Code" (.invokespecial 3, 0, 1, 10, .null) := fun A s args hts hG => ⟨trivial, trivial, by
    show if (10 : Nat) = 0 then _ else _
    rw [if_neg (by decide)]
    exact ⟨hts _ wm_99, hts _ wm_31, hts _ wm_32⟩⟩
theorem pc_4_0_0 (nm : String) : pc_ok "DecimalRun$Code" nm (.invokespecial 3, 0, 1, 10, .null) := fun s args hts => trivial
theorem pe_4_0_1 : pe_ok kd D tc L xs "DecimalRun$Code" (.newarray .int, 0, 0, 0, .null) := fun A s args hts hG => ⟨trivial, hts _ wm_122, trivial⟩
theorem pc_4_0_1 (nm : String) : pc_ok "DecimalRun$Code" nm (.newarray .int, 0, 0, 0, .null) := fun s args hts => trivial
theorem pe_4_0_2 : pe_ok kd D tc L xs "DecimalRun$Code" (.newarray .long, 0, 0, 0, .null) := fun A s args hts hG => ⟨trivial, hts _ wm_67, trivial⟩
theorem pc_4_0_2 (nm : String) : pc_ok "DecimalRun$Code" nm (.newarray .long, 0, 0, 0, .null) := fun s args hts => trivial
theorem pe_4_0_3 : pe_ok kd D tc L xs "DecimalRun$Code" (.putfield 25, 4, 4, 0, .null) := fun A s args hts hG => ⟨trivial, trivial, trivial⟩
theorem pc_4_0_3 (nm : String) : pc_ok "DecimalRun$Code" nm (.putfield 25, 4, 4, 0, .null) := fun s args hts => ⟨_, _, _, nm_ty4, rfl, by decide, fun w hw => hts w (uw_4 w hw), ty_4, na_4, by decide, Or.inl ⟨rfl, Or.inl (hts _ wm_108)⟩⟩
theorem pe_4_0_4 : pe_ok kd D tc L xs "DecimalRun$Code" (.getfield 19, 4, 2, 0, .null) := fun A s args hts hG => ⟨Or.inl ⟨_, _, _, rfl, rfl, by decide, fun w hw => hts w (uw_4 w hw), Or.inl (hts _ wm_104)⟩, trivial, trivial⟩
theorem pc_4_0_4 (nm : String) : pc_ok "DecimalRun$Code" nm (.getfield 19, 4, 2, 0, .null) := fun s args hts => trivial
theorem pe_4_0_5 : pe_ok kd D tc L xs "DecimalRun$Code" (.invokestatic 29, 150, 2, 0, .null) := fun A s args hts hG => ⟨trivial, trivial, ⟨hts _ wm_604, Or.inl (hts _ wm_603), dx_pn pn_150⟩⟩
theorem pc_4_0_5 (nm : String) : pc_ok "DecimalRun$Code" nm (.invokestatic 29, 150, 2, 0, .null) := fun s args hts => trivial
theorem pe_4_0_6 : pe_ok kd D tc L xs "DecimalRun$Code" (.getfield 25, 4, 4, 0, .null) := fun A s args hts hG => ⟨Or.inl ⟨_, _, _, rfl, rfl, by decide, fun w hw => hts w (uw_4 w hw), Or.inl (hts _ wm_108)⟩, trivial, trivial⟩
theorem pc_4_0_6 (nm : String) : pc_ok "DecimalRun$Code" nm (.getfield 25, 4, 4, 0, .null) := fun s args hts => trivial
theorem pe_4_0_7 : pe_ok kd D tc L xs "DecimalRun$Code" (.getfield 9, 4, 0, 0, .null) := fun A s args hts hG => ⟨Or.inl ⟨_, _, _, rfl, rfl, by decide, fun w hw => hts w (uw_4 w hw), Or.inl (hts _ wm_100)⟩, trivial, trivial⟩
theorem pc_4_0_7 (nm : String) : pc_ok "DecimalRun$Code" nm (.getfield 9, 4, 0, 0, .null) := fun s args hts => trivial
theorem pe_4_0_8 : pe_ok kd D tc L xs "DecimalRun$Code" (.getfield 15, 4, 1, 0, .null) := fun A s args hts hG => ⟨Or.inl ⟨_, _, _, rfl, rfl, by decide, fun w hw => hts w (uw_4 w hw), Or.inl (hts _ wm_102)⟩, trivial, trivial⟩
theorem pc_4_0_8 (nm : String) : pc_ok "DecimalRun$Code" nm (.getfield 15, 4, 1, 0, .null) := fun s args hts => trivial
theorem pe_4_0_9 : pe_ok kd D tc L xs "DecimalRun$Code" (.getfield 22, 4, 3, 0, .null) := fun A s args hts hG => ⟨Or.inl ⟨_, _, _, rfl, rfl, by decide, fun w hw => hts w (uw_4 w hw), Or.inl (hts _ wm_106)⟩, trivial, trivial⟩
theorem pc_4_0_9 (nm : String) : pc_ok "DecimalRun$Code" nm (.getfield 22, 4, 3, 0, .null) := fun s args hts => trivial
def pl_4_0 : List dx_I := [(.invokespecial 3, 0, 1, 10, .null), (.newarray .int, 0, 0, 0, .null), (.newarray .long, 0, 0, 0, .null), (.putfield 25, 4, 4, 0, .null), (.getfield 19, 4, 2, 0, .null), (.invokestatic 29, 150, 2, 0, .null), (.getfield 25, 4, 4, 0, .null), (.getfield 9, 4, 0, 0, .null), (.getfield 15, 4, 1, 0, .null), (.getfield 22, 4, 3, 0, .null)]
theorem pa_4_0 (nm : String) : ∀ x ∈ pl_4_0, pe_ok kd D tc L xs "DecimalRun$Code" x ∧ pc_ok "DecimalRun$Code" nm x := List.forall_mem_cons.mpr ⟨⟨pe_4_0_0, pc_4_0_0 nm⟩, List.forall_mem_cons.mpr ⟨⟨pe_4_0_1, pc_4_0_1 nm⟩, List.forall_mem_cons.mpr ⟨⟨pe_4_0_2, pc_4_0_2 nm⟩, List.forall_mem_cons.mpr ⟨⟨pe_4_0_3, pc_4_0_3 nm⟩, List.forall_mem_cons.mpr ⟨⟨pe_4_0_4, pc_4_0_4 nm⟩, List.forall_mem_cons.mpr ⟨⟨pe_4_0_5, pc_4_0_5 nm⟩, List.forall_mem_cons.mpr ⟨⟨pe_4_0_6, pc_4_0_6 nm⟩, List.forall_mem_cons.mpr ⟨⟨pe_4_0_7, pc_4_0_7 nm⟩, List.forall_mem_cons.mpr ⟨⟨pe_4_0_8, pc_4_0_8 nm⟩, List.forall_mem_cons.mpr ⟨⟨pe_4_0_9, pc_4_0_9 nm⟩, fun _ h => absurd h List.not_mem_nil⟩⟩⟩⟩⟩⟩⟩⟩⟩⟩
theorem pe_4_1_0 : pe_ok kd D tc L xs "DecimalRun$Code" (.putfield 9, 4, 0, 3, .null) := fun A s args hts hG => ⟨trivial, trivial, trivial⟩
theorem pc_4_1_0 : pc_ok "DecimalRun$Code" "<init>" (.putfield 9, 4, 0, 3, .null) := fun s args hts => ⟨_, _, _, nm_ty4, rfl, by decide, fun w hw => hts w (uw_4 w hw), ty_4, na_4, by decide, Or.inr ⟨rfl, hts _ wm_100, rfl, rfl⟩⟩
theorem pe_4_1_1 : pe_ok kd D tc L xs "DecimalRun$Code" (.putfield 15, 4, 1, 3, .null) := fun A s args hts hG => ⟨trivial, trivial, trivial⟩
theorem pc_4_1_1 : pc_ok "DecimalRun$Code" "<init>" (.putfield 15, 4, 1, 3, .null) := fun s args hts => ⟨_, _, _, nm_ty4, rfl, by decide, fun w hw => hts w (uw_4 w hw), ty_4, na_4, by decide, Or.inr ⟨rfl, hts _ wm_102, rfl, rfl⟩⟩
theorem pe_4_1_2 : pe_ok kd D tc L xs "DecimalRun$Code" (.putfield 19, 4, 2, 3, .null) := fun A s args hts hG => ⟨trivial, trivial, trivial⟩
theorem pc_4_1_2 : pc_ok "DecimalRun$Code" "<init>" (.putfield 19, 4, 2, 3, .null) := fun s args hts => ⟨_, _, _, nm_ty4, rfl, by decide, fun w hw => hts w (uw_4 w hw), ty_4, na_4, by decide, Or.inr ⟨rfl, hts _ wm_104, rfl, rfl⟩⟩
theorem pe_4_1_3 : pe_ok kd D tc L xs "DecimalRun$Code" (.putfield 22, 4, 3, 3, .null) := fun A s args hts hG => ⟨trivial, trivial, trivial⟩
theorem pc_4_1_3 : pc_ok "DecimalRun$Code" "<init>" (.putfield 22, 4, 3, 3, .null) := fun s args hts => ⟨_, _, _, nm_ty4, rfl, by decide, fun w hw => hts w (uw_4 w hw), ty_4, na_4, by decide, Or.inr ⟨rfl, hts _ wm_106, rfl, rfl⟩⟩
def pl_4_1 : List dx_I := [(.putfield 9, 4, 0, 3, .null), (.putfield 15, 4, 1, 3, .null), (.putfield 19, 4, 2, 3, .null), (.putfield 22, 4, 3, 3, .null)]
theorem pa_4_1 : ∀ x ∈ pl_4_1, pe_ok kd D tc L xs "DecimalRun$Code" x ∧ pc_ok "DecimalRun$Code" "<init>" x := List.forall_mem_cons.mpr ⟨⟨pe_4_1_0, pc_4_1_0⟩, List.forall_mem_cons.mpr ⟨⟨pe_4_1_1, pc_4_1_1⟩, List.forall_mem_cons.mpr ⟨⟨pe_4_1_2, pc_4_1_2⟩, List.forall_mem_cons.mpr ⟨⟨pe_4_1_3, pc_4_1_3⟩, fun _ h => absurd h List.not_mem_nil⟩⟩⟩⟩
theorem pe_5_0_0 : pe_ok kd D tc L xs "DecimalRun$Scanner" (.invokespecial 3, 0, 1, 10, .null) := fun A s args hts hG => ⟨trivial, trivial, by
    show if (10 : Nat) = 0 then _ else _
    rw [if_neg (by decide)]
    exact ⟨hts _ wm_128, hts _ wm_31, hts _ wm_32⟩⟩
theorem pc_5_0_0 (nm : String) : pc_ok "DecimalRun$Scanner" nm (.invokespecial 3, 0, 1, 10, .null) := fun s args hts => trivial
theorem pe_5_0_1 : pe_ok kd D tc L xs "DecimalRun$Scanner" (.newarray .int, 0, 0, 0, .null) := fun A s args hts hG => ⟨trivial, hts _ wm_122, trivial⟩
theorem pc_5_0_1 (nm : String) : pc_ok "DecimalRun$Scanner" nm (.newarray .int, 0, 0, 0, .null) := fun s args hts => trivial
theorem pe_5_0_2 : pe_ok kd D tc L xs "DecimalRun$Scanner" (.newarray .long, 0, 0, 0, .null) := fun A s args hts hG => ⟨trivial, hts _ wm_67, trivial⟩
theorem pc_5_0_2 (nm : String) : pc_ok "DecimalRun$Scanner" nm (.newarray .long, 0, 0, 0, .null) := fun s args hts => trivial
theorem pe_5_0_3 : pe_ok kd D tc L xs "DecimalRun$Scanner" (.putfield 27, 5, 4, 0, .null) := fun A s args hts hG => ⟨trivial, trivial, trivial⟩
theorem pc_5_0_3 (nm : String) : pc_ok "DecimalRun$Scanner" nm (.putfield 27, 5, 4, 0, .null) := fun s args hts => ⟨_, _, _, nm_ty5, rfl, by decide, fun w hw => hts w (uw_5 w hw), ty_5, na_5, by decide, Or.inl ⟨rfl, Or.inl (hts _ wm_135)⟩⟩
theorem pe_5_0_4 : pe_ok kd D tc L xs "DecimalRun$Scanner" (.getfield 19, 5, 0, 0, .null) := fun A s args hts hG => ⟨Or.inl ⟨_, _, _, rfl, rfl, by decide, fun w hw => hts w (uw_5 w hw), Or.inl (hts _ wm_129)⟩, trivial, trivial⟩
theorem pc_5_0_4 (nm : String) : pc_ok "DecimalRun$Scanner" nm (.getfield 19, 5, 0, 0, .null) := fun s args hts => trivial
theorem pe_5_0_5 : pe_ok kd D tc L xs "DecimalRun$Scanner" (.getfield 31, 1, 1, 0, .null) := fun A s args hts hG => ⟨Or.inl ⟨_, _, _, rfl, rfl, by decide, fun w hw => hts w (uw_1 w hw), Or.inr ⟨_, hts _ wm_41⟩⟩, trivial, trivial⟩
theorem pc_5_0_5 (nm : String) : pc_ok "DecimalRun$Scanner" nm (.getfield 31, 1, 1, 0, .null) := fun s args hts => trivial
theorem pe_5_0_6 : pe_ok kd D tc L xs "DecimalRun$Scanner" (.invokevirtual 36, 34, 2, 5, .null) := fun A s args hts hG => ⟨trivial, trivial, ⟨⟨_, Or.inl ⟨rfl, rfl⟩, hts _ wp_0⟩, hts _ wm_339, Or.inl (hts _ wm_337), dx_pn1 pn_34⟩⟩
theorem pc_5_0_6 (nm : String) : pc_ok "DecimalRun$Scanner" nm (.invokevirtual 36, 34, 2, 5, .null) := fun s args hts => trivial
theorem pe_5_0_7 : pe_ok kd D tc L xs "DecimalRun$Scanner" (.invokestatic 40, 145, 2, 0, .null) := fun A s args hts hG => ⟨trivial, trivial, ⟨hts _ wm_327, Or.inl (hts _ wm_594), dx_pn pn_145⟩⟩
theorem pc_5_0_7 (nm : String) : pc_ok "DecimalRun$Scanner" nm (.invokestatic 40, 145, 2, 0, .null) := fun s args hts => trivial
theorem pe_5_0_8 : pe_ok kd D tc L xs "DecimalRun$Scanner" (.getfield 9, 5, 2, 0, .null) := fun A s args hts hG => ⟨Or.inl ⟨_, _, _, rfl, rfl, by decide, fun w hw => hts w (uw_5 w hw), Or.inl (hts _ wm_131)⟩, trivial, trivial⟩
theorem pc_5_0_8 (nm : String) : pc_ok "DecimalRun$Scanner" nm (.getfield 9, 5, 2, 0, .null) := fun s args hts => trivial
theorem pe_5_0_9 : pe_ok kd D tc L xs "DecimalRun$Scanner" (.getfield 27, 5, 4, 0, .null) := fun A s args hts hG => ⟨Or.inl ⟨_, _, _, rfl, rfl, by decide, fun w hw => hts w (uw_5 w hw), Or.inl (hts _ wm_135)⟩, trivial, trivial⟩
theorem pc_5_0_9 (nm : String) : pc_ok "DecimalRun$Scanner" nm (.getfield 27, 5, 4, 0, .null) := fun s args hts => trivial
theorem pe_5_0_10 : pe_ok kd D tc L xs "DecimalRun$Scanner" (.invokevirtual 46, 17, 2, 1, .null) := fun A s args hts hG => ⟨trivial, trivial, ⟨⟨_, Or.inl ⟨rfl, rfl⟩, hts _ wm_343⟩, hts _ wm_342, Or.inl (hts _ wm_341), dx_pn1 pn_17⟩⟩
theorem pc_5_0_10 (nm : String) : pc_ok "DecimalRun$Scanner" nm (.invokevirtual 46, 17, 2, 1, .null) := fun s args hts => trivial
theorem pe_5_0_11 : pe_ok kd D tc L xs "DecimalRun$Scanner" (.invokestatic 50, 35, 1, 0, .null) := fun A s args hts hG => ⟨trivial, trivial, ⟨hts _ wm_346, Or.inl (hts _ wm_345), dx_pn pn_35⟩⟩
theorem pc_5_0_11 (nm : String) : pc_ok "DecimalRun$Scanner" nm (.invokestatic 50, 35, 1, 0, .null) := fun s args hts => trivial
theorem pe_5_0_12 : pe_ok kd D tc L xs "DecimalRun$Scanner" (.invokevirtual 54, 36, 2, 5, .null) := fun A s args hts hG => ⟨trivial, trivial, ⟨⟨_, Or.inl ⟨rfl, rfl⟩, hts _ wp_1⟩, hts _ wm_350, Or.inl (hts _ wm_348), dx_pn1 pn_36⟩⟩
theorem pc_5_0_12 (nm : String) : pc_ok "DecimalRun$Scanner" nm (.invokevirtual 54, 36, 2, 5, .null) := fun s args hts => trivial
theorem pe_5_0_13 : pe_ok kd D tc L xs "DecimalRun$Scanner" (.invokestatic 57, 39, 1, 0, .null) := fun A s args hts hG => ⟨trivial, trivial, ⟨hts _ wm_366, Or.inl (hts _ wm_365), dx_pn pn_39⟩⟩
theorem pc_5_0_13 (nm : String) : pc_ok "DecimalRun$Scanner" nm (.invokestatic 57, 39, 1, 0, .null) := fun s args hts => trivial
theorem pe_5_0_14 : pe_ok kd D tc L xs "DecimalRun$Scanner" (.invokevirtual 60, 40, 2, 5, .null) := fun A s args hts hG => ⟨trivial, trivial, ⟨⟨_, Or.inl ⟨rfl, rfl⟩, hts _ wp_4⟩, hts _ wm_370, Or.inl (hts _ wm_368), dx_pn1 pn_40⟩⟩
theorem pc_5_0_14 (nm : String) : pc_ok "DecimalRun$Scanner" nm (.invokevirtual 60, 40, 2, 5, .null) := fun s args hts => trivial
theorem pe_5_0_15 : pe_ok kd D tc L xs "DecimalRun$Scanner" (.invokevirtual 63, 43, 2, 5, .null) := fun A s args hts hG => ⟨trivial, trivial, ⟨⟨_, Or.inl ⟨rfl, rfl⟩, hts _ wp_8⟩, hts _ wm_533, Or.inl (hts _ wm_531), dx_pn1 pn_43⟩⟩
theorem pc_5_0_15 (nm : String) : pc_ok "DecimalRun$Scanner" nm (.invokevirtual 63, 43, 2, 5, .null) := fun s args hts => trivial
theorem pe_5_0_16 : pe_ok kd D tc L xs "DecimalRun$Scanner" (.invokevirtual 66, 37, 3, 5, .null) := fun A s args hts hG => ⟨trivial, trivial, ⟨⟨_, Or.inl ⟨rfl, rfl⟩, hts _ wp_2⟩, hts _ wm_354, Or.inl (hts _ wm_352), dx_pn1 pn_37⟩⟩
theorem pc_5_0_16 (nm : String) : pc_ok "DecimalRun$Scanner" nm (.invokevirtual 66, 37, 3, 5, .null) := fun s args hts => trivial
theorem pe_5_0_17 : pe_ok kd D tc L xs "DecimalRun$Scanner" (.invokestatic 69, 144, 2, 0, .null) := fun A s args hts hG => ⟨trivial, trivial, ⟨hts _ wm_324, Or.inl (hts _ wm_356), dx_pn pn_144⟩⟩
theorem pc_5_0_17 (nm : String) : pc_ok "DecimalRun$Scanner" nm (.invokestatic 69, 144, 2, 0, .null) := fun s args hts => trivial
theorem pe_5_0_18 : pe_ok kd D tc L xs "DecimalRun$Scanner" (.ldc2_w 72, 0, 0, 0, .long 10) := fun A s args hts hG => ⟨⟨_, rfl, hts _ wm_357⟩, trivial, trivial⟩
theorem pc_5_0_18 (nm : String) : pc_ok "DecimalRun$Scanner" nm (.ldc2_w 72, 0, 0, 0, .long 10) := fun s args hts => trivial
theorem pe_5_0_19 : pe_ok kd D tc L xs "DecimalRun$Scanner" (.invokestatic 74, 81, 2, 0, .null) := fun A s args hts hG => ⟨trivial, trivial, ⟨hts _ wm_359, Or.inl (hts _ wm_358), dx_pn pn_81⟩⟩
theorem pc_5_0_19 (nm : String) : pc_ok "DecimalRun$Scanner" nm (.invokestatic 74, 81, 2, 0, .null) := fun s args hts => trivial
theorem pe_5_0_20 : pe_ok kd D tc L xs "DecimalRun$Scanner" (.invokevirtual 80, 38, 3, 5, .null) := fun A s args hts hG => ⟨trivial, trivial, ⟨⟨_, Or.inl ⟨rfl, rfl⟩, hts _ wp_3⟩, hts _ wm_363, Or.inl (hts _ wm_361), dx_pn1 pn_38⟩⟩
theorem pc_5_0_20 (nm : String) : pc_ok "DecimalRun$Scanner" nm (.invokevirtual 80, 38, 3, 5, .null) := fun s args hts => trivial
theorem pe_5_0_21 : pe_ok kd D tc L xs "DecimalRun$Scanner" (.getfield 15, 5, 3, 0, .null) := fun A s args hts hG => ⟨Or.inl ⟨_, _, _, rfl, rfl, by decide, fun w hw => hts w (uw_5 w hw), Or.inl (hts _ wm_133)⟩, trivial, trivial⟩
theorem pc_5_0_21 (nm : String) : pc_ok "DecimalRun$Scanner" nm (.getfield 15, 5, 3, 0, .null) := fun s args hts => trivial
theorem pe_5_0_22 : pe_ok kd D tc L xs "DecimalRun$Scanner" (.invokevirtual 84, 41, 3, 5, .null) := fun A s args hts hG => ⟨trivial, trivial, ⟨⟨_, Or.inl ⟨rfl, rfl⟩, hts _ wp_5⟩, hts _ wm_374, Or.inl (hts _ wm_372), dx_pn1 pn_41⟩⟩
theorem pc_5_0_22 (nm : String) : pc_ok "DecimalRun$Scanner" nm (.invokevirtual 84, 41, 3, 5, .null) := fun s args hts => trivial
theorem pe_5_0_23 : pe_ok kd D tc L xs "DecimalRun$Scanner" (.ldc 87, 0, 0, 0, .retAddr 2) := fun A s args hts hG => ⟨Or.inr ⟨_, _, rfl, gs_2 hG⟩, trivial, trivial⟩
theorem pc_5_0_23 (nm : String) : pc_ok "DecimalRun$Scanner" nm (.ldc 87, 0, 0, 0, .retAddr 2) := fun s args hts => trivial
theorem pe_5_0_24 : pe_ok kd D tc L xs "DecimalRun$Scanner" (.invokevirtual 89, 42, 4, 5, .null) := fun A s args hts hG => ⟨trivial, trivial, ⟨⟨_, Or.inl ⟨rfl, rfl⟩, hts _ wp_6⟩, hts _ wm_379, Or.inl (hts _ wm_377), dx_pn1 pn_42⟩⟩
theorem pc_5_0_24 (nm : String) : pc_ok "DecimalRun$Scanner" nm (.invokevirtual 89, 42, 4, 5, .null) := fun s args hts => trivial
theorem pe_5_0_25 : pe_ok kd D tc L xs "DecimalRun$Scanner" (.ldc 93, 0, 0, 0, .retAddr 3) := fun A s args hts hG => ⟨Or.inr ⟨_, _, rfl, gs_3 hG⟩, trivial, trivial⟩
theorem pc_5_0_25 (nm : String) : pc_ok "DecimalRun$Scanner" nm (.ldc 93, 0, 0, 0, .retAddr 3) := fun s args hts => trivial
theorem pe_5_0_26 : pe_ok kd D tc L xs "DecimalRun$Scanner" (.ldc 95, 0, 0, 0, .retAddr 4) := fun A s args hts hG => ⟨Or.inr ⟨_, _, rfl, gs_4 hG⟩, trivial, trivial⟩
theorem pc_5_0_26 (nm : String) : pc_ok "DecimalRun$Scanner" nm (.ldc 95, 0, 0, 0, .retAddr 4) := fun s args hts => trivial
theorem pe_5_0_27 : pe_ok kd D tc L xs "DecimalRun$Scanner" (.ldc 97, 0, 0, 0, .retAddr 5) := fun A s args hts hG => ⟨Or.inr ⟨_, _, rfl, gs_5 hG⟩, trivial, trivial⟩
theorem pc_5_0_27 (nm : String) : pc_ok "DecimalRun$Scanner" nm (.ldc 97, 0, 0, 0, .retAddr 5) := fun s args hts => trivial
theorem pe_5_0_28 : pe_ok kd D tc L xs "DecimalRun$Scanner" (.ldc 99, 0, 0, 0, .retAddr 6) := fun A s args hts hG => ⟨Or.inr ⟨_, _, rfl, gs_6 hG⟩, trivial, trivial⟩
theorem pc_5_0_28 (nm : String) : pc_ok "DecimalRun$Scanner" nm (.ldc 99, 0, 0, 0, .retAddr 6) := fun s args hts => trivial
theorem pe_5_0_29 : pe_ok kd D tc L xs "DecimalRun$Scanner" (.getfield 23, 5, 1, 0, .null) := fun A s args hts hG => ⟨Or.inl ⟨_, _, _, rfl, rfl, by decide, fun w hw => hts w (uw_5 w hw), Or.inl (hts _ wm_130)⟩, trivial, trivial⟩
theorem pc_5_0_29 (nm : String) : pc_ok "DecimalRun$Scanner" nm (.getfield 23, 5, 1, 0, .null) := fun s args hts => trivial
theorem pe_5_0_30 : pe_ok kd D tc L xs "DecimalRun$Scanner" (.invokevirtual 101, 22, 2, 3, .null) := fun A s args hts hG => ⟨trivial, trivial, ⟨⟨_, Or.inl ⟨rfl, rfl⟩, hts _ wm_435⟩, hts _ wm_434, Or.inl (hts _ wm_433), dx_pn1 pn_22⟩⟩
theorem pc_5_0_30 (nm : String) : pc_ok "DecimalRun$Scanner" nm (.invokevirtual 101, 22, 2, 3, .null) := fun s args hts => trivial
theorem pe_5_0_31 : pe_ok kd D tc L xs "DecimalRun$Scanner" (.invokevirtual 107, 151, 1, 14, .null) := fun A s args hts hG => ⟨trivial, trivial, ⟨⟨_, Or.inr ⟨rfl, rfl⟩, hts _ wm_383⟩, hts _ wm_382, Or.inl (hts _ wm_381), dx_pn1 pn_151⟩⟩
theorem pc_5_0_31 (nm : String) : pc_ok "DecimalRun$Scanner" nm (.invokevirtual 107, 151, 1, 14, .null) := fun s args hts => trivial
theorem pe_5_0_32 : pe_ok kd D tc L xs "DecimalRun$Scanner" (.invokevirtual 113, 153, 2, 14, .null) := fun A s args hts hG => ⟨trivial, trivial, ⟨⟨_, Or.inr ⟨rfl, rfl⟩, hts _ wm_393⟩, hts _ wm_392, Or.inl (hts _ wm_391), dx_pn1 pn_153⟩⟩
theorem pc_5_0_32 (nm : String) : pc_ok "DecimalRun$Scanner" nm (.invokevirtual 113, 153, 2, 14, .null) := fun s args hts => trivial
theorem pe_5_0_33 : pe_ok kd D tc L xs "DecimalRun$Scanner" (.invokestatic 116, 44, 1, 0, .null) := fun A s args hts hG => ⟨trivial, trivial, ⟨hts _ wm_536, Or.inl (hts _ wm_535), dx_pn pn_44⟩⟩
theorem pc_5_0_33 (nm : String) : pc_ok "DecimalRun$Scanner" nm (.invokestatic 116, 44, 1, 0, .null) := fun s args hts => trivial
theorem pe_5_0_34 : pe_ok kd D tc L xs "DecimalRun$Scanner" (.ldc 120, 0, 0, 0, .retAddr 7) := fun A s args hts hG => ⟨Or.inr ⟨_, _, rfl, gs_7 hG⟩, trivial, trivial⟩
theorem pc_5_0_34 (nm : String) : pc_ok "DecimalRun$Scanner" nm (.ldc 120, 0, 0, 0, .retAddr 7) := fun s args hts => trivial
theorem pe_5_0_35 : pe_ok kd D tc L xs "DecimalRun$Scanner" (.invokevirtual 122, 156, 2, 14, .null) := fun A s args hts hG => ⟨trivial, trivial, ⟨⟨_, Or.inr ⟨rfl, rfl⟩, hts _ wm_541⟩, hts _ wm_540, Or.inl (hts _ wm_539), dx_pn1 pn_156⟩⟩
theorem pc_5_0_35 (nm : String) : pc_ok "DecimalRun$Scanner" nm (.invokevirtual 122, 156, 2, 14, .null) := fun s args hts => trivial
def pl_5_0 : List dx_I := [(.invokespecial 3, 0, 1, 10, .null), (.newarray .int, 0, 0, 0, .null), (.newarray .long, 0, 0, 0, .null), (.putfield 27, 5, 4, 0, .null), (.getfield 19, 5, 0, 0, .null), (.getfield 31, 1, 1, 0, .null), (.invokevirtual 36, 34, 2, 5, .null), (.invokestatic 40, 145, 2, 0, .null), (.getfield 9, 5, 2, 0, .null), (.getfield 27, 5, 4, 0, .null), (.invokevirtual 46, 17, 2, 1, .null), (.invokestatic 50, 35, 1, 0, .null), (.invokevirtual 54, 36, 2, 5, .null), (.invokestatic 57, 39, 1, 0, .null), (.invokevirtual 60, 40, 2, 5, .null), (.invokevirtual 63, 43, 2, 5, .null), (.invokevirtual 66, 37, 3, 5, .null), (.invokestatic 69, 144, 2, 0, .null), (.ldc2_w 72, 0, 0, 0, .long 10), (.invokestatic 74, 81, 2, 0, .null), (.invokevirtual 80, 38, 3, 5, .null), (.getfield 15, 5, 3, 0, .null), (.invokevirtual 84, 41, 3, 5, .null), (.ldc 87, 0, 0, 0, .retAddr 2), (.invokevirtual 89, 42, 4, 5, .null), (.ldc 93, 0, 0, 0, .retAddr 3), (.ldc 95, 0, 0, 0, .retAddr 4), (.ldc 97, 0, 0, 0, .retAddr 5), (.ldc 99, 0, 0, 0, .retAddr 6), (.getfield 23, 5, 1, 0, .null), (.invokevirtual 101, 22, 2, 3, .null), (.invokevirtual 107, 151, 1, 14, .null), (.invokevirtual 113, 153, 2, 14, .null), (.invokestatic 116, 44, 1, 0, .null), (.ldc 120, 0, 0, 0, .retAddr 7), (.invokevirtual 122, 156, 2, 14, .null)]
theorem pa_5_0 (nm : String) : ∀ x ∈ pl_5_0, pe_ok kd D tc L xs "DecimalRun$Scanner" x ∧ pc_ok "DecimalRun$Scanner" nm x := List.forall_mem_cons.mpr ⟨⟨pe_5_0_0, pc_5_0_0 nm⟩, List.forall_mem_cons.mpr ⟨⟨pe_5_0_1, pc_5_0_1 nm⟩, List.forall_mem_cons.mpr ⟨⟨pe_5_0_2, pc_5_0_2 nm⟩, List.forall_mem_cons.mpr ⟨⟨pe_5_0_3, pc_5_0_3 nm⟩, List.forall_mem_cons.mpr ⟨⟨pe_5_0_4, pc_5_0_4 nm⟩, List.forall_mem_cons.mpr ⟨⟨pe_5_0_5, pc_5_0_5 nm⟩, List.forall_mem_cons.mpr ⟨⟨pe_5_0_6, pc_5_0_6 nm⟩, List.forall_mem_cons.mpr ⟨⟨pe_5_0_7, pc_5_0_7 nm⟩, List.forall_mem_cons.mpr ⟨⟨pe_5_0_8, pc_5_0_8 nm⟩, List.forall_mem_cons.mpr ⟨⟨pe_5_0_9, pc_5_0_9 nm⟩, List.forall_mem_cons.mpr ⟨⟨pe_5_0_10, pc_5_0_10 nm⟩, List.forall_mem_cons.mpr ⟨⟨pe_5_0_11, pc_5_0_11 nm⟩, List.forall_mem_cons.mpr ⟨⟨pe_5_0_12, pc_5_0_12 nm⟩, List.forall_mem_cons.mpr ⟨⟨pe_5_0_13, pc_5_0_13 nm⟩, List.forall_mem_cons.mpr ⟨⟨pe_5_0_14, pc_5_0_14 nm⟩, List.forall_mem_cons.mpr ⟨⟨pe_5_0_15, pc_5_0_15 nm⟩, List.forall_mem_cons.mpr ⟨⟨pe_5_0_16, pc_5_0_16 nm⟩, List.forall_mem_cons.mpr ⟨⟨pe_5_0_17, pc_5_0_17 nm⟩, List.forall_mem_cons.mpr ⟨⟨pe_5_0_18, pc_5_0_18 nm⟩, List.forall_mem_cons.mpr ⟨⟨pe_5_0_19, pc_5_0_19 nm⟩, List.forall_mem_cons.mpr ⟨⟨pe_5_0_20, pc_5_0_20 nm⟩, List.forall_mem_cons.mpr ⟨⟨pe_5_0_21, pc_5_0_21 nm⟩, List.forall_mem_cons.mpr ⟨⟨pe_5_0_22, pc_5_0_22 nm⟩, List.forall_mem_cons.mpr ⟨⟨pe_5_0_23, pc_5_0_23 nm⟩, List.forall_mem_cons.mpr ⟨⟨pe_5_0_24, pc_5_0_24 nm⟩, List.forall_mem_cons.mpr ⟨⟨pe_5_0_25, pc_5_0_25 nm⟩, List.forall_mem_cons.mpr ⟨⟨pe_5_0_26, pc_5_0_26 nm⟩, List.forall_mem_cons.mpr ⟨⟨pe_5_0_27, pc_5_0_27 nm⟩, List.forall_mem_cons.mpr ⟨⟨pe_5_0_28, pc_5_0_28 nm⟩, List.forall_mem_cons.mpr ⟨⟨pe_5_0_29, pc_5_0_29 nm⟩, List.forall_mem_cons.mpr ⟨⟨pe_5_0_30, pc_5_0_30 nm⟩, List.forall_mem_cons.mpr ⟨⟨pe_5_0_31, pc_5_0_31 nm⟩, List.forall_mem_cons.mpr ⟨⟨pe_5_0_32, pc_5_0_32 nm⟩, List.forall_mem_cons.mpr ⟨⟨pe_5_0_33, pc_5_0_33 nm⟩, List.forall_mem_cons.mpr ⟨⟨pe_5_0_34, pc_5_0_34 nm⟩, List.forall_mem_cons.mpr ⟨⟨pe_5_0_35, pc_5_0_35 nm⟩, fun _ h => absurd h List.not_mem_nil⟩⟩⟩⟩⟩⟩⟩⟩⟩⟩⟩⟩⟩⟩⟩⟩⟩⟩⟩⟩⟩⟩⟩⟩⟩⟩⟩⟩⟩⟩⟩⟩⟩⟩⟩⟩
theorem pe_5_1_0 : pe_ok kd D tc L xs "DecimalRun$Scanner" (.putfield 9, 5, 2, 3, .null) := fun A s args hts hG => ⟨trivial, trivial, trivial⟩
theorem pc_5_1_0 : pc_ok "DecimalRun$Scanner" "<init>" (.putfield 9, 5, 2, 3, .null) := fun s args hts => ⟨_, _, _, nm_ty5, rfl, by decide, fun w hw => hts w (uw_5 w hw), ty_5, na_5, by decide, Or.inr ⟨rfl, hts _ wm_131, rfl, rfl⟩⟩
theorem pe_5_1_1 : pe_ok kd D tc L xs "DecimalRun$Scanner" (.putfield 15, 5, 3, 3, .null) := fun A s args hts hG => ⟨trivial, trivial, trivial⟩
theorem pc_5_1_1 : pc_ok "DecimalRun$Scanner" "<init>" (.putfield 15, 5, 3, 3, .null) := fun s args hts => ⟨_, _, _, nm_ty5, rfl, by decide, fun w hw => hts w (uw_5 w hw), ty_5, na_5, by decide, Or.inr ⟨rfl, hts _ wm_133, rfl, rfl⟩⟩
theorem pe_5_1_2 : pe_ok kd D tc L xs "DecimalRun$Scanner" (.putfield 19, 5, 0, 3, .null) := fun A s args hts hG => ⟨trivial, trivial, trivial⟩
theorem pc_5_1_2 : pc_ok "DecimalRun$Scanner" "<init>" (.putfield 19, 5, 0, 3, .null) := fun s args hts => ⟨_, _, _, nm_ty5, rfl, by decide, fun w hw => hts w (uw_5 w hw), ty_5, na_5, by decide, Or.inr ⟨rfl, hts _ wm_129, rfl, rfl⟩⟩
theorem pe_5_1_3 : pe_ok kd D tc L xs "DecimalRun$Scanner" (.putfield 23, 5, 1, 3, .null) := fun A s args hts hG => ⟨trivial, trivial, trivial⟩
theorem pc_5_1_3 : pc_ok "DecimalRun$Scanner" "<init>" (.putfield 23, 5, 1, 3, .null) := fun s args hts => ⟨_, _, _, nm_ty5, rfl, by decide, fun w hw => hts w (uw_5 w hw), ty_5, na_5, by decide, Or.inr ⟨rfl, hts _ wm_130, rfl, rfl⟩⟩
def pl_5_1 : List dx_I := [(.putfield 9, 5, 2, 3, .null), (.putfield 15, 5, 3, 3, .null), (.putfield 19, 5, 0, 3, .null), (.putfield 23, 5, 1, 3, .null)]
theorem pa_5_1 : ∀ x ∈ pl_5_1, pe_ok kd D tc L xs "DecimalRun$Scanner" x ∧ pc_ok "DecimalRun$Scanner" "<init>" x := List.forall_mem_cons.mpr ⟨⟨pe_5_1_0, pc_5_1_0⟩, List.forall_mem_cons.mpr ⟨⟨pe_5_1_1, pc_5_1_1⟩, List.forall_mem_cons.mpr ⟨⟨pe_5_1_2, pc_5_1_2⟩, List.forall_mem_cons.mpr ⟨⟨pe_5_1_3, pc_5_1_3⟩, fun _ h => absurd h List.not_mem_nil⟩⟩⟩⟩
theorem pe_6_0_0 : pe_ok kd D tc L xs "DecimalRun$Parser" (.invokespecial 3, 0, 1, 10, .null) := fun A s args hts hG => ⟨trivial, trivial, by
    show if (10 : Nat) = 0 then _ else _
    rw [if_neg (by decide)]
    exact ⟨hts _ wm_153, hts _ wm_31, hts _ wm_32⟩⟩
theorem pc_6_0_0 (nm : String) : pc_ok "DecimalRun$Parser" nm (.invokespecial 3, 0, 1, 10, .null) := fun s args hts => trivial
theorem pe_6_0_1 : pe_ok kd D tc L xs "DecimalRun$Parser" (.putfield 23, 6, 3, 0, .null) := fun A s args hts hG => ⟨trivial, trivial, trivial⟩
theorem pc_6_0_1 (nm : String) : pc_ok "DecimalRun$Parser" nm (.putfield 23, 6, 3, 0, .null) := fun s args hts => ⟨_, _, _, nm_ty6, rfl, by decide, fun w hw => hts w (uw_6 w hw), ty_6, na_6, by decide, Or.inl ⟨rfl, Or.inl (hts _ wm_157)⟩⟩
theorem pe_6_0_2 : pe_ok kd D tc L xs "DecimalRun$Parser" (.putfield 27, 6, 4, 2, .null) := fun A s args hts hG => ⟨trivial, trivial, trivial⟩
theorem pc_6_0_2 (nm : String) : pc_ok "DecimalRun$Parser" nm (.putfield 27, 6, 4, 2, .null) := fun s args hts => ⟨_, _, _, nm_ty6, rfl, by decide, fun w hw => hts w (uw_6 w hw), ty_6, na_6, by decide, Or.inl ⟨rfl, Or.inl (hts _ wm_158)⟩⟩
theorem pe_6_0_3 : pe_ok kd D tc L xs "DecimalRun$Parser" (.getfield 15, 6, 1, 0, .null) := fun A s args hts hG => ⟨Or.inl ⟨_, _, _, rfl, rfl, by decide, fun w hw => hts w (uw_6 w hw), Or.inl (hts _ wm_155)⟩, trivial, trivial⟩
theorem pc_6_0_3 (nm : String) : pc_ok "DecimalRun$Parser" nm (.getfield 15, 6, 1, 0, .null) := fun s args hts => trivial
theorem pe_6_0_4 : pe_ok kd D tc L xs "DecimalRun$Parser" (.invokevirtual 31, 27, 1, 4, .null) := fun A s args hts hG => ⟨trivial, trivial, ⟨⟨_, Or.inl ⟨rfl, rfl⟩, hts _ wm_601⟩, hts _ wm_600, Or.inl (hts _ wm_599), dx_pn1 pn_27⟩⟩
theorem pc_6_0_4 (nm : String) : pc_ok "DecimalRun$Parser" nm (.invokevirtual 31, 27, 1, 4, .null) := fun s args hts => trivial
theorem pe_6_0_5 : pe_ok kd D tc L xs "DecimalRun$Parser" (.invokevirtual 36, 47, 3, 6, .null) := fun A s args hts hG => ⟨trivial, trivial, ⟨⟨_, Or.inl ⟨rfl, rfl⟩, hts _ wp_9⟩, hts _ wm_608, Or.inl (hts _ wm_606), dx_pn1 pn_47⟩⟩
theorem pc_6_0_5 (nm : String) : pc_ok "DecimalRun$Parser" nm (.invokevirtual 36, 47, 3, 6, .null) := fun s args hts => trivial
theorem pe_6_0_6 : pe_ok kd D tc L xs "DecimalRun$Parser" (.invokevirtual 40, 48, 1, 6, .null) := fun A s args hts hG => ⟨trivial, trivial, ⟨⟨_, Or.inl ⟨rfl, rfl⟩, hts _ wp_10⟩, hts _ wm_612, Or.inl (hts _ wm_610), dx_pn1 pn_48⟩⟩
theorem pc_6_0_6 (nm : String) : pc_ok "DecimalRun$Parser" nm (.invokevirtual 40, 48, 1, 6, .null) := fun s args hts => trivial
theorem pe_6_0_7 : pe_ok kd D tc L xs "DecimalRun$Parser" (.invokevirtual 43, 49, 1, 6, .null) := fun A s args hts hG => ⟨trivial, trivial, ⟨⟨_, Or.inl ⟨rfl, rfl⟩, hts _ wp_11⟩, hts _ wm_616, Or.inl (hts _ wm_614), dx_pn1 pn_49⟩⟩
theorem pc_6_0_7 (nm : String) : pc_ok "DecimalRun$Parser" nm (.invokevirtual 43, 49, 1, 6, .null) := fun s args hts => trivial
theorem pe_6_0_8 : pe_ok kd D tc L xs "DecimalRun$Parser" (.invokevirtual 47, 51, 2, 6, .null) := fun A s args hts hG => ⟨trivial, trivial, ⟨⟨_, Or.inl ⟨rfl, rfl⟩, hts _ wp_13⟩, hts _ wm_624, Or.inl (hts _ wm_622), dx_pn1 pn_51⟩⟩
theorem pc_6_0_8 (nm : String) : pc_ok "DecimalRun$Parser" nm (.invokevirtual 47, 51, 2, 6, .null) := fun s args hts => trivial
theorem pe_6_0_9 : pe_ok kd D tc L xs "DecimalRun$Parser" (.invokevirtual 51, 56, 2, 6, .null) := fun A s args hts hG => ⟨trivial, trivial, ⟨⟨_, Or.inl ⟨rfl, rfl⟩, hts _ wp_18⟩, hts _ wm_661, Or.inl (hts _ wm_659), dx_pn1 pn_56⟩⟩
theorem pc_6_0_9 (nm : String) : pc_ok "DecimalRun$Parser" nm (.invokevirtual 51, 56, 2, 6, .null) := fun s args hts => trivial
theorem pe_6_0_10 : pe_ok kd D tc L xs "DecimalRun$Parser" (.invokevirtual 54, 52, 2, 6, .null) := fun A s args hts hG => ⟨trivial, trivial, ⟨⟨_, Or.inl ⟨rfl, rfl⟩, hts _ wp_14⟩, hts _ wm_628, Or.inl (hts _ wm_626), dx_pn1 pn_52⟩⟩
theorem pc_6_0_10 (nm : String) : pc_ok "DecimalRun$Parser" nm (.invokevirtual 54, 52, 2, 6, .null) := fun s args hts => trivial
theorem pe_6_0_11 : pe_ok kd D tc L xs "DecimalRun$Parser" (.invokevirtual 101, 50, 1, 6, .null) := fun A s args hts hG => ⟨trivial, trivial, ⟨⟨_, Or.inl ⟨rfl, rfl⟩, hts _ wp_12⟩, hts _ wm_620, Or.inl (hts _ wm_618), dx_pn1 pn_50⟩⟩
theorem pc_6_0_11 (nm : String) : pc_ok "DecimalRun$Parser" nm (.invokevirtual 101, 50, 1, 6, .null) := fun s args hts => trivial
theorem pe_6_0_12 : pe_ok kd D tc L xs "DecimalRun$Parser" (.getfield 9, 6, 0, 0, .null) := fun A s args hts hG => ⟨Or.inl ⟨_, _, _, rfl, rfl, by decide, fun w hw => hts w (uw_6 w hw), Or.inl (hts _ wm_154)⟩, trivial, trivial⟩
theorem pc_6_0_12 (nm : String) : pc_ok "DecimalRun$Parser" nm (.getfield 9, 6, 0, 0, .null) := fun s args hts => trivial
theorem pe_6_0_13 : pe_ok kd D tc L xs "DecimalRun$Parser" (.getfield 140, 5, 2, 0, .null) := fun A s args hts hG => ⟨Or.inl ⟨_, _, _, rfl, rfl, by decide, fun w hw => hts w (uw_5 w hw), Or.inr ⟨_, hts _ wm_132⟩⟩, trivial, trivial⟩
theorem pc_6_0_13 (nm : String) : pc_ok "DecimalRun$Parser" nm (.getfield 140, 5, 2, 0, .null) := fun s args hts => trivial
theorem pe_6_0_14 : pe_ok kd D tc L xs "DecimalRun$Parser" (.getfield 23, 6, 3, 0, .null) := fun A s args hts hG => ⟨Or.inl ⟨_, _, _, rfl, rfl, by decide, fun w hw => hts w (uw_6 w hw), Or.inl (hts _ wm_157)⟩, trivial, trivial⟩
theorem pc_6_0_14 (nm : String) : pc_ok "DecimalRun$Parser" nm (.getfield 23, 6, 3, 0, .null) := fun s args hts => trivial
theorem pe_6_0_15 : pe_ok kd D tc L xs "DecimalRun$Parser" (.getfield 144, 5, 4, 0, .null) := fun A s args hts hG => ⟨Or.inl ⟨_, _, _, rfl, rfl, by decide, fun w hw => hts w (uw_5 w hw), Or.inr ⟨_, hts _ wm_136⟩⟩, trivial, trivial⟩
theorem pc_6_0_15 (nm : String) : pc_ok "DecimalRun$Parser" nm (.getfield 144, 5, 4, 0, .null) := fun s args hts => trivial
theorem pe_6_0_16 : pe_ok kd D tc L xs "DecimalRun$Parser" (.invokevirtual 57, 53, 1, 6, .null) := fun A s args hts hG => ⟨trivial, trivial, ⟨⟨_, Or.inl ⟨rfl, rfl⟩, hts _ wp_15⟩, hts _ wm_633, Or.inl (hts _ wm_631), dx_pn1 pn_53⟩⟩
theorem pc_6_0_16 (nm : String) : pc_ok "DecimalRun$Parser" nm (.invokevirtual 57, 53, 1, 6, .null) := fun s args hts => trivial
theorem pe_6_0_17 : pe_ok kd D tc L xs "DecimalRun$Parser" (.invokevirtual 60, 28, 2, 4, .null) := fun A s args hts hG => ⟨trivial, trivial, ⟨⟨_, Or.inl ⟨rfl, rfl⟩, hts _ wm_637⟩, hts _ wm_636, Or.inl (hts _ wm_635), dx_pn1 pn_28⟩⟩
theorem pc_6_0_17 (nm : String) : pc_ok "DecimalRun$Parser" nm (.invokevirtual 60, 28, 2, 4, .null) := fun s args hts => trivial
theorem pe_6_0_18 : pe_ok kd D tc L xs "DecimalRun$Parser" (.getfield 19, 6, 2, 0, .null) := fun A s args hts hG => ⟨Or.inl ⟨_, _, _, rfl, rfl, by decide, fun w hw => hts w (uw_6 w hw), Or.inl (hts _ wm_156)⟩, trivial, trivial⟩
theorem pc_6_0_18 (nm : String) : pc_ok "DecimalRun$Parser" nm (.getfield 19, 6, 2, 0, .null) := fun s args hts => trivial
theorem pe_6_0_19 : pe_ok kd D tc L xs "DecimalRun$Parser" (.invokevirtual 64, 22, 2, 3, .null) := fun A s args hts hG => ⟨trivial, trivial, ⟨⟨_, Or.inl ⟨rfl, rfl⟩, hts _ wm_435⟩, hts _ wm_434, Or.inl (hts _ wm_630), dx_pn1 pn_22⟩⟩
theorem pc_6_0_19 (nm : String) : pc_ok "DecimalRun$Parser" nm (.invokevirtual 64, 22, 2, 3, .null) := fun s args hts => trivial
theorem pe_6_0_20 : pe_ok kd D tc L xs "DecimalRun$Parser" (.invokevirtual 69, 29, 3, 4, .null) := fun A s args hts hG => ⟨trivial, trivial, ⟨⟨_, Or.inl ⟨rfl, rfl⟩, hts _ wm_641⟩, hts _ wm_640, Or.inl (hts _ wm_639), dx_pn1 pn_29⟩⟩
theorem pc_6_0_20 (nm : String) : pc_ok "DecimalRun$Parser" nm (.invokevirtual 69, 29, 3, 4, .null) := fun s args hts => trivial
theorem pe_6_0_21 : pe_ok kd D tc L xs "DecimalRun$Parser" (.invokevirtual 73, 30, 3, 4, .null) := fun A s args hts hG => ⟨trivial, trivial, ⟨⟨_, Or.inl ⟨rfl, rfl⟩, hts _ wm_645⟩, hts _ wm_644, Or.inl (hts _ wm_643), dx_pn1 pn_30⟩⟩
theorem pc_6_0_21 (nm : String) : pc_ok "DecimalRun$Parser" nm (.invokevirtual 73, 30, 3, 4, .null) := fun s args hts => trivial
theorem pe_6_0_22 : pe_ok kd D tc L xs "DecimalRun$Parser" (.invokevirtual 76, 54, 2, 6, .null) := fun A s args hts hG => ⟨trivial, trivial, ⟨⟨_, Or.inl ⟨rfl, rfl⟩, hts _ wp_16⟩, hts _ wm_649, Or.inl (hts _ wm_647), dx_pn1 pn_54⟩⟩
theorem pc_6_0_22 (nm : String) : pc_ok "DecimalRun$Parser" nm (.invokevirtual 76, 54, 2, 6, .null) := fun s args hts => trivial
theorem pe_6_0_23 : pe_ok kd D tc L xs "DecimalRun$Parser" (.invokevirtual 79, 31, 2, 4, .null) := fun A s args hts hG => ⟨trivial, trivial, ⟨⟨_, Or.inl ⟨rfl, rfl⟩, hts _ wm_657⟩, hts _ wm_656, Or.inl (hts _ wm_655), dx_pn1 pn_31⟩⟩
theorem pc_6_0_23 (nm : String) : pc_ok "DecimalRun$Parser" nm (.invokevirtual 79, 31, 2, 4, .null) := fun s args hts => trivial
theorem pe_6_0_24 : pe_ok kd D tc L xs "DecimalRun$Parser" (.getfield 113, 5, 3, 0, .null) := fun A s args hts hG => ⟨Or.inl ⟨_, _, _, rfl, rfl, by decide, fun w hw => hts w (uw_5 w hw), Or.inr ⟨_, hts _ wm_134⟩⟩, trivial, trivial⟩
theorem pc_6_0_24 (nm : String) : pc_ok "DecimalRun$Parser" nm (.getfield 113, 5, 3, 0, .null) := fun s args hts => trivial
theorem pe_6_0_25 : pe_ok kd D tc L xs "DecimalRun$Parser" (.invokevirtual 82, 55, 2, 6, .null) := fun A s args hts hG => ⟨trivial, trivial, ⟨⟨_, Or.inl ⟨rfl, rfl⟩, hts _ wp_17⟩, hts _ wm_653, Or.inl (hts _ wm_651), dx_pn1 pn_55⟩⟩
theorem pc_6_0_25 (nm : String) : pc_ok "DecimalRun$Parser" nm (.invokevirtual 82, 55, 2, 6, .null) := fun s args hts => trivial
theorem pe_6_0_26 : pe_ok kd D tc L xs "DecimalRun$Parser" (.invokevirtual 86, 57, 2, 6, .null) := fun A s args hts hG => ⟨trivial, trivial, ⟨⟨_, Or.inl ⟨rfl, rfl⟩, hts _ wp_19⟩, hts _ wm_665, Or.inl (hts _ wm_663), dx_pn1 pn_57⟩⟩
theorem pc_6_0_26 (nm : String) : pc_ok "DecimalRun$Parser" nm (.invokevirtual 86, 57, 2, 6, .null) := fun s args hts => trivial
theorem pe_6_0_27 : pe_ok kd D tc L xs "DecimalRun$Parser" (.invokevirtual 89, 68, 2, 6, .null) := fun A s args hts hG => ⟨trivial, trivial, ⟨⟨_, Or.inl ⟨rfl, rfl⟩, hts _ wp_27⟩, hts _ wm_706, Or.inl (hts _ wm_704), dx_pn1 pn_68⟩⟩
theorem pc_6_0_27 (nm : String) : pc_ok "DecimalRun$Parser" nm (.invokevirtual 89, 68, 2, 6, .null) := fun s args hts => trivial
theorem pe_6_0_28 : pe_ok kd D tc L xs "DecimalRun$Parser" (.invokevirtual 92, 69, 1, 6, .null) := fun A s args hts hG => ⟨trivial, trivial, ⟨⟨_, Or.inl ⟨rfl, rfl⟩, hts _ wp_28⟩, hts _ wm_710, Or.inl (hts _ wm_708), dx_pn1 pn_69⟩⟩
theorem pc_6_0_28 (nm : String) : pc_ok "DecimalRun$Parser" nm (.invokevirtual 92, 69, 1, 6, .null) := fun s args hts => trivial
theorem pe_6_0_29 : pe_ok kd D tc L xs "DecimalRun$Parser" (.invokevirtual 95, 70, 2, 6, .null) := fun A s args hts hG => ⟨trivial, trivial, ⟨⟨_, Or.inl ⟨rfl, rfl⟩, hts _ wp_29⟩, hts _ wm_714, Or.inl (hts _ wm_712), dx_pn1 pn_70⟩⟩
theorem pc_6_0_29 (nm : String) : pc_ok "DecimalRun$Parser" nm (.invokevirtual 95, 70, 2, 6, .null) := fun s args hts => trivial
theorem pe_6_0_30 : pe_ok kd D tc L xs "DecimalRun$Parser" (.invokevirtual 98, 59, 2, 6, .null) := fun A s args hts hG => ⟨trivial, trivial, ⟨⟨_, Or.inl ⟨rfl, rfl⟩, hts _ wp_21⟩, hts _ wm_673, Or.inl (hts _ wm_671), dx_pn1 pn_59⟩⟩
theorem pc_6_0_30 (nm : String) : pc_ok "DecimalRun$Parser" nm (.invokevirtual 98, 59, 2, 6, .null) := fun s args hts => trivial
theorem pe_6_0_31 : pe_ok kd D tc L xs "DecimalRun$Parser" (.getfield 104, 4, 4, 0, .null) := fun A s args hts hG => ⟨Or.inl ⟨_, _, _, rfl, rfl, by decide, fun w hw => hts w (uw_4 w hw), Or.inr ⟨_, hts _ wm_110⟩⟩, trivial, trivial⟩
theorem pc_6_0_31 (nm : String) : pc_ok "DecimalRun$Parser" nm (.getfield 104, 4, 4, 0, .null) := fun s args hts => trivial
theorem pe_6_0_32 : pe_ok kd D tc L xs "DecimalRun$Parser" (.invokevirtual 107, 58, 2, 6, .null) := fun A s args hts hG => ⟨trivial, trivial, ⟨⟨_, Or.inl ⟨rfl, rfl⟩, hts _ wp_20⟩, hts _ wm_669, Or.inl (hts _ wm_667), dx_pn1 pn_58⟩⟩
theorem pc_6_0_32 (nm : String) : pc_ok "DecimalRun$Parser" nm (.invokevirtual 107, 58, 2, 6, .null) := fun s args hts => trivial
theorem pe_6_0_33 : pe_ok kd D tc L xs "DecimalRun$Parser" (.invokestatic 110, 67, 1, 0, .null) := fun A s args hts hG => ⟨trivial, trivial, ⟨hts _ wm_702, Or.inl (hts _ wm_701), dx_pn pn_67⟩⟩
theorem pc_6_0_33 (nm : String) : pc_ok "DecimalRun$Parser" nm (.invokestatic 110, 67, 1, 0, .null) := fun s args hts => trivial
theorem pe_6_0_34 : pe_ok kd D tc L xs "DecimalRun$Parser" (.invokevirtual 119, 60, 2, 6, .null) := fun A s args hts hG => ⟨trivial, trivial, ⟨⟨_, Or.inl ⟨rfl, rfl⟩, hts _ wp_22⟩, hts _ wm_677, Or.inl (hts _ wm_675), dx_pn1 pn_60⟩⟩
theorem pc_6_0_34 (nm : String) : pc_ok "DecimalRun$Parser" nm (.invokevirtual 119, 60, 2, 6, .null) := fun s args hts => trivial
theorem pe_6_0_35 : pe_ok kd D tc L xs "DecimalRun$Parser" (.invokestatic 122, 66, 1, 0, .null) := fun A s args hts hG => ⟨trivial, trivial, ⟨hts _ wm_699, Or.inl (hts _ wm_698), dx_pn pn_66⟩⟩
theorem pc_6_0_35 (nm : String) : pc_ok "DecimalRun$Parser" nm (.invokestatic 122, 66, 1, 0, .null) := fun s args hts => trivial
theorem pe_6_0_36 : pe_ok kd D tc L xs "DecimalRun$Parser" (.invokevirtual 125, 61, 2, 6, .null) := fun A s args hts hG => ⟨trivial, trivial, ⟨⟨_, Or.inl ⟨rfl, rfl⟩, hts _ wp_23⟩, hts _ wm_681, Or.inl (hts _ wm_679), dx_pn1 pn_61⟩⟩
theorem pc_6_0_36 (nm : String) : pc_ok "DecimalRun$Parser" nm (.invokevirtual 125, 61, 2, 6, .null) := fun s args hts => trivial
theorem pe_6_0_37 : pe_ok kd D tc L xs "DecimalRun$Parser" (.invokestatic 128, 65, 1, 0, .null) := fun A s args hts hG => ⟨trivial, trivial, ⟨hts _ wm_696, Or.inl (hts _ wm_695), dx_pn pn_65⟩⟩
theorem pc_6_0_37 (nm : String) : pc_ok "DecimalRun$Parser" nm (.invokestatic 128, 65, 1, 0, .null) := fun s args hts => trivial
theorem pe_6_0_38 : pe_ok kd D tc L xs "DecimalRun$Parser" (.invokevirtual 131, 62, 2, 6, .null) := fun A s args hts hG => ⟨trivial, trivial, ⟨⟨_, Or.inl ⟨rfl, rfl⟩, hts _ wp_24⟩, hts _ wm_685, Or.inl (hts _ wm_683), dx_pn1 pn_62⟩⟩
theorem pc_6_0_38 (nm : String) : pc_ok "DecimalRun$Parser" nm (.invokevirtual 131, 62, 2, 6, .null) := fun s args hts => trivial
theorem pe_6_0_39 : pe_ok kd D tc L xs "DecimalRun$Parser" (.invokevirtual 134, 63, 2, 6, .null) := fun A s args hts hG => ⟨trivial, trivial, ⟨⟨_, Or.inl ⟨rfl, rfl⟩, hts _ wp_25⟩, hts _ wm_689, Or.inl (hts _ wm_687), dx_pn1 pn_63⟩⟩
theorem pc_6_0_39 (nm : String) : pc_ok "DecimalRun$Parser" nm (.invokevirtual 134, 63, 2, 6, .null) := fun s args hts => trivial
theorem pe_6_0_40 : pe_ok kd D tc L xs "DecimalRun$Parser" (.invokevirtual 137, 64, 2, 6, .null) := fun A s args hts hG => ⟨trivial, trivial, ⟨⟨_, Or.inl ⟨rfl, rfl⟩, hts _ wp_26⟩, hts _ wm_693, Or.inl (hts _ wm_691), dx_pn1 pn_64⟩⟩
theorem pc_6_0_40 (nm : String) : pc_ok "DecimalRun$Parser" nm (.invokevirtual 137, 64, 2, 6, .null) := fun s args hts => trivial
theorem pe_6_0_41 : pe_ok kd D tc L xs "DecimalRun$Parser" (.getfield 27, 6, 4, 0, .null) := fun A s args hts hG => ⟨Or.inl ⟨_, _, _, rfl, rfl, by decide, fun w hw => hts w (uw_6 w hw), Or.inl (hts _ wm_158)⟩, trivial, trivial⟩
theorem pc_6_0_41 (nm : String) : pc_ok "DecimalRun$Parser" nm (.getfield 27, 6, 4, 0, .null) := fun s args hts => trivial
def pl_6_0 : List dx_I := [(.invokespecial 3, 0, 1, 10, .null), (.putfield 23, 6, 3, 0, .null), (.putfield 27, 6, 4, 2, .null), (.getfield 15, 6, 1, 0, .null), (.invokevirtual 31, 27, 1, 4, .null), (.invokevirtual 36, 47, 3, 6, .null), (.invokevirtual 40, 48, 1, 6, .null), (.invokevirtual 43, 49, 1, 6, .null), (.invokevirtual 47, 51, 2, 6, .null), (.invokevirtual 51, 56, 2, 6, .null), (.invokevirtual 54, 52, 2, 6, .null), (.invokevirtual 101, 50, 1, 6, .null), (.getfield 9, 6, 0, 0, .null), (.getfield 140, 5, 2, 0, .null), (.getfield 23, 6, 3, 0, .null), (.getfield 144, 5, 4, 0, .null), (.invokevirtual 57, 53, 1, 6, .null), (.invokevirtual 60, 28, 2, 4, .null), (.getfield 19, 6, 2, 0, .null), (.invokevirtual 64, 22, 2, 3, .null), (.invokevirtual 69, 29, 3, 4, .null), (.invokevirtual 73, 30, 3, 4, .null), (.invokevirtual 76, 54, 2, 6, .null), (.invokevirtual 79, 31, 2, 4, .null), (.getfield 113, 5, 3, 0, .null), (.invokevirtual 82, 55, 2, 6, .null), (.invokevirtual 86, 57, 2, 6, .null), (.invokevirtual 89, 68, 2, 6, .null), (.invokevirtual 92, 69, 1, 6, .null), (.invokevirtual 95, 70, 2, 6, .null), (.invokevirtual 98, 59, 2, 6, .null), (.getfield 104, 4, 4, 0, .null), (.invokevirtual 107, 58, 2, 6, .null), (.invokestatic 110, 67, 1, 0, .null), (.invokevirtual 119, 60, 2, 6, .null), (.invokestatic 122, 66, 1, 0, .null), (.invokevirtual 125, 61, 2, 6, .null), (.invokestatic 128, 65, 1, 0, .null), (.invokevirtual 131, 62, 2, 6, .null), (.invokevirtual 134, 63, 2, 6, .null), (.invokevirtual 137, 64, 2, 6, .null), (.getfield 27, 6, 4, 0, .null)]
theorem pa_6_0 (nm : String) : ∀ x ∈ pl_6_0, pe_ok kd D tc L xs "DecimalRun$Parser" x ∧ pc_ok "DecimalRun$Parser" nm x := List.forall_mem_cons.mpr ⟨⟨pe_6_0_0, pc_6_0_0 nm⟩, List.forall_mem_cons.mpr ⟨⟨pe_6_0_1, pc_6_0_1 nm⟩, List.forall_mem_cons.mpr ⟨⟨pe_6_0_2, pc_6_0_2 nm⟩, List.forall_mem_cons.mpr ⟨⟨pe_6_0_3, pc_6_0_3 nm⟩, List.forall_mem_cons.mpr ⟨⟨pe_6_0_4, pc_6_0_4 nm⟩, List.forall_mem_cons.mpr ⟨⟨pe_6_0_5, pc_6_0_5 nm⟩, List.forall_mem_cons.mpr ⟨⟨pe_6_0_6, pc_6_0_6 nm⟩, List.forall_mem_cons.mpr ⟨⟨pe_6_0_7, pc_6_0_7 nm⟩, List.forall_mem_cons.mpr ⟨⟨pe_6_0_8, pc_6_0_8 nm⟩, List.forall_mem_cons.mpr ⟨⟨pe_6_0_9, pc_6_0_9 nm⟩, List.forall_mem_cons.mpr ⟨⟨pe_6_0_10, pc_6_0_10 nm⟩, List.forall_mem_cons.mpr ⟨⟨pe_6_0_11, pc_6_0_11 nm⟩, List.forall_mem_cons.mpr ⟨⟨pe_6_0_12, pc_6_0_12 nm⟩, List.forall_mem_cons.mpr ⟨⟨pe_6_0_13, pc_6_0_13 nm⟩, List.forall_mem_cons.mpr ⟨⟨pe_6_0_14, pc_6_0_14 nm⟩, List.forall_mem_cons.mpr ⟨⟨pe_6_0_15, pc_6_0_15 nm⟩, List.forall_mem_cons.mpr ⟨⟨pe_6_0_16, pc_6_0_16 nm⟩, List.forall_mem_cons.mpr ⟨⟨pe_6_0_17, pc_6_0_17 nm⟩, List.forall_mem_cons.mpr ⟨⟨pe_6_0_18, pc_6_0_18 nm⟩, List.forall_mem_cons.mpr ⟨⟨pe_6_0_19, pc_6_0_19 nm⟩, List.forall_mem_cons.mpr ⟨⟨pe_6_0_20, pc_6_0_20 nm⟩, List.forall_mem_cons.mpr ⟨⟨pe_6_0_21, pc_6_0_21 nm⟩, List.forall_mem_cons.mpr ⟨⟨pe_6_0_22, pc_6_0_22 nm⟩, List.forall_mem_cons.mpr ⟨⟨pe_6_0_23, pc_6_0_23 nm⟩, List.forall_mem_cons.mpr ⟨⟨pe_6_0_24, pc_6_0_24 nm⟩, List.forall_mem_cons.mpr ⟨⟨pe_6_0_25, pc_6_0_25 nm⟩, List.forall_mem_cons.mpr ⟨⟨pe_6_0_26, pc_6_0_26 nm⟩, List.forall_mem_cons.mpr ⟨⟨pe_6_0_27, pc_6_0_27 nm⟩, List.forall_mem_cons.mpr ⟨⟨pe_6_0_28, pc_6_0_28 nm⟩, List.forall_mem_cons.mpr ⟨⟨pe_6_0_29, pc_6_0_29 nm⟩, List.forall_mem_cons.mpr ⟨⟨pe_6_0_30, pc_6_0_30 nm⟩, List.forall_mem_cons.mpr ⟨⟨pe_6_0_31, pc_6_0_31 nm⟩, List.forall_mem_cons.mpr ⟨⟨pe_6_0_32, pc_6_0_32 nm⟩, List.forall_mem_cons.mpr ⟨⟨pe_6_0_33, pc_6_0_33 nm⟩, List.forall_mem_cons.mpr ⟨⟨pe_6_0_34, pc_6_0_34 nm⟩, List.forall_mem_cons.mpr ⟨⟨pe_6_0_35, pc_6_0_35 nm⟩, List.forall_mem_cons.mpr ⟨⟨pe_6_0_36, pc_6_0_36 nm⟩, List.forall_mem_cons.mpr ⟨⟨pe_6_0_37, pc_6_0_37 nm⟩, List.forall_mem_cons.mpr ⟨⟨pe_6_0_38, pc_6_0_38 nm⟩, List.forall_mem_cons.mpr ⟨⟨pe_6_0_39, pc_6_0_39 nm⟩, List.forall_mem_cons.mpr ⟨⟨pe_6_0_40, pc_6_0_40 nm⟩, List.forall_mem_cons.mpr ⟨⟨pe_6_0_41, pc_6_0_41 nm⟩, fun _ h => absurd h List.not_mem_nil⟩⟩⟩⟩⟩⟩⟩⟩⟩⟩⟩⟩⟩⟩⟩⟩⟩⟩⟩⟩⟩⟩⟩⟩⟩⟩⟩⟩⟩⟩⟩⟩⟩⟩⟩⟩⟩⟩⟩⟩⟩⟩
theorem pe_6_1_0 : pe_ok kd D tc L xs "DecimalRun$Parser" (.putfield 9, 6, 0, 3, .null) := fun A s args hts hG => ⟨trivial, trivial, trivial⟩
theorem pc_6_1_0 : pc_ok "DecimalRun$Parser" "<init>" (.putfield 9, 6, 0, 3, .null) := fun s args hts => ⟨_, _, _, nm_ty6, rfl, by decide, fun w hw => hts w (uw_6 w hw), ty_6, na_6, by decide, Or.inr ⟨rfl, hts _ wm_154, rfl, rfl⟩⟩
theorem pe_6_1_1 : pe_ok kd D tc L xs "DecimalRun$Parser" (.putfield 15, 6, 1, 3, .null) := fun A s args hts hG => ⟨trivial, trivial, trivial⟩
theorem pc_6_1_1 : pc_ok "DecimalRun$Parser" "<init>" (.putfield 15, 6, 1, 3, .null) := fun s args hts => ⟨_, _, _, nm_ty6, rfl, by decide, fun w hw => hts w (uw_6 w hw), ty_6, na_6, by decide, Or.inr ⟨rfl, hts _ wm_155, rfl, rfl⟩⟩
theorem pe_6_1_2 : pe_ok kd D tc L xs "DecimalRun$Parser" (.putfield 19, 6, 2, 3, .null) := fun A s args hts hG => ⟨trivial, trivial, trivial⟩
theorem pc_6_1_2 : pc_ok "DecimalRun$Parser" "<init>" (.putfield 19, 6, 2, 3, .null) := fun s args hts => ⟨_, _, _, nm_ty6, rfl, by decide, fun w hw => hts w (uw_6 w hw), ty_6, na_6, by decide, Or.inr ⟨rfl, hts _ wm_156, rfl, rfl⟩⟩
def pl_6_1 : List dx_I := [(.putfield 9, 6, 0, 3, .null), (.putfield 15, 6, 1, 3, .null), (.putfield 19, 6, 2, 3, .null)]
theorem pa_6_1 : ∀ x ∈ pl_6_1, pe_ok kd D tc L xs "DecimalRun$Parser" x ∧ pc_ok "DecimalRun$Parser" "<init>" x := List.forall_mem_cons.mpr ⟨⟨pe_6_1_0, pc_6_1_0⟩, List.forall_mem_cons.mpr ⟨⟨pe_6_1_1, pc_6_1_1⟩, List.forall_mem_cons.mpr ⟨⟨pe_6_1_2, pc_6_1_2⟩, fun _ h => absurd h List.not_mem_nil⟩⟩⟩
theorem pe_7_0_0 : pe_ok kd D tc L xs "DecimalRun$Machine" (.invokespecial 3, 0, 1, 10, .null) := fun A s args hts hG => ⟨trivial, trivial, by
    show if (10 : Nat) = 0 then _ else _
    rw [if_neg (by decide)]
    exact ⟨hts _ wm_175, hts _ wm_31, hts _ wm_32⟩⟩
theorem pc_7_0_0 (nm : String) : pc_ok "DecimalRun$Machine" nm (.invokespecial 3, 0, 1, 10, .null) := fun s args hts => trivial
theorem pe_7_0_1 : pe_ok kd D tc L xs "DecimalRun$Machine" (.newarray .long, 0, 0, 0, .null) := fun A s args hts hG => ⟨trivial, hts _ wm_67, trivial⟩
theorem pc_7_0_1 (nm : String) : pc_ok "DecimalRun$Machine" nm (.newarray .long, 0, 0, 0, .null) := fun s args hts => trivial
theorem pe_7_0_2 : pe_ok kd D tc L xs "DecimalRun$Machine" (.newarray .int, 0, 0, 0, .null) := fun A s args hts hG => ⟨trivial, hts _ wm_122, trivial⟩
theorem pc_7_0_2 (nm : String) : pc_ok "DecimalRun$Machine" nm (.newarray .int, 0, 0, 0, .null) := fun s args hts => trivial
theorem pe_7_0_3 : pe_ok kd D tc L xs "DecimalRun$Machine" (.new 37, 8, 0, 0, .null) := fun A s args hts hG => ⟨trivial, fun _ => ⟨_, _, _, nm_ty8, rfl, fun w hw => hts w (uw_8 w hw), ty_8, hts _ wm_176, hts _ wm_177, hts _ wm_9, by decide, by decide, rfl⟩, trivial⟩
theorem pc_7_0_3 (nm : String) : pc_ok "DecimalRun$Machine" nm (.new 37, 8, 0, 0, .null) := fun s args hts => trivial
theorem pe_7_0_4 : pe_ok kd D tc L xs "DecimalRun$Machine" (.invokespecial 39, 78, 3, 0, .null) := fun A s args hts hG => ⟨trivial, trivial, by
    show if (0 : Nat) = 0 then _ else _
    rw [if_pos rfl]
    exact ⟨rfl, rfl, hts _ wm_179, Or.inl (hts _ wm_178), dx_pn1 pn_78⟩⟩
theorem pc_7_0_4 (nm : String) : pc_ok "DecimalRun$Machine" nm (.invokespecial 39, 78, 3, 0, .null) := fun s args hts => trivial
theorem pe_7_0_5 : pe_ok kd D tc L xs "DecimalRun$Machine" (.putfield 46, 7, 5, 0, .null) := fun A s args hts hG => ⟨trivial, trivial, trivial⟩
theorem pc_7_0_5 (nm : String) : pc_ok "DecimalRun$Machine" nm (.putfield 46, 7, 5, 0, .null) := fun s args hts => ⟨_, _, _, nm_ty7, rfl, by decide, fun w hw => hts w (uw_7 w hw), ty_7, na_7, by decide, Or.inl ⟨rfl, Or.inl (hts _ wm_194)⟩⟩
theorem pe_7_0_6 : pe_ok kd D tc L xs "DecimalRun$Machine" (.putfield 50, 7, 6, 0, .null) := fun A s args hts hG => ⟨trivial, trivial, trivial⟩
theorem pc_7_0_6 (nm : String) : pc_ok "DecimalRun$Machine" nm (.putfield 50, 7, 6, 0, .null) := fun s args hts => ⟨_, _, _, nm_ty7, rfl, by decide, fun w hw => hts w (uw_7 w hw), ty_7, na_7, by decide, Or.inl ⟨rfl, Or.inl (hts _ wm_195)⟩⟩
theorem pe_7_0_7 : pe_ok kd D tc L xs "DecimalRun$Machine" (.putfield 53, 7, 10, 0, .null) := fun A s args hts hG => ⟨trivial, trivial, trivial⟩
theorem pc_7_0_7 (nm : String) : pc_ok "DecimalRun$Machine" nm (.putfield 53, 7, 10, 0, .null) := fun s args hts => ⟨_, _, _, nm_ty7, rfl, by decide, fun w hw => hts w (uw_7 w hw), ty_7, na_7, by decide, Or.inl ⟨rfl, Or.inl (hts _ wm_199)⟩⟩
theorem pe_7_0_8 : pe_ok kd D tc L xs "DecimalRun$Machine" (.ldc 56, 0, 0, 0, .int 3603600) := fun A s args hts hG => ⟨Or.inl ⟨_, rfl, hts _ wm_720⟩, trivial, trivial⟩
theorem pc_7_0_8 (nm : String) : pc_ok "DecimalRun$Machine" nm (.ldc 56, 0, 0, 0, .int 3603600) := fun s args hts => trivial
theorem pe_7_0_9 : pe_ok kd D tc L xs "DecimalRun$Machine" (.getfield 50, 7, 6, 0, .null) := fun A s args hts hG => ⟨Or.inl ⟨_, _, _, rfl, rfl, by decide, fun w hw => hts w (uw_7 w hw), Or.inl (hts _ wm_195)⟩, trivial, trivial⟩
theorem pc_7_0_9 (nm : String) : pc_ok "DecimalRun$Machine" nm (.getfield 50, 7, 6, 0, .null) := fun s args hts => trivial
theorem pe_7_0_10 : pe_ok kd D tc L xs "DecimalRun$Machine" (.getfield 25, 7, 0, 0, .null) := fun A s args hts hG => ⟨Or.inl ⟨_, _, _, rfl, rfl, by decide, fun w hw => hts w (uw_7 w hw), Or.inl (hts _ wm_189)⟩, trivial, trivial⟩
theorem pc_7_0_10 (nm : String) : pc_ok "DecimalRun$Machine" nm (.getfield 25, 7, 0, 0, .null) := fun s args hts => trivial
theorem pe_7_0_11 : pe_ok kd D tc L xs "DecimalRun$Machine" (.getfield 57, 4, 4, 0, .null) := fun A s args hts hG => ⟨Or.inl ⟨_, _, _, rfl, rfl, by decide, fun w hw => hts w (uw_4 w hw), Or.inr ⟨_, hts _ wm_109⟩⟩, trivial, trivial⟩
theorem pc_7_0_11 (nm : String) : pc_ok "DecimalRun$Machine" nm (.getfield 57, 4, 4, 0, .null) := fun s args hts => trivial
theorem pe_7_0_12 : pe_ok kd D tc L xs "DecimalRun$Machine" (.getfield 62, 4, 0, 0, .null) := fun A s args hts hG => ⟨Or.inl ⟨_, _, _, rfl, rfl, by decide, fun w hw => hts w (uw_4 w hw), Or.inr ⟨_, hts _ wm_101⟩⟩, trivial, trivial⟩
theorem pc_7_0_12 (nm : String) : pc_ok "DecimalRun$Machine" nm (.getfield 62, 4, 0, 0, .null) := fun s args hts => trivial
theorem pe_7_0_13 : pe_ok kd D tc L xs "DecimalRun$Machine" (.getfield 65, 4, 1, 0, .null) := fun A s args hts hG => ⟨Or.inl ⟨_, _, _, rfl, rfl, by decide, fun w hw => hts w (uw_4 w hw), Or.inr ⟨_, hts _ wm_103⟩⟩, trivial, trivial⟩
theorem pc_7_0_13 (nm : String) : pc_ok "DecimalRun$Machine" nm (.getfield 65, 4, 1, 0, .null) := fun s args hts => trivial
theorem pe_7_0_14 : pe_ok kd D tc L xs "DecimalRun$Machine" (.invokevirtual 68, 73, 3, 7, .null) := fun A s args hts hG => ⟨trivial, trivial, ⟨⟨_, Or.inl ⟨rfl, rfl⟩, hts _ wp_30⟩, hts _ wm_723, Or.inl (hts _ wm_721), dx_pn1 pn_73⟩⟩
theorem pc_7_0_14 (nm : String) : pc_ok "DecimalRun$Machine" nm (.invokevirtual 68, 73, 3, 7, .null) := fun s args hts => trivial
theorem pe_7_0_15 : pe_ok kd D tc L xs "DecimalRun$Machine" (.getfield 33, 7, 2, 0, .null) := fun A s args hts hG => ⟨Or.inl ⟨_, _, _, rfl, rfl, by decide, fun w hw => hts w (uw_7 w hw), Or.inl (hts _ wm_191)⟩, trivial, trivial⟩
theorem pc_7_0_15 (nm : String) : pc_ok "DecimalRun$Machine" nm (.getfield 33, 7, 2, 0, .null) := fun s args hts => trivial
theorem pe_7_0_16 : pe_ok kd D tc L xs "DecimalRun$Machine" (.invokevirtual 72, 23, 1, 3, .null) := fun A s args hts hG => ⟨trivial, trivial, ⟨⟨_, Or.inl ⟨rfl, rfl⟩, hts _ wm_727⟩, hts _ wm_726, Or.inl (hts _ wm_725), dx_pn1 pn_23⟩⟩
theorem pc_7_0_16 (nm : String) : pc_ok "DecimalRun$Machine" nm (.invokevirtual 72, 23, 1, 3, .null) := fun s args hts => trivial
theorem pe_7_0_17 : pe_ok kd D tc L xs "DecimalRun$Machine" (.invokevirtual 77, 74, 2, 7, .null) := fun A s args hts hG => ⟨trivial, trivial, ⟨⟨_, Or.inl ⟨rfl, rfl⟩, hts _ wp_31⟩, hts _ wm_732, Or.inl (hts _ wm_730), dx_pn1 pn_74⟩⟩
theorem pc_7_0_17 (nm : String) : pc_ok "DecimalRun$Machine" nm (.invokevirtual 77, 74, 2, 7, .null) := fun s args hts => trivial
theorem pe_7_0_18 : pe_ok kd D tc L xs "DecimalRun$Machine" (.getfield 29, 7, 1, 0, .null) := fun A s args hts hG => ⟨Or.inl ⟨_, _, _, rfl, rfl, by decide, fun w hw => hts w (uw_7 w hw), Or.inl (hts _ wm_190)⟩, trivial, trivial⟩
theorem pc_7_0_18 (nm : String) : pc_ok "DecimalRun$Machine" nm (.getfield 29, 7, 1, 0, .null) := fun s args hts => trivial
theorem pe_7_0_19 : pe_ok kd D tc L xs "DecimalRun$Machine" (.getfield 81, 2, 0, 0, .null) := fun A s args hts hG => ⟨Or.inl ⟨_, _, _, rfl, rfl, by decide, fun w hw => hts w (uw_2 w hw), Or.inr ⟨_, hts _ wm_56⟩⟩, trivial, trivial⟩
theorem pc_7_0_19 (nm : String) : pc_ok "DecimalRun$Machine" nm (.getfield 81, 2, 0, 0, .null) := fun s args hts => trivial
theorem pe_7_0_20 : pe_ok kd D tc L xs "DecimalRun$Machine" (.invokevirtual 86, 75, 1, 7, .null) := fun A s args hts hG => ⟨trivial, trivial, ⟨⟨_, Or.inl ⟨rfl, rfl⟩, hts _ wp_32⟩, hts _ wm_736, Or.inl (hts _ wm_734), dx_pn1 pn_75⟩⟩
theorem pc_7_0_20 (nm : String) : pc_ok "DecimalRun$Machine" nm (.invokevirtual 86, 75, 1, 7, .null) := fun s args hts => trivial
theorem pe_7_0_21 : pe_ok kd D tc L xs "DecimalRun$Machine" (.getfield 90, 2, 1, 0, .null) := fun A s args hts hG => ⟨Or.inl ⟨_, _, _, rfl, rfl, by decide, fun w hw => hts w (uw_2 w hw), Or.inr ⟨_, hts _ wm_59⟩⟩, trivial, trivial⟩
theorem pc_7_0_21 (nm : String) : pc_ok "DecimalRun$Machine" nm (.getfield 90, 2, 1, 0, .null) := fun s args hts => trivial
theorem pe_7_0_22 : pe_ok kd D tc L xs "DecimalRun$Machine" (.invokestatic 93, 81, 2, 0, .null) := fun A s args hts hG => ⟨trivial, trivial, ⟨hts _ wm_359, Or.inl (hts _ wm_738), dx_pn pn_81⟩⟩
theorem pc_7_0_22 (nm : String) : pc_ok "DecimalRun$Machine" nm (.invokestatic 93, 81, 2, 0, .null) := fun s args hts => trivial
theorem pe_7_0_23 : pe_ok kd D tc L xs "DecimalRun$Machine" (.getfield 42, 7, 3, 0, .null) := fun A s args hts hG => ⟨Or.inl ⟨_, _, _, rfl, rfl, by decide, fun w hw => hts w (uw_7 w hw), Or.inl (hts _ wm_192)⟩, trivial, trivial⟩
theorem pc_7_0_23 (nm : String) : pc_ok "DecimalRun$Machine" nm (.getfield 42, 7, 3, 0, .null) := fun s args hts => trivial
theorem pe_7_0_24 : pe_ok kd D tc L xs "DecimalRun$Machine" (.invokevirtual 97, 82, 4, 8, .null) := fun A s args hts hG => ⟨trivial, trivial, ⟨⟨_, Or.inl ⟨rfl, rfl⟩, hts _ wm_741⟩, hts _ wm_740, Or.inl (hts _ wm_739), dx_pn1 pn_82⟩⟩
theorem pc_7_0_24 (nm : String) : pc_ok "DecimalRun$Machine" nm (.invokevirtual 97, 82, 4, 8, .null) := fun s args hts => trivial
theorem pe_7_0_25 : pe_ok kd D tc L xs "DecimalRun$Machine" (.putfield 90, 2, 1, 0, .null) := fun A s args hts hG => ⟨trivial, trivial, trivial⟩
theorem pc_7_0_25 (nm : String) : pc_ok "DecimalRun$Machine" nm (.putfield 90, 2, 1, 0, .null) := fun s args hts => ⟨_, _, _, nm_ty2, rfl, by decide, fun w hw => hts w (uw_2 w hw), ty_2, na_2, by decide, Or.inl ⟨rfl, Or.inr ⟨_, hts _ wm_59⟩⟩⟩
theorem pe_7_0_26 : pe_ok kd D tc L xs "DecimalRun$Machine" (.invokestatic 101, 83, 1, 0, .null) := fun A s args hts hG => ⟨trivial, trivial, ⟨hts _ wm_749, Or.inl (hts _ wm_748), dx_pn pn_83⟩⟩
theorem pc_7_0_26 (nm : String) : pc_ok "DecimalRun$Machine" nm (.invokestatic 101, 83, 1, 0, .null) := fun s args hts => trivial
theorem pe_7_0_27 : pe_ok kd D tc L xs "DecimalRun$Machine" (.invokevirtual 105, 24, 2, 3, .null) := fun A s args hts hG => ⟨trivial, trivial, ⟨⟨_, Or.inl ⟨rfl, rfl⟩, hts _ wm_754⟩, hts _ wm_753, Or.inl (hts _ wm_752), dx_pn1 pn_24⟩⟩
theorem pc_7_0_27 (nm : String) : pc_ok "DecimalRun$Machine" nm (.invokevirtual 105, 24, 2, 3, .null) := fun s args hts => trivial
theorem pe_7_0_28 : pe_ok kd D tc L xs "DecimalRun$Machine" (.invokevirtual 108, 76, 2, 7, .null) := fun A s args hts hG => ⟨trivial, trivial, ⟨⟨_, Or.inl ⟨rfl, rfl⟩, hts _ wp_33⟩, hts _ wm_770, Or.inl (hts _ wm_768), dx_pn1 pn_76⟩⟩
theorem pc_7_0_28 (nm : String) : pc_ok "DecimalRun$Machine" nm (.invokevirtual 108, 76, 2, 7, .null) := fun s args hts => trivial
theorem pe_7_0_29 : pe_ok kd D tc L xs "DecimalRun$Machine" (.invokevirtual 112, 77, 1, 7, .null) := fun A s args hts hG => ⟨trivial, trivial, ⟨⟨_, Or.inl ⟨rfl, rfl⟩, hts _ wp_34⟩, hts _ wm_776, Or.inl (hts _ wm_774), dx_pn1 pn_77⟩⟩
theorem pc_7_0_29 (nm : String) : pc_ok "DecimalRun$Machine" nm (.invokevirtual 112, 77, 1, 7, .null) := fun s args hts => trivial
theorem pe_7_0_30 : pe_ok kd D tc L xs "DecimalRun$Machine" (.invokevirtual 115, 84, 4, 8, .null) := fun A s args hts hG => ⟨trivial, trivial, ⟨⟨_, Or.inl ⟨rfl, rfl⟩, hts _ wm_780⟩, hts _ wm_779, Or.inl (hts _ wm_778), dx_pn1 pn_84⟩⟩
theorem pc_7_0_30 (nm : String) : pc_ok "DecimalRun$Machine" nm (.invokevirtual 115, 84, 4, 8, .null) := fun s args hts => trivial
theorem pe_7_0_31 : pe_ok kd D tc L xs "DecimalRun$Machine" (.getfield 46, 7, 5, 0, .null) := fun A s args hts hG => ⟨Or.inl ⟨_, _, _, rfl, rfl, by decide, fun w hw => hts w (uw_7 w hw), Or.inl (hts _ wm_194)⟩, trivial, trivial⟩
theorem pc_7_0_31 (nm : String) : pc_ok "DecimalRun$Machine" nm (.getfield 46, 7, 5, 0, .null) := fun s args hts => trivial
theorem pe_7_0_32 : pe_ok kd D tc L xs "DecimalRun$Machine" (.getfield 9, 7, 4, 0, .null) := fun A s args hts hG => ⟨Or.inl ⟨_, _, _, rfl, rfl, by decide, fun w hw => hts w (uw_7 w hw), Or.inl (hts _ wm_193)⟩, trivial, trivial⟩
theorem pc_7_0_32 (nm : String) : pc_ok "DecimalRun$Machine" nm (.getfield 9, 7, 4, 0, .null) := fun s args hts => trivial
theorem pe_7_0_33 : pe_ok kd D tc L xs "DecimalRun$Machine" (.invokevirtual 119, 28, 2, 4, .null) := fun A s args hts hG => ⟨trivial, trivial, ⟨⟨_, Or.inl ⟨rfl, rfl⟩, hts _ wm_637⟩, hts _ wm_636, Or.inl (hts _ wm_772), dx_pn1 pn_28⟩⟩
theorem pc_7_0_33 (nm : String) : pc_ok "DecimalRun$Machine" nm (.invokevirtual 119, 28, 2, 4, .null) := fun s args hts => trivial
theorem pe_7_0_34 : pe_ok kd D tc L xs "DecimalRun$Machine" (.invokevirtual 123, 22, 2, 3, .null) := fun A s args hts hG => ⟨trivial, trivial, ⟨⟨_, Or.inl ⟨rfl, rfl⟩, hts _ wm_435⟩, hts _ wm_434, Or.inl (hts _ wm_773), dx_pn1 pn_22⟩⟩
theorem pc_7_0_34 (nm : String) : pc_ok "DecimalRun$Machine" nm (.invokevirtual 123, 22, 2, 3, .null) := fun s args hts => trivial
theorem pe_7_0_35 : pe_ok kd D tc L xs "DecimalRun$Machine" (.getfield 53, 7, 10, 0, .null) := fun A s args hts hG => ⟨Or.inl ⟨_, _, _, rfl, rfl, by decide, fun w hw => hts w (uw_7 w hw), Or.inl (hts _ wm_199)⟩, trivial, trivial⟩
theorem pc_7_0_35 (nm : String) : pc_ok "DecimalRun$Machine" nm (.getfield 53, 7, 10, 0, .null) := fun s args hts => trivial
theorem pe_7_0_36 : pe_ok kd D tc L xs "DecimalRun$Machine" (.getfield 126, 4, 3, 0, .null) := fun A s args hts hG => ⟨Or.inl ⟨_, _, _, rfl, rfl, by decide, fun w hw => hts w (uw_4 w hw), Or.inr ⟨_, hts _ wm_107⟩⟩, trivial, trivial⟩
theorem pc_7_0_36 (nm : String) : pc_ok "DecimalRun$Machine" nm (.getfield 126, 4, 3, 0, .null) := fun s args hts => trivial
theorem pe_7_0_37 : pe_ok kd D tc L xs "DecimalRun$Machine" (.getfield 15, 7, 7, 0, .null) := fun A s args hts hG => ⟨Or.inl ⟨_, _, _, rfl, rfl, by decide, fun w hw => hts w (uw_7 w hw), Or.inl (hts _ wm_196)⟩, trivial, trivial⟩
theorem pc_7_0_37 (nm : String) : pc_ok "DecimalRun$Machine" nm (.getfield 15, 7, 7, 0, .null) := fun s args hts => trivial
theorem pe_7_0_38 : pe_ok kd D tc L xs "DecimalRun$Machine" (.getfield 19, 7, 8, 0, .null) := fun A s args hts hG => ⟨Or.inl ⟨_, _, _, rfl, rfl, by decide, fun w hw => hts w (uw_7 w hw), Or.inl (hts _ wm_197)⟩, trivial, trivial⟩
theorem pc_7_0_38 (nm : String) : pc_ok "DecimalRun$Machine" nm (.getfield 19, 7, 8, 0, .null) := fun s args hts => trivial
theorem pe_7_0_39 : pe_ok kd D tc L xs "DecimalRun$Machine" (.getfield 22, 7, 9, 0, .null) := fun A s args hts hG => ⟨Or.inl ⟨_, _, _, rfl, rfl, by decide, fun w hw => hts w (uw_7 w hw), Or.inl (hts _ wm_198)⟩, trivial, trivial⟩
theorem pc_7_0_39 (nm : String) : pc_ok "DecimalRun$Machine" nm (.getfield 22, 7, 9, 0, .null) := fun s args hts => trivial
theorem pe_7_0_40 : pe_ok kd D tc L xs "DecimalRun$Machine" (.getfield 127, 4, 2, 0, .null) := fun A s args hts hG => ⟨Or.inl ⟨_, _, _, rfl, rfl, by decide, fun w hw => hts w (uw_4 w hw), Or.inr ⟨_, hts _ wm_105⟩⟩, trivial, trivial⟩
theorem pc_7_0_40 (nm : String) : pc_ok "DecimalRun$Machine" nm (.getfield 127, 4, 2, 0, .null) := fun s args hts => trivial
def pl_7_0 : List dx_I := [(.invokespecial 3, 0, 1, 10, .null), (.newarray .long, 0, 0, 0, .null), (.newarray .int, 0, 0, 0, .null), (.new 37, 8, 0, 0, .null), (.invokespecial 39, 78, 3, 0, .null), (.putfield 46, 7, 5, 0, .null), (.putfield 50, 7, 6, 0, .null), (.putfield 53, 7, 10, 0, .null), (.ldc 56, 0, 0, 0, .int 3603600), (.getfield 50, 7, 6, 0, .null), (.getfield 25, 7, 0, 0, .null), (.getfield 57, 4, 4, 0, .null), (.getfield 62, 4, 0, 0, .null), (.getfield 65, 4, 1, 0, .null), (.invokevirtual 68, 73, 3, 7, .null), (.getfield 33, 7, 2, 0, .null), (.invokevirtual 72, 23, 1, 3, .null), (.invokevirtual 77, 74, 2, 7, .null), (.getfield 29, 7, 1, 0, .null), (.getfield 81, 2, 0, 0, .null), (.invokevirtual 86, 75, 1, 7, .null), (.getfield 90, 2, 1, 0, .null), (.invokestatic 93, 81, 2, 0, .null), (.getfield 42, 7, 3, 0, .null), (.invokevirtual 97, 82, 4, 8, .null), (.putfield 90, 2, 1, 0, .null), (.invokestatic 101, 83, 1, 0, .null), (.invokevirtual 105, 24, 2, 3, .null), (.invokevirtual 108, 76, 2, 7, .null), (.invokevirtual 112, 77, 1, 7, .null), (.invokevirtual 115, 84, 4, 8, .null), (.getfield 46, 7, 5, 0, .null), (.getfield 9, 7, 4, 0, .null), (.invokevirtual 119, 28, 2, 4, .null), (.invokevirtual 123, 22, 2, 3, .null), (.getfield 53, 7, 10, 0, .null), (.getfield 126, 4, 3, 0, .null), (.getfield 15, 7, 7, 0, .null), (.getfield 19, 7, 8, 0, .null), (.getfield 22, 7, 9, 0, .null), (.getfield 127, 4, 2, 0, .null)]
theorem pa_7_0 (nm : String) : ∀ x ∈ pl_7_0, pe_ok kd D tc L xs "DecimalRun$Machine" x ∧ pc_ok "DecimalRun$Machine" nm x := List.forall_mem_cons.mpr ⟨⟨pe_7_0_0, pc_7_0_0 nm⟩, List.forall_mem_cons.mpr ⟨⟨pe_7_0_1, pc_7_0_1 nm⟩, List.forall_mem_cons.mpr ⟨⟨pe_7_0_2, pc_7_0_2 nm⟩, List.forall_mem_cons.mpr ⟨⟨pe_7_0_3, pc_7_0_3 nm⟩, List.forall_mem_cons.mpr ⟨⟨pe_7_0_4, pc_7_0_4 nm⟩, List.forall_mem_cons.mpr ⟨⟨pe_7_0_5, pc_7_0_5 nm⟩, List.forall_mem_cons.mpr ⟨⟨pe_7_0_6, pc_7_0_6 nm⟩, List.forall_mem_cons.mpr ⟨⟨pe_7_0_7, pc_7_0_7 nm⟩, List.forall_mem_cons.mpr ⟨⟨pe_7_0_8, pc_7_0_8 nm⟩, List.forall_mem_cons.mpr ⟨⟨pe_7_0_9, pc_7_0_9 nm⟩, List.forall_mem_cons.mpr ⟨⟨pe_7_0_10, pc_7_0_10 nm⟩, List.forall_mem_cons.mpr ⟨⟨pe_7_0_11, pc_7_0_11 nm⟩, List.forall_mem_cons.mpr ⟨⟨pe_7_0_12, pc_7_0_12 nm⟩, List.forall_mem_cons.mpr ⟨⟨pe_7_0_13, pc_7_0_13 nm⟩, List.forall_mem_cons.mpr ⟨⟨pe_7_0_14, pc_7_0_14 nm⟩, List.forall_mem_cons.mpr ⟨⟨pe_7_0_15, pc_7_0_15 nm⟩, List.forall_mem_cons.mpr ⟨⟨pe_7_0_16, pc_7_0_16 nm⟩, List.forall_mem_cons.mpr ⟨⟨pe_7_0_17, pc_7_0_17 nm⟩, List.forall_mem_cons.mpr ⟨⟨pe_7_0_18, pc_7_0_18 nm⟩, List.forall_mem_cons.mpr ⟨⟨pe_7_0_19, pc_7_0_19 nm⟩, List.forall_mem_cons.mpr ⟨⟨pe_7_0_20, pc_7_0_20 nm⟩, List.forall_mem_cons.mpr ⟨⟨pe_7_0_21, pc_7_0_21 nm⟩, List.forall_mem_cons.mpr ⟨⟨pe_7_0_22, pc_7_0_22 nm⟩, List.forall_mem_cons.mpr ⟨⟨pe_7_0_23, pc_7_0_23 nm⟩, List.forall_mem_cons.mpr ⟨⟨pe_7_0_24, pc_7_0_24 nm⟩, List.forall_mem_cons.mpr ⟨⟨pe_7_0_25, pc_7_0_25 nm⟩, List.forall_mem_cons.mpr ⟨⟨pe_7_0_26, pc_7_0_26 nm⟩, List.forall_mem_cons.mpr ⟨⟨pe_7_0_27, pc_7_0_27 nm⟩, List.forall_mem_cons.mpr ⟨⟨pe_7_0_28, pc_7_0_28 nm⟩, List.forall_mem_cons.mpr ⟨⟨pe_7_0_29, pc_7_0_29 nm⟩, List.forall_mem_cons.mpr ⟨⟨pe_7_0_30, pc_7_0_30 nm⟩, List.forall_mem_cons.mpr ⟨⟨pe_7_0_31, pc_7_0_31 nm⟩, List.forall_mem_cons.mpr ⟨⟨pe_7_0_32, pc_7_0_32 nm⟩, List.forall_mem_cons.mpr ⟨⟨pe_7_0_33, pc_7_0_33 nm⟩, List.forall_mem_cons.mpr ⟨⟨pe_7_0_34, pc_7_0_34 nm⟩, List.forall_mem_cons.mpr ⟨⟨pe_7_0_35, pc_7_0_35 nm⟩, List.forall_mem_cons.mpr ⟨⟨pe_7_0_36, pc_7_0_36 nm⟩, List.forall_mem_cons.mpr ⟨⟨pe_7_0_37, pc_7_0_37 nm⟩, List.forall_mem_cons.mpr ⟨⟨pe_7_0_38, pc_7_0_38 nm⟩, List.forall_mem_cons.mpr ⟨⟨pe_7_0_39, pc_7_0_39 nm⟩, List.forall_mem_cons.mpr ⟨⟨pe_7_0_40, pc_7_0_40 nm⟩, fun _ h => absurd h List.not_mem_nil⟩⟩⟩⟩⟩⟩⟩⟩⟩⟩⟩⟩⟩⟩⟩⟩⟩⟩⟩⟩⟩⟩⟩⟩⟩⟩⟩⟩⟩⟩⟩⟩⟩⟩⟩⟩⟩⟩⟩⟩⟩
theorem pe_7_1_0 : pe_ok kd D tc L xs "DecimalRun$Machine" (.putfield 9, 7, 4, 3, .null) := fun A s args hts hG => ⟨trivial, trivial, trivial⟩
theorem pc_7_1_0 : pc_ok "DecimalRun$Machine" "<init>" (.putfield 9, 7, 4, 3, .null) := fun s args hts => ⟨_, _, _, nm_ty7, rfl, by decide, fun w hw => hts w (uw_7 w hw), ty_7, na_7, by decide, Or.inr ⟨rfl, hts _ wm_193, rfl, rfl⟩⟩
theorem pe_7_1_1 : pe_ok kd D tc L xs "DecimalRun$Machine" (.putfield 15, 7, 7, 3, .null) := fun A s args hts hG => ⟨trivial, trivial, trivial⟩
theorem pc_7_1_1 : pc_ok "DecimalRun$Machine" "<init>" (.putfield 15, 7, 7, 3, .null) := fun s args hts => ⟨_, _, _, nm_ty7, rfl, by decide, fun w hw => hts w (uw_7 w hw), ty_7, na_7, by decide, Or.inr ⟨rfl, hts _ wm_196, rfl, rfl⟩⟩
theorem pe_7_1_2 : pe_ok kd D tc L xs "DecimalRun$Machine" (.putfield 19, 7, 8, 3, .null) := fun A s args hts hG => ⟨trivial, trivial, trivial⟩
theorem pc_7_1_2 : pc_ok "DecimalRun$Machine" "<init>" (.putfield 19, 7, 8, 3, .null) := fun s args hts => ⟨_, _, _, nm_ty7, rfl, by decide, fun w hw => hts w (uw_7 w hw), ty_7, na_7, by decide, Or.inr ⟨rfl, hts _ wm_197, rfl, rfl⟩⟩
theorem pe_7_1_3 : pe_ok kd D tc L xs "DecimalRun$Machine" (.putfield 22, 7, 9, 3, .null) := fun A s args hts hG => ⟨trivial, trivial, trivial⟩
theorem pc_7_1_3 : pc_ok "DecimalRun$Machine" "<init>" (.putfield 22, 7, 9, 3, .null) := fun s args hts => ⟨_, _, _, nm_ty7, rfl, by decide, fun w hw => hts w (uw_7 w hw), ty_7, na_7, by decide, Or.inr ⟨rfl, hts _ wm_198, rfl, rfl⟩⟩
theorem pe_7_1_4 : pe_ok kd D tc L xs "DecimalRun$Machine" (.putfield 25, 7, 0, 3, .null) := fun A s args hts hG => ⟨trivial, trivial, trivial⟩
theorem pc_7_1_4 : pc_ok "DecimalRun$Machine" "<init>" (.putfield 25, 7, 0, 3, .null) := fun s args hts => ⟨_, _, _, nm_ty7, rfl, by decide, fun w hw => hts w (uw_7 w hw), ty_7, na_7, by decide, Or.inr ⟨rfl, hts _ wm_189, rfl, rfl⟩⟩
theorem pe_7_1_5 : pe_ok kd D tc L xs "DecimalRun$Machine" (.putfield 29, 7, 1, 3, .null) := fun A s args hts hG => ⟨trivial, trivial, trivial⟩
theorem pc_7_1_5 : pc_ok "DecimalRun$Machine" "<init>" (.putfield 29, 7, 1, 3, .null) := fun s args hts => ⟨_, _, _, nm_ty7, rfl, by decide, fun w hw => hts w (uw_7 w hw), ty_7, na_7, by decide, Or.inr ⟨rfl, hts _ wm_190, rfl, rfl⟩⟩
theorem pe_7_1_6 : pe_ok kd D tc L xs "DecimalRun$Machine" (.putfield 33, 7, 2, 3, .null) := fun A s args hts hG => ⟨trivial, trivial, trivial⟩
theorem pc_7_1_6 : pc_ok "DecimalRun$Machine" "<init>" (.putfield 33, 7, 2, 3, .null) := fun s args hts => ⟨_, _, _, nm_ty7, rfl, by decide, fun w hw => hts w (uw_7 w hw), ty_7, na_7, by decide, Or.inr ⟨rfl, hts _ wm_191, rfl, rfl⟩⟩
theorem pe_7_1_7 : pe_ok kd D tc L xs "DecimalRun$Machine" (.putfield 42, 7, 3, 3, .null) := fun A s args hts hG => ⟨trivial, trivial, trivial⟩
theorem pc_7_1_7 : pc_ok "DecimalRun$Machine" "<init>" (.putfield 42, 7, 3, 3, .null) := fun s args hts => ⟨_, _, _, nm_ty7, rfl, by decide, fun w hw => hts w (uw_7 w hw), ty_7, na_7, by decide, Or.inr ⟨rfl, hts _ wm_192, rfl, rfl⟩⟩
def pl_7_1 : List dx_I := [(.putfield 9, 7, 4, 3, .null), (.putfield 15, 7, 7, 3, .null), (.putfield 19, 7, 8, 3, .null), (.putfield 22, 7, 9, 3, .null), (.putfield 25, 7, 0, 3, .null), (.putfield 29, 7, 1, 3, .null), (.putfield 33, 7, 2, 3, .null), (.putfield 42, 7, 3, 3, .null)]
theorem pa_7_1 : ∀ x ∈ pl_7_1, pe_ok kd D tc L xs "DecimalRun$Machine" x ∧ pc_ok "DecimalRun$Machine" "<init>" x := List.forall_mem_cons.mpr ⟨⟨pe_7_1_0, pc_7_1_0⟩, List.forall_mem_cons.mpr ⟨⟨pe_7_1_1, pc_7_1_1⟩, List.forall_mem_cons.mpr ⟨⟨pe_7_1_2, pc_7_1_2⟩, List.forall_mem_cons.mpr ⟨⟨pe_7_1_3, pc_7_1_3⟩, List.forall_mem_cons.mpr ⟨⟨pe_7_1_4, pc_7_1_4⟩, List.forall_mem_cons.mpr ⟨⟨pe_7_1_5, pc_7_1_5⟩, List.forall_mem_cons.mpr ⟨⟨pe_7_1_6, pc_7_1_6⟩, List.forall_mem_cons.mpr ⟨⟨pe_7_1_7, pc_7_1_7⟩, fun _ h => absurd h List.not_mem_nil⟩⟩⟩⟩⟩⟩⟩⟩
theorem pe_8_0_0 : pe_ok kd D tc L xs "DecimalRun$Arithmetic" (.invokespecial 3, 0, 1, 10, .null) := fun A s args hts hG => ⟨trivial, trivial, by
    show if (10 : Nat) = 0 then _ else _
    rw [if_neg (by decide)]
    exact ⟨hts _ wm_181, hts _ wm_31, hts _ wm_32⟩⟩
theorem pc_8_0_0 (nm : String) : pc_ok "DecimalRun$Arithmetic" nm (.invokespecial 3, 0, 1, 10, .null) := fun s args hts => trivial
theorem pe_8_0_1 : pe_ok kd D tc L xs "DecimalRun$Arithmetic" (.ldc2_w 19, 0, 0, 0, .long 7) := fun A s args hts hG => ⟨⟨_, rfl, hts _ wm_308⟩, trivial, trivial⟩
theorem pc_8_0_1 (nm : String) : pc_ok "DecimalRun$Arithmetic" nm (.ldc2_w 19, 0, 0, 0, .long 7) := fun s args hts => trivial
theorem pe_8_0_2 : pe_ok kd D tc L xs "DecimalRun$Arithmetic" (.getstatic 56, 0, 0, 0, .retAddr 0) := fun A s args hts hG => ⟨⟨"DecimalRun$Arithmetic", "TEN_TO", "[J", fun _ => hG.2.2.2.2.1, Or.inl (hts _ wm_743)⟩, trivial, trivial⟩
theorem pc_8_0_2 (nm : String) : pc_ok "DecimalRun$Arithmetic" nm (.getstatic 56, 0, 0, 0, .retAddr 0) := fun s args hts => trivial
theorem pe_8_0_3 : pe_ok kd D tc L xs "DecimalRun$Arithmetic" (.invokestatic 25, 80, 1, 0, .null) := fun A s args hts hG => ⟨trivial, trivial, ⟨hts _ wm_306, Or.inl (hts _ wm_745), dx_pn pn_80⟩⟩
theorem pc_8_0_3 (nm : String) : pc_ok "DecimalRun$Arithmetic" nm (.invokestatic 25, 80, 1, 0, .null) := fun s args hts => trivial
theorem pe_8_0_4 : pe_ok kd D tc L xs "DecimalRun$Arithmetic" (.invokestatic 21, 79, 1, 0, .null) := fun A s args hts hG => ⟨trivial, trivial, ⟨hts _ wm_299, Or.inl (hts _ wm_746), dx_pn pn_79⟩⟩
theorem pc_8_0_4 (nm : String) : pc_ok "DecimalRun$Arithmetic" nm (.invokestatic 21, 79, 1, 0, .null) := fun s args hts => trivial
theorem pe_8_0_5 : pe_ok kd D tc L xs "DecimalRun$Arithmetic" (.getfield 15, 8, 1, 0, .null) := fun A s args hts hG => ⟨Or.inl ⟨_, _, _, rfl, rfl, by decide, fun w hw => hts w (uw_8 w hw), Or.inl (hts _ wm_183)⟩, trivial, trivial⟩
theorem pc_8_0_5 (nm : String) : pc_ok "DecimalRun$Arithmetic" nm (.getfield 15, 8, 1, 0, .null) := fun s args hts => trivial
theorem pe_8_0_6 : pe_ok kd D tc L xs "DecimalRun$Arithmetic" (.invokevirtual 60, 22, 2, 3, .null) := fun A s args hts hG => ⟨trivial, trivial, ⟨⟨_, Or.inl ⟨rfl, rfl⟩, hts _ wm_435⟩, hts _ wm_434, Or.inl (hts _ wm_747), dx_pn1 pn_22⟩⟩
theorem pc_8_0_6 (nm : String) : pc_ok "DecimalRun$Arithmetic" nm (.invokevirtual 60, 22, 2, 3, .null) := fun s args hts => trivial
theorem pe_8_0_7 : pe_ok kd D tc L xs "DecimalRun$Arithmetic" (.invokestatic 29, 81, 2, 0, .null) := fun A s args hts hG => ⟨trivial, trivial, ⟨hts _ wm_359, Or.inl (hts _ wm_751), dx_pn pn_81⟩⟩
theorem pc_8_0_7 (nm : String) : pc_ok "DecimalRun$Arithmetic" nm (.invokestatic 29, 81, 2, 0, .null) := fun s args hts => trivial
theorem pe_8_0_8 : pe_ok kd D tc L xs "DecimalRun$Arithmetic" (.invokevirtual 33, 85, 3, 8, .null) := fun A s args hts hG => ⟨trivial, trivial, ⟨⟨_, Or.inl ⟨rfl, rfl⟩, hts _ wp_35⟩, hts _ wm_784, Or.inl (hts _ wm_782), dx_pn1 pn_85⟩⟩
theorem pc_8_0_8 (nm : String) : pc_ok "DecimalRun$Arithmetic" nm (.invokevirtual 33, 85, 3, 8, .null) := fun s args hts => trivial
theorem pe_8_0_9 : pe_ok kd D tc L xs "DecimalRun$Arithmetic" (.invokestatic 37, 83, 1, 0, .null) := fun A s args hts hG => ⟨trivial, trivial, ⟨hts _ wm_749, Or.inl (hts _ wm_796), dx_pn pn_83⟩⟩
theorem pc_8_0_9 (nm : String) : pc_ok "DecimalRun$Arithmetic" nm (.invokestatic 37, 83, 1, 0, .null) := fun s args hts => trivial
theorem pe_8_0_10 : pe_ok kd D tc L xs "DecimalRun$Arithmetic" (.invokevirtual 40, 88, 3, 8, .null) := fun A s args hts hG => ⟨trivial, trivial, ⟨⟨_, Or.inl ⟨rfl, rfl⟩, hts _ wp_37⟩, hts _ wm_799, Or.inl (hts _ wm_797), dx_pn1 pn_88⟩⟩
theorem pc_8_0_10 (nm : String) : pc_ok "DecimalRun$Arithmetic" nm (.invokevirtual 40, 88, 3, 8, .null) := fun s args hts => trivial
theorem pe_8_0_11 : pe_ok kd D tc L xs "DecimalRun$Arithmetic" (.invokevirtual 43, 89, 3, 8, .null) := fun A s args hts hG => ⟨trivial, trivial, ⟨⟨_, Or.inl ⟨rfl, rfl⟩, hts _ wp_38⟩, hts _ wm_804, Or.inl (hts _ wm_802), dx_pn1 pn_89⟩⟩
theorem pc_8_0_11 (nm : String) : pc_ok "DecimalRun$Arithmetic" nm (.invokevirtual 43, 89, 3, 8, .null) := fun s args hts => trivial
theorem pe_8_0_12 : pe_ok kd D tc L xs "DecimalRun$Arithmetic" (.invokevirtual 46, 91, 3, 8, .null) := fun A s args hts hG => ⟨trivial, trivial, ⟨⟨_, Or.inl ⟨rfl, rfl⟩, hts _ wp_40⟩, hts _ wm_812, Or.inl (hts _ wm_810), dx_pn1 pn_91⟩⟩
theorem pc_8_0_12 (nm : String) : pc_ok "DecimalRun$Arithmetic" nm (.invokevirtual 46, 91, 3, 8, .null) := fun s args hts => trivial
theorem pe_8_0_13 : pe_ok kd D tc L xs "DecimalRun$Arithmetic" (.invokevirtual 49, 92, 3, 8, .null) := fun A s args hts hG => ⟨trivial, trivial, ⟨⟨_, Or.inl ⟨rfl, rfl⟩, hts _ wp_41⟩, hts _ wm_816, Or.inl (hts _ wm_814), dx_pn1 pn_92⟩⟩
theorem pc_8_0_13 (nm : String) : pc_ok "DecimalRun$Arithmetic" nm (.invokevirtual 49, 92, 3, 8, .null) := fun s args hts => trivial
theorem pe_8_0_14 : pe_ok kd D tc L xs "DecimalRun$Arithmetic" (.invokestatic 52, 93, 3, 0, .null) := fun A s args hts hG => ⟨trivial, trivial, ⟨hts _ wm_823, Or.inl (hts _ wm_822), dx_pn pn_93⟩⟩
theorem pc_8_0_14 (nm : String) : pc_ok "DecimalRun$Arithmetic" nm (.invokestatic 52, 93, 3, 0, .null) := fun s args hts => trivial
theorem pe_8_0_15 : pe_ok kd D tc L xs "DecimalRun$Arithmetic" (.invokestatic 66, 145, 2, 0, .null) := fun A s args hts hG => ⟨trivial, trivial, ⟨hts _ wm_327, Or.inl (hts _ wm_786), dx_pn pn_145⟩⟩
theorem pc_8_0_15 (nm : String) : pc_ok "DecimalRun$Arithmetic" nm (.invokestatic 66, 145, 2, 0, .null) := fun s args hts => trivial
theorem pe_8_0_16 : pe_ok kd D tc L xs "DecimalRun$Arithmetic" (.invokestatic 72, 86, 2, 0, .null) := fun A s args hts hG => ⟨trivial, trivial, ⟨hts _ wm_788, Or.inl (hts _ wm_787), dx_pn pn_86⟩⟩
theorem pc_8_0_16 (nm : String) : pc_ok "DecimalRun$Arithmetic" nm (.invokestatic 72, 86, 2, 0, .null) := fun s args hts => trivial
theorem pe_8_0_17 : pe_ok kd D tc L xs "DecimalRun$Arithmetic" (.invokevirtual 75, 87, 3, 8, .null) := fun A s args hts hG => ⟨trivial, trivial, ⟨⟨_, Or.inl ⟨rfl, rfl⟩, hts _ wp_36⟩, hts _ wm_792, Or.inl (hts _ wm_790), dx_pn1 pn_87⟩⟩
theorem pc_8_0_17 (nm : String) : pc_ok "DecimalRun$Arithmetic" nm (.invokevirtual 75, 87, 3, 8, .null) := fun s args hts => trivial
theorem pe_8_0_18 : pe_ok kd D tc L xs "DecimalRun$Arithmetic" (.ldc2_w 105, 0, 0, 0, .long 999999999) := fun A s args hts hG => ⟨⟨_, rfl, hts _ wm_794⟩, trivial, trivial⟩
theorem pc_8_0_18 (nm : String) : pc_ok "DecimalRun$Arithmetic" nm (.ldc2_w 105, 0, 0, 0, .long 999999999) := fun s args hts => trivial
theorem pe_8_0_19 : pe_ok kd D tc L xs "DecimalRun$Arithmetic" (.ldc2_w 107, 0, 0, 0, .long (-999999999)) := fun A s args hts hG => ⟨⟨_, rfl, hts _ wm_795⟩, trivial, trivial⟩
theorem pc_8_0_19 (nm : String) : pc_ok "DecimalRun$Arithmetic" nm (.ldc2_w 107, 0, 0, 0, .long (-999999999)) := fun s args hts => trivial
theorem pe_8_0_20 : pe_ok kd D tc L xs "DecimalRun$Arithmetic" (.getfield 9, 8, 0, 0, .null) := fun A s args hts hG => ⟨Or.inl ⟨_, _, _, rfl, rfl, by decide, fun w hw => hts w (uw_8 w hw), Or.inl (hts _ wm_182)⟩, trivial, trivial⟩
theorem pc_8_0_20 (nm : String) : pc_ok "DecimalRun$Arithmetic" nm (.getfield 9, 8, 0, 0, .null) := fun s args hts => trivial
theorem pe_8_0_21 : pe_ok kd D tc L xs "DecimalRun$Arithmetic" (.getfield 78, 2, 1, 0, .null) := fun A s args hts hG => ⟨Or.inl ⟨_, _, _, rfl, rfl, by decide, fun w hw => hts w (uw_2 w hw), Or.inr ⟨_, hts _ wm_60⟩⟩, trivial, trivial⟩
theorem pc_8_0_21 (nm : String) : pc_ok "DecimalRun$Arithmetic" nm (.getfield 78, 2, 1, 0, .null) := fun s args hts => trivial
theorem pe_8_0_22 : pe_ok kd D tc L xs "DecimalRun$Arithmetic" (.invokestatic 84, 144, 2, 0, .null) := fun A s args hts hG => ⟨trivial, trivial, ⟨hts _ wm_324, Or.inl (hts _ wm_801), dx_pn pn_144⟩⟩
theorem pc_8_0_22 (nm : String) : pc_ok "DecimalRun$Arithmetic" nm (.invokestatic 84, 144, 2, 0, .null) := fun s args hts => trivial
theorem pe_8_0_23 : pe_ok kd D tc L xs "DecimalRun$Arithmetic" (.invokevirtual 87, 90, 2, 8, .null) := fun A s args hts hG => ⟨trivial, trivial, ⟨⟨_, Or.inl ⟨rfl, rfl⟩, hts _ wp_39⟩, hts _ wm_808, Or.inl (hts _ wm_806), dx_pn1 pn_90⟩⟩
theorem pc_8_0_23 (nm : String) : pc_ok "DecimalRun$Arithmetic" nm (.invokevirtual 87, 90, 2, 8, .null) := fun s args hts => trivial
theorem pe_8_0_24 : pe_ok kd D tc L xs "DecimalRun$Arithmetic" (.invokevirtual 91, 82, 4, 8, .null) := fun A s args hts hG => ⟨trivial, trivial, ⟨⟨_, Or.inl ⟨rfl, rfl⟩, hts _ wm_741⟩, hts _ wm_740, Or.inl (hts _ wm_818), dx_pn1 pn_82⟩⟩
theorem pc_8_0_24 (nm : String) : pc_ok "DecimalRun$Arithmetic" nm (.invokevirtual 91, 82, 4, 8, .null) := fun s args hts => trivial
theorem pe_8_0_25 : pe_ok kd D tc L xs "DecimalRun$Arithmetic" (.invokestatic 95, 147, 1, 0, .null) := fun A s args hts hG => ⟨trivial, trivial, ⟨hts _ wm_820, Or.inl (hts _ wm_819), dx_pn pn_147⟩⟩
theorem pc_8_0_25 (nm : String) : pc_ok "DecimalRun$Arithmetic" nm (.invokestatic 95, 147, 1, 0, .null) := fun s args hts => trivial
theorem pe_8_0_26 : pe_ok kd D tc L xs "DecimalRun$Arithmetic" (.invokestatic 99, 148, 2, 0, .null) := fun A s args hts hG => ⟨trivial, trivial, ⟨hts _ wm_826, Or.inl (hts _ wm_825), dx_pn pn_148⟩⟩
theorem pc_8_0_26 (nm : String) : pc_ok "DecimalRun$Arithmetic" nm (.invokestatic 99, 148, 2, 0, .null) := fun s args hts => trivial
def pl_8_0 : List dx_I := [(.invokespecial 3, 0, 1, 10, .null), (.ldc2_w 19, 0, 0, 0, .long 7), (.getstatic 56, 0, 0, 0, .retAddr 0), (.invokestatic 25, 80, 1, 0, .null), (.invokestatic 21, 79, 1, 0, .null), (.getfield 15, 8, 1, 0, .null), (.invokevirtual 60, 22, 2, 3, .null), (.invokestatic 29, 81, 2, 0, .null), (.invokevirtual 33, 85, 3, 8, .null), (.invokestatic 37, 83, 1, 0, .null), (.invokevirtual 40, 88, 3, 8, .null), (.invokevirtual 43, 89, 3, 8, .null), (.invokevirtual 46, 91, 3, 8, .null), (.invokevirtual 49, 92, 3, 8, .null), (.invokestatic 52, 93, 3, 0, .null), (.invokestatic 66, 145, 2, 0, .null), (.invokestatic 72, 86, 2, 0, .null), (.invokevirtual 75, 87, 3, 8, .null), (.ldc2_w 105, 0, 0, 0, .long 999999999), (.ldc2_w 107, 0, 0, 0, .long (-999999999)), (.getfield 9, 8, 0, 0, .null), (.getfield 78, 2, 1, 0, .null), (.invokestatic 84, 144, 2, 0, .null), (.invokevirtual 87, 90, 2, 8, .null), (.invokevirtual 91, 82, 4, 8, .null), (.invokestatic 95, 147, 1, 0, .null), (.invokestatic 99, 148, 2, 0, .null)]
theorem pa_8_0 (nm : String) : ∀ x ∈ pl_8_0, pe_ok kd D tc L xs "DecimalRun$Arithmetic" x ∧ pc_ok "DecimalRun$Arithmetic" nm x := List.forall_mem_cons.mpr ⟨⟨pe_8_0_0, pc_8_0_0 nm⟩, List.forall_mem_cons.mpr ⟨⟨pe_8_0_1, pc_8_0_1 nm⟩, List.forall_mem_cons.mpr ⟨⟨pe_8_0_2, pc_8_0_2 nm⟩, List.forall_mem_cons.mpr ⟨⟨pe_8_0_3, pc_8_0_3 nm⟩, List.forall_mem_cons.mpr ⟨⟨pe_8_0_4, pc_8_0_4 nm⟩, List.forall_mem_cons.mpr ⟨⟨pe_8_0_5, pc_8_0_5 nm⟩, List.forall_mem_cons.mpr ⟨⟨pe_8_0_6, pc_8_0_6 nm⟩, List.forall_mem_cons.mpr ⟨⟨pe_8_0_7, pc_8_0_7 nm⟩, List.forall_mem_cons.mpr ⟨⟨pe_8_0_8, pc_8_0_8 nm⟩, List.forall_mem_cons.mpr ⟨⟨pe_8_0_9, pc_8_0_9 nm⟩, List.forall_mem_cons.mpr ⟨⟨pe_8_0_10, pc_8_0_10 nm⟩, List.forall_mem_cons.mpr ⟨⟨pe_8_0_11, pc_8_0_11 nm⟩, List.forall_mem_cons.mpr ⟨⟨pe_8_0_12, pc_8_0_12 nm⟩, List.forall_mem_cons.mpr ⟨⟨pe_8_0_13, pc_8_0_13 nm⟩, List.forall_mem_cons.mpr ⟨⟨pe_8_0_14, pc_8_0_14 nm⟩, List.forall_mem_cons.mpr ⟨⟨pe_8_0_15, pc_8_0_15 nm⟩, List.forall_mem_cons.mpr ⟨⟨pe_8_0_16, pc_8_0_16 nm⟩, List.forall_mem_cons.mpr ⟨⟨pe_8_0_17, pc_8_0_17 nm⟩, List.forall_mem_cons.mpr ⟨⟨pe_8_0_18, pc_8_0_18 nm⟩, List.forall_mem_cons.mpr ⟨⟨pe_8_0_19, pc_8_0_19 nm⟩, List.forall_mem_cons.mpr ⟨⟨pe_8_0_20, pc_8_0_20 nm⟩, List.forall_mem_cons.mpr ⟨⟨pe_8_0_21, pc_8_0_21 nm⟩, List.forall_mem_cons.mpr ⟨⟨pe_8_0_22, pc_8_0_22 nm⟩, List.forall_mem_cons.mpr ⟨⟨pe_8_0_23, pc_8_0_23 nm⟩, List.forall_mem_cons.mpr ⟨⟨pe_8_0_24, pc_8_0_24 nm⟩, List.forall_mem_cons.mpr ⟨⟨pe_8_0_25, pc_8_0_25 nm⟩, List.forall_mem_cons.mpr ⟨⟨pe_8_0_26, pc_8_0_26 nm⟩, fun _ h => absurd h List.not_mem_nil⟩⟩⟩⟩⟩⟩⟩⟩⟩⟩⟩⟩⟩⟩⟩⟩⟩⟩⟩⟩⟩⟩⟩⟩⟩⟩⟩
theorem pe_8_1_0 : pe_ok kd D tc L xs "DecimalRun$Arithmetic" (.putfield 9, 8, 0, 3, .null) := fun A s args hts hG => ⟨trivial, trivial, trivial⟩
theorem pc_8_1_0 : pc_ok "DecimalRun$Arithmetic" "<init>" (.putfield 9, 8, 0, 3, .null) := fun s args hts => ⟨_, _, _, nm_ty8, rfl, by decide, fun w hw => hts w (uw_8 w hw), ty_8, na_8, by decide, Or.inr ⟨rfl, hts _ wm_182, rfl, rfl⟩⟩
theorem pe_8_1_1 : pe_ok kd D tc L xs "DecimalRun$Arithmetic" (.putfield 15, 8, 1, 3, .null) := fun A s args hts hG => ⟨trivial, trivial, trivial⟩
theorem pc_8_1_1 : pc_ok "DecimalRun$Arithmetic" "<init>" (.putfield 15, 8, 1, 3, .null) := fun s args hts => ⟨_, _, _, nm_ty8, rfl, by decide, fun w hw => hts w (uw_8 w hw), ty_8, na_8, by decide, Or.inr ⟨rfl, hts _ wm_183, rfl, rfl⟩⟩
def pl_8_1 : List dx_I := [(.putfield 9, 8, 0, 3, .null), (.putfield 15, 8, 1, 3, .null)]
theorem pa_8_1 : ∀ x ∈ pl_8_1, pe_ok kd D tc L xs "DecimalRun$Arithmetic" x ∧ pc_ok "DecimalRun$Arithmetic" "<init>" x := List.forall_mem_cons.mpr ⟨⟨pe_8_1_0, pc_8_1_0⟩, List.forall_mem_cons.mpr ⟨⟨pe_8_1_1, pc_8_1_1⟩, fun _ h => absurd h List.not_mem_nil⟩⟩
theorem pe_9_0_0 : pe_ok kd D tc L xs "DecimalRunModel" (.invokespecial 1, 0, 1, 10, .null) := fun A s args hts hG => ⟨trivial, trivial, by
    show if (10 : Nat) = 0 then _ else _
    rw [if_neg (by decide)]
    exact ⟨hts _ wm_833, hts _ wm_31, hts _ wm_32⟩⟩
theorem pc_9_0_0 (nm : String) : pc_ok "DecimalRunModel" nm (.invokespecial 1, 0, 1, 10, .null) := fun s args hts => trivial
theorem pe_9_0_1 : pe_ok kd D tc L xs "DecimalRunModel" (.newarray .int, 0, 0, 0, .null) := fun A s args hts hG => ⟨trivial, hts _ wm_122, trivial⟩
theorem pc_9_0_1 (nm : String) : pc_ok "DecimalRunModel" nm (.newarray .int, 0, 0, 0, .null) := fun s args hts => trivial
theorem pe_9_0_2 : pe_ok kd D tc L xs "DecimalRunModel" (.putfield 76, 9, 4, 0, .null) := fun A s args hts hG => ⟨trivial, trivial, trivial⟩
theorem pc_9_0_2 (nm : String) : pc_ok "DecimalRunModel" nm (.putfield 76, 9, 4, 0, .null) := fun s args hts => ⟨_, _, _, nm_ty9, rfl, by decide, fun w hw => hts w (uw_9 w hw), ty_9, na_9, by decide, Or.inl ⟨rfl, Or.inl (hts _ wm_838)⟩⟩
theorem pe_9_0_3 : pe_ok kd D tc L xs "DecimalRunModel" (.getfield 80, 9, 1, 0, .null) := fun A s args hts hG => ⟨Or.inl ⟨_, _, _, rfl, rfl, by decide, fun w hw => hts w (uw_9 w hw), Or.inl (hts _ wm_835)⟩, trivial, trivial⟩
theorem pc_9_0_3 (nm : String) : pc_ok "DecimalRunModel" nm (.getfield 80, 9, 1, 0, .null) := fun s args hts => trivial
theorem pe_9_0_4 : pe_ok kd D tc L xs "DecimalRunModel" (.getfield 7, 9, 0, 0, .null) := fun A s args hts hG => ⟨Or.inl ⟨_, _, _, rfl, rfl, by decide, fun w hw => hts w (uw_9 w hw), Or.inl (hts _ wm_834)⟩, trivial, trivial⟩
theorem pc_9_0_4 (nm : String) : pc_ok "DecimalRunModel" nm (.getfield 7, 9, 0, 0, .null) := fun s args hts => trivial
theorem pe_9_0_5 : pe_ok kd D tc L xs "DecimalRunModel" (.putfield 80, 9, 1, 0, .null) := fun A s args hts hG => ⟨trivial, trivial, trivial⟩
theorem pc_9_0_5 (nm : String) : pc_ok "DecimalRunModel" nm (.putfield 80, 9, 1, 0, .null) := fun s args hts => ⟨_, _, _, nm_ty9, rfl, by decide, fun w hw => hts w (uw_9 w hw), ty_9, na_9, by decide, Or.inl ⟨rfl, Or.inl (hts _ wm_835)⟩⟩
theorem pe_9_0_6 : pe_ok kd D tc L xs "DecimalRunModel" (.getfield 13, 9, 2, 0, .null) := fun A s args hts hG => ⟨Or.inl ⟨_, _, _, rfl, rfl, by decide, fun w hw => hts w (uw_9 w hw), Or.inl (hts _ wm_836)⟩, trivial, trivial⟩
theorem pc_9_0_6 (nm : String) : pc_ok "DecimalRunModel" nm (.getfield 13, 9, 2, 0, .null) := fun s args hts => trivial
theorem pe_9_0_7 : pe_ok kd D tc L xs "DecimalRunModel" (.getfield 16, 9, 3, 0, .null) := fun A s args hts hG => ⟨Or.inl ⟨_, _, _, rfl, rfl, by decide, fun w hw => hts w (uw_9 w hw), Or.inl (hts _ wm_837)⟩, trivial, trivial⟩
theorem pc_9_0_7 (nm : String) : pc_ok "DecimalRunModel" nm (.getfield 16, 9, 3, 0, .null) := fun s args hts => trivial
theorem pe_9_0_8 : pe_ok kd D tc L xs "DecimalRunModel" (.putfield 241, 9, 32, 0, .null) := fun A s args hts hG => ⟨trivial, trivial, trivial⟩
theorem pc_9_0_8 (nm : String) : pc_ok "DecimalRunModel" nm (.putfield 241, 9, 32, 0, .null) := fun s args hts => ⟨_, _, _, nm_ty9, rfl, by decide, fun w hw => hts w (uw_9 w hw), ty_9, na_9, by decide, Or.inl ⟨rfl, Or.inl (hts _ wm_866)⟩⟩
theorem pe_9_0_9 : pe_ok kd D tc L xs "DecimalRunModel" (.putfield 238, 9, 33, 0, .null) := fun A s args hts hG => ⟨trivial, trivial, trivial⟩
theorem pc_9_0_9 (nm : String) : pc_ok "DecimalRunModel" nm (.putfield 238, 9, 33, 0, .null) := fun s args hts => ⟨_, _, _, nm_ty9, rfl, by decide, fun w hw => hts w (uw_9 w hw), ty_9, na_9, by decide, Or.inl ⟨rfl, Or.inl (hts _ wm_867)⟩⟩
theorem pe_9_0_10 : pe_ok kd D tc L xs "DecimalRunModel" (.putfield 208, 9, 37, 0, .null) := fun A s args hts hG => ⟨trivial, trivial, trivial⟩
theorem pc_9_0_10 (nm : String) : pc_ok "DecimalRunModel" nm (.putfield 208, 9, 37, 0, .null) := fun s args hts => ⟨_, _, _, nm_ty9, rfl, by decide, fun w hw => hts w (uw_9 w hw), ty_9, na_9, by decide, Or.inl ⟨rfl, Or.inl (hts _ wm_871)⟩⟩
theorem pe_9_0_11 : pe_ok kd D tc L xs "DecimalRunModel" (.putfield 173, 9, 34, 0, .null) := fun A s args hts hG => ⟨trivial, trivial, trivial⟩
theorem pc_9_0_11 (nm : String) : pc_ok "DecimalRunModel" nm (.putfield 173, 9, 34, 0, .null) := fun s args hts => ⟨_, _, _, nm_ty9, rfl, by decide, fun w hw => hts w (uw_9 w hw), ty_9, na_9, by decide, Or.inl ⟨rfl, Or.inl (hts _ wm_868)⟩⟩
theorem pe_9_0_12 : pe_ok kd D tc L xs "DecimalRunModel" (.putfield 254, 9, 35, 0, .null) := fun A s args hts hG => ⟨trivial, trivial, trivial⟩
theorem pc_9_0_12 (nm : String) : pc_ok "DecimalRunModel" nm (.putfield 254, 9, 35, 0, .null) := fun s args hts => ⟨_, _, _, nm_ty9, rfl, by decide, fun w hw => hts w (uw_9 w hw), ty_9, na_9, by decide, Or.inl ⟨rfl, Or.inl (hts _ wm_869)⟩⟩
theorem pe_9_0_13 : pe_ok kd D tc L xs "DecimalRunModel" (.putfield 98, 9, 10, 2, .null) := fun A s args hts hG => ⟨trivial, trivial, trivial⟩
theorem pc_9_0_13 (nm : String) : pc_ok "DecimalRunModel" nm (.putfield 98, 9, 10, 2, .null) := fun s args hts => ⟨_, _, _, nm_ty9, rfl, by decide, fun w hw => hts w (uw_9 w hw), ty_9, na_9, by decide, Or.inl ⟨rfl, Or.inl (hts _ wm_844)⟩⟩
theorem pe_9_0_14 : pe_ok kd D tc L xs "DecimalRunModel" (.invokevirtual 257, 100, 1, 9, .null) := fun A s args hts hG => ⟨trivial, trivial, ⟨⟨_, Or.inl ⟨rfl, rfl⟩, hts _ wp_42⟩, hts _ wm_977, Or.inl (hts _ wm_975), dx_pn1 pn_100⟩⟩
theorem pc_9_0_14 (nm : String) : pc_ok "DecimalRunModel" nm (.invokevirtual 257, 100, 1, 9, .null) := fun s args hts => trivial
theorem pe_9_0_15 : pe_ok kd D tc L xs "DecimalRunModel" (.getfield 98, 9, 10, 0, .null) := fun A s args hts hG => ⟨Or.inl ⟨_, _, _, rfl, rfl, by decide, fun w hw => hts w (uw_9 w hw), Or.inl (hts _ wm_844)⟩, trivial, trivial⟩
theorem pc_9_0_15 (nm : String) : pc_ok "DecimalRunModel" nm (.getfield 98, 9, 10, 0, .null) := fun s args hts => trivial
theorem pe_9_0_16 : pe_ok kd D tc L xs "DecimalRunModel" (.invokevirtual 260, 108, 1, 9, .null) := fun A s args hts hG => ⟨trivial, trivial, ⟨⟨_, Or.inl ⟨rfl, rfl⟩, hts _ wp_48⟩, hts _ wm_1007, Or.inl (hts _ wm_1005), dx_pn1 pn_108⟩⟩
theorem pc_9_0_16 (nm : String) : pc_ok "DecimalRunModel" nm (.invokevirtual 260, 108, 1, 9, .null) := fun s args hts => trivial
theorem pe_9_0_17 : pe_ok kd D tc L xs "DecimalRunModel" (.putfield 205, 9, 30, 0, .null) := fun A s args hts hG => ⟨trivial, trivial, trivial⟩
theorem pc_9_0_17 (nm : String) : pc_ok "DecimalRunModel" nm (.putfield 205, 9, 30, 0, .null) := fun s args hts => ⟨_, _, _, nm_ty9, rfl, by decide, fun w hw => hts w (uw_9 w hw), ty_9, na_9, by decide, Or.inl ⟨rfl, Or.inl (hts _ wm_864)⟩⟩
theorem pe_9_0_18 : pe_ok kd D tc L xs "DecimalRunModel" (.putfield 215, 9, 31, 0, .null) := fun A s args hts hG => ⟨trivial, trivial, trivial⟩
theorem pc_9_0_18 (nm : String) : pc_ok "DecimalRunModel" nm (.putfield 215, 9, 31, 0, .null) := fun s args hts => ⟨_, _, _, nm_ty9, rfl, by decide, fun w hw => hts w (uw_9 w hw), ty_9, na_9, by decide, Or.inl ⟨rfl, Or.inl (hts _ wm_865)⟩⟩
theorem pe_9_0_19 : pe_ok kd D tc L xs "DecimalRunModel" (.ldc_w 263, 0, 0, 0, .int 100000000) := fun A s args hts hG => ⟨⟨_, rfl, hts _ wm_1057⟩, trivial, trivial⟩
theorem pc_9_0_19 (nm : String) : pc_ok "DecimalRunModel" nm (.ldc_w 263, 0, 0, 0, .int 100000000) := fun s args hts => trivial
theorem pe_9_0_20 : pe_ok kd D tc L xs "DecimalRunModel" (.invokevirtual 264, 121, 2, 9, .null) := fun A s args hts hG => ⟨trivial, trivial, ⟨⟨_, Or.inl ⟨rfl, rfl⟩, hts _ wp_61⟩, hts _ wm_1060, Or.inl (hts _ wm_1058), dx_pn1 pn_121⟩⟩
theorem pc_9_0_20 (nm : String) : pc_ok "DecimalRunModel" nm (.invokevirtual 264, 121, 2, 9, .null) := fun s args hts => trivial
theorem pe_9_0_21 : pe_ok kd D tc L xs "DecimalRunModel" (.getfield 173, 9, 34, 0, .null) := fun A s args hts hG => ⟨Or.inl ⟨_, _, _, rfl, rfl, by decide, fun w hw => hts w (uw_9 w hw), Or.inl (hts _ wm_868)⟩, trivial, trivial⟩
theorem pc_9_0_21 (nm : String) : pc_ok "DecimalRunModel" nm (.getfield 173, 9, 34, 0, .null) := fun s args hts => trivial
theorem pe_9_0_22 : pe_ok kd D tc L xs "DecimalRunModel" (.getfield 238, 9, 33, 0, .null) := fun A s args hts hG => ⟨Or.inl ⟨_, _, _, rfl, rfl, by decide, fun w hw => hts w (uw_9 w hw), Or.inl (hts _ wm_867)⟩, trivial, trivial⟩
theorem pc_9_0_22 (nm : String) : pc_ok "DecimalRunModel" nm (.getfield 238, 9, 33, 0, .null) := fun s args hts => trivial
theorem pe_9_0_23 : pe_ok kd D tc L xs "DecimalRunModel" (.putfield 83, 9, 8, 0, .null) := fun A s args hts hG => ⟨trivial, trivial, trivial⟩
theorem pc_9_0_23 (nm : String) : pc_ok "DecimalRunModel" nm (.putfield 83, 9, 8, 0, .null) := fun s args hts => ⟨_, _, _, nm_ty9, rfl, by decide, fun w hw => hts w (uw_9 w hw), ty_9, na_9, by decide, Or.inl ⟨rfl, Or.inl (hts _ wm_842)⟩⟩
theorem pe_9_0_24 : pe_ok kd D tc L xs "DecimalRunModel" (.invokevirtual 86, 101, 2, 9, .null) := fun A s args hts hG => ⟨trivial, trivial, ⟨⟨_, Or.inl ⟨rfl, rfl⟩, hts _ wp_43⟩, hts _ wm_981, Or.inl (hts _ wm_979), dx_pn1 pn_101⟩⟩
theorem pc_9_0_24 (nm : String) : pc_ok "DecimalRunModel" nm (.invokevirtual 86, 101, 2, 9, .null) := fun s args hts => trivial
theorem pe_9_0_25 : pe_ok kd D tc L xs "DecimalRunModel" (.invokestatic 90, 102, 1, 0, .null) := fun A s args hts hG => ⟨trivial, trivial, ⟨hts _ wm_984, Or.inl (hts _ wm_983), dx_pn pn_102⟩⟩
theorem pc_9_0_25 (nm : String) : pc_ok "DecimalRunModel" nm (.invokestatic 90, 102, 1, 0, .null) := fun s args hts => trivial
theorem pe_9_0_26 : pe_ok kd D tc L xs "DecimalRunModel" (.invokevirtual 102, 103, 2, 9, .null) := fun A s args hts hG => ⟨trivial, trivial, ⟨⟨_, Or.inl ⟨rfl, rfl⟩, hts _ wp_44⟩, hts _ wm_988, Or.inl (hts _ wm_986), dx_pn1 pn_103⟩⟩
theorem pc_9_0_26 (nm : String) : pc_ok "DecimalRunModel" nm (.invokevirtual 102, 103, 2, 9, .null) := fun s args hts => trivial
theorem pe_9_0_27 : pe_ok kd D tc L xs "DecimalRunModel" (.invokestatic 105, 105, 1, 0, .null) := fun A s args hts hG => ⟨trivial, trivial, ⟨hts _ wm_995, Or.inl (hts _ wm_994), dx_pn pn_105⟩⟩
theorem pc_9_0_27 (nm : String) : pc_ok "DecimalRunModel" nm (.invokestatic 105, 105, 1, 0, .null) := fun s args hts => trivial
theorem pe_9_0_28 : pe_ok kd D tc L xs "DecimalRunModel" (.invokevirtual 108, 106, 3, 9, .null) := fun A s args hts hG => ⟨trivial, trivial, ⟨⟨_, Or.inl ⟨rfl, rfl⟩, hts _ wp_46⟩, hts _ wm_999, Or.inl (hts _ wm_997), dx_pn1 pn_106⟩⟩
theorem pc_9_0_28 (nm : String) : pc_ok "DecimalRunModel" nm (.invokevirtual 108, 106, 3, 9, .null) := fun s args hts => trivial
theorem pe_9_0_29 : pe_ok kd D tc L xs "DecimalRunModel" (.invokevirtual 94, 104, 4, 9, .null) := fun A s args hts hG => ⟨trivial, trivial, ⟨⟨_, Or.inl ⟨rfl, rfl⟩, hts _ wp_45⟩, hts _ wm_992, Or.inl (hts _ wm_990), dx_pn1 pn_104⟩⟩
theorem pc_9_0_29 (nm : String) : pc_ok "DecimalRunModel" nm (.invokevirtual 94, 104, 4, 9, .null) := fun s args hts => trivial
theorem pe_9_0_30 : pe_ok kd D tc L xs "DecimalRunModel" (.invokevirtual 112, 107, 2, 9, .null) := fun A s args hts hG => ⟨trivial, trivial, ⟨⟨_, Or.inl ⟨rfl, rfl⟩, hts _ wp_47⟩, hts _ wm_1003, Or.inl (hts _ wm_1001), dx_pn1 pn_107⟩⟩
theorem pc_9_0_30 (nm : String) : pc_ok "DecimalRunModel" nm (.invokevirtual 112, 107, 2, 9, .null) := fun s args hts => trivial
theorem pe_9_0_31 : pe_ok kd D tc L xs "DecimalRunModel" (.getfield 19, 9, 5, 0, .null) := fun A s args hts hG => ⟨Or.inl ⟨_, _, _, rfl, rfl, by decide, fun w hw => hts w (uw_9 w hw), Or.inl (hts _ wm_839)⟩, trivial, trivial⟩
theorem pc_9_0_31 (nm : String) : pc_ok "DecimalRunModel" nm (.getfield 19, 9, 5, 0, .null) := fun s args hts => trivial
theorem pe_9_0_32 : pe_ok kd D tc L xs "DecimalRunModel" (.getfield 83, 9, 8, 0, .null) := fun A s args hts hG => ⟨Or.inl ⟨_, _, _, rfl, rfl, by decide, fun w hw => hts w (uw_9 w hw), Or.inl (hts _ wm_842)⟩, trivial, trivial⟩
theorem pc_9_0_32 (nm : String) : pc_ok "DecimalRunModel" nm (.getfield 83, 9, 8, 0, .null) := fun s args hts => trivial
theorem pe_9_0_33 : pe_ok kd D tc L xs "DecimalRunModel" (.getfield 22, 9, 6, 0, .null) := fun A s args hts hG => ⟨Or.inl ⟨_, _, _, rfl, rfl, by decide, fun w hw => hts w (uw_9 w hw), Or.inl (hts _ wm_840)⟩, trivial, trivial⟩
theorem pc_9_0_33 (nm : String) : pc_ok "DecimalRunModel" nm (.getfield 22, 9, 6, 0, .null) := fun s args hts => trivial
theorem pe_9_0_34 : pe_ok kd D tc L xs "DecimalRunModel" (.getfield 25, 9, 7, 0, .null) := fun A s args hts hG => ⟨Or.inl ⟨_, _, _, rfl, rfl, by decide, fun w hw => hts w (uw_9 w hw), Or.inl (hts _ wm_841)⟩, trivial, trivial⟩
theorem pc_9_0_34 (nm : String) : pc_ok "DecimalRunModel" nm (.getfield 25, 9, 7, 0, .null) := fun s args hts => trivial
theorem pe_9_0_35 : pe_ok kd D tc L xs "DecimalRunModel" (.putfield 121, 9, 9, 0, .null) := fun A s args hts hG => ⟨trivial, trivial, trivial⟩
theorem pc_9_0_35 (nm : String) : pc_ok "DecimalRunModel" nm (.putfield 121, 9, 9, 0, .null) := fun s args hts => ⟨_, _, _, nm_ty9, rfl, by decide, fun w hw => hts w (uw_9 w hw), ty_9, na_9, by decide, Or.inl ⟨rfl, Or.inl (hts _ wm_843)⟩⟩
theorem pe_9_0_36 : pe_ok kd D tc L xs "DecimalRunModel" (.putfield 118, 9, 14, 0, .null) := fun A s args hts hG => ⟨trivial, trivial, trivial⟩
theorem pc_9_0_36 (nm : String) : pc_ok "DecimalRunModel" nm (.putfield 118, 9, 14, 0, .null) := fun s args hts => ⟨_, _, _, nm_ty9, rfl, by decide, fun w hw => hts w (uw_9 w hw), ty_9, na_9, by decide, Or.inl ⟨rfl, Or.inl (hts _ wm_848)⟩⟩
theorem pe_9_0_37 : pe_ok kd D tc L xs "DecimalRunModel" (.putfield 115, 9, 20, 0, .null) := fun A s args hts hG => ⟨trivial, trivial, trivial⟩
theorem pc_9_0_37 (nm : String) : pc_ok "DecimalRunModel" nm (.putfield 115, 9, 20, 0, .null) := fun s args hts => ⟨_, _, _, nm_ty9, rfl, by decide, fun w hw => hts w (uw_9 w hw), ty_9, na_9, by decide, Or.inl ⟨rfl, Or.inl (hts _ wm_854)⟩⟩
theorem pe_9_0_38 : pe_ok kd D tc L xs "DecimalRunModel" (.putfield 127, 9, 21, 0, .null) := fun A s args hts hG => ⟨trivial, trivial, trivial⟩
theorem pc_9_0_38 (nm : String) : pc_ok "DecimalRunModel" nm (.putfield 127, 9, 21, 0, .null) := fun s args hts => ⟨_, _, _, nm_ty9, rfl, by decide, fun w hw => hts w (uw_9 w hw), ty_9, na_9, by decide, Or.inl ⟨rfl, Or.inl (hts _ wm_855)⟩⟩
theorem pe_9_0_39 : pe_ok kd D tc L xs "DecimalRunModel" (.putfield 130, 9, 22, 2, .null) := fun A s args hts hG => ⟨trivial, trivial, trivial⟩
theorem pc_9_0_39 (nm : String) : pc_ok "DecimalRunModel" nm (.putfield 130, 9, 22, 2, .null) := fun s args hts => ⟨_, _, _, nm_ty9, rfl, by decide, fun w hw => hts w (uw_9 w hw), ty_9, na_9, by decide, Or.inl ⟨rfl, Or.inl (hts _ wm_856)⟩⟩
theorem pe_9_0_40 : pe_ok kd D tc L xs "DecimalRunModel" (.getfield 37, 9, 15, 0, .null) := fun A s args hts hG => ⟨Or.inl ⟨_, _, _, rfl, rfl, by decide, fun w hw => hts w (uw_9 w hw), Or.inl (hts _ wm_849)⟩, trivial, trivial⟩
theorem pc_9_0_40 (nm : String) : pc_ok "DecimalRunModel" nm (.getfield 37, 9, 15, 0, .null) := fun s args hts => trivial
theorem pe_9_0_41 : pe_ok kd D tc L xs "DecimalRunModel" (.invokevirtual 133, 109, 4, 9, .null) := fun A s args hts hG => ⟨trivial, trivial, ⟨⟨_, Or.inl ⟨rfl, rfl⟩, hts _ wp_49⟩, hts _ wm_1011, Or.inl (hts _ wm_1009), dx_pn1 pn_109⟩⟩
theorem pc_9_0_41 (nm : String) : pc_ok "DecimalRunModel" nm (.invokevirtual 133, 109, 4, 9, .null) := fun s args hts => trivial
theorem pe_9_0_42 : pe_ok kd D tc L xs "DecimalRunModel" (.getfield 115, 9, 20, 0, .null) := fun A s args hts hG => ⟨Or.inl ⟨_, _, _, rfl, rfl, by decide, fun w hw => hts w (uw_9 w hw), Or.inl (hts _ wm_854)⟩, trivial, trivial⟩
theorem pc_9_0_42 (nm : String) : pc_ok "DecimalRunModel" nm (.getfield 115, 9, 20, 0, .null) := fun s args hts => trivial
theorem pe_9_0_43 : pe_ok kd D tc L xs "DecimalRunModel" (.getfield 43, 9, 17, 0, .null) := fun A s args hts hG => ⟨Or.inl ⟨_, _, _, rfl, rfl, by decide, fun w hw => hts w (uw_9 w hw), Or.inl (hts _ wm_851)⟩, trivial, trivial⟩
theorem pc_9_0_43 (nm : String) : pc_ok "DecimalRunModel" nm (.getfield 43, 9, 17, 0, .null) := fun s args hts => trivial
theorem pe_9_0_44 : pe_ok kd D tc L xs "DecimalRunModel" (.getfield 46, 9, 18, 0, .null) := fun A s args hts hG => ⟨Or.inl ⟨_, _, _, rfl, rfl, by decide, fun w hw => hts w (uw_9 w hw), Or.inl (hts _ wm_852)⟩, trivial, trivial⟩
theorem pc_9_0_44 (nm : String) : pc_ok "DecimalRunModel" nm (.getfield 46, 9, 18, 0, .null) := fun s args hts => trivial
theorem pe_9_0_45 : pe_ok kd D tc L xs "DecimalRunModel" (.getfield 49, 9, 19, 0, .null) := fun A s args hts hG => ⟨Or.inl ⟨_, _, _, rfl, rfl, by decide, fun w hw => hts w (uw_9 w hw), Or.inl (hts _ wm_853)⟩, trivial, trivial⟩
theorem pc_9_0_45 (nm : String) : pc_ok "DecimalRunModel" nm (.getfield 49, 9, 19, 0, .null) := fun s args hts => trivial
theorem pe_9_0_46 : pe_ok kd D tc L xs "DecimalRunModel" (.invokevirtual 136, 110, 2, 9, .null) := fun A s args hts hG => ⟨trivial, trivial, ⟨⟨_, Or.inl ⟨rfl, rfl⟩, hts _ wp_50⟩, hts _ wm_1015, Or.inl (hts _ wm_1013), dx_pn1 pn_110⟩⟩
theorem pc_9_0_46 (nm : String) : pc_ok "DecimalRunModel" nm (.invokevirtual 136, 110, 2, 9, .null) := fun s args hts => trivial
theorem pe_9_0_47 : pe_ok kd D tc L xs "DecimalRunModel" (.invokevirtual 140, 117, 2, 9, .null) := fun A s args hts hG => ⟨trivial, trivial, ⟨⟨_, Or.inl ⟨rfl, rfl⟩, hts _ wp_57⟩, hts _ wm_1043, Or.inl (hts _ wm_1041), dx_pn1 pn_117⟩⟩
theorem pc_9_0_47 (nm : String) : pc_ok "DecimalRunModel" nm (.invokevirtual 140, 117, 2, 9, .null) := fun s args hts => trivial
theorem pe_9_0_48 : pe_ok kd D tc L xs "DecimalRunModel" (.invokevirtual 143, 114, 4, 9, .null) := fun A s args hts hG => ⟨trivial, trivial, ⟨⟨_, Or.inl ⟨rfl, rfl⟩, hts _ wp_54⟩, hts _ wm_1031, Or.inl (hts _ wm_1029), dx_pn1 pn_114⟩⟩
theorem pc_9_0_48 (nm : String) : pc_ok "DecimalRunModel" nm (.invokevirtual 143, 114, 4, 9, .null) := fun s args hts => trivial
theorem pe_9_0_49 : pe_ok kd D tc L xs "DecimalRunModel" (.invokevirtual 146, 120, 4, 9, .null) := fun A s args hts hG => ⟨trivial, trivial, ⟨⟨_, Or.inl ⟨rfl, rfl⟩, hts _ wp_60⟩, hts _ wm_1055, Or.inl (hts _ wm_1053), dx_pn1 pn_120⟩⟩
theorem pc_9_0_49 (nm : String) : pc_ok "DecimalRunModel" nm (.invokevirtual 146, 120, 4, 9, .null) := fun s args hts => trivial
theorem pe_9_0_50 : pe_ok kd D tc L xs "DecimalRunModel" (.invokevirtual 149, 111, 1, 9, .null) := fun A s args hts hG => ⟨trivial, trivial, ⟨⟨_, Or.inl ⟨rfl, rfl⟩, hts _ wp_51⟩, hts _ wm_1019, Or.inl (hts _ wm_1017), dx_pn1 pn_111⟩⟩
theorem pc_9_0_50 (nm : String) : pc_ok "DecimalRunModel" nm (.invokevirtual 149, 111, 1, 9, .null) := fun s args hts => trivial
theorem pe_9_0_51 : pe_ok kd D tc L xs "DecimalRunModel" (.getfield 127, 9, 21, 0, .null) := fun A s args hts hG => ⟨Or.inl ⟨_, _, _, rfl, rfl, by decide, fun w hw => hts w (uw_9 w hw), Or.inl (hts _ wm_855)⟩, trivial, trivial⟩
theorem pc_9_0_51 (nm : String) : pc_ok "DecimalRunModel" nm (.getfield 127, 9, 21, 0, .null) := fun s args hts => trivial
theorem pe_9_0_52 : pe_ok kd D tc L xs "DecimalRunModel" (.getfield 121, 9, 9, 0, .null) := fun A s args hts hG => ⟨Or.inl ⟨_, _, _, rfl, rfl, by decide, fun w hw => hts w (uw_9 w hw), Or.inl (hts _ wm_843)⟩, trivial, trivial⟩
theorem pc_9_0_52 (nm : String) : pc_ok "DecimalRunModel" nm (.getfield 121, 9, 9, 0, .null) := fun s args hts => trivial
theorem pe_9_0_53 : pe_ok kd D tc L xs "DecimalRunModel" (.invokevirtual 152, 115, 2, 9, .null) := fun A s args hts hG => ⟨trivial, trivial, ⟨⟨_, Or.inl ⟨rfl, rfl⟩, hts _ wp_55⟩, hts _ wm_1035, Or.inl (hts _ wm_1033), dx_pn1 pn_115⟩⟩
theorem pc_9_0_53 (nm : String) : pc_ok "DecimalRunModel" nm (.invokevirtual 152, 115, 2, 9, .null) := fun s args hts => trivial
theorem pe_9_0_54 : pe_ok kd D tc L xs "DecimalRunModel" (.invokevirtual 124, 112, 2, 9, .null) := fun A s args hts hG => ⟨trivial, trivial, ⟨⟨_, Or.inl ⟨rfl, rfl⟩, hts _ wp_52⟩, hts _ wm_1023, Or.inl (hts _ wm_1021), dx_pn1 pn_112⟩⟩
theorem pc_9_0_54 (nm : String) : pc_ok "DecimalRunModel" nm (.invokevirtual 124, 112, 2, 9, .null) := fun s args hts => trivial
theorem pe_9_0_55 : pe_ok kd D tc L xs "DecimalRunModel" (.invokevirtual 155, 116, 1, 9, .null) := fun A s args hts hG => ⟨trivial, trivial, ⟨⟨_, Or.inl ⟨rfl, rfl⟩, hts _ wp_56⟩, hts _ wm_1039, Or.inl (hts _ wm_1037), dx_pn1 pn_116⟩⟩
theorem pc_9_0_55 (nm : String) : pc_ok "DecimalRunModel" nm (.invokevirtual 155, 116, 1, 9, .null) := fun s args hts => trivial
theorem pe_9_0_56 : pe_ok kd D tc L xs "DecimalRunModel" (.invokevirtual 158, 113, 1, 9, .null) := fun A s args hts hG => ⟨trivial, trivial, ⟨⟨_, Or.inl ⟨rfl, rfl⟩, hts _ wp_53⟩, hts _ wm_1027, Or.inl (hts _ wm_1025), dx_pn1 pn_113⟩⟩
theorem pc_9_0_56 (nm : String) : pc_ok "DecimalRunModel" nm (.invokevirtual 158, 113, 1, 9, .null) := fun s args hts => trivial
theorem pe_9_0_57 : pe_ok kd D tc L xs "DecimalRunModel" (.getfield 118, 9, 14, 0, .null) := fun A s args hts hG => ⟨Or.inl ⟨_, _, _, rfl, rfl, by decide, fun w hw => hts w (uw_9 w hw), Or.inl (hts _ wm_848)⟩, trivial, trivial⟩
theorem pc_9_0_57 (nm : String) : pc_ok "DecimalRunModel" nm (.getfield 118, 9, 14, 0, .null) := fun s args hts => trivial
theorem pe_9_0_58 : pe_ok kd D tc L xs "DecimalRunModel" (.getfield 130, 9, 22, 0, .null) := fun A s args hts hG => ⟨Or.inl ⟨_, _, _, rfl, rfl, by decide, fun w hw => hts w (uw_9 w hw), Or.inl (hts _ wm_856)⟩, trivial, trivial⟩
theorem pc_9_0_58 (nm : String) : pc_ok "DecimalRunModel" nm (.getfield 130, 9, 22, 0, .null) := fun s args hts => trivial
theorem pe_9_0_59 : pe_ok kd D tc L xs "DecimalRunModel" (.getfield 28, 9, 11, 0, .null) := fun A s args hts hG => ⟨Or.inl ⟨_, _, _, rfl, rfl, by decide, fun w hw => hts w (uw_9 w hw), Or.inl (hts _ wm_845)⟩, trivial, trivial⟩
theorem pc_9_0_59 (nm : String) : pc_ok "DecimalRunModel" nm (.getfield 28, 9, 11, 0, .null) := fun s args hts => trivial
theorem pe_9_0_60 : pe_ok kd D tc L xs "DecimalRunModel" (.getfield 31, 9, 12, 0, .null) := fun A s args hts hG => ⟨Or.inl ⟨_, _, _, rfl, rfl, by decide, fun w hw => hts w (uw_9 w hw), Or.inl (hts _ wm_846)⟩, trivial, trivial⟩
theorem pc_9_0_60 (nm : String) : pc_ok "DecimalRunModel" nm (.getfield 31, 9, 12, 0, .null) := fun s args hts => trivial
theorem pe_9_0_61 : pe_ok kd D tc L xs "DecimalRunModel" (.getfield 34, 9, 13, 0, .null) := fun A s args hts hG => ⟨Or.inl ⟨_, _, _, rfl, rfl, by decide, fun w hw => hts w (uw_9 w hw), Or.inl (hts _ wm_847)⟩, trivial, trivial⟩
theorem pc_9_0_61 (nm : String) : pc_ok "DecimalRunModel" nm (.getfield 34, 9, 13, 0, .null) := fun s args hts => trivial
theorem pe_9_0_62 : pe_ok kd D tc L xs "DecimalRunModel" (.getfield 40, 9, 16, 0, .null) := fun A s args hts hG => ⟨Or.inl ⟨_, _, _, rfl, rfl, by decide, fun w hw => hts w (uw_9 w hw), Or.inl (hts _ wm_850)⟩, trivial, trivial⟩
theorem pc_9_0_62 (nm : String) : pc_ok "DecimalRunModel" nm (.getfield 40, 9, 16, 0, .null) := fun s args hts => trivial
theorem pe_9_0_63 : pe_ok kd D tc L xs "DecimalRunModel" (.invokevirtual 161, 118, 4, 9, .null) := fun A s args hts hG => ⟨trivial, trivial, ⟨⟨_, Or.inl ⟨rfl, rfl⟩, hts _ wp_58⟩, hts _ wm_1047, Or.inl (hts _ wm_1045), dx_pn1 pn_118⟩⟩
theorem pc_9_0_63 (nm : String) : pc_ok "DecimalRunModel" nm (.invokevirtual 161, 118, 4, 9, .null) := fun s args hts => trivial
theorem pe_9_0_64 : pe_ok kd D tc L xs "DecimalRunModel" (.invokevirtual 164, 119, 2, 9, .null) := fun A s args hts hG => ⟨trivial, trivial, ⟨⟨_, Or.inl ⟨rfl, rfl⟩, hts _ wp_59⟩, hts _ wm_1051, Or.inl (hts _ wm_1049), dx_pn1 pn_119⟩⟩
theorem pc_9_0_64 (nm : String) : pc_ok "DecimalRunModel" nm (.invokevirtual 164, 119, 2, 9, .null) := fun s args hts => trivial
theorem pe_9_0_65 : pe_ok kd D tc L xs "DecimalRunModel" (.getfield 205, 9, 30, 0, .null) := fun A s args hts hG => ⟨Or.inl ⟨_, _, _, rfl, rfl, by decide, fun w hw => hts w (uw_9 w hw), Or.inl (hts _ wm_864)⟩, trivial, trivial⟩
theorem pc_9_0_65 (nm : String) : pc_ok "DecimalRunModel" nm (.getfield 205, 9, 30, 0, .null) := fun s args hts => trivial
theorem pe_9_0_66 : pe_ok kd D tc L xs "DecimalRunModel" (.getfield 52, 9, 23, 0, .null) := fun A s args hts hG => ⟨Or.inl ⟨_, _, _, rfl, rfl, by decide, fun w hw => hts w (uw_9 w hw), Or.inl (hts _ wm_857)⟩, trivial, trivial⟩
theorem pc_9_0_66 (nm : String) : pc_ok "DecimalRunModel" nm (.getfield 52, 9, 23, 0, .null) := fun s args hts => trivial
theorem pe_9_0_67 : pe_ok kd D tc L xs "DecimalRunModel" (.getfield 55, 9, 24, 0, .null) := fun A s args hts hG => ⟨Or.inl ⟨_, _, _, rfl, rfl, by decide, fun w hw => hts w (uw_9 w hw), Or.inl (hts _ wm_858)⟩, trivial, trivial⟩
theorem pc_9_0_67 (nm : String) : pc_ok "DecimalRunModel" nm (.getfield 55, 9, 24, 0, .null) := fun s args hts => trivial
theorem pe_9_0_68 : pe_ok kd D tc L xs "DecimalRunModel" (.invokevirtual 218, 122, 3, 9, .null) := fun A s args hts hG => ⟨trivial, trivial, ⟨⟨_, Or.inl ⟨rfl, rfl⟩, hts _ wp_62⟩, hts _ wm_1064, Or.inl (hts _ wm_1062), dx_pn1 pn_122⟩⟩
theorem pc_9_0_68 (nm : String) : pc_ok "DecimalRunModel" nm (.invokevirtual 218, 122, 3, 9, .null) := fun s args hts => trivial
theorem pe_9_0_69 : pe_ok kd D tc L xs "DecimalRunModel" (.getfield 76, 9, 4, 0, .null) := fun A s args hts hG => ⟨Or.inl ⟨_, _, _, rfl, rfl, by decide, fun w hw => hts w (uw_9 w hw), Or.inl (hts _ wm_838)⟩, trivial, trivial⟩
theorem pc_9_0_69 (nm : String) : pc_ok "DecimalRunModel" nm (.getfield 76, 9, 4, 0, .null) := fun s args hts => trivial
theorem pe_9_0_70 : pe_ok kd D tc L xs "DecimalRunModel" (.invokevirtual 223, 123, 6, 9, .null) := fun A s args hts hG => ⟨trivial, trivial, ⟨⟨_, Or.inl ⟨rfl, rfl⟩, hts _ wp_63⟩, hts _ wm_1068, Or.inl (hts _ wm_1066), dx_pn1 pn_123⟩⟩
theorem pc_9_0_70 (nm : String) : pc_ok "DecimalRunModel" nm (.invokevirtual 223, 123, 6, 9, .null) := fun s args hts => trivial
theorem pe_9_0_71 : pe_ok kd D tc L xs "DecimalRunModel" (.getfield 176, 9, 38, 0, .null) := fun A s args hts hG => ⟨Or.inl ⟨_, _, _, rfl, rfl, by decide, fun w hw => hts w (uw_9 w hw), Or.inl (hts _ wm_872)⟩, trivial, trivial⟩
theorem pc_9_0_71 (nm : String) : pc_ok "DecimalRunModel" nm (.getfield 176, 9, 38, 0, .null) := fun s args hts => trivial
theorem pe_9_0_72 : pe_ok kd D tc L xs "DecimalRunModel" (.getfield 179, 9, 39, 0, .null) := fun A s args hts hG => ⟨Or.inl ⟨_, _, _, rfl, rfl, by decide, fun w hw => hts w (uw_9 w hw), Or.inl (hts _ wm_873)⟩, trivial, trivial⟩
theorem pc_9_0_72 (nm : String) : pc_ok "DecimalRunModel" nm (.getfield 179, 9, 39, 0, .null) := fun s args hts => trivial
theorem pe_9_0_73 : pe_ok kd D tc L xs "DecimalRunModel" (.invokevirtual 227, 129, 3, 9, .null) := fun A s args hts hG => ⟨trivial, trivial, ⟨⟨_, Or.inl ⟨rfl, rfl⟩, hts _ wp_68⟩, hts _ wm_1096, Or.inl (hts _ wm_1094), dx_pn1 pn_129⟩⟩
theorem pc_9_0_73 (nm : String) : pc_ok "DecimalRunModel" nm (.invokevirtual 227, 129, 3, 9, .null) := fun s args hts => trivial
theorem pe_9_0_74 : pe_ok kd D tc L xs "DecimalRunModel" (.invokestatic 182, 124, 1, 0, .null) := fun A s args hts hG => ⟨trivial, trivial, ⟨hts _ wm_1071, Or.inl (hts _ wm_1070), dx_pn pn_124⟩⟩
theorem pc_9_0_74 (nm : String) : pc_ok "DecimalRunModel" nm (.invokestatic 182, 124, 1, 0, .null) := fun s args hts => trivial
theorem pe_9_0_75 : pe_ok kd D tc L xs "DecimalRunModel" (.invokestatic 230, 130, 3, 0, .null) := fun A s args hts hG => ⟨trivial, trivial, ⟨hts _ wm_1099, Or.inl (hts _ wm_1098), dx_pn pn_130⟩⟩
theorem pc_9_0_75 (nm : String) : pc_ok "DecimalRunModel" nm (.invokestatic 230, 130, 3, 0, .null) := fun s args hts => trivial
theorem pe_9_0_76 : pe_ok kd D tc L xs "DecimalRunModel" (.invokevirtual 234, 131, 5, 9, .null) := fun A s args hts hG => ⟨trivial, trivial, ⟨⟨_, Or.inl ⟨rfl, rfl⟩, hts _ wp_69⟩, hts _ wm_1103, Or.inl (hts _ wm_1101), dx_pn1 pn_131⟩⟩
theorem pc_9_0_76 (nm : String) : pc_ok "DecimalRunModel" nm (.invokevirtual 234, 131, 5, 9, .null) := fun s args hts => trivial
theorem pe_9_0_77 : pe_ok kd D tc L xs "DecimalRunModel" (.invokevirtual 186, 125, 3, 9, .null) := fun A s args hts hG => ⟨trivial, trivial, ⟨⟨_, Or.inl ⟨rfl, rfl⟩, hts _ wp_64⟩, hts _ wm_1076, Or.inl (hts _ wm_1074), dx_pn1 pn_125⟩⟩
theorem pc_9_0_77 (nm : String) : pc_ok "DecimalRunModel" nm (.invokevirtual 186, 125, 3, 9, .null) := fun s args hts => trivial
theorem pe_9_0_78 : pe_ok kd D tc L xs "DecimalRunModel" (.invokevirtual 194, 126, 5, 9, .null) := fun A s args hts hG => ⟨trivial, trivial, ⟨⟨_, Or.inl ⟨rfl, rfl⟩, hts _ wp_65⟩, hts _ wm_1082, Or.inl (hts _ wm_1080), dx_pn1 pn_126⟩⟩
theorem pc_9_0_78 (nm : String) : pc_ok "DecimalRunModel" nm (.invokevirtual 194, 126, 5, 9, .null) := fun s args hts => trivial
theorem pe_9_0_79 : pe_ok kd D tc L xs "DecimalRunModel" (.invokevirtual 198, 127, 5, 9, .null) := fun A s args hts hG => ⟨trivial, trivial, ⟨⟨_, Or.inl ⟨rfl, rfl⟩, hts _ wp_66⟩, hts _ wm_1086, Or.inl (hts _ wm_1084), dx_pn1 pn_127⟩⟩
theorem pc_9_0_79 (nm : String) : pc_ok "DecimalRunModel" nm (.invokevirtual 198, 127, 5, 9, .null) := fun s args hts => trivial
theorem pe_9_0_80 : pe_ok kd D tc L xs "DecimalRunModel" (.invokevirtual 201, 128, 5, 9, .null) := fun A s args hts hG => ⟨trivial, trivial, ⟨⟨_, Or.inl ⟨rfl, rfl⟩, hts _ wp_67⟩, hts _ wm_1090, Or.inl (hts _ wm_1088), dx_pn1 pn_128⟩⟩
theorem pc_9_0_80 (nm : String) : pc_ok "DecimalRunModel" nm (.invokevirtual 201, 128, 5, 9, .null) := fun s args hts => trivial
theorem pe_9_0_81 : pe_ok kd D tc L xs "DecimalRunModel" (.ldc2_w 167, 0, 0, 0, .long 10) := fun A s args hts hG => ⟨⟨_, rfl, hts _ wm_1073⟩, trivial, trivial⟩
theorem pc_9_0_81 (nm : String) : pc_ok "DecimalRunModel" nm (.ldc2_w 167, 0, 0, 0, .long 10) := fun s args hts => trivial
theorem pe_9_0_82 : pe_ok kd D tc L xs "DecimalRunModel" (.ldc2_w 169, 0, 0, 0, .long (-999999999)) := fun A s args hts hG => ⟨⟨_, rfl, hts _ wm_1078⟩, trivial, trivial⟩
theorem pc_9_0_82 (nm : String) : pc_ok "DecimalRunModel" nm (.ldc2_w 169, 0, 0, 0, .long (-999999999)) := fun s args hts => trivial
theorem pe_9_0_83 : pe_ok kd D tc L xs "DecimalRunModel" (.ldc2_w 171, 0, 0, 0, .long 999999999) := fun A s args hts hG => ⟨⟨_, rfl, hts _ wm_1079⟩, trivial, trivial⟩
theorem pc_9_0_83 (nm : String) : pc_ok "DecimalRunModel" nm (.ldc2_w 171, 0, 0, 0, .long 999999999) := fun s args hts => trivial
theorem pe_9_0_84 : pe_ok kd D tc L xs "DecimalRunModel" (.putfield 176, 9, 38, 0, .null) := fun A s args hts hG => ⟨trivial, trivial, trivial⟩
theorem pc_9_0_84 (nm : String) : pc_ok "DecimalRunModel" nm (.putfield 176, 9, 38, 0, .null) := fun s args hts => ⟨_, _, _, nm_ty9, rfl, by decide, fun w hw => hts w (uw_9 w hw), ty_9, na_9, by decide, Or.inl ⟨rfl, Or.inl (hts _ wm_872)⟩⟩
theorem pe_9_0_85 : pe_ok kd D tc L xs "DecimalRunModel" (.putfield 179, 9, 39, 0, .null) := fun A s args hts hG => ⟨trivial, trivial, trivial⟩
theorem pc_9_0_85 (nm : String) : pc_ok "DecimalRunModel" nm (.putfield 179, 9, 39, 0, .null) := fun s args hts => ⟨_, _, _, nm_ty9, rfl, by decide, fun w hw => hts w (uw_9 w hw), ty_9, na_9, by decide, Or.inl ⟨rfl, Or.inl (hts _ wm_873)⟩⟩
theorem pe_9_0_86 : pe_ok kd D tc L xs "DecimalRunModel" (.ldc2_w 190, 0, 0, 0, .long (-99)) := fun A s args hts hG => ⟨⟨_, rfl, hts _ wm_1092⟩, trivial, trivial⟩
theorem pc_9_0_86 (nm : String) : pc_ok "DecimalRunModel" nm (.ldc2_w 190, 0, 0, 0, .long (-99)) := fun s args hts => trivial
theorem pe_9_0_87 : pe_ok kd D tc L xs "DecimalRunModel" (.ldc2_w 192, 0, 0, 0, .long 99) := fun A s args hts hG => ⟨⟨_, rfl, hts _ wm_1093⟩, trivial, trivial⟩
theorem pc_9_0_87 (nm : String) : pc_ok "DecimalRunModel" nm (.ldc2_w 192, 0, 0, 0, .long 99) := fun s args hts => trivial
theorem pe_9_0_88 : pe_ok kd D tc L xs "DecimalRunModel" (.getfield 215, 9, 31, 0, .null) := fun A s args hts hG => ⟨Or.inl ⟨_, _, _, rfl, rfl, by decide, fun w hw => hts w (uw_9 w hw), Or.inl (hts _ wm_865)⟩, trivial, trivial⟩
theorem pc_9_0_88 (nm : String) : pc_ok "DecimalRunModel" nm (.getfield 215, 9, 31, 0, .null) := fun s args hts => trivial
theorem pe_9_0_89 : pe_ok kd D tc L xs "DecimalRunModel" (.getfield 58, 9, 25, 0, .null) := fun A s args hts hG => ⟨Or.inl ⟨_, _, _, rfl, rfl, by decide, fun w hw => hts w (uw_9 w hw), Or.inl (hts _ wm_859)⟩, trivial, trivial⟩
theorem pc_9_0_89 (nm : String) : pc_ok "DecimalRunModel" nm (.getfield 58, 9, 25, 0, .null) := fun s args hts => trivial
theorem pe_9_0_90 : pe_ok kd D tc L xs "DecimalRunModel" (.getfield 61, 9, 26, 0, .null) := fun A s args hts hG => ⟨Or.inl ⟨_, _, _, rfl, rfl, by decide, fun w hw => hts w (uw_9 w hw), Or.inl (hts _ wm_860)⟩, trivial, trivial⟩
theorem pc_9_0_90 (nm : String) : pc_ok "DecimalRunModel" nm (.getfield 61, 9, 26, 0, .null) := fun s args hts => trivial
theorem pe_9_0_91 : pe_ok kd D tc L xs "DecimalRunModel" (.getfield 64, 9, 27, 0, .null) := fun A s args hts hG => ⟨Or.inl ⟨_, _, _, rfl, rfl, by decide, fun w hw => hts w (uw_9 w hw), Or.inl (hts _ wm_861)⟩, trivial, trivial⟩
theorem pc_9_0_91 (nm : String) : pc_ok "DecimalRunModel" nm (.getfield 64, 9, 27, 0, .null) := fun s args hts => trivial
theorem pe_9_0_92 : pe_ok kd D tc L xs "DecimalRunModel" (.getfield 67, 9, 28, 0, .null) := fun A s args hts hG => ⟨Or.inl ⟨_, _, _, rfl, rfl, by decide, fun w hw => hts w (uw_9 w hw), Or.inl (hts _ wm_862)⟩, trivial, trivial⟩
theorem pc_9_0_92 (nm : String) : pc_ok "DecimalRunModel" nm (.getfield 67, 9, 28, 0, .null) := fun s args hts => trivial
theorem pe_9_0_93 : pe_ok kd D tc L xs "DecimalRunModel" (.getfield 70, 9, 29, 0, .null) := fun A s args hts hG => ⟨Or.inl ⟨_, _, _, rfl, rfl, by decide, fun w hw => hts w (uw_9 w hw), Or.inl (hts _ wm_863)⟩, trivial, trivial⟩
theorem pc_9_0_93 (nm : String) : pc_ok "DecimalRunModel" nm (.getfield 70, 9, 29, 0, .null) := fun s args hts => trivial
theorem pe_9_0_94 : pe_ok kd D tc L xs "DecimalRunModel" (.getfield 241, 9, 32, 0, .null) := fun A s args hts hG => ⟨Or.inl ⟨_, _, _, rfl, rfl, by decide, fun w hw => hts w (uw_9 w hw), Or.inl (hts _ wm_866)⟩, trivial, trivial⟩
theorem pc_9_0_94 (nm : String) : pc_ok "DecimalRunModel" nm (.getfield 241, 9, 32, 0, .null) := fun s args hts => trivial
theorem pe_9_0_95 : pe_ok kd D tc L xs "DecimalRunModel" (.invokevirtual 244, 132, 3, 9, .null) := fun A s args hts hG => ⟨trivial, trivial, ⟨⟨_, Or.inl ⟨rfl, rfl⟩, hts _ wp_70⟩, hts _ wm_1107, Or.inl (hts _ wm_1105), dx_pn1 pn_132⟩⟩
theorem pc_9_0_95 (nm : String) : pc_ok "DecimalRunModel" nm (.invokevirtual 244, 132, 3, 9, .null) := fun s args hts => trivial
theorem pe_9_0_96 : pe_ok kd D tc L xs "DecimalRunModel" (.invokevirtual 248, 133, 3, 9, .null) := fun A s args hts hG => ⟨trivial, trivial, ⟨⟨_, Or.inl ⟨rfl, rfl⟩, hts _ wp_71⟩, hts _ wm_1112, Or.inl (hts _ wm_1110), dx_pn1 pn_133⟩⟩
theorem pc_9_0_96 (nm : String) : pc_ok "DecimalRunModel" nm (.invokevirtual 248, 133, 3, 9, .null) := fun s args hts => trivial
theorem pe_9_0_97 : pe_ok kd D tc L xs "DecimalRunModel" (.invokevirtual 251, 135, 3, 9, .null) := fun A s args hts hG => ⟨trivial, trivial, ⟨⟨_, Or.inl ⟨rfl, rfl⟩, hts _ wp_73⟩, hts _ wm_1120, Or.inl (hts _ wm_1118), dx_pn1 pn_135⟩⟩
theorem pc_9_0_97 (nm : String) : pc_ok "DecimalRunModel" nm (.invokevirtual 251, 135, 3, 9, .null) := fun s args hts => trivial
theorem pe_9_0_98 : pe_ok kd D tc L xs "DecimalRunModel" (.ldc2_w 221, 0, 0, 0, .long 4) := fun A s args hts hG => ⟨⟨_, rfl, hts _ wm_1109⟩, trivial, trivial⟩
theorem pc_9_0_98 (nm : String) : pc_ok "DecimalRunModel" nm (.ldc2_w 221, 0, 0, 0, .long 4) := fun s args hts => trivial
theorem pe_9_0_99 : pe_ok kd D tc L xs "DecimalRunModel" (.getfield 208, 9, 37, 0, .null) := fun A s args hts hG => ⟨Or.inl ⟨_, _, _, rfl, rfl, by decide, fun w hw => hts w (uw_9 w hw), Or.inl (hts _ wm_871)⟩, trivial, trivial⟩
theorem pc_9_0_99 (nm : String) : pc_ok "DecimalRunModel" nm (.getfield 208, 9, 37, 0, .null) := fun s args hts => trivial
theorem pe_9_0_100 : pe_ok kd D tc L xs "DecimalRunModel" (.invokevirtual 211, 134, 3, 9, .null) := fun A s args hts hG => ⟨trivial, trivial, ⟨⟨_, Or.inl ⟨rfl, rfl⟩, hts _ wp_72⟩, hts _ wm_1116, Or.inl (hts _ wm_1114), dx_pn1 pn_134⟩⟩
theorem pc_9_0_100 (nm : String) : pc_ok "DecimalRunModel" nm (.invokevirtual 211, 134, 3, 9, .null) := fun s args hts => trivial
theorem pe_9_0_101 : pe_ok kd D tc L xs "DecimalRunModel" (.getfield 73, 9, 36, 0, .null) := fun A s args hts hG => ⟨Or.inl ⟨_, _, _, rfl, rfl, by decide, fun w hw => hts w (uw_9 w hw), Or.inl (hts _ wm_870)⟩, trivial, trivial⟩
theorem pc_9_0_101 (nm : String) : pc_ok "DecimalRunModel" nm (.getfield 73, 9, 36, 0, .null) := fun s args hts => trivial
theorem pe_9_0_102 : pe_ok kd D tc L xs "DecimalRunModel" (.getfield 254, 9, 35, 0, .null) := fun A s args hts hG => ⟨Or.inl ⟨_, _, _, rfl, rfl, by decide, fun w hw => hts w (uw_9 w hw), Or.inl (hts _ wm_869)⟩, trivial, trivial⟩
theorem pc_9_0_102 (nm : String) : pc_ok "DecimalRunModel" nm (.getfield 254, 9, 35, 0, .null) := fun s args hts => trivial
def pl_9_0 : List dx_I := [(.invokespecial 1, 0, 1, 10, .null), (.newarray .int, 0, 0, 0, .null), (.putfield 76, 9, 4, 0, .null), (.getfield 80, 9, 1, 0, .null), (.getfield 7, 9, 0, 0, .null), (.putfield 80, 9, 1, 0, .null), (.getfield 13, 9, 2, 0, .null), (.getfield 16, 9, 3, 0, .null), (.putfield 241, 9, 32, 0, .null), (.putfield 238, 9, 33, 0, .null), (.putfield 208, 9, 37, 0, .null), (.putfield 173, 9, 34, 0, .null), (.putfield 254, 9, 35, 0, .null), (.putfield 98, 9, 10, 2, .null), (.invokevirtual 257, 100, 1, 9, .null), (.getfield 98, 9, 10, 0, .null), (.invokevirtual 260, 108, 1, 9, .null), (.putfield 205, 9, 30, 0, .null), (.putfield 215, 9, 31, 0, .null), (.ldc_w 263, 0, 0, 0, .int 100000000), (.invokevirtual 264, 121, 2, 9, .null), (.getfield 173, 9, 34, 0, .null), (.getfield 238, 9, 33, 0, .null), (.putfield 83, 9, 8, 0, .null), (.invokevirtual 86, 101, 2, 9, .null), (.invokestatic 90, 102, 1, 0, .null), (.invokevirtual 102, 103, 2, 9, .null), (.invokestatic 105, 105, 1, 0, .null), (.invokevirtual 108, 106, 3, 9, .null), (.invokevirtual 94, 104, 4, 9, .null), (.invokevirtual 112, 107, 2, 9, .null), (.getfield 19, 9, 5, 0, .null), (.getfield 83, 9, 8, 0, .null), (.getfield 22, 9, 6, 0, .null), (.getfield 25, 9, 7, 0, .null), (.putfield 121, 9, 9, 0, .null), (.putfield 118, 9, 14, 0, .null), (.putfield 115, 9, 20, 0, .null), (.putfield 127, 9, 21, 0, .null), (.putfield 130, 9, 22, 2, .null), (.getfield 37, 9, 15, 0, .null), (.invokevirtual 133, 109, 4, 9, .null), (.getfield 115, 9, 20, 0, .null), (.getfield 43, 9, 17, 0, .null), (.getfield 46, 9, 18, 0, .null), (.getfield 49, 9, 19, 0, .null), (.invokevirtual 136, 110, 2, 9, .null), (.invokevirtual 140, 117, 2, 9, .null), (.invokevirtual 143, 114, 4, 9, .null), (.invokevirtual 146, 120, 4, 9, .null), (.invokevirtual 149, 111, 1, 9, .null), (.getfield 127, 9, 21, 0, .null), (.getfield 121, 9, 9, 0, .null), (.invokevirtual 152, 115, 2, 9, .null), (.invokevirtual 124, 112, 2, 9, .null), (.invokevirtual 155, 116, 1, 9, .null), (.invokevirtual 158, 113, 1, 9, .null), (.getfield 118, 9, 14, 0, .null), (.getfield 130, 9, 22, 0, .null), (.getfield 28, 9, 11, 0, .null), (.getfield 31, 9, 12, 0, .null), (.getfield 34, 9, 13, 0, .null), (.getfield 40, 9, 16, 0, .null), (.invokevirtual 161, 118, 4, 9, .null), (.invokevirtual 164, 119, 2, 9, .null), (.getfield 205, 9, 30, 0, .null), (.getfield 52, 9, 23, 0, .null), (.getfield 55, 9, 24, 0, .null), (.invokevirtual 218, 122, 3, 9, .null), (.getfield 76, 9, 4, 0, .null), (.invokevirtual 223, 123, 6, 9, .null), (.getfield 176, 9, 38, 0, .null), (.getfield 179, 9, 39, 0, .null), (.invokevirtual 227, 129, 3, 9, .null), (.invokestatic 182, 124, 1, 0, .null), (.invokestatic 230, 130, 3, 0, .null), (.invokevirtual 234, 131, 5, 9, .null), (.invokevirtual 186, 125, 3, 9, .null), (.invokevirtual 194, 126, 5, 9, .null), (.invokevirtual 198, 127, 5, 9, .null), (.invokevirtual 201, 128, 5, 9, .null), (.ldc2_w 167, 0, 0, 0, .long 10), (.ldc2_w 169, 0, 0, 0, .long (-999999999)), (.ldc2_w 171, 0, 0, 0, .long 999999999), (.putfield 176, 9, 38, 0, .null), (.putfield 179, 9, 39, 0, .null), (.ldc2_w 190, 0, 0, 0, .long (-99)), (.ldc2_w 192, 0, 0, 0, .long 99), (.getfield 215, 9, 31, 0, .null), (.getfield 58, 9, 25, 0, .null), (.getfield 61, 9, 26, 0, .null), (.getfield 64, 9, 27, 0, .null), (.getfield 67, 9, 28, 0, .null), (.getfield 70, 9, 29, 0, .null), (.getfield 241, 9, 32, 0, .null), (.invokevirtual 244, 132, 3, 9, .null), (.invokevirtual 248, 133, 3, 9, .null), (.invokevirtual 251, 135, 3, 9, .null), (.ldc2_w 221, 0, 0, 0, .long 4), (.getfield 208, 9, 37, 0, .null), (.invokevirtual 211, 134, 3, 9, .null), (.getfield 73, 9, 36, 0, .null), (.getfield 254, 9, 35, 0, .null)]
theorem pa_9_0 (nm : String) : ∀ x ∈ pl_9_0, pe_ok kd D tc L xs "DecimalRunModel" x ∧ pc_ok "DecimalRunModel" nm x := List.forall_mem_cons.mpr ⟨⟨pe_9_0_0, pc_9_0_0 nm⟩, List.forall_mem_cons.mpr ⟨⟨pe_9_0_1, pc_9_0_1 nm⟩, List.forall_mem_cons.mpr ⟨⟨pe_9_0_2, pc_9_0_2 nm⟩, List.forall_mem_cons.mpr ⟨⟨pe_9_0_3, pc_9_0_3 nm⟩, List.forall_mem_cons.mpr ⟨⟨pe_9_0_4, pc_9_0_4 nm⟩, List.forall_mem_cons.mpr ⟨⟨pe_9_0_5, pc_9_0_5 nm⟩, List.forall_mem_cons.mpr ⟨⟨pe_9_0_6, pc_9_0_6 nm⟩, List.forall_mem_cons.mpr ⟨⟨pe_9_0_7, pc_9_0_7 nm⟩, List.forall_mem_cons.mpr ⟨⟨pe_9_0_8, pc_9_0_8 nm⟩, List.forall_mem_cons.mpr ⟨⟨pe_9_0_9, pc_9_0_9 nm⟩, List.forall_mem_cons.mpr ⟨⟨pe_9_0_10, pc_9_0_10 nm⟩, List.forall_mem_cons.mpr ⟨⟨pe_9_0_11, pc_9_0_11 nm⟩, List.forall_mem_cons.mpr ⟨⟨pe_9_0_12, pc_9_0_12 nm⟩, List.forall_mem_cons.mpr ⟨⟨pe_9_0_13, pc_9_0_13 nm⟩, List.forall_mem_cons.mpr ⟨⟨pe_9_0_14, pc_9_0_14 nm⟩, List.forall_mem_cons.mpr ⟨⟨pe_9_0_15, pc_9_0_15 nm⟩, List.forall_mem_cons.mpr ⟨⟨pe_9_0_16, pc_9_0_16 nm⟩, List.forall_mem_cons.mpr ⟨⟨pe_9_0_17, pc_9_0_17 nm⟩, List.forall_mem_cons.mpr ⟨⟨pe_9_0_18, pc_9_0_18 nm⟩, List.forall_mem_cons.mpr ⟨⟨pe_9_0_19, pc_9_0_19 nm⟩, List.forall_mem_cons.mpr ⟨⟨pe_9_0_20, pc_9_0_20 nm⟩, List.forall_mem_cons.mpr ⟨⟨pe_9_0_21, pc_9_0_21 nm⟩, List.forall_mem_cons.mpr ⟨⟨pe_9_0_22, pc_9_0_22 nm⟩, List.forall_mem_cons.mpr ⟨⟨pe_9_0_23, pc_9_0_23 nm⟩, List.forall_mem_cons.mpr ⟨⟨pe_9_0_24, pc_9_0_24 nm⟩, List.forall_mem_cons.mpr ⟨⟨pe_9_0_25, pc_9_0_25 nm⟩, List.forall_mem_cons.mpr ⟨⟨pe_9_0_26, pc_9_0_26 nm⟩, List.forall_mem_cons.mpr ⟨⟨pe_9_0_27, pc_9_0_27 nm⟩, List.forall_mem_cons.mpr ⟨⟨pe_9_0_28, pc_9_0_28 nm⟩, List.forall_mem_cons.mpr ⟨⟨pe_9_0_29, pc_9_0_29 nm⟩, List.forall_mem_cons.mpr ⟨⟨pe_9_0_30, pc_9_0_30 nm⟩, List.forall_mem_cons.mpr ⟨⟨pe_9_0_31, pc_9_0_31 nm⟩, List.forall_mem_cons.mpr ⟨⟨pe_9_0_32, pc_9_0_32 nm⟩, List.forall_mem_cons.mpr ⟨⟨pe_9_0_33, pc_9_0_33 nm⟩, List.forall_mem_cons.mpr ⟨⟨pe_9_0_34, pc_9_0_34 nm⟩, List.forall_mem_cons.mpr ⟨⟨pe_9_0_35, pc_9_0_35 nm⟩, List.forall_mem_cons.mpr ⟨⟨pe_9_0_36, pc_9_0_36 nm⟩, List.forall_mem_cons.mpr ⟨⟨pe_9_0_37, pc_9_0_37 nm⟩, List.forall_mem_cons.mpr ⟨⟨pe_9_0_38, pc_9_0_38 nm⟩, List.forall_mem_cons.mpr ⟨⟨pe_9_0_39, pc_9_0_39 nm⟩, List.forall_mem_cons.mpr ⟨⟨pe_9_0_40, pc_9_0_40 nm⟩, List.forall_mem_cons.mpr ⟨⟨pe_9_0_41, pc_9_0_41 nm⟩, List.forall_mem_cons.mpr ⟨⟨pe_9_0_42, pc_9_0_42 nm⟩, List.forall_mem_cons.mpr ⟨⟨pe_9_0_43, pc_9_0_43 nm⟩, List.forall_mem_cons.mpr ⟨⟨pe_9_0_44, pc_9_0_44 nm⟩, List.forall_mem_cons.mpr ⟨⟨pe_9_0_45, pc_9_0_45 nm⟩, List.forall_mem_cons.mpr ⟨⟨pe_9_0_46, pc_9_0_46 nm⟩, List.forall_mem_cons.mpr ⟨⟨pe_9_0_47, pc_9_0_47 nm⟩, List.forall_mem_cons.mpr ⟨⟨pe_9_0_48, pc_9_0_48 nm⟩, List.forall_mem_cons.mpr ⟨⟨pe_9_0_49, pc_9_0_49 nm⟩, List.forall_mem_cons.mpr ⟨⟨pe_9_0_50, pc_9_0_50 nm⟩, List.forall_mem_cons.mpr ⟨⟨pe_9_0_51, pc_9_0_51 nm⟩, List.forall_mem_cons.mpr ⟨⟨pe_9_0_52, pc_9_0_52 nm⟩, List.forall_mem_cons.mpr ⟨⟨pe_9_0_53, pc_9_0_53 nm⟩, List.forall_mem_cons.mpr ⟨⟨pe_9_0_54, pc_9_0_54 nm⟩, List.forall_mem_cons.mpr ⟨⟨pe_9_0_55, pc_9_0_55 nm⟩, List.forall_mem_cons.mpr ⟨⟨pe_9_0_56, pc_9_0_56 nm⟩, List.forall_mem_cons.mpr ⟨⟨pe_9_0_57, pc_9_0_57 nm⟩, List.forall_mem_cons.mpr ⟨⟨pe_9_0_58, pc_9_0_58 nm⟩, List.forall_mem_cons.mpr ⟨⟨pe_9_0_59, pc_9_0_59 nm⟩, List.forall_mem_cons.mpr ⟨⟨pe_9_0_60, pc_9_0_60 nm⟩, List.forall_mem_cons.mpr ⟨⟨pe_9_0_61, pc_9_0_61 nm⟩, List.forall_mem_cons.mpr ⟨⟨pe_9_0_62, pc_9_0_62 nm⟩, List.forall_mem_cons.mpr ⟨⟨pe_9_0_63, pc_9_0_63 nm⟩, List.forall_mem_cons.mpr ⟨⟨pe_9_0_64, pc_9_0_64 nm⟩, List.forall_mem_cons.mpr ⟨⟨pe_9_0_65, pc_9_0_65 nm⟩, List.forall_mem_cons.mpr ⟨⟨pe_9_0_66, pc_9_0_66 nm⟩, List.forall_mem_cons.mpr ⟨⟨pe_9_0_67, pc_9_0_67 nm⟩, List.forall_mem_cons.mpr ⟨⟨pe_9_0_68, pc_9_0_68 nm⟩, List.forall_mem_cons.mpr ⟨⟨pe_9_0_69, pc_9_0_69 nm⟩, List.forall_mem_cons.mpr ⟨⟨pe_9_0_70, pc_9_0_70 nm⟩, List.forall_mem_cons.mpr ⟨⟨pe_9_0_71, pc_9_0_71 nm⟩, List.forall_mem_cons.mpr ⟨⟨pe_9_0_72, pc_9_0_72 nm⟩, List.forall_mem_cons.mpr ⟨⟨pe_9_0_73, pc_9_0_73 nm⟩, List.forall_mem_cons.mpr ⟨⟨pe_9_0_74, pc_9_0_74 nm⟩, List.forall_mem_cons.mpr ⟨⟨pe_9_0_75, pc_9_0_75 nm⟩, List.forall_mem_cons.mpr ⟨⟨pe_9_0_76, pc_9_0_76 nm⟩, List.forall_mem_cons.mpr ⟨⟨pe_9_0_77, pc_9_0_77 nm⟩, List.forall_mem_cons.mpr ⟨⟨pe_9_0_78, pc_9_0_78 nm⟩, List.forall_mem_cons.mpr ⟨⟨pe_9_0_79, pc_9_0_79 nm⟩, List.forall_mem_cons.mpr ⟨⟨pe_9_0_80, pc_9_0_80 nm⟩, List.forall_mem_cons.mpr ⟨⟨pe_9_0_81, pc_9_0_81 nm⟩, List.forall_mem_cons.mpr ⟨⟨pe_9_0_82, pc_9_0_82 nm⟩, List.forall_mem_cons.mpr ⟨⟨pe_9_0_83, pc_9_0_83 nm⟩, List.forall_mem_cons.mpr ⟨⟨pe_9_0_84, pc_9_0_84 nm⟩, List.forall_mem_cons.mpr ⟨⟨pe_9_0_85, pc_9_0_85 nm⟩, List.forall_mem_cons.mpr ⟨⟨pe_9_0_86, pc_9_0_86 nm⟩, List.forall_mem_cons.mpr ⟨⟨pe_9_0_87, pc_9_0_87 nm⟩, List.forall_mem_cons.mpr ⟨⟨pe_9_0_88, pc_9_0_88 nm⟩, List.forall_mem_cons.mpr ⟨⟨pe_9_0_89, pc_9_0_89 nm⟩, List.forall_mem_cons.mpr ⟨⟨pe_9_0_90, pc_9_0_90 nm⟩, List.forall_mem_cons.mpr ⟨⟨pe_9_0_91, pc_9_0_91 nm⟩, List.forall_mem_cons.mpr ⟨⟨pe_9_0_92, pc_9_0_92 nm⟩, List.forall_mem_cons.mpr ⟨⟨pe_9_0_93, pc_9_0_93 nm⟩, List.forall_mem_cons.mpr ⟨⟨pe_9_0_94, pc_9_0_94 nm⟩, List.forall_mem_cons.mpr ⟨⟨pe_9_0_95, pc_9_0_95 nm⟩, List.forall_mem_cons.mpr ⟨⟨pe_9_0_96, pc_9_0_96 nm⟩, List.forall_mem_cons.mpr ⟨⟨pe_9_0_97, pc_9_0_97 nm⟩, List.forall_mem_cons.mpr ⟨⟨pe_9_0_98, pc_9_0_98 nm⟩, List.forall_mem_cons.mpr ⟨⟨pe_9_0_99, pc_9_0_99 nm⟩, List.forall_mem_cons.mpr ⟨⟨pe_9_0_100, pc_9_0_100 nm⟩, List.forall_mem_cons.mpr ⟨⟨pe_9_0_101, pc_9_0_101 nm⟩, List.forall_mem_cons.mpr ⟨⟨pe_9_0_102, pc_9_0_102 nm⟩, fun _ h => absurd h List.not_mem_nil⟩⟩⟩⟩⟩⟩⟩⟩⟩⟩⟩⟩⟩⟩⟩⟩⟩⟩⟩⟩⟩⟩⟩⟩⟩⟩⟩⟩⟩⟩⟩⟩⟩⟩⟩⟩⟩⟩⟩⟩⟩⟩⟩⟩⟩⟩⟩⟩⟩⟩⟩⟩⟩⟩⟩⟩⟩⟩⟩⟩⟩⟩⟩⟩⟩⟩⟩⟩⟩⟩⟩⟩⟩⟩⟩⟩⟩⟩⟩⟩⟩⟩⟩⟩⟩⟩⟩⟩⟩⟩⟩⟩⟩⟩⟩⟩⟩⟩⟩⟩⟩⟩⟩
theorem pe_9_1_0 : pe_ok kd D tc L xs "DecimalRunModel" (.putfield 7, 9, 0, 3, .null) := fun A s args hts hG => ⟨trivial, trivial, trivial⟩
theorem pc_9_1_0 : pc_ok "DecimalRunModel" "<init>" (.putfield 7, 9, 0, 3, .null) := fun s args hts => ⟨_, _, _, nm_ty9, rfl, by decide, fun w hw => hts w (uw_9 w hw), ty_9, na_9, by decide, Or.inr ⟨rfl, hts _ wm_834, rfl, rfl⟩⟩
theorem pe_9_1_1 : pe_ok kd D tc L xs "DecimalRunModel" (.putfield 13, 9, 2, 3, .null) := fun A s args hts hG => ⟨trivial, trivial, trivial⟩
theorem pc_9_1_1 : pc_ok "DecimalRunModel" "<init>" (.putfield 13, 9, 2, 3, .null) := fun s args hts => ⟨_, _, _, nm_ty9, rfl, by decide, fun w hw => hts w (uw_9 w hw), ty_9, na_9, by decide, Or.inr ⟨rfl, hts _ wm_836, rfl, rfl⟩⟩
theorem pe_9_1_2 : pe_ok kd D tc L xs "DecimalRunModel" (.putfield 16, 9, 3, 3, .null) := fun A s args hts hG => ⟨trivial, trivial, trivial⟩
theorem pc_9_1_2 : pc_ok "DecimalRunModel" "<init>" (.putfield 16, 9, 3, 3, .null) := fun s args hts => ⟨_, _, _, nm_ty9, rfl, by decide, fun w hw => hts w (uw_9 w hw), ty_9, na_9, by decide, Or.inr ⟨rfl, hts _ wm_837, rfl, rfl⟩⟩
theorem pe_9_1_3 : pe_ok kd D tc L xs "DecimalRunModel" (.putfield 19, 9, 5, 3, .null) := fun A s args hts hG => ⟨trivial, trivial, trivial⟩
theorem pc_9_1_3 : pc_ok "DecimalRunModel" "<init>" (.putfield 19, 9, 5, 3, .null) := fun s args hts => ⟨_, _, _, nm_ty9, rfl, by decide, fun w hw => hts w (uw_9 w hw), ty_9, na_9, by decide, Or.inr ⟨rfl, hts _ wm_839, rfl, rfl⟩⟩
theorem pe_9_1_4 : pe_ok kd D tc L xs "DecimalRunModel" (.putfield 22, 9, 6, 3, .null) := fun A s args hts hG => ⟨trivial, trivial, trivial⟩
theorem pc_9_1_4 : pc_ok "DecimalRunModel" "<init>" (.putfield 22, 9, 6, 3, .null) := fun s args hts => ⟨_, _, _, nm_ty9, rfl, by decide, fun w hw => hts w (uw_9 w hw), ty_9, na_9, by decide, Or.inr ⟨rfl, hts _ wm_840, rfl, rfl⟩⟩
theorem pe_9_1_5 : pe_ok kd D tc L xs "DecimalRunModel" (.putfield 25, 9, 7, 3, .null) := fun A s args hts hG => ⟨trivial, trivial, trivial⟩
theorem pc_9_1_5 : pc_ok "DecimalRunModel" "<init>" (.putfield 25, 9, 7, 3, .null) := fun s args hts => ⟨_, _, _, nm_ty9, rfl, by decide, fun w hw => hts w (uw_9 w hw), ty_9, na_9, by decide, Or.inr ⟨rfl, hts _ wm_841, rfl, rfl⟩⟩
theorem pe_9_1_6 : pe_ok kd D tc L xs "DecimalRunModel" (.putfield 28, 9, 11, 3, .null) := fun A s args hts hG => ⟨trivial, trivial, trivial⟩
theorem pc_9_1_6 : pc_ok "DecimalRunModel" "<init>" (.putfield 28, 9, 11, 3, .null) := fun s args hts => ⟨_, _, _, nm_ty9, rfl, by decide, fun w hw => hts w (uw_9 w hw), ty_9, na_9, by decide, Or.inr ⟨rfl, hts _ wm_845, rfl, rfl⟩⟩
theorem pe_9_1_7 : pe_ok kd D tc L xs "DecimalRunModel" (.putfield 31, 9, 12, 3, .null) := fun A s args hts hG => ⟨trivial, trivial, trivial⟩
theorem pc_9_1_7 : pc_ok "DecimalRunModel" "<init>" (.putfield 31, 9, 12, 3, .null) := fun s args hts => ⟨_, _, _, nm_ty9, rfl, by decide, fun w hw => hts w (uw_9 w hw), ty_9, na_9, by decide, Or.inr ⟨rfl, hts _ wm_846, rfl, rfl⟩⟩
theorem pe_9_1_8 : pe_ok kd D tc L xs "DecimalRunModel" (.putfield 34, 9, 13, 3, .null) := fun A s args hts hG => ⟨trivial, trivial, trivial⟩
theorem pc_9_1_8 : pc_ok "DecimalRunModel" "<init>" (.putfield 34, 9, 13, 3, .null) := fun s args hts => ⟨_, _, _, nm_ty9, rfl, by decide, fun w hw => hts w (uw_9 w hw), ty_9, na_9, by decide, Or.inr ⟨rfl, hts _ wm_847, rfl, rfl⟩⟩
theorem pe_9_1_9 : pe_ok kd D tc L xs "DecimalRunModel" (.putfield 37, 9, 15, 3, .null) := fun A s args hts hG => ⟨trivial, trivial, trivial⟩
theorem pc_9_1_9 : pc_ok "DecimalRunModel" "<init>" (.putfield 37, 9, 15, 3, .null) := fun s args hts => ⟨_, _, _, nm_ty9, rfl, by decide, fun w hw => hts w (uw_9 w hw), ty_9, na_9, by decide, Or.inr ⟨rfl, hts _ wm_849, rfl, rfl⟩⟩
theorem pe_9_1_10 : pe_ok kd D tc L xs "DecimalRunModel" (.putfield 40, 9, 16, 3, .null) := fun A s args hts hG => ⟨trivial, trivial, trivial⟩
theorem pc_9_1_10 : pc_ok "DecimalRunModel" "<init>" (.putfield 40, 9, 16, 3, .null) := fun s args hts => ⟨_, _, _, nm_ty9, rfl, by decide, fun w hw => hts w (uw_9 w hw), ty_9, na_9, by decide, Or.inr ⟨rfl, hts _ wm_850, rfl, rfl⟩⟩
theorem pe_9_1_11 : pe_ok kd D tc L xs "DecimalRunModel" (.putfield 43, 9, 17, 3, .null) := fun A s args hts hG => ⟨trivial, trivial, trivial⟩
theorem pc_9_1_11 : pc_ok "DecimalRunModel" "<init>" (.putfield 43, 9, 17, 3, .null) := fun s args hts => ⟨_, _, _, nm_ty9, rfl, by decide, fun w hw => hts w (uw_9 w hw), ty_9, na_9, by decide, Or.inr ⟨rfl, hts _ wm_851, rfl, rfl⟩⟩
theorem pe_9_1_12 : pe_ok kd D tc L xs "DecimalRunModel" (.putfield 46, 9, 18, 3, .null) := fun A s args hts hG => ⟨trivial, trivial, trivial⟩
theorem pc_9_1_12 : pc_ok "DecimalRunModel" "<init>" (.putfield 46, 9, 18, 3, .null) := fun s args hts => ⟨_, _, _, nm_ty9, rfl, by decide, fun w hw => hts w (uw_9 w hw), ty_9, na_9, by decide, Or.inr ⟨rfl, hts _ wm_852, rfl, rfl⟩⟩
theorem pe_9_1_13 : pe_ok kd D tc L xs "DecimalRunModel" (.putfield 49, 9, 19, 3, .null) := fun A s args hts hG => ⟨trivial, trivial, trivial⟩
theorem pc_9_1_13 : pc_ok "DecimalRunModel" "<init>" (.putfield 49, 9, 19, 3, .null) := fun s args hts => ⟨_, _, _, nm_ty9, rfl, by decide, fun w hw => hts w (uw_9 w hw), ty_9, na_9, by decide, Or.inr ⟨rfl, hts _ wm_853, rfl, rfl⟩⟩
theorem pe_9_1_14 : pe_ok kd D tc L xs "DecimalRunModel" (.putfield 52, 9, 23, 3, .null) := fun A s args hts hG => ⟨trivial, trivial, trivial⟩
theorem pc_9_1_14 : pc_ok "DecimalRunModel" "<init>" (.putfield 52, 9, 23, 3, .null) := fun s args hts => ⟨_, _, _, nm_ty9, rfl, by decide, fun w hw => hts w (uw_9 w hw), ty_9, na_9, by decide, Or.inr ⟨rfl, hts _ wm_857, rfl, rfl⟩⟩
theorem pe_9_1_15 : pe_ok kd D tc L xs "DecimalRunModel" (.putfield 55, 9, 24, 3, .null) := fun A s args hts hG => ⟨trivial, trivial, trivial⟩
theorem pc_9_1_15 : pc_ok "DecimalRunModel" "<init>" (.putfield 55, 9, 24, 3, .null) := fun s args hts => ⟨_, _, _, nm_ty9, rfl, by decide, fun w hw => hts w (uw_9 w hw), ty_9, na_9, by decide, Or.inr ⟨rfl, hts _ wm_858, rfl, rfl⟩⟩
theorem pe_9_1_16 : pe_ok kd D tc L xs "DecimalRunModel" (.putfield 58, 9, 25, 3, .null) := fun A s args hts hG => ⟨trivial, trivial, trivial⟩
theorem pc_9_1_16 : pc_ok "DecimalRunModel" "<init>" (.putfield 58, 9, 25, 3, .null) := fun s args hts => ⟨_, _, _, nm_ty9, rfl, by decide, fun w hw => hts w (uw_9 w hw), ty_9, na_9, by decide, Or.inr ⟨rfl, hts _ wm_859, rfl, rfl⟩⟩
theorem pe_9_1_17 : pe_ok kd D tc L xs "DecimalRunModel" (.putfield 61, 9, 26, 3, .null) := fun A s args hts hG => ⟨trivial, trivial, trivial⟩
theorem pc_9_1_17 : pc_ok "DecimalRunModel" "<init>" (.putfield 61, 9, 26, 3, .null) := fun s args hts => ⟨_, _, _, nm_ty9, rfl, by decide, fun w hw => hts w (uw_9 w hw), ty_9, na_9, by decide, Or.inr ⟨rfl, hts _ wm_860, rfl, rfl⟩⟩
theorem pe_9_1_18 : pe_ok kd D tc L xs "DecimalRunModel" (.putfield 64, 9, 27, 3, .null) := fun A s args hts hG => ⟨trivial, trivial, trivial⟩
theorem pc_9_1_18 : pc_ok "DecimalRunModel" "<init>" (.putfield 64, 9, 27, 3, .null) := fun s args hts => ⟨_, _, _, nm_ty9, rfl, by decide, fun w hw => hts w (uw_9 w hw), ty_9, na_9, by decide, Or.inr ⟨rfl, hts _ wm_861, rfl, rfl⟩⟩
theorem pe_9_1_19 : pe_ok kd D tc L xs "DecimalRunModel" (.putfield 67, 9, 28, 3, .null) := fun A s args hts hG => ⟨trivial, trivial, trivial⟩
theorem pc_9_1_19 : pc_ok "DecimalRunModel" "<init>" (.putfield 67, 9, 28, 3, .null) := fun s args hts => ⟨_, _, _, nm_ty9, rfl, by decide, fun w hw => hts w (uw_9 w hw), ty_9, na_9, by decide, Or.inr ⟨rfl, hts _ wm_862, rfl, rfl⟩⟩
theorem pe_9_1_20 : pe_ok kd D tc L xs "DecimalRunModel" (.putfield 70, 9, 29, 3, .null) := fun A s args hts hG => ⟨trivial, trivial, trivial⟩
theorem pc_9_1_20 : pc_ok "DecimalRunModel" "<init>" (.putfield 70, 9, 29, 3, .null) := fun s args hts => ⟨_, _, _, nm_ty9, rfl, by decide, fun w hw => hts w (uw_9 w hw), ty_9, na_9, by decide, Or.inr ⟨rfl, hts _ wm_863, rfl, rfl⟩⟩
theorem pe_9_1_21 : pe_ok kd D tc L xs "DecimalRunModel" (.putfield 73, 9, 36, 3, .null) := fun A s args hts hG => ⟨trivial, trivial, trivial⟩
theorem pc_9_1_21 : pc_ok "DecimalRunModel" "<init>" (.putfield 73, 9, 36, 3, .null) := fun s args hts => ⟨_, _, _, nm_ty9, rfl, by decide, fun w hw => hts w (uw_9 w hw), ty_9, na_9, by decide, Or.inr ⟨rfl, hts _ wm_870, rfl, rfl⟩⟩
def pl_9_1 : List dx_I := [(.putfield 7, 9, 0, 3, .null), (.putfield 13, 9, 2, 3, .null), (.putfield 16, 9, 3, 3, .null), (.putfield 19, 9, 5, 3, .null), (.putfield 22, 9, 6, 3, .null), (.putfield 25, 9, 7, 3, .null), (.putfield 28, 9, 11, 3, .null), (.putfield 31, 9, 12, 3, .null), (.putfield 34, 9, 13, 3, .null), (.putfield 37, 9, 15, 3, .null), (.putfield 40, 9, 16, 3, .null), (.putfield 43, 9, 17, 3, .null), (.putfield 46, 9, 18, 3, .null), (.putfield 49, 9, 19, 3, .null), (.putfield 52, 9, 23, 3, .null), (.putfield 55, 9, 24, 3, .null), (.putfield 58, 9, 25, 3, .null), (.putfield 61, 9, 26, 3, .null), (.putfield 64, 9, 27, 3, .null), (.putfield 67, 9, 28, 3, .null), (.putfield 70, 9, 29, 3, .null), (.putfield 73, 9, 36, 3, .null)]
theorem pa_9_1 : ∀ x ∈ pl_9_1, pe_ok kd D tc L xs "DecimalRunModel" x ∧ pc_ok "DecimalRunModel" "<init>" x := List.forall_mem_cons.mpr ⟨⟨pe_9_1_0, pc_9_1_0⟩, List.forall_mem_cons.mpr ⟨⟨pe_9_1_1, pc_9_1_1⟩, List.forall_mem_cons.mpr ⟨⟨pe_9_1_2, pc_9_1_2⟩, List.forall_mem_cons.mpr ⟨⟨pe_9_1_3, pc_9_1_3⟩, List.forall_mem_cons.mpr ⟨⟨pe_9_1_4, pc_9_1_4⟩, List.forall_mem_cons.mpr ⟨⟨pe_9_1_5, pc_9_1_5⟩, List.forall_mem_cons.mpr ⟨⟨pe_9_1_6, pc_9_1_6⟩, List.forall_mem_cons.mpr ⟨⟨pe_9_1_7, pc_9_1_7⟩, List.forall_mem_cons.mpr ⟨⟨pe_9_1_8, pc_9_1_8⟩, List.forall_mem_cons.mpr ⟨⟨pe_9_1_9, pc_9_1_9⟩, List.forall_mem_cons.mpr ⟨⟨pe_9_1_10, pc_9_1_10⟩, List.forall_mem_cons.mpr ⟨⟨pe_9_1_11, pc_9_1_11⟩, List.forall_mem_cons.mpr ⟨⟨pe_9_1_12, pc_9_1_12⟩, List.forall_mem_cons.mpr ⟨⟨pe_9_1_13, pc_9_1_13⟩, List.forall_mem_cons.mpr ⟨⟨pe_9_1_14, pc_9_1_14⟩, List.forall_mem_cons.mpr ⟨⟨pe_9_1_15, pc_9_1_15⟩, List.forall_mem_cons.mpr ⟨⟨pe_9_1_16, pc_9_1_16⟩, List.forall_mem_cons.mpr ⟨⟨pe_9_1_17, pc_9_1_17⟩, List.forall_mem_cons.mpr ⟨⟨pe_9_1_18, pc_9_1_18⟩, List.forall_mem_cons.mpr ⟨⟨pe_9_1_19, pc_9_1_19⟩, List.forall_mem_cons.mpr ⟨⟨pe_9_1_20, pc_9_1_20⟩, List.forall_mem_cons.mpr ⟨⟨pe_9_1_21, pc_9_1_21⟩, fun _ h => absurd h List.not_mem_nil⟩⟩⟩⟩⟩⟩⟩⟩⟩⟩⟩⟩⟩⟩⟩⟩⟩⟩⟩⟩⟩⟩
def pl_10_0 : List dx_I := []
theorem pa_10_0 (nm : String) : ∀ x ∈ pl_10_0, pe_ok kd D tc L xs "java/lang/Math" x ∧ pc_ok "java/lang/Math" nm x := fun _ h => absurd h List.not_mem_nil
def pl_10_1 : List dx_I := []
theorem pa_10_1 : ∀ x ∈ pl_10_1, pe_ok kd D tc L xs "java/lang/Math" x ∧ pc_ok "java/lang/Math" "<init>" x := fun _ h => absurd h List.not_mem_nil
def pl_11_0 : List dx_I := []
theorem pa_11_0 (nm : String) : ∀ x ∈ pl_11_0, pe_ok kd D tc L xs "java/lang/Long" x ∧ pc_ok "java/lang/Long" nm x := fun _ h => absurd h List.not_mem_nil
def pl_11_1 : List dx_I := []
theorem pa_11_1 : ∀ x ∈ pl_11_1, pe_ok kd D tc L xs "java/lang/Long" x ∧ pc_ok "java/lang/Long" "<init>" x := fun _ h => absurd h List.not_mem_nil
def pl_12_0 : List dx_I := []
theorem pa_12_0 (nm : String) : ∀ x ∈ pl_12_0, pe_ok kd D tc L xs "java/util/Arrays" x ∧ pc_ok "java/util/Arrays" nm x := fun _ h => absurd h List.not_mem_nil
def pl_12_1 : List dx_I := []
theorem pa_12_1 : ∀ x ∈ pl_12_1, pe_ok kd D tc L xs "java/util/Arrays" x ∧ pc_ok "java/util/Arrays" "<init>" x := fun _ h => absurd h List.not_mem_nil
theorem pe_13_0_0 : pe_ok kd D tc L xs "java/lang/String" (.getfield 9, 14, 0, 0, .null) := fun A s args hts hG => ⟨Or.inr ⟨_, rfl, rfl, Or.inl (hts _ wm_1155)⟩, trivial, trivial⟩
theorem pc_13_0_0 (nm : String) : pc_ok "java/lang/String" nm (.getfield 9, 14, 0, 0, .null) := fun s args hts => trivial
theorem pe_13_0_1 : pe_ok kd D tc L xs "java/lang/String" (.invokevirtual 335, 152, 1, 14, .null) := fun A s args hts hG => ⟨trivial, trivial, ⟨⟨_, Or.inr ⟨rfl, rfl⟩, hts _ wm_387⟩, hts _ wm_386, Or.inl (hts _ wm_385), dx_pn1 pn_152⟩⟩
theorem pc_13_0_1 (nm : String) : pc_ok "java/lang/String" nm (.invokevirtual 335, 152, 1, 14, .null) := fun s args hts => trivial
theorem pe_13_0_2 : pe_ok kd D tc L xs "java/lang/String" (.getstatic 38, 0, 0, 0, .int 1) := fun A s args hts hG => ⟨⟨"java/lang/String", "COMPACT_STRINGS", "Z", fun _ => hG.2.2.1, Or.inl (hts _ wm_389)⟩, trivial, trivial⟩
theorem pc_13_0_2 (nm : String) : pc_ok "java/lang/String" nm (.getstatic 38, 0, 0, 0, .int 1) := fun s args hts => trivial
theorem pe_13_0_3 : pe_ok kd D tc L xs "java/lang/String" (.getfield 15, 14, 1, 0, .null) := fun A s args hts hG => ⟨Or.inr ⟨_, rfl, rfl, Or.inl (hts _ wm_1156)⟩, trivial, trivial⟩
theorem pc_13_0_3 (nm : String) : pc_ok "java/lang/String" nm (.getfield 15, 14, 1, 0, .null) := fun s args hts => trivial
theorem pe_13_0_4 : pe_ok kd D tc L xs "java/lang/String" (.invokevirtual 492, 154, 1, 14, .null) := fun A s args hts hG => ⟨trivial, trivial, ⟨⟨_, Or.inr ⟨rfl, rfl⟩, hts _ wm_397⟩, hts _ wm_396, Or.inl (hts _ wm_395), dx_pn1 pn_154⟩⟩
theorem pc_13_0_4 (nm : String) : pc_ok "java/lang/String" nm (.invokevirtual 492, 154, 1, 14, .null) := fun s args hts => trivial
theorem pe_13_0_5 : pe_ok kd D tc L xs "java/lang/String" (.invokestatic 495, 158, 2, 0, .null) := fun A s args hts hG => ⟨trivial, trivial, ⟨hts _ wm_400, Or.inl (hts _ wm_399), dx_pn pn_158⟩⟩
theorem pc_13_0_5 (nm : String) : pc_ok "java/lang/String" nm (.invokestatic 495, 158, 2, 0, .null) := fun s args hts => trivial
theorem pe_13_0_6 : pe_ok kd D tc L xs "java/lang/String" (.getstatic 1053, 0, 0, 0, .retAddr 1) := fun A s args hts hG => ⟨⟨"jdk/internal/util/Preconditions", "SIOOBE_FORMATTER", "Ljava/util/function/BiFunction;", fun _ => hG.2.2.2.1, Or.inl (hts _ wm_405)⟩, trivial, trivial⟩
theorem pc_13_0_6 (nm : String) : pc_ok "java/lang/String" nm (.getstatic 1053, 0, 0, 0, .retAddr 1) := fun s args hts => trivial
theorem pe_13_0_7 : pe_ok kd D tc L xs "java/lang/String" (.invokestatic 1059, 162, 3, 0, .null) := fun A s args hts hG => ⟨trivial, trivial, ⟨hts _ wm_408, Or.inl (hts _ wm_407), dx_pn pn_162⟩⟩
theorem pc_13_0_7 (nm : String) : pc_ok "java/lang/String" nm (.invokestatic 1059, 162, 3, 0, .null) := fun s args hts => trivial
theorem pe_13_0_8 : pe_ok kd D tc L xs "java/lang/String" (.invokevirtual 633, 157, 3, 14, .null) := fun A s args hts hG => ⟨trivial, trivial, ⟨⟨_, Or.inr ⟨rfl, rfl⟩, hts _ wm_545⟩, hts _ wm_544, Or.inl (hts _ wm_543), dx_pn1 pn_157⟩⟩
theorem pc_13_0_8 (nm : String) : pc_ok "java/lang/String" nm (.invokevirtual 633, 157, 3, 14, .null) := fun s args hts => trivial
theorem pe_13_0_9 : pe_ok kd D tc L xs "java/lang/String" (.invokevirtual 505, 151, 1, 14, .null) := fun A s args hts hG => ⟨trivial, trivial, ⟨⟨_, Or.inr ⟨rfl, rfl⟩, hts _ wm_383⟩, hts _ wm_382, Or.inl (hts _ wm_547), dx_pn1 pn_151⟩⟩
theorem pc_13_0_9 (nm : String) : pc_ok "java/lang/String" nm (.invokevirtual 505, 151, 1, 14, .null) := fun s args hts => trivial
theorem pe_13_0_10 : pe_ok kd D tc L xs "java/lang/String" (.invokestatic 637, 159, 4, 0, .null) := fun A s args hts hG => ⟨trivial, trivial, ⟨hts _ wm_549, Or.inl (hts _ wm_548), dx_pn pn_159⟩⟩
theorem pc_13_0_10 (nm : String) : pc_ok "java/lang/String" nm (.invokestatic 637, 159, 4, 0, .null) := fun s args hts => trivial
def pl_13_0 : List dx_I := [(.getfield 9, 14, 0, 0, .null), (.invokevirtual 335, 152, 1, 14, .null), (.getstatic 38, 0, 0, 0, .int 1), (.getfield 15, 14, 1, 0, .null), (.invokevirtual 492, 154, 1, 14, .null), (.invokestatic 495, 158, 2, 0, .null), (.getstatic 1053, 0, 0, 0, .retAddr 1), (.invokestatic 1059, 162, 3, 0, .null), (.invokevirtual 633, 157, 3, 14, .null), (.invokevirtual 505, 151, 1, 14, .null), (.invokestatic 637, 159, 4, 0, .null)]
theorem pa_13_0 (nm : String) : ∀ x ∈ pl_13_0, pe_ok kd D tc L xs "java/lang/String" x ∧ pc_ok "java/lang/String" nm x := List.forall_mem_cons.mpr ⟨⟨pe_13_0_0, pc_13_0_0 nm⟩, List.forall_mem_cons.mpr ⟨⟨pe_13_0_1, pc_13_0_1 nm⟩, List.forall_mem_cons.mpr ⟨⟨pe_13_0_2, pc_13_0_2 nm⟩, List.forall_mem_cons.mpr ⟨⟨pe_13_0_3, pc_13_0_3 nm⟩, List.forall_mem_cons.mpr ⟨⟨pe_13_0_4, pc_13_0_4 nm⟩, List.forall_mem_cons.mpr ⟨⟨pe_13_0_5, pc_13_0_5 nm⟩, List.forall_mem_cons.mpr ⟨⟨pe_13_0_6, pc_13_0_6 nm⟩, List.forall_mem_cons.mpr ⟨⟨pe_13_0_7, pc_13_0_7 nm⟩, List.forall_mem_cons.mpr ⟨⟨pe_13_0_8, pc_13_0_8 nm⟩, List.forall_mem_cons.mpr ⟨⟨pe_13_0_9, pc_13_0_9 nm⟩, List.forall_mem_cons.mpr ⟨⟨pe_13_0_10, pc_13_0_10 nm⟩, fun _ h => absurd h List.not_mem_nil⟩⟩⟩⟩⟩⟩⟩⟩⟩⟩⟩
def pl_13_1 : List dx_I := []
theorem pa_13_1 : ∀ x ∈ pl_13_1, pe_ok kd D tc L xs "java/lang/String" x ∧ pc_ok "java/lang/String" "<init>" x := fun _ h => absurd h List.not_mem_nil
theorem pe_14_0_0 : pe_ok kd D tc L xs "java/lang/StringLatin1" (.invokestatic 9, 155, 2, 0, .null) := fun A s args hts hG => ⟨trivial, trivial, ⟨hts _ wm_403, Or.inl (hts _ wm_402), dx_pn pn_155⟩⟩
theorem pc_14_0_0 (nm : String) : pc_ok "java/lang/StringLatin1" nm (.invokestatic 9, 155, 2, 0, .null) := fun s args hts => trivial
theorem pe_14_0_1 : pe_ok kd D tc L xs "java/lang/StringLatin1" (.invokestatic 88, 160, 1, 0, .null) := fun A s args hts hG => ⟨trivial, trivial, ⟨hts _ wm_552, Or.inl (hts _ wm_551), dx_pn pn_160⟩⟩
theorem pc_14_0_1 (nm : String) : pc_ok "java/lang/StringLatin1" nm (.invokestatic 88, 160, 1, 0, .null) := fun s args hts => trivial
theorem pe_14_0_2 : pe_ok kd D tc L xs "java/lang/StringLatin1" (.invokestatic 92, 145, 2, 0, .null) := fun A s args hts hG => ⟨trivial, trivial, ⟨hts _ wm_327, Or.inl (hts _ wm_554), dx_pn pn_145⟩⟩
theorem pc_14_0_2 (nm : String) : pc_ok "java/lang/StringLatin1" nm (.invokestatic 92, 145, 2, 0, .null) := fun s args hts => trivial
theorem pe_14_0_3 : pe_ok kd D tc L xs "java/lang/StringLatin1" (.invokestatic 38, 144, 2, 0, .null) := fun A s args hts hG => ⟨trivial, trivial, ⟨hts _ wm_324, Or.inl (hts _ wm_555), dx_pn pn_144⟩⟩
theorem pc_14_0_3 (nm : String) : pc_ok "java/lang/StringLatin1" nm (.invokestatic 38, 144, 2, 0, .null) := fun s args hts => trivial
theorem pe_14_0_4 : pe_ok kd D tc L xs "java/lang/StringLatin1" (.invokestatic 95, 161, 4, 0, .null) := fun A s args hts hG => ⟨trivial, trivial, ⟨hts _ wm_557, Or.inl (hts _ wm_556), dx_pn pn_161⟩⟩
theorem pc_14_0_4 (nm : String) : pc_ok "java/lang/StringLatin1" nm (.invokestatic 95, 161, 4, 0, .null) := fun s args hts => trivial
def pl_14_0 : List dx_I := [(.invokestatic 9, 155, 2, 0, .null), (.invokestatic 88, 160, 1, 0, .null), (.invokestatic 92, 145, 2, 0, .null), (.invokestatic 38, 144, 2, 0, .null), (.invokestatic 95, 161, 4, 0, .null)]
theorem pa_14_0 (nm : String) : ∀ x ∈ pl_14_0, pe_ok kd D tc L xs "java/lang/StringLatin1" x ∧ pc_ok "java/lang/StringLatin1" nm x := List.forall_mem_cons.mpr ⟨⟨pe_14_0_0, pc_14_0_0 nm⟩, List.forall_mem_cons.mpr ⟨⟨pe_14_0_1, pc_14_0_1 nm⟩, List.forall_mem_cons.mpr ⟨⟨pe_14_0_2, pc_14_0_2 nm⟩, List.forall_mem_cons.mpr ⟨⟨pe_14_0_3, pc_14_0_3 nm⟩, List.forall_mem_cons.mpr ⟨⟨pe_14_0_4, pc_14_0_4 nm⟩, fun _ h => absurd h List.not_mem_nil⟩⟩⟩⟩⟩
def pl_14_1 : List dx_I := []
theorem pa_14_1 : ∀ x ∈ pl_14_1, pe_ok kd D tc L xs "java/lang/StringLatin1" x ∧ pc_ok "java/lang/StringLatin1" "<init>" x := fun _ h => absurd h List.not_mem_nil
def pl_15_0 : List dx_I := []
theorem pa_15_0 (nm : String) : ∀ x ∈ pl_15_0, pe_ok kd D tc L xs "jdk/internal/util/Preconditions" x ∧ pc_ok "jdk/internal/util/Preconditions" nm x := fun _ h => absurd h List.not_mem_nil
def pl_15_1 : List dx_I := []
theorem pa_15_1 : ∀ x ∈ pl_15_1, pe_ok kd D tc L xs "jdk/internal/util/Preconditions" x ∧ pc_ok "jdk/internal/util/Preconditions" "<init>" x := fun _ h => absurd h List.not_mem_nil
end PE
