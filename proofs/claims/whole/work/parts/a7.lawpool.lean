/-! Printed by program: the law's methods: words, pool, instructions. -/
theorem wl_321 : Cond.selects "DecimalRun" ⟨"DecimalRun", "run", "(I)I"⟩ ⟨"DecimalRun", "run", "(I)I"⟩ ∈ lw_ws := lw_in (List.mem_append_right _ (List.mem_of_getElem? (i := 321) (by decide +kernel))) rfl
theorem wl_320 : Cond.instanceMethod ⟨"DecimalRun", "run", "(I)I"⟩ ∈ lw_ws := lw_in (List.mem_append_right _ (List.mem_of_getElem? (i := 320) (by decide +kernel))) rfl
theorem wl_319 : Cond.methodLink "DecimalRunLaw" 7 ⟨"DecimalRun", "run", "(I)I"⟩ ∈ lw_ws := lw_in (List.mem_append_right _ (List.mem_of_getElem? (i := 319) (by decide +kernel))) rfl
theorem wl_25 : Cond.classLink "DecimalRunLaw" 8 "DecimalRun" ∈ lw_ws := lw_in (List.mem_append_right _ (List.mem_of_getElem? (i := 25) (by decide +kernel))) rfl
theorem wl_26 : Cond.instantiable "DecimalRun" 7 ∈ lw_ws := lw_in (List.mem_append_right _ (List.mem_of_getElem? (i := 26) (by decide +kernel))) rfl
theorem wl_28 : Cond.instanceMethod ⟨"DecimalRun", "<init>", "()V"⟩ ∈ lw_ws := lw_in (List.mem_append_right _ (List.mem_of_getElem? (i := 28) (by decide +kernel))) rfl
theorem wl_27 : Cond.methodLink "DecimalRunLaw" 19 ⟨"DecimalRun", "<init>", "()V"⟩ ∈ lw_ws := lw_in (List.mem_append_right _ (List.mem_of_getElem? (i := 27) (by decide +kernel))) rfl
theorem wl_828 : Cond.classLink "DecimalRunLaw" 20 "DecimalRunModel" ∈ lw_ws := lw_in (List.mem_append_right _ (List.mem_of_getElem? (i := 828) (by decide +kernel))) rfl
theorem wl_829 : Cond.instantiable "DecimalRunModel" 40 ∈ lw_ws := lw_in (List.mem_append_right _ (List.mem_of_getElem? (i := 829) (by decide +kernel))) rfl
theorem wl_831 : Cond.instanceMethod ⟨"DecimalRunModel", "<init>", "()V"⟩ ∈ lw_ws := lw_in (List.mem_append_right _ (List.mem_of_getElem? (i := 831) (by decide +kernel))) rfl
theorem wl_830 : Cond.methodLink "DecimalRunLaw" 22 ⟨"DecimalRunModel", "<init>", "()V"⟩ ∈ lw_ws := lw_in (List.mem_append_right _ (List.mem_of_getElem? (i := 830) (by decide +kernel))) rfl
theorem wl_247 : Cond.selects "DecimalRun" ⟨"DecimalRun", "feed", "(I)I"⟩ ⟨"DecimalRun", "feed", "(I)I"⟩ ∈ lw_ws := lw_in (List.mem_append_right _ (List.mem_of_getElem? (i := 247) (by decide +kernel))) rfl
theorem wl_246 : Cond.instanceMethod ⟨"DecimalRun", "feed", "(I)I"⟩ ∈ lw_ws := lw_in (List.mem_append_right _ (List.mem_of_getElem? (i := 246) (by decide +kernel))) rfl
theorem wl_245 : Cond.methodLink "DecimalRunLaw" 23 ⟨"DecimalRun", "feed", "(I)I"⟩ ∈ lw_ws := lw_in (List.mem_append_right _ (List.mem_of_getElem? (i := 245) (by decide +kernel))) rfl
theorem wl_957 : Cond.selects "DecimalRunModel" ⟨"DecimalRunModel", "feed", "(I)I"⟩ ⟨"DecimalRunModel", "feed", "(I)I"⟩ ∈ lw_ws := lw_in (List.mem_append_right _ (List.mem_of_getElem? (i := 957) (by decide +kernel))) rfl
theorem wl_956 : Cond.instanceMethod ⟨"DecimalRunModel", "feed", "(I)I"⟩ ∈ lw_ws := lw_in (List.mem_append_right _ (List.mem_of_getElem? (i := 956) (by decide +kernel))) rfl
theorem wl_955 : Cond.methodLink "DecimalRunLaw" 26 ⟨"DecimalRunModel", "feed", "(I)I"⟩ ∈ lw_ws := lw_in (List.mem_append_right _ (List.mem_of_getElem? (i := 955) (by decide +kernel))) rfl
theorem wl_258 : Cond.selects "DecimalRun" ⟨"DecimalRun", "length", "()I"⟩ ⟨"DecimalRun", "length", "()I"⟩ ∈ lw_ws := lw_in (List.mem_append_right _ (List.mem_of_getElem? (i := 258) (by decide +kernel))) rfl
theorem wl_257 : Cond.instanceMethod ⟨"DecimalRun", "length", "()I"⟩ ∈ lw_ws := lw_in (List.mem_append_right _ (List.mem_of_getElem? (i := 257) (by decide +kernel))) rfl
theorem wl_256 : Cond.methodLink "DecimalRunLaw" 27 ⟨"DecimalRun", "length", "()I"⟩ ∈ lw_ws := lw_in (List.mem_append_right _ (List.mem_of_getElem? (i := 256) (by decide +kernel))) rfl
theorem wl_961 : Cond.selects "DecimalRunModel" ⟨"DecimalRunModel", "length", "()I"⟩ ⟨"DecimalRunModel", "length", "()I"⟩ ∈ lw_ws := lw_in (List.mem_append_right _ (List.mem_of_getElem? (i := 961) (by decide +kernel))) rfl
theorem wl_960 : Cond.instanceMethod ⟨"DecimalRunModel", "length", "()I"⟩ ∈ lw_ws := lw_in (List.mem_append_right _ (List.mem_of_getElem? (i := 960) (by decide +kernel))) rfl
theorem wl_959 : Cond.methodLink "DecimalRunLaw" 31 ⟨"DecimalRunModel", "length", "()I"⟩ ∈ lw_ws := lw_in (List.mem_append_right _ (List.mem_of_getElem? (i := 959) (by decide +kernel))) rfl
theorem wl_262 : Cond.selects "DecimalRun" ⟨"DecimalRun", "clear", "()V"⟩ ⟨"DecimalRun", "clear", "()V"⟩ ∈ lw_ws := lw_in (List.mem_append_right _ (List.mem_of_getElem? (i := 262) (by decide +kernel))) rfl
theorem wl_261 : Cond.instanceMethod ⟨"DecimalRun", "clear", "()V"⟩ ∈ lw_ws := lw_in (List.mem_append_right _ (List.mem_of_getElem? (i := 261) (by decide +kernel))) rfl
theorem wl_260 : Cond.methodLink "DecimalRunLaw" 32 ⟨"DecimalRun", "clear", "()V"⟩ ∈ lw_ws := lw_in (List.mem_append_right _ (List.mem_of_getElem? (i := 260) (by decide +kernel))) rfl
theorem wl_965 : Cond.selects "DecimalRunModel" ⟨"DecimalRunModel", "clear", "()V"⟩ ⟨"DecimalRunModel", "clear", "()V"⟩ ∈ lw_ws := lw_in (List.mem_append_right _ (List.mem_of_getElem? (i := 965) (by decide +kernel))) rfl
theorem wl_964 : Cond.instanceMethod ⟨"DecimalRunModel", "clear", "()V"⟩ ∈ lw_ws := lw_in (List.mem_append_right _ (List.mem_of_getElem? (i := 964) (by decide +kernel))) rfl
theorem wl_963 : Cond.methodLink "DecimalRunLaw" 35 ⟨"DecimalRunModel", "clear", "()V"⟩ ∈ lw_ws := lw_in (List.mem_append_right _ (List.mem_of_getElem? (i := 963) (by decide +kernel))) rfl
theorem wl_266 : Cond.selects "DecimalRun" ⟨"DecimalRun", "reset", "()V"⟩ ⟨"DecimalRun", "reset", "()V"⟩ ∈ lw_ws := lw_in (List.mem_append_right _ (List.mem_of_getElem? (i := 266) (by decide +kernel))) rfl
theorem wl_265 : Cond.instanceMethod ⟨"DecimalRun", "reset", "()V"⟩ ∈ lw_ws := lw_in (List.mem_append_right _ (List.mem_of_getElem? (i := 265) (by decide +kernel))) rfl
theorem wl_264 : Cond.methodLink "DecimalRunLaw" 36 ⟨"DecimalRun", "reset", "()V"⟩ ∈ lw_ws := lw_in (List.mem_append_right _ (List.mem_of_getElem? (i := 264) (by decide +kernel))) rfl
theorem wl_969 : Cond.selects "DecimalRunModel" ⟨"DecimalRunModel", "reset", "()V"⟩ ⟨"DecimalRunModel", "reset", "()V"⟩ ∈ lw_ws := lw_in (List.mem_append_right _ (List.mem_of_getElem? (i := 969) (by decide +kernel))) rfl
theorem wl_968 : Cond.instanceMethod ⟨"DecimalRunModel", "reset", "()V"⟩ ∈ lw_ws := lw_in (List.mem_append_right _ (List.mem_of_getElem? (i := 968) (by decide +kernel))) rfl
theorem wl_967 : Cond.methodLink "DecimalRunLaw" 39 ⟨"DecimalRunModel", "reset", "()V"⟩ ∈ lw_ws := lw_in (List.mem_append_right _ (List.mem_of_getElem? (i := 967) (by decide +kernel))) rfl
theorem wl_314 : Cond.static ⟨"DecimalRunLaw", "run", "(LDecimalRun;I[J)I"⟩ ∈ lw_ws := lw_in (List.mem_append_right _ (List.mem_of_getElem? (i := 314) (by decide +kernel))) rfl
theorem wl_313 : Cond.methodLink "DecimalRunLaw" 40 ⟨"DecimalRunLaw", "run", "(LDecimalRun;I[J)I"⟩ ∈ lw_ws := lw_in (List.mem_append_right _ (List.mem_of_getElem? (i := 313) (by decide +kernel))) rfl
theorem wl_973 : Cond.selects "DecimalRunModel" ⟨"DecimalRunModel", "run", "(I)I"⟩ ⟨"DecimalRunModel", "run", "(I)I"⟩ ∈ lw_ws := lw_in (List.mem_append_right _ (List.mem_of_getElem? (i := 973) (by decide +kernel))) rfl
theorem wl_972 : Cond.instanceMethod ⟨"DecimalRunModel", "run", "(I)I"⟩ ∈ lw_ws := lw_in (List.mem_append_right _ (List.mem_of_getElem? (i := 972) (by decide +kernel))) rfl
theorem wl_971 : Cond.methodLink "DecimalRunLaw" 45 ⟨"DecimalRunModel", "run", "(I)I"⟩ ∈ lw_ws := lw_in (List.mem_append_right _ (List.mem_of_getElem? (i := 971) (by decide +kernel))) rfl
theorem wl_1152 : Cond.selects "DecimalRunModel" ⟨"DecimalRunModel", "thrown", "()I"⟩ ⟨"DecimalRunModel", "thrown", "()I"⟩ ∈ lw_ws := lw_in (List.mem_append_right _ (List.mem_of_getElem? (i := 1152) (by decide +kernel))) rfl
theorem wl_1151 : Cond.instanceMethod ⟨"DecimalRunModel", "thrown", "()I"⟩ ∈ lw_ws := lw_in (List.mem_append_right _ (List.mem_of_getElem? (i := 1151) (by decide +kernel))) rfl
theorem wl_1150 : Cond.methodLink "DecimalRunLaw" 46 ⟨"DecimalRunModel", "thrown", "()I"⟩ ∈ lw_ws := lw_in (List.mem_append_right _ (List.mem_of_getElem? (i := 1150) (by decide +kernel))) rfl
theorem wl_277 : Cond.selects "DecimalRun" ⟨"DecimalRun", "fault", "()I"⟩ ⟨"DecimalRun", "fault", "()I"⟩ ∈ lw_ws := lw_in (List.mem_append_right _ (List.mem_of_getElem? (i := 277) (by decide +kernel))) rfl
theorem wl_276 : Cond.instanceMethod ⟨"DecimalRun", "fault", "()I"⟩ ∈ lw_ws := lw_in (List.mem_append_right _ (List.mem_of_getElem? (i := 276) (by decide +kernel))) rfl
theorem wl_275 : Cond.methodLink "DecimalRunLaw" 49 ⟨"DecimalRun", "fault", "()I"⟩ ∈ lw_ws := lw_in (List.mem_append_right _ (List.mem_of_getElem? (i := 275) (by decide +kernel))) rfl
theorem wl_1124 : Cond.selects "DecimalRunModel" ⟨"DecimalRunModel", "fault", "()I"⟩ ⟨"DecimalRunModel", "fault", "()I"⟩ ∈ lw_ws := lw_in (List.mem_append_right _ (List.mem_of_getElem? (i := 1124) (by decide +kernel))) rfl
theorem wl_1123 : Cond.instanceMethod ⟨"DecimalRunModel", "fault", "()I"⟩ ∈ lw_ws := lw_in (List.mem_append_right _ (List.mem_of_getElem? (i := 1123) (by decide +kernel))) rfl
theorem wl_1122 : Cond.methodLink "DecimalRunLaw" 52 ⟨"DecimalRunModel", "fault", "()I"⟩ ∈ lw_ws := lw_in (List.mem_append_right _ (List.mem_of_getElem? (i := 1122) (by decide +kernel))) rfl
theorem wl_281 : Cond.selects "DecimalRun" ⟨"DecimalRun", "steps", "()I"⟩ ⟨"DecimalRun", "steps", "()I"⟩ ∈ lw_ws := lw_in (List.mem_append_right _ (List.mem_of_getElem? (i := 281) (by decide +kernel))) rfl
theorem wl_280 : Cond.instanceMethod ⟨"DecimalRun", "steps", "()I"⟩ ∈ lw_ws := lw_in (List.mem_append_right _ (List.mem_of_getElem? (i := 280) (by decide +kernel))) rfl
theorem wl_279 : Cond.methodLink "DecimalRunLaw" 53 ⟨"DecimalRun", "steps", "()I"⟩ ∈ lw_ws := lw_in (List.mem_append_right _ (List.mem_of_getElem? (i := 279) (by decide +kernel))) rfl
theorem wl_1128 : Cond.selects "DecimalRunModel" ⟨"DecimalRunModel", "steps", "()I"⟩ ⟨"DecimalRunModel", "steps", "()I"⟩ ∈ lw_ws := lw_in (List.mem_append_right _ (List.mem_of_getElem? (i := 1128) (by decide +kernel))) rfl
theorem wl_1127 : Cond.instanceMethod ⟨"DecimalRunModel", "steps", "()I"⟩ ∈ lw_ws := lw_in (List.mem_append_right _ (List.mem_of_getElem? (i := 1127) (by decide +kernel))) rfl
theorem wl_1126 : Cond.methodLink "DecimalRunLaw" 56 ⟨"DecimalRunModel", "steps", "()I"⟩ ∈ lw_ws := lw_in (List.mem_append_right _ (List.mem_of_getElem? (i := 1126) (by decide +kernel))) rfl
theorem wl_285 : Cond.selects "DecimalRun" ⟨"DecimalRun", "outLength", "()I"⟩ ⟨"DecimalRun", "outLength", "()I"⟩ ∈ lw_ws := lw_in (List.mem_append_right _ (List.mem_of_getElem? (i := 285) (by decide +kernel))) rfl
theorem wl_284 : Cond.instanceMethod ⟨"DecimalRun", "outLength", "()I"⟩ ∈ lw_ws := lw_in (List.mem_append_right _ (List.mem_of_getElem? (i := 284) (by decide +kernel))) rfl
theorem wl_283 : Cond.methodLink "DecimalRunLaw" 57 ⟨"DecimalRun", "outLength", "()I"⟩ ∈ lw_ws := lw_in (List.mem_append_right _ (List.mem_of_getElem? (i := 283) (by decide +kernel))) rfl
theorem wl_1132 : Cond.selects "DecimalRunModel" ⟨"DecimalRunModel", "outLength", "()I"⟩ ⟨"DecimalRunModel", "outLength", "()I"⟩ ∈ lw_ws := lw_in (List.mem_append_right _ (List.mem_of_getElem? (i := 1132) (by decide +kernel))) rfl
theorem wl_1131 : Cond.instanceMethod ⟨"DecimalRunModel", "outLength", "()I"⟩ ∈ lw_ws := lw_in (List.mem_append_right _ (List.mem_of_getElem? (i := 1131) (by decide +kernel))) rfl
theorem wl_1130 : Cond.methodLink "DecimalRunLaw" 60 ⟨"DecimalRunModel", "outLength", "()I"⟩ ∈ lw_ws := lw_in (List.mem_append_right _ (List.mem_of_getElem? (i := 1130) (by decide +kernel))) rfl
theorem wl_289 : Cond.selects "DecimalRun" ⟨"DecimalRun", "out", "(I)I"⟩ ⟨"DecimalRun", "out", "(I)I"⟩ ∈ lw_ws := lw_in (List.mem_append_right _ (List.mem_of_getElem? (i := 289) (by decide +kernel))) rfl
theorem wl_288 : Cond.instanceMethod ⟨"DecimalRun", "out", "(I)I"⟩ ∈ lw_ws := lw_in (List.mem_append_right _ (List.mem_of_getElem? (i := 288) (by decide +kernel))) rfl
theorem wl_287 : Cond.methodLink "DecimalRunLaw" 61 ⟨"DecimalRun", "out", "(I)I"⟩ ∈ lw_ws := lw_in (List.mem_append_right _ (List.mem_of_getElem? (i := 287) (by decide +kernel))) rfl
theorem wl_1136 : Cond.selects "DecimalRunModel" ⟨"DecimalRunModel", "out", "(I)I"⟩ ⟨"DecimalRunModel", "out", "(I)I"⟩ ∈ lw_ws := lw_in (List.mem_append_right _ (List.mem_of_getElem? (i := 1136) (by decide +kernel))) rfl
theorem wl_1135 : Cond.instanceMethod ⟨"DecimalRunModel", "out", "(I)I"⟩ ∈ lw_ws := lw_in (List.mem_append_right _ (List.mem_of_getElem? (i := 1135) (by decide +kernel))) rfl
theorem wl_1134 : Cond.methodLink "DecimalRunLaw" 64 ⟨"DecimalRunModel", "out", "(I)I"⟩ ∈ lw_ws := lw_in (List.mem_append_right _ (List.mem_of_getElem? (i := 1134) (by decide +kernel))) rfl
theorem wl_293 : Cond.selects "DecimalRun" ⟨"DecimalRun", "variable", "(I)I"⟩ ⟨"DecimalRun", "variable", "(I)I"⟩ ∈ lw_ws := lw_in (List.mem_append_right _ (List.mem_of_getElem? (i := 293) (by decide +kernel))) rfl
theorem wl_292 : Cond.instanceMethod ⟨"DecimalRun", "variable", "(I)I"⟩ ∈ lw_ws := lw_in (List.mem_append_right _ (List.mem_of_getElem? (i := 292) (by decide +kernel))) rfl
theorem wl_291 : Cond.methodLink "DecimalRunLaw" 65 ⟨"DecimalRun", "variable", "(I)I"⟩ ∈ lw_ws := lw_in (List.mem_append_right _ (List.mem_of_getElem? (i := 291) (by decide +kernel))) rfl
theorem wl_1140 : Cond.selects "DecimalRunModel" ⟨"DecimalRunModel", "variable", "(I)I"⟩ ⟨"DecimalRunModel", "variable", "(I)I"⟩ ∈ lw_ws := lw_in (List.mem_append_right _ (List.mem_of_getElem? (i := 1140) (by decide +kernel))) rfl
theorem wl_1139 : Cond.instanceMethod ⟨"DecimalRunModel", "variable", "(I)I"⟩ ∈ lw_ws := lw_in (List.mem_append_right _ (List.mem_of_getElem? (i := 1139) (by decide +kernel))) rfl
theorem wl_1138 : Cond.methodLink "DecimalRunLaw" 68 ⟨"DecimalRunModel", "variable", "(I)I"⟩ ∈ lw_ws := lw_in (List.mem_append_right _ (List.mem_of_getElem? (i := 1138) (by decide +kernel))) rfl
theorem wl_303 : Cond.selects "DecimalRun" ⟨"DecimalRun", "decimals", "(I)I"⟩ ⟨"DecimalRun", "decimals", "(I)I"⟩ ∈ lw_ws := lw_in (List.mem_append_right _ (List.mem_of_getElem? (i := 303) (by decide +kernel))) rfl
theorem wl_302 : Cond.instanceMethod ⟨"DecimalRun", "decimals", "(I)I"⟩ ∈ lw_ws := lw_in (List.mem_append_right _ (List.mem_of_getElem? (i := 302) (by decide +kernel))) rfl
theorem wl_301 : Cond.methodLink "DecimalRunLaw" 69 ⟨"DecimalRun", "decimals", "(I)I"⟩ ∈ lw_ws := lw_in (List.mem_append_right _ (List.mem_of_getElem? (i := 301) (by decide +kernel))) rfl
theorem wl_1144 : Cond.selects "DecimalRunModel" ⟨"DecimalRunModel", "decimals", "(I)I"⟩ ⟨"DecimalRunModel", "decimals", "(I)I"⟩ ∈ lw_ws := lw_in (List.mem_append_right _ (List.mem_of_getElem? (i := 1144) (by decide +kernel))) rfl
theorem wl_1143 : Cond.instanceMethod ⟨"DecimalRunModel", "decimals", "(I)I"⟩ ∈ lw_ws := lw_in (List.mem_append_right _ (List.mem_of_getElem? (i := 1143) (by decide +kernel))) rfl
theorem wl_1142 : Cond.methodLink "DecimalRunLaw" 72 ⟨"DecimalRunModel", "decimals", "(I)I"⟩ ∈ lw_ws := lw_in (List.mem_append_right _ (List.mem_of_getElem? (i := 1142) (by decide +kernel))) rfl
theorem wl_311 : Cond.selects "DecimalRun" ⟨"DecimalRun", "scale", "()I"⟩ ⟨"DecimalRun", "scale", "()I"⟩ ∈ lw_ws := lw_in (List.mem_append_right _ (List.mem_of_getElem? (i := 311) (by decide +kernel))) rfl
theorem wl_310 : Cond.instanceMethod ⟨"DecimalRun", "scale", "()I"⟩ ∈ lw_ws := lw_in (List.mem_append_right _ (List.mem_of_getElem? (i := 310) (by decide +kernel))) rfl
theorem wl_309 : Cond.methodLink "DecimalRunLaw" 73 ⟨"DecimalRun", "scale", "()I"⟩ ∈ lw_ws := lw_in (List.mem_append_right _ (List.mem_of_getElem? (i := 309) (by decide +kernel))) rfl
theorem wl_1148 : Cond.selects "DecimalRunModel" ⟨"DecimalRunModel", "scale", "()I"⟩ ⟨"DecimalRunModel", "scale", "()I"⟩ ∈ lw_ws := lw_in (List.mem_append_right _ (List.mem_of_getElem? (i := 1148) (by decide +kernel))) rfl
theorem wl_1147 : Cond.instanceMethod ⟨"DecimalRunModel", "scale", "()I"⟩ ∈ lw_ws := lw_in (List.mem_append_right _ (List.mem_of_getElem? (i := 1147) (by decide +kernel))) rfl
theorem wl_1146 : Cond.methodLink "DecimalRunLaw" 76 ⟨"DecimalRunModel", "scale", "()I"⟩ ∈ lw_ws := lw_in (List.mem_append_right _ (List.mem_of_getElem? (i := 1146) (by decide +kernel))) rfl
theorem wl_315 : Cond.codeWith ⟨"DecimalRunLaw", "run", "(LDecimalRun;I[J)I"⟩ method_3_code 4 (some .int) [((0), (9), (12), (13)), ((0), (9), (15), (15)), ((0), (9), (18), (17))] ∈ lw_ws := lw_in (List.mem_append_right _ (List.mem_of_getElem? (i := 315) (by decide +kernel))) rfl
theorem wl_0 : Cond.initialized "DecimalRunLaw" ∈ lw_ws := lw_in (List.mem_append_right _ (List.mem_of_getElem? (i := 0) (by decide +kernel))) rfl
theorem wl_316 : Cond.classLink "DecimalRunLaw" 13 "java/lang/IllegalArgumentException" ∈ lw_ws := lw_in (List.mem_append_right _ (List.mem_of_getElem? (i := 316) (by decide +kernel))) rfl
theorem wl_317 : Cond.classLink "DecimalRunLaw" 15 "java/lang/ArithmeticException" ∈ lw_ws := lw_in (List.mem_append_right _ (List.mem_of_getElem? (i := 317) (by decide +kernel))) rfl
theorem wl_318 : Cond.classLink "DecimalRunLaw" 17 "java/lang/IllegalStateException" ∈ lw_ws := lw_in (List.mem_append_right _ (List.mem_of_getElem? (i := 318) (by decide +kernel))) rfl
section XZ
variable {cl : List vw_C} {ql : Nat → Option vw_C} {kd : Nat → Option Nat} {G : (Nat → Prop) → State → Prop} {WS : List Cond} {Y : Nat → MethodName} {Bt : Nat → ByteArray} {c1 c2 : Nat → Nat → Option dx_I} {r : dx_S × (Nat → Nat) × (Nat → List Value) × (Nat → Nat) × (Nat → Option FieldType)} {M pc : Nat} {x : dx_I}
theorem gd_Z2 (h : dx_gd cl ql kd (c1, r) G WS Y Bt M pc x) : dx_gd cl ql kd (c2, r) G WS Y Bt M pc x := h
theorem gm_Z2 (h : dx_gm WS Y Bt (c1, r) M) : dx_gm WS Y Bt (c2, r) M := h
theorem lf_Z2 {σ σ' : dx_S} {o : dx_O} (h : dx_Lf (c1, r) σ o σ') : dx_Lf (c2, r) σ o σ' := h
theorem ct_Z2 {l : Launch} {D : va_G} {tc : Nat → ClassId} {y : MethodName} {d : Nat} {av : List Value} {σ σ' : dx_S} {o : dx_O} (h : dx_Ct l D cl tc kd (c1, r) G WS y d av σ o σ') : dx_Ct l D cl tc kd (c2, r) G WS y d av σ o σ' := h
end XZ
section XD
variable {kd : Nat → Option Nat} {D : va_G} {tc : Nat → ClassId} {L : Nat} {xs : Nat → Int32}
theorem pn_163 : (parseMethodDescriptor "(LDecimalRun;I[J)I").map (fun d => d.parameters.length) = some 3 := by decide +kernel
theorem pe_L_0 : pe_ok kd D tc L xs "DecimalRunLaw" (.invokevirtual 7, 13, 2, 0, .null) := fun A s args hts hG => ⟨trivial, trivial, ⟨⟨_, Or.inl ⟨rfl, rfl⟩, hts _ wl_321⟩, hts _ wl_320, Or.inl (hts _ wl_319), dx_pn1 pn_13⟩⟩
theorem pe_L_1 : pe_ok kd D tc L xs "DecimalRunLaw" (.new 8, 0, 0, 0, .null) := fun A s args hts hG => ⟨trivial, fun _ => ⟨_, _, _, nm_ty0, rfl, fun w hw => hts w (uw_0 w hw), ty_0, hts _ wl_25, hts _ wl_26, hts _ wm_1, show ∀ j, j < 7 → defaultValue (nm_ty0 j) = vp_V (tb_d 0) j by decide +kernel, show ∀ v ∈ tb_d 0, v = .int 0 ∨ v = .long 0 ∨ v = .null by decide +kernel, rfl⟩, trivial⟩
theorem pe_L_2 : pe_ok kd D tc L xs "DecimalRunLaw" (.invokespecial 19, 0, 1, 0, .null) := fun A s args hts hG => ⟨trivial, trivial, kI_init ⟨rfl, rfl, hts _ wl_28, Or.inl (hts _ wl_27), dx_pn1 pn_0⟩⟩
theorem pe_L_3 : pe_ok kd D tc L xs "DecimalRunLaw" (.new 20, 9, 0, 0, .null) := fun A s args hts hG => ⟨trivial, fun _ => ⟨_, _, _, nm_ty9, rfl, fun w hw => hts w (uw_9 w hw), ty_9, hts _ wl_828, hts _ wl_829, hts _ wm_10, show ∀ j, j < 40 → defaultValue (nm_ty9 j) = vp_V (tb_d 9) j by decide +kernel, show ∀ v ∈ tb_d 9, v = .int 0 ∨ v = .long 0 ∨ v = .null by decide +kernel, rfl⟩, trivial⟩
theorem pe_L_4 : pe_ok kd D tc L xs "DecimalRunLaw" (.invokespecial 22, 94, 1, 0, .null) := fun A s args hts hG => ⟨trivial, trivial, kI_init ⟨rfl, rfl, hts _ wl_831, Or.inl (hts _ wl_830), dx_pn1 pn_94⟩⟩
theorem pe_L_5 : pe_ok kd D tc L xs "DecimalRunLaw" (.newarray .long, 0, 0, 0, .null) := fun A s args hts hG => ⟨trivial, hts _ wm_67, trivial⟩
theorem pe_L_6 : pe_ok kd D tc L xs "DecimalRunLaw" (.invokevirtual 23, 1, 2, 0, .null) := fun A s args hts hG => ⟨trivial, trivial, ⟨⟨_, Or.inl ⟨rfl, rfl⟩, hts _ wl_247⟩, hts _ wl_246, Or.inl (hts _ wl_245), dx_pn1 pn_1⟩⟩
theorem pe_L_7 : pe_ok kd D tc L xs "DecimalRunLaw" (.invokevirtual 26, 95, 2, 9, .null) := fun A s args hts hG => ⟨trivial, trivial, ⟨⟨_, Or.inl ⟨rfl, rfl⟩, hts _ wl_957⟩, hts _ wl_956, Or.inl (hts _ wl_955), dx_pn1 pn_95⟩⟩
theorem pe_L_8 : pe_ok kd D tc L xs "DecimalRunLaw" (.invokevirtual 27, 2, 1, 0, .null) := fun A s args hts hG => ⟨trivial, trivial, ⟨⟨_, Or.inl ⟨rfl, rfl⟩, hts _ wl_258⟩, hts _ wl_257, Or.inl (hts _ wl_256), dx_pn1 pn_2⟩⟩
theorem pe_L_9 : pe_ok kd D tc L xs "DecimalRunLaw" (.invokevirtual 31, 96, 1, 9, .null) := fun A s args hts hG => ⟨trivial, trivial, ⟨⟨_, Or.inl ⟨rfl, rfl⟩, hts _ wl_961⟩, hts _ wl_960, Or.inl (hts _ wl_959), dx_pn1 pn_96⟩⟩
theorem pe_L_10 : pe_ok kd D tc L xs "DecimalRunLaw" (.invokevirtual 32, 3, 1, 0, .null) := fun A s args hts hG => ⟨trivial, trivial, ⟨⟨_, Or.inl ⟨rfl, rfl⟩, hts _ wl_262⟩, hts _ wl_261, Or.inl (hts _ wl_260), dx_pn1 pn_3⟩⟩
theorem pe_L_11 : pe_ok kd D tc L xs "DecimalRunLaw" (.invokevirtual 35, 97, 1, 9, .null) := fun A s args hts hG => ⟨trivial, trivial, ⟨⟨_, Or.inl ⟨rfl, rfl⟩, hts _ wl_965⟩, hts _ wl_964, Or.inl (hts _ wl_963), dx_pn1 pn_97⟩⟩
theorem pe_L_12 : pe_ok kd D tc L xs "DecimalRunLaw" (.invokevirtual 36, 4, 1, 0, .null) := fun A s args hts hG => ⟨trivial, trivial, ⟨⟨_, Or.inl ⟨rfl, rfl⟩, hts _ wl_266⟩, hts _ wl_265, Or.inl (hts _ wl_264), dx_pn1 pn_4⟩⟩
theorem pe_L_13 : pe_ok kd D tc L xs "DecimalRunLaw" (.invokevirtual 39, 98, 1, 9, .null) := fun A s args hts hG => ⟨trivial, trivial, ⟨⟨_, Or.inl ⟨rfl, rfl⟩, hts _ wl_969⟩, hts _ wl_968, Or.inl (hts _ wl_967), dx_pn1 pn_98⟩⟩
theorem pe_L_14 : pe_ok kd D tc L xs "DecimalRunLaw" (.invokestatic 40, 163, 3, 0, .null) := fun A s args hts hG => ⟨trivial, trivial, ⟨hts _ wl_314, Or.inl (hts _ wl_313), dx_pn pn_163⟩⟩
theorem pe_L_15 : pe_ok kd D tc L xs "DecimalRunLaw" (.invokevirtual 45, 99, 2, 9, .null) := fun A s args hts hG => ⟨trivial, trivial, ⟨⟨_, Or.inl ⟨rfl, rfl⟩, hts _ wl_973⟩, hts _ wl_972, Or.inl (hts _ wl_971), dx_pn1 pn_99⟩⟩
theorem pe_L_16 : pe_ok kd D tc L xs "DecimalRunLaw" (.invokevirtual 46, 143, 1, 9, .null) := fun A s args hts hG => ⟨trivial, trivial, ⟨⟨_, Or.inl ⟨rfl, rfl⟩, hts _ wl_1152⟩, hts _ wl_1151, Or.inl (hts _ wl_1150), dx_pn1 pn_143⟩⟩
theorem pe_L_17 : pe_ok kd D tc L xs "DecimalRunLaw" (.invokevirtual 49, 5, 1, 0, .null) := fun A s args hts hG => ⟨trivial, trivial, ⟨⟨_, Or.inl ⟨rfl, rfl⟩, hts _ wl_277⟩, hts _ wl_276, Or.inl (hts _ wl_275), dx_pn1 pn_5⟩⟩
theorem pe_L_18 : pe_ok kd D tc L xs "DecimalRunLaw" (.invokevirtual 52, 136, 1, 9, .null) := fun A s args hts hG => ⟨trivial, trivial, ⟨⟨_, Or.inl ⟨rfl, rfl⟩, hts _ wl_1124⟩, hts _ wl_1123, Or.inl (hts _ wl_1122), dx_pn1 pn_136⟩⟩
theorem pe_L_19 : pe_ok kd D tc L xs "DecimalRunLaw" (.invokevirtual 53, 6, 1, 0, .null) := fun A s args hts hG => ⟨trivial, trivial, ⟨⟨_, Or.inl ⟨rfl, rfl⟩, hts _ wl_281⟩, hts _ wl_280, Or.inl (hts _ wl_279), dx_pn1 pn_6⟩⟩
theorem pe_L_20 : pe_ok kd D tc L xs "DecimalRunLaw" (.invokevirtual 56, 137, 1, 9, .null) := fun A s args hts hG => ⟨trivial, trivial, ⟨⟨_, Or.inl ⟨rfl, rfl⟩, hts _ wl_1128⟩, hts _ wl_1127, Or.inl (hts _ wl_1126), dx_pn1 pn_137⟩⟩
theorem pe_L_21 : pe_ok kd D tc L xs "DecimalRunLaw" (.invokevirtual 57, 7, 1, 0, .null) := fun A s args hts hG => ⟨trivial, trivial, ⟨⟨_, Or.inl ⟨rfl, rfl⟩, hts _ wl_285⟩, hts _ wl_284, Or.inl (hts _ wl_283), dx_pn1 pn_7⟩⟩
theorem pe_L_22 : pe_ok kd D tc L xs "DecimalRunLaw" (.invokevirtual 60, 138, 1, 9, .null) := fun A s args hts hG => ⟨trivial, trivial, ⟨⟨_, Or.inl ⟨rfl, rfl⟩, hts _ wl_1132⟩, hts _ wl_1131, Or.inl (hts _ wl_1130), dx_pn1 pn_138⟩⟩
theorem pe_L_23 : pe_ok kd D tc L xs "DecimalRunLaw" (.invokevirtual 61, 8, 2, 0, .null) := fun A s args hts hG => ⟨trivial, trivial, ⟨⟨_, Or.inl ⟨rfl, rfl⟩, hts _ wl_289⟩, hts _ wl_288, Or.inl (hts _ wl_287), dx_pn1 pn_8⟩⟩
theorem pe_L_24 : pe_ok kd D tc L xs "DecimalRunLaw" (.invokevirtual 64, 139, 2, 9, .null) := fun A s args hts hG => ⟨trivial, trivial, ⟨⟨_, Or.inl ⟨rfl, rfl⟩, hts _ wl_1136⟩, hts _ wl_1135, Or.inl (hts _ wl_1134), dx_pn1 pn_139⟩⟩
theorem pe_L_25 : pe_ok kd D tc L xs "DecimalRunLaw" (.invokevirtual 65, 9, 2, 0, .null) := fun A s args hts hG => ⟨trivial, trivial, ⟨⟨_, Or.inl ⟨rfl, rfl⟩, hts _ wl_293⟩, hts _ wl_292, Or.inl (hts _ wl_291), dx_pn1 pn_9⟩⟩
theorem pe_L_26 : pe_ok kd D tc L xs "DecimalRunLaw" (.invokevirtual 68, 140, 2, 9, .null) := fun A s args hts hG => ⟨trivial, trivial, ⟨⟨_, Or.inl ⟨rfl, rfl⟩, hts _ wl_1140⟩, hts _ wl_1139, Or.inl (hts _ wl_1138), dx_pn1 pn_140⟩⟩
theorem pe_L_27 : pe_ok kd D tc L xs "DecimalRunLaw" (.invokevirtual 69, 11, 2, 0, .null) := fun A s args hts hG => ⟨trivial, trivial, ⟨⟨_, Or.inl ⟨rfl, rfl⟩, hts _ wl_303⟩, hts _ wl_302, Or.inl (hts _ wl_301), dx_pn1 pn_11⟩⟩
theorem pe_L_28 : pe_ok kd D tc L xs "DecimalRunLaw" (.invokevirtual 72, 141, 2, 9, .null) := fun A s args hts hG => ⟨trivial, trivial, ⟨⟨_, Or.inl ⟨rfl, rfl⟩, hts _ wl_1144⟩, hts _ wl_1143, Or.inl (hts _ wl_1142), dx_pn1 pn_141⟩⟩
theorem pe_L_29 : pe_ok kd D tc L xs "DecimalRunLaw" (.invokevirtual 73, 12, 1, 0, .null) := fun A s args hts hG => ⟨trivial, trivial, ⟨⟨_, Or.inl ⟨rfl, rfl⟩, hts _ wl_311⟩, hts _ wl_310, Or.inl (hts _ wl_309), dx_pn1 pn_12⟩⟩
theorem pe_L_30 : pe_ok kd D tc L xs "DecimalRunLaw" (.invokevirtual 76, 142, 1, 9, .null) := fun A s args hts hG => ⟨trivial, trivial, ⟨⟨_, Or.inl ⟨rfl, rfl⟩, hts _ wl_1148⟩, hts _ wl_1147, Or.inl (hts _ wl_1146), dx_pn1 pn_142⟩⟩
def pl_L : List dx_I := [(.invokevirtual 7, 13, 2, 0, .null), (.new 8, 0, 0, 0, .null), (.invokespecial 19, 0, 1, 0, .null), (.new 20, 9, 0, 0, .null), (.invokespecial 22, 94, 1, 0, .null), (.newarray .long, 0, 0, 0, .null), (.invokevirtual 23, 1, 2, 0, .null), (.invokevirtual 26, 95, 2, 9, .null), (.invokevirtual 27, 2, 1, 0, .null), (.invokevirtual 31, 96, 1, 9, .null), (.invokevirtual 32, 3, 1, 0, .null), (.invokevirtual 35, 97, 1, 9, .null), (.invokevirtual 36, 4, 1, 0, .null), (.invokevirtual 39, 98, 1, 9, .null), (.invokestatic 40, 163, 3, 0, .null), (.invokevirtual 45, 99, 2, 9, .null), (.invokevirtual 46, 143, 1, 9, .null), (.invokevirtual 49, 5, 1, 0, .null), (.invokevirtual 52, 136, 1, 9, .null), (.invokevirtual 53, 6, 1, 0, .null), (.invokevirtual 56, 137, 1, 9, .null), (.invokevirtual 57, 7, 1, 0, .null), (.invokevirtual 60, 138, 1, 9, .null), (.invokevirtual 61, 8, 2, 0, .null), (.invokevirtual 64, 139, 2, 9, .null), (.invokevirtual 65, 9, 2, 0, .null), (.invokevirtual 68, 140, 2, 9, .null), (.invokevirtual 69, 11, 2, 0, .null), (.invokevirtual 72, 141, 2, 9, .null), (.invokevirtual 73, 12, 1, 0, .null), (.invokevirtual 76, 142, 1, 9, .null)]
theorem pc_L (nm : String) : ∀ x ∈ pl_L, pc_ok "DecimalRunLaw" nm x := by
  have h : ∀ x ∈ pl_L, (∃ k, x.1 = .new k) ∨ (∃ k, x.1 = .newarray k) ∨ (∃ k, x.1 = .invokevirtual k) ∨ (∃ k, x.1 = .invokestatic k) ∨ (∃ k, x.1 = .invokespecial k) := by
    unfold pl_L
    simp
  intro x hx s args _
  obtain ⟨i, xa, xb, xf, xv⟩ := x
  rcases h _ hx with ⟨k, e⟩ | ⟨k, e⟩ | ⟨k, e⟩ | ⟨k, e⟩ | ⟨k, e⟩ <;> (have e : i = _ := e) <;> subst e <;> exact trivial
theorem pa_L (nm : String) : ∀ x ∈ pl_L, pe_ok kd D tc L xs "DecimalRunLaw" x ∧ pc_ok "DecimalRunLaw" nm x := fun x hx => ⟨(show ∀ x ∈ pl_L, pe_ok kd D tc L xs "DecimalRunLaw" x from List.forall_mem_cons.mpr ⟨pe_L_0, List.forall_mem_cons.mpr ⟨pe_L_1, List.forall_mem_cons.mpr ⟨pe_L_2, List.forall_mem_cons.mpr ⟨pe_L_3, List.forall_mem_cons.mpr ⟨pe_L_4, List.forall_mem_cons.mpr ⟨pe_L_5, List.forall_mem_cons.mpr ⟨pe_L_6, List.forall_mem_cons.mpr ⟨pe_L_7, List.forall_mem_cons.mpr ⟨pe_L_8, List.forall_mem_cons.mpr ⟨pe_L_9, List.forall_mem_cons.mpr ⟨pe_L_10, List.forall_mem_cons.mpr ⟨pe_L_11, List.forall_mem_cons.mpr ⟨pe_L_12, List.forall_mem_cons.mpr ⟨pe_L_13, List.forall_mem_cons.mpr ⟨pe_L_14, List.forall_mem_cons.mpr ⟨pe_L_15, List.forall_mem_cons.mpr ⟨pe_L_16, List.forall_mem_cons.mpr ⟨pe_L_17, List.forall_mem_cons.mpr ⟨pe_L_18, List.forall_mem_cons.mpr ⟨pe_L_19, List.forall_mem_cons.mpr ⟨pe_L_20, List.forall_mem_cons.mpr ⟨pe_L_21, List.forall_mem_cons.mpr ⟨pe_L_22, List.forall_mem_cons.mpr ⟨pe_L_23, List.forall_mem_cons.mpr ⟨pe_L_24, List.forall_mem_cons.mpr ⟨pe_L_25, List.forall_mem_cons.mpr ⟨pe_L_26, List.forall_mem_cons.mpr ⟨pe_L_27, List.forall_mem_cons.mpr ⟨pe_L_28, List.forall_mem_cons.mpr ⟨pe_L_29, List.forall_mem_cons.mpr ⟨pe_L_30, fun _ h => absurd h List.not_mem_nil⟩⟩⟩⟩⟩⟩⟩⟩⟩⟩⟩⟩⟩⟩⟩⟩⟩⟩⟩⟩⟩⟩⟩⟩⟩⟩⟩⟩⟩⟩⟩) x hx, pc_L nm x hx⟩
theorem dc_163x : tb_m163x.all (dx_dc method_3_code) = true := by decide +kernel
theorem gd_164 : ∀ q ∈ tb_m164, dx_gd nm_cl nm_ql kd (tb_Z L xs) (G0 kd D tc L xs) lw_ws tb_Y tb_B 164 q.1 q.2 := dx_gd_pl (PL := pl_L) (own := "DecimalRunLaw") (nm := "law") rfl rfl dc_164 (by decide +kernel) (pa_L "law") (by decide +kernel)
theorem gd_163 : ∀ q ∈ tb_m163x, dx_gd nm_cl nm_ql kd (tb_Z L xs) (G0 kd D tc L xs) lw_ws tb_Y tb_B 163 q.1 q.2 := dx_gd_pl (PL := pl_L) (own := "DecimalRunLaw") (nm := "run") rfl rfl dc_163x (by decide +kernel) (pa_L "run") (by decide +kernel)
def hd_163 : List (Nat × Nat × Nat × Nat) := [(0, 9, 12, 13), (0, 9, 15, 15), (0, 9, 18, 17)]
theorem cw_163 : Cond.codeWith (tb_Y 163) (tb_B 163) (tb_l 163) (tb_r 163) hd_163 ∈ lw_ws := wl_315
theorem gs_163 : dx_gs lw_ws tb_Y tb_B (tb_Zl L xs) (.invokestatic 40, 163, 3, 0, .null) hd_163 := ⟨⟨_, rfl⟩, wl_315, wl_0, ⟨by decide +kernel, by decide +kernel⟩, show tb_l 163 ≤ 45 by decide +kernel⟩
theorem ck_163 : tb_m163x.all (fun q => (!(dx_kd q.2 == 5) || decide (q.2.2.1 < 163)) && decide (dx_kd q.2 < 7)) = true := by decide +kernel
theorem ck_164 : tb_m164.all (fun q => (!(dx_kd q.2 == 5) || (decide (q.2.2.1 < 163) || decide (q.2 = (.invokestatic 40, 163, 3, 0, .null)))) && decide (dx_kd q.2 < 7)) = true := by decide +kernel
theorem cl_163 : Cond.classLink "DecimalRunLaw" 13 "java/lang/IllegalArgumentException" ∈ lw_ws ∧ Cond.classLink "DecimalRunLaw" 15 "java/lang/ArithmeticException" ∈ lw_ws ∧ Cond.classLink "DecimalRunLaw" 17 "java/lang/IllegalStateException" ∈ lw_ws := ⟨wl_316, wl_317, wl_318⟩
theorem zl_163 {pc : Nat} {x : dx_I} (h : (tb_Zl L xs).1 163 pc = some x) : (pc, x) ∈ tb_m163x := dx_at_mem (hz_163.symm.trans h)
theorem zl_164 {pc : Nat} {x : dx_I} (h : (tb_Zl L xs).1 164 pc = some x) : (pc, x) ∈ tb_m164 := dx_at_mem (hz_164.symm.trans h)
theorem gdl_163 : ∀ pc x, (tb_Zl L xs).1 163 pc = some x → dx_gd nm_cl nm_ql kd (tb_Zl L xs) (G0 kd D tc L xs) lw_ws tb_Y tb_B 163 pc x := fun pc x h => gd_Z2 (c1 := (tb_Z L xs).1) (c2 := (tb_Zl L xs).1) (r := (tb_Z L xs).2) (gd_163 (kd := kd) (D := D) (tc := tc) (L := L) (xs := xs) (pc, x) (zl_163 h))
theorem gdl_164 : ∀ pc x, (tb_Zl L xs).1 164 pc = some x → dx_gd nm_cl nm_ql kd (tb_Zl L xs) (G0 kd D tc L xs) lw_ws tb_Y tb_B 164 pc x := fun pc x h => gd_Z2 (c1 := (tb_Z L xs).1) (c2 := (tb_Zl L xs).1) (r := (tb_Z L xs).2) (gd_164 (kd := kd) (D := D) (tc := tc) (L := L) (xs := xs) (pc, x) (zl_164 h))
theorem gml_all (M : Nat) (h : M < 163) : dx_gm lw_ws tb_Y tb_B (tb_Zl L xs) M := gm_Z2 (c1 := (tb_Z L xs).1) (c2 := (tb_Zl L xs).1) (r := (tb_Z L xs).2) (gm_all M h)
theorem gml_163 : ∀ pc x, (tb_Zl L xs).1 163 pc = some x → dx_kd x = 5 → dx_gm lw_ws tb_Y tb_B (tb_Zl L xs) x.2.1 ∨ ∃ hs, dx_gs lw_ws tb_Y tb_B (tb_Zl L xs) x hs := fun pc x h hk => by
  have h1 := List.all_eq_true.mp ck_163 _ (zl_163 h)
  simp only [Bool.and_eq_true, Bool.or_eq_true, Bool.not_eq_true', beq_eq_false_iff_ne, decide_eq_true_eq] at h1
  exact Or.inl (gml_all _ (h1.1.resolve_left (fun y => y hk)))
theorem gml_164 : ∀ pc x, (tb_Zl L xs).1 164 pc = some x → dx_kd x = 5 → dx_gm lw_ws tb_Y tb_B (tb_Zl L xs) x.2.1 ∨ ∃ hs, dx_gs lw_ws tb_Y tb_B (tb_Zl L xs) x hs := fun pc x h hk => by
  have h1 := List.all_eq_true.mp ck_164 _ (zl_164 h)
  simp only [Bool.and_eq_true, Bool.or_eq_true, Bool.not_eq_true', beq_eq_false_iff_ne, decide_eq_true_eq] at h1
  rcases h1.1.resolve_left (fun y => y hk) with h2 | h2
  · exact Or.inl (gml_all _ h2)
  · have h3 : x = (.invokestatic 40, 163, 3, 0, .null) := h2
    subst h3
    exact Or.inr ⟨_, gs_163⟩
theorem k7_163 : ∀ pc x, (tb_Zl L xs).1 163 pc = some x → dx_kd x < 7 := fun pc x h => by
  have h1 := List.all_eq_true.mp ck_163 _ (zl_163 h)
  rw [Bool.and_eq_true, decide_eq_true_eq] at h1
  exact h1.2
theorem k7_164 : ∀ pc x, (tb_Zl L xs).1 164 pc = some x → dx_kd x < 7 := fun pc x h => by
  have h1 := List.all_eq_true.mp ck_164 _ (zl_164 h)
  rw [Bool.and_eq_true, decide_eq_true_eq] at h1
  exact h1.2
end XD
