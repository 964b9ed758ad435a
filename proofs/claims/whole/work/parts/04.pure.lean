section DXA
variable {p : Program} {l : Launch} {e : Env} {R : Room} {s : State} {m : MethodId} {args : Array Value} {below : List Frame} {meth : Method} {c : Code} {H : Heap} {locs : List Loc} {cells slots : Nat} {Q : State → Prop}
theorem dx_ln {n len : Nat} (h : n = 0 ∨ len = n) (h0 : ¬ n = 0) : len = n := h.resolve_left h0
set_option maxHeartbeats 4000000 in
/-- the real machine follows the pure instructions -/
theorem dx_a_snd {cc : ByteArray} {nL : Nat} {kd : Nat → Option Nat} {ad : Nat → Nat} {i : Instr} {pc len : Nat} {lv : dx_L} {st : List Value} {r : dx_R} {ls : Array Slot} (hx : p.tables.exec = Jvm.exec) (hb : c.code = cc) (hd : decode cc pc = .ok (i, len)) (hn : dx_len i = 0 ∨ len = dx_len i) (hl : lv_has ls nL (dx_vl kd ad lv)) (h : dx_a nL i pc lv st = some r)
    (kk : ∀ ls' : Array Slot, lv_has ls' nL (dx_vl kd ad r.2.1) → W p l e R s m args below meth c H locs cells slots Q (F0 m r.1 ls' (r.2.2.map (dx_v kd ad)))) : W p l e R s m args below meth c H locs cells slots Q (F0 m pc ls (st.map (dx_v kd ad))) := by
  cases i with
  | iconst n =>
    have hn := dx_ln hn (by simp [dx_len])
    subst hn
    cases h
    exact lv_iconst hx hb hd rfl (kk ls hl)
  | bipush n =>
    have hn := dx_ln hn (by simp [dx_len])
    subst hn
    cases h
    exact lv_bipush hx hb hd rfl (kk ls hl)
  | sipush n =>
    have hn := dx_ln hn (by simp [dx_len])
    subst hn
    cases h
    exact lv_sipush hx hb hd rfl (kk ls hl)
  | lconst n =>
    have hn := dx_ln hn (by simp [dx_len])
    subst hn
    cases h
    exact lv_lconst hx hb hd rfl (kk ls hl)
  | iload_n k =>
    have hn := dx_ln hn (by simp [dx_len])
    subst hn
    replace h := dx_ld_e h
    obtain ⟨v, hv, h⟩ := h
    replace h := dx_vi_e h
    obtain ⟨x, rfl, h⟩ := h
    cases h
    exact lv_iload_n hx hb hd rfl (dx_lk_at hl hv) (kk ls hl)
  | iload k =>
    have hn := dx_ln hn (by simp [dx_len])
    subst hn
    replace h := dx_ld_e h
    obtain ⟨v, hv, h⟩ := h
    replace h := dx_vi_e h
    obtain ⟨x, rfl, h⟩ := h
    cases h
    exact lv_iload hx hb hd (dx_lk_at hl hv) (kk ls hl)
  | lload_n k =>
    have hn := dx_ln hn (by simp [dx_len])
    subst hn
    replace h := dx_ld_e h
    obtain ⟨v, hv, h⟩ := h
    replace h := dx_vj_e h
    obtain ⟨x, rfl, h⟩ := h
    cases h
    exact lv_lload_n hx hb hd rfl (dx_lk_at hl hv) (kk ls hl)
  | lload k =>
    have hn := dx_ln hn (by simp [dx_len])
    subst hn
    replace h := dx_ld_e h
    obtain ⟨v, hv, h⟩ := h
    replace h := dx_vj_e h
    obtain ⟨x, rfl, h⟩ := h
    cases h
    exact lv_lload hx hb hd (dx_lk_at hl hv) (kk ls hl)
  | aload_n k =>
    have hn := dx_ln hn (by simp [dx_len])
    subst hn
    replace h := dx_ld_e h
    obtain ⟨v, hv, h⟩ := h
    replace h := dx_vr_e (kd := kd) (ad := ad) h
    obtain ⟨ha, h⟩ := h
    cases h
    have h1 := dx_lk_at hl hv
    have k := kk ls hl
    rcases ha with ⟨a, ha⟩ | ha
    · rw [ha] at h1
      rw [List.map_cons, ha] at k
      exact lv_aload_n hx hb hd rfl h1 k
    · rw [ha] at h1
      rw [List.map_cons, ha] at k
      exact lv_aload_nN hx hb hd rfl h1 k
  | aload k =>
    have hn := dx_ln hn (by simp [dx_len])
    subst hn
    replace h := dx_ld_e h
    obtain ⟨v, hv, h⟩ := h
    replace h := dx_vr_e (kd := kd) (ad := ad) h
    obtain ⟨ha, h⟩ := h
    cases h
    have h1 := dx_lk_at hl hv
    have k := kk ls hl
    rcases ha with ⟨a, ha⟩ | ha
    · rw [ha] at h1
      rw [List.map_cons, ha] at k
      exact lv_aload hx hb hd h1 k
    · rw [ha] at h1
      rw [List.map_cons, ha] at k
      exact lv_aloadN hx hb hd h1 k
  | istore_n k =>
    have hn := dx_ln hn (by simp [dx_len])
    subst hn
    replace h := dx_i1_e h
    obtain ⟨x, q, rfl, h⟩ := h
    split at h
    case isFalse => cases h
    rename_i hk
    cases h
    exact lv_istore_n hx hb hd rfl hl hk (dx_s1_v kd ad lv k.val (.int x)) kk
  | istore k =>
    have hn := dx_ln hn (by simp [dx_len])
    subst hn
    replace h := dx_i1_e h
    obtain ⟨x, q, rfl, h⟩ := h
    split at h
    case isFalse => cases h
    rename_i hk
    cases h
    exact lv_istore hx hb hd hl hk (dx_s1_v kd ad lv k (.int x)) kk
  | lstore_n k =>
    have hn := dx_ln hn (by simp [dx_len])
    subst hn
    replace h := dx_l1_e h
    obtain ⟨x, q, rfl, h⟩ := h
    split at h
    case isFalse => cases h
    rename_i hk
    cases h
    exact lv_lstore_n hx hb hd rfl hl hk (dx_s2_v kd ad lv k.val (.long x)) kk
  | lstore k =>
    have hn := dx_ln hn (by simp [dx_len])
    subst hn
    replace h := dx_l1_e h
    obtain ⟨x, q, rfl, h⟩ := h
    split at h
    case isFalse => cases h
    rename_i hk
    cases h
    exact lv_lstore hx hb hd hl hk (dx_s2_v kd ad lv k (.long x)) kk
  | astore_n k =>
    have hn := dx_ln hn (by simp [dx_len])
    subst hn
    replace h := dx_v1_e h
    obtain ⟨v, q, rfl, h⟩ := h
    replace h := dx_vr_e (kd := kd) (ad := ad) h
    obtain ⟨ha, h⟩ := h
    split at h
    case isFalse => cases h
    rename_i hk
    cases h
    have e1 := dx_s1_v kd ad lv k.val v
    rcases ha with ⟨a, ha⟩ | ha
    · rw [ha] at e1
      rw [List.map_cons, ha]
      exact lv_astore_n hx hb hd rfl hl hk e1 kk
    · rw [ha] at e1
      rw [List.map_cons, ha]
      exact lv_astore_nN hx hb hd rfl hl hk e1 kk
  | astore k =>
    have hn := dx_ln hn (by simp [dx_len])
    subst hn
    replace h := dx_v1_e h
    obtain ⟨v, q, rfl, h⟩ := h
    replace h := dx_vr_e (kd := kd) (ad := ad) h
    obtain ⟨ha, h⟩ := h
    split at h
    case isFalse => cases h
    rename_i hk
    cases h
    have e1 := dx_s1_v kd ad lv k v
    rcases ha with ⟨a, ha⟩ | ha
    · rw [ha] at e1
      rw [List.map_cons, ha]
      exact lv_astore hx hb hd hl hk e1 kk
    · rw [ha] at e1
      rw [List.map_cons, ha]
      exact lv_astoreN hx hb hd hl hk e1 kk
  | iinc k n =>
    have hn := dx_ln hn (by simp [dx_len])
    subst hn
    replace h := dx_ld_e h
    obtain ⟨v, hv, h⟩ := h
    replace h := dx_vi_e h
    obtain ⟨x, rfl, h⟩ := h
    split at h
    case isFalse => cases h
    rename_i hk
    cases h
    obtain ⟨j, hj⟩ := List.getElem?_of_mem (List.mem_map.mpr ⟨(k, Value.int x), dx_lk_mem hv, rfl⟩ : (k, dx_v kd ad (.int x)) ∈ dx_vl kd ad lv)
    exact lv_iinc hx hb hd hl hj rfl hk (dx_s1_v kd ad lv k (.int (x + Int32.ofInt n))) kk
  | iadd =>
    have hn := dx_ln hn (by simp [dx_len])
    subst hn
    replace h := dx_i2_e h
    obtain ⟨x, y, q, rfl, h⟩ := h
    cases h
    exact lv_iadd hx hb hd (kk ls hl)
  | isub =>
    have hn := dx_ln hn (by simp [dx_len])
    subst hn
    replace h := dx_i2_e h
    obtain ⟨x, y, q, rfl, h⟩ := h
    cases h
    exact lv_isub hx hb hd (kk ls hl)
  | imul =>
    have hn := dx_ln hn (by simp [dx_len])
    subst hn
    replace h := dx_i2_e h
    obtain ⟨x, y, q, rfl, h⟩ := h
    cases h
    exact lv_imul hx hb hd (kk ls hl)
  | iand =>
    have hn := dx_ln hn (by simp [dx_len])
    subst hn
    replace h := dx_i2_e h
    obtain ⟨x, y, q, rfl, h⟩ := h
    cases h
    exact lv_iand hx hb hd (kk ls hl)
  | ior =>
    have hn := dx_ln hn (by simp [dx_len])
    subst hn
    replace h := dx_i2_e h
    obtain ⟨x, y, q, rfl, h⟩ := h
    cases h
    exact lv_ior hx hb hd (kk ls hl)
  | ishl =>
    have hn := dx_ln hn (by simp [dx_len])
    subst hn
    replace h := dx_i2_e h
    obtain ⟨x, y, q, rfl, h⟩ := h
    cases h
    exact lv_ishl hx hb hd (kk ls hl)
  | ishr =>
    have hn := dx_ln hn (by simp [dx_len])
    subst hn
    replace h := dx_i2_e h
    obtain ⟨x, y, q, rfl, h⟩ := h
    cases h
    exact lv_ishr hx hb hd (kk ls hl)
  | idiv =>
    have hn := dx_ln hn (by simp [dx_len])
    subst hn
    replace h := dx_i2_e h
    obtain ⟨x, y, q, rfl, h⟩ := h
    split at h
    case isTrue => cases h
    rename_i hk
    cases h
    exact lv_idiv hx hb hd hk (kk ls hl)
  | irem =>
    have hn := dx_ln hn (by simp [dx_len])
    subst hn
    replace h := dx_i2_e h
    obtain ⟨x, y, q, rfl, h⟩ := h
    split at h
    case isTrue => cases h
    rename_i hk
    cases h
    exact lv_irem hx hb hd hk (kk ls hl)
  | ineg =>
    have hn := dx_ln hn (by simp [dx_len])
    subst hn
    replace h := dx_i1_e h
    obtain ⟨x, q, rfl, h⟩ := h
    cases h
    exact lv_ineg hx hb hd (kk ls hl)
  | ladd =>
    have hn := dx_ln hn (by simp [dx_len])
    subst hn
    replace h := dx_l2_e h
    obtain ⟨x, y, q, rfl, h⟩ := h
    cases h
    exact lv_ladd hx hb hd (kk ls hl)
  | lsub =>
    have hn := dx_ln hn (by simp [dx_len])
    subst hn
    replace h := dx_l2_e h
    obtain ⟨x, y, q, rfl, h⟩ := h
    cases h
    exact lv_lsub hx hb hd (kk ls hl)
  | lmul =>
    have hn := dx_ln hn (by simp [dx_len])
    subst hn
    replace h := dx_l2_e h
    obtain ⟨x, y, q, rfl, h⟩ := h
    cases h
    exact lv_lmul hx hb hd (kk ls hl)
  | land =>
    have hn := dx_ln hn (by simp [dx_len])
    subst hn
    replace h := dx_l2_e h
    obtain ⟨x, y, q, rfl, h⟩ := h
    cases h
    exact lv_land hx hb hd (kk ls hl)
  | lor =>
    have hn := dx_ln hn (by simp [dx_len])
    subst hn
    replace h := dx_l2_e h
    obtain ⟨x, y, q, rfl, h⟩ := h
    cases h
    exact lv_lor hx hb hd (kk ls hl)
  | ldiv =>
    have hn := dx_ln hn (by simp [dx_len])
    subst hn
    replace h := dx_l2_e h
    obtain ⟨x, y, q, rfl, h⟩ := h
    split at h
    case isTrue => cases h
    rename_i hk
    cases h
    exact lv_ldiv hx hb hd hk (kk ls hl)
  | lrem =>
    have hn := dx_ln hn (by simp [dx_len])
    subst hn
    replace h := dx_l2_e h
    obtain ⟨x, y, q, rfl, h⟩ := h
    split at h
    case isTrue => cases h
    rename_i hk
    cases h
    exact lv_lrem hx hb hd hk (kk ls hl)
  | lneg =>
    have hn := dx_ln hn (by simp [dx_len])
    subst hn
    replace h := dx_l1_e h
    obtain ⟨x, q, rfl, h⟩ := h
    cases h
    exact lv_lneg hx hb hd (kk ls hl)
  | lshl =>
    have hn := dx_ln hn (by simp [dx_len])
    subst hn
    replace h := dx_li_e h
    obtain ⟨x, y, q, rfl, h⟩ := h
    cases h
    exact lv_lshl hx hb hd rfl (kk ls hl)
  | lshr =>
    have hn := dx_ln hn (by simp [dx_len])
    subst hn
    replace h := dx_li_e h
    obtain ⟨x, y, q, rfl, h⟩ := h
    cases h
    exact lv_lshr hx hb hd rfl (kk ls hl)
  | lcmp =>
    have hn := dx_ln hn (by simp [dx_len])
    subst hn
    replace h := dx_l2_e h
    obtain ⟨x, y, q, rfl, h⟩ := h
    cases h
    exact W.lcmp hx hb hd (kk ls hl)
  | i2l =>
    have hn := dx_ln hn (by simp [dx_len])
    subst hn
    replace h := dx_i1_e h
    obtain ⟨x, q, rfl, h⟩ := h
    cases h
    exact lv_i2l hx hb hd rfl (kk ls hl)
  | l2i =>
    have hn := dx_ln hn (by simp [dx_len])
    subst hn
    replace h := dx_l1_e h
    obtain ⟨x, q, rfl, h⟩ := h
    cases h
    exact lv_l2i hx hb hd rfl (kk ls hl)
  | i2c =>
    have hn := dx_ln hn (by simp [dx_len])
    subst hn
    replace h := dx_i1_e h
    obtain ⟨x, q, rfl, h⟩ := h
    cases h
    exact lv_i2c hx hb hd rfl (kk ls hl)
  | i2b =>
    have hn := dx_ln hn (by simp [dx_len])
    subst hn
    replace h := dx_i1_e h
    obtain ⟨x, q, rfl, h⟩ := h
    cases h
    exact lv_i2b hx hb hd rfl (kk ls hl)
  | dup =>
    have hn := dx_ln hn (by simp [dx_len])
    subst hn
    replace h := dx_v1_e h
    obtain ⟨v, q, rfl, h⟩ := h
    split at h
    case isFalse => cases h
    rename_i hk
    cases h
    exact lv_dup hx hb hd (by rw [dx_v_cat]; exact hk) (kk ls hl)
  | pop =>
    have hn := dx_ln hn (by simp [dx_len])
    subst hn
    replace h := dx_v1_e h
    obtain ⟨v, q, rfl, h⟩ := h
    split at h
    case isFalse => cases h
    rename_i hk
    cases h
    exact lv_pop hx hb hd (by rw [dx_v_cat]; exact hk) (kk ls hl)
  | pop2 =>
    have hn := dx_ln hn (by simp [dx_len])
    subst hn
    replace h := dx_v1_e h
    obtain ⟨v, q, rfl, h⟩ := h
    split at h
    case isFalse => cases h
    rename_i hk
    cases h
    exact lv_pop2_2 hx hb hd (by rw [dx_v_cat]; exact hk) (kk ls hl)
  | dup_x1 =>
    have hn := dx_ln hn (by simp [dx_len])
    subst hn
    replace h := dx_v2_e h
    obtain ⟨v, w, q, rfl, h⟩ := h
    split at h
    case isFalse => cases h
    rename_i hk
    cases h
    exact lv_dup_x1 hx hb hd (by rw [dx_v_cat]; exact hk.1) (by rw [dx_v_cat]; exact hk.2) (kk ls hl)
  | dup_x2 =>
    have hn := dx_ln hn (by simp [dx_len])
    subst hn
    replace h := dx_v3_e h
    obtain ⟨v, w, u, q, rfl, h⟩ := h
    split at h
    case isFalse => cases h
    rename_i hk
    cases h
    exact lv_dup_x2 hx hb hd (by rw [dx_v_cat]; exact hk.1) (by rw [dx_v_cat]; exact hk.2.1) (by rw [dx_v_cat]; exact hk.2.2) (kk ls hl)
  | dup2 =>
    have hn := dx_ln hn (by simp [dx_len])
    subst hn
    replace h := dx_v2_e h
    obtain ⟨v, w, q, rfl, h⟩ := h
    split at h
    case isFalse => cases h
    rename_i hk
    cases h
    exact lv_dup2_11 hx hb hd (by rw [dx_v_cat]; exact hk.1) (by rw [dx_v_cat]; exact hk.2) (kk ls hl)
  | ifCond cd off =>
    have hn := dx_ln hn (by simp [dx_len])
    subst hn
    replace h := dx_i1_e h
    obtain ⟨x, q, rfl, h⟩ := h
    replace h := dx_jp_e h
    obtain ⟨t, ht, h⟩ := h
    cases h
    have k := kk ls hl
    cases cd with
    | eq => exact lv_if_eq hx hb hd ht (fun h0 => by rw [show dx_c1 .eq x = true from decide_eq_true h0] at k; exact k) (fun h0 => by rw [show dx_c1 .eq x = false from decide_eq_false h0] at k; exact k)
    | ne => exact lv_if_ne hx hb hd ht (fun h0 => by rw [show dx_c1 .ne x = true from decide_eq_true h0] at k; exact k) (fun h0 => by rw [show dx_c1 .ne x = false from decide_eq_false (fun z => z h0)] at k; exact k)
    | lt => exact lv_if_lt hx hb hd ht (fun h0 => by rw [show dx_c1 .lt x = true from decide_eq_true h0] at k; exact k) (fun h0 => by rw [show dx_c1 .lt x = false from decide_eq_false h0] at k; exact k)
    | ge => exact lv_if_ge hx hb hd ht (fun h0 => by rw [show dx_c1 .ge x = true from decide_eq_true h0] at k; exact k) (fun h0 => by rw [show dx_c1 .ge x = false from decide_eq_false h0] at k; exact k)
    | gt => exact lv_if_gt hx hb hd ht (fun h0 => by rw [show dx_c1 .gt x = true from decide_eq_true h0] at k; exact k) (fun h0 => by rw [show dx_c1 .gt x = false from decide_eq_false h0] at k; exact k)
    | le => exact lv_if_le hx hb hd ht (fun h0 => by rw [show dx_c1 .le x = true from decide_eq_true h0] at k; exact k) (fun h0 => by rw [show dx_c1 .le x = false from decide_eq_false h0] at k; exact k)
  | if_icmp cd off =>
    have hn := dx_ln hn (by simp [dx_len])
    subst hn
    replace h := dx_i2_e h
    obtain ⟨x, y, q, rfl, h⟩ := h
    replace h := dx_jp_e h
    obtain ⟨t, ht, h⟩ := h
    cases h
    have k := kk ls hl
    cases cd with
    | eq => exact lv_icmp_eq hx hb hd ht (fun h0 => by rw [show dx_c2 .eq x y = true from decide_eq_true h0] at k; exact k) (fun h0 => by rw [show dx_c2 .eq x y = false from decide_eq_false h0] at k; exact k)
    | ne => exact lv_icmp_ne hx hb hd ht (fun h0 => by rw [show dx_c2 .ne x y = true from decide_eq_true h0] at k; exact k) (fun h0 => by rw [show dx_c2 .ne x y = false from decide_eq_false (fun z => z h0)] at k; exact k)
    | lt => exact lv_icmp_lt hx hb hd ht (fun h0 => by rw [show dx_c2 .lt x y = true from decide_eq_true h0] at k; exact k) (fun h0 => by rw [show dx_c2 .lt x y = false from decide_eq_false h0] at k; exact k)
    | ge => exact lv_icmp_ge hx hb hd ht (fun h0 => by rw [show dx_c2 .ge x y = true from decide_eq_true h0] at k; exact k) (fun h0 => by rw [show dx_c2 .ge x y = false from decide_eq_false h0] at k; exact k)
    | gt => exact lv_icmp_gt hx hb hd ht (fun h0 => by rw [show dx_c2 .gt x y = true from decide_eq_true h0] at k; exact k) (fun h0 => by rw [show dx_c2 .gt x y = false from decide_eq_false h0] at k; exact k)
    | le => exact lv_icmp_le hx hb hd ht (fun h0 => by rw [show dx_c2 .le x y = true from decide_eq_true h0] at k; exact k) (fun h0 => by rw [show dx_c2 .le x y = false from decide_eq_false h0] at k; exact k)
  | goto off =>
    have hn := dx_ln hn (by simp [dx_len])
    subst hn
    replace h : dx_jp pc off (fun t => some (t, lv, st)) = some r := h
    replace h := dx_jp_e h
    obtain ⟨t, ht, h⟩ := h
    cases h
    exact lv_goto hx hb hd ht (kk ls hl)
  | tableswitch d lo hi offs =>
    replace h := dx_i1_e h
    obtain ⟨x, q, rfl, h⟩ := h
    split at h
    case isFalse => cases h
    rename_i hk
    replace h := dx_jp_e h
    obtain ⟨t, ht, h⟩ := h
    cases h
    by_cases ho : x.toInt < lo ∨ hi < x.toInt
    · rw [show dx_sw (.tableswitch d lo hi offs) x = d from if_pos ho] at ht
      exact lv_tableOut hx hb hd ho ht (kk ls hl)
    · have hi2 : (x.toInt - lo).toNat < offs.size := by omega
      rw [show dx_sw (.tableswitch d lo hi offs) x = offs[(x.toInt - lo).toNat] from by simp [dx_sw, ho, hi2]] at ht
      exact lv_tableIn hx hb hd (fun z => ho (Or.inl z)) (fun z => ho (Or.inr z)) (Array.getElem?_eq_getElem hi2) ht (kk ls hl)
  | lookupswitch d ps =>
    replace h := dx_i1_e h
    obtain ⟨x, q, rfl, h⟩ := h
    split at h
    case isFalse => cases h
    rename_i hk
    replace h := dx_jp_e h
    obtain ⟨t, ht, h⟩ := h
    cases h
    exact lv_lookup hx hb hd hk rfl ht (kk ls hl)
  | _ => cases h
end DXA
