set_option maxHeartbeats 4000000 in
/-- the pure instructions keep to cells that are there -/
theorem dx_a_ok {n nL : Nat} {i : Instr} {pc : Nat} {lv : dx_L} {st : List Value} {r : dx_R} (h : dx_a nL i pc lv st = some r) (hl : dx_kl n lv) (ht : dx_kt n st) : dx_kl n r.2.1 ∧ dx_kt n r.2.2 := by
  cases i with
  | iconst n =>
    cases h
    exact ⟨hl, dx_kt_cons.mpr ⟨trivial, ht⟩⟩
  | bipush n =>
    cases h
    exact ⟨hl, dx_kt_cons.mpr ⟨trivial, ht⟩⟩
  | sipush n =>
    cases h
    exact ⟨hl, dx_kt_cons.mpr ⟨trivial, ht⟩⟩
  | lconst n =>
    cases h
    exact ⟨hl, dx_kt_cons.mpr ⟨trivial, ht⟩⟩
  | iload_n k =>
    replace h := dx_ld_e h
    obtain ⟨v, hv, h⟩ := h
    replace h := dx_vi_e h
    obtain ⟨x, rfl, h⟩ := h
    cases h
    exact ⟨hl, dx_kt_cons.mpr ⟨trivial, ht⟩⟩
  | iload k =>
    replace h := dx_ld_e h
    obtain ⟨v, hv, h⟩ := h
    replace h := dx_vi_e h
    obtain ⟨x, rfl, h⟩ := h
    cases h
    exact ⟨hl, dx_kt_cons.mpr ⟨trivial, ht⟩⟩
  | lload_n k =>
    replace h := dx_ld_e h
    obtain ⟨v, hv, h⟩ := h
    replace h := dx_vj_e h
    obtain ⟨x, rfl, h⟩ := h
    cases h
    exact ⟨hl, dx_kt_cons.mpr ⟨trivial, ht⟩⟩
  | lload k =>
    replace h := dx_ld_e h
    obtain ⟨v, hv, h⟩ := h
    replace h := dx_vj_e h
    obtain ⟨x, rfl, h⟩ := h
    cases h
    exact ⟨hl, dx_kt_cons.mpr ⟨trivial, ht⟩⟩
  | aload_n k =>
    replace h := dx_ld_e h
    obtain ⟨v, hv, h⟩ := h
    replace h := dx_vr_e (kd := fun _ => none) (ad := id) h
    obtain ⟨-, h⟩ := h
    cases h
    exact ⟨hl, dx_kt_cons.mpr ⟨dx_kl_lk hl hv, ht⟩⟩
  | aload k =>
    replace h := dx_ld_e h
    obtain ⟨v, hv, h⟩ := h
    replace h := dx_vr_e (kd := fun _ => none) (ad := id) h
    obtain ⟨-, h⟩ := h
    cases h
    exact ⟨hl, dx_kt_cons.mpr ⟨dx_kl_lk hl hv, ht⟩⟩
  | istore_n k =>
    replace h := dx_i1_e h
    obtain ⟨x, q, rfl, h⟩ := h
    split at h
    case isFalse => cases h
    cases h
    exact ⟨dx_kl_s1 hl trivial, (dx_kt_cons.mp ht).2⟩
  | lstore_n k =>
    replace h := dx_l1_e h
    obtain ⟨x, q, rfl, h⟩ := h
    split at h
    case isFalse => cases h
    cases h
    exact ⟨dx_kl_s2 hl trivial, (dx_kt_cons.mp ht).2⟩
  | astore_n k =>
    replace h := dx_v1_e h
    obtain ⟨v, q, rfl, h⟩ := h
    replace h := dx_vr_e (kd := fun _ => none) (ad := id) h
    obtain ⟨-, h⟩ := h
    split at h
    case isFalse => cases h
    cases h
    exact ⟨dx_kl_s1 hl (dx_kt_cons.mp ht).1, (dx_kt_cons.mp ht).2⟩
  | istore k =>
    replace h := dx_i1_e h
    obtain ⟨x, q, rfl, h⟩ := h
    split at h
    case isFalse => cases h
    cases h
    exact ⟨dx_kl_s1 hl trivial, (dx_kt_cons.mp ht).2⟩
  | lstore k =>
    replace h := dx_l1_e h
    obtain ⟨x, q, rfl, h⟩ := h
    split at h
    case isFalse => cases h
    cases h
    exact ⟨dx_kl_s2 hl trivial, (dx_kt_cons.mp ht).2⟩
  | astore k =>
    replace h := dx_v1_e h
    obtain ⟨v, q, rfl, h⟩ := h
    replace h := dx_vr_e (kd := fun _ => none) (ad := id) h
    obtain ⟨-, h⟩ := h
    split at h
    case isFalse => cases h
    cases h
    exact ⟨dx_kl_s1 hl (dx_kt_cons.mp ht).1, (dx_kt_cons.mp ht).2⟩
  | iinc k n =>
    replace h := dx_ld_e h
    obtain ⟨v, hv, h⟩ := h
    replace h := dx_vi_e h
    obtain ⟨x, rfl, h⟩ := h
    split at h
    case isFalse => cases h
    cases h
    exact ⟨dx_kl_s1 hl trivial, ht⟩
  | iadd =>
    replace h := dx_i2_e h
    obtain ⟨x, y, q, rfl, h⟩ := h
    cases h
    exact ⟨hl, dx_kt_cons.mpr ⟨trivial, (dx_kt_cons.mp (dx_kt_cons.mp ht).2).2⟩⟩
  | isub =>
    replace h := dx_i2_e h
    obtain ⟨x, y, q, rfl, h⟩ := h
    cases h
    exact ⟨hl, dx_kt_cons.mpr ⟨trivial, (dx_kt_cons.mp (dx_kt_cons.mp ht).2).2⟩⟩
  | imul =>
    replace h := dx_i2_e h
    obtain ⟨x, y, q, rfl, h⟩ := h
    cases h
    exact ⟨hl, dx_kt_cons.mpr ⟨trivial, (dx_kt_cons.mp (dx_kt_cons.mp ht).2).2⟩⟩
  | iand =>
    replace h := dx_i2_e h
    obtain ⟨x, y, q, rfl, h⟩ := h
    cases h
    exact ⟨hl, dx_kt_cons.mpr ⟨trivial, (dx_kt_cons.mp (dx_kt_cons.mp ht).2).2⟩⟩
  | ior =>
    replace h := dx_i2_e h
    obtain ⟨x, y, q, rfl, h⟩ := h
    cases h
    exact ⟨hl, dx_kt_cons.mpr ⟨trivial, (dx_kt_cons.mp (dx_kt_cons.mp ht).2).2⟩⟩
  | ishl =>
    replace h := dx_i2_e h
    obtain ⟨x, y, q, rfl, h⟩ := h
    cases h
    exact ⟨hl, dx_kt_cons.mpr ⟨trivial, (dx_kt_cons.mp (dx_kt_cons.mp ht).2).2⟩⟩
  | ishr =>
    replace h := dx_i2_e h
    obtain ⟨x, y, q, rfl, h⟩ := h
    cases h
    exact ⟨hl, dx_kt_cons.mpr ⟨trivial, (dx_kt_cons.mp (dx_kt_cons.mp ht).2).2⟩⟩
  | idiv =>
    replace h := dx_i2_e h
    obtain ⟨x, y, q, rfl, h⟩ := h
    split at h
    case isTrue => cases h
    cases h
    exact ⟨hl, dx_kt_cons.mpr ⟨trivial, (dx_kt_cons.mp (dx_kt_cons.mp ht).2).2⟩⟩
  | irem =>
    replace h := dx_i2_e h
    obtain ⟨x, y, q, rfl, h⟩ := h
    split at h
    case isTrue => cases h
    cases h
    exact ⟨hl, dx_kt_cons.mpr ⟨trivial, (dx_kt_cons.mp (dx_kt_cons.mp ht).2).2⟩⟩
  | ineg =>
    replace h := dx_i1_e h
    obtain ⟨x, q, rfl, h⟩ := h
    cases h
    exact ⟨hl, dx_kt_cons.mpr ⟨trivial, (dx_kt_cons.mp ht).2⟩⟩
  | ladd =>
    replace h := dx_l2_e h
    obtain ⟨x, y, q, rfl, h⟩ := h
    cases h
    exact ⟨hl, dx_kt_cons.mpr ⟨trivial, (dx_kt_cons.mp (dx_kt_cons.mp ht).2).2⟩⟩
  | lsub =>
    replace h := dx_l2_e h
    obtain ⟨x, y, q, rfl, h⟩ := h
    cases h
    exact ⟨hl, dx_kt_cons.mpr ⟨trivial, (dx_kt_cons.mp (dx_kt_cons.mp ht).2).2⟩⟩
  | lmul =>
    replace h := dx_l2_e h
    obtain ⟨x, y, q, rfl, h⟩ := h
    cases h
    exact ⟨hl, dx_kt_cons.mpr ⟨trivial, (dx_kt_cons.mp (dx_kt_cons.mp ht).2).2⟩⟩
  | land =>
    replace h := dx_l2_e h
    obtain ⟨x, y, q, rfl, h⟩ := h
    cases h
    exact ⟨hl, dx_kt_cons.mpr ⟨trivial, (dx_kt_cons.mp (dx_kt_cons.mp ht).2).2⟩⟩
  | lor =>
    replace h := dx_l2_e h
    obtain ⟨x, y, q, rfl, h⟩ := h
    cases h
    exact ⟨hl, dx_kt_cons.mpr ⟨trivial, (dx_kt_cons.mp (dx_kt_cons.mp ht).2).2⟩⟩
  | lcmp =>
    replace h := dx_l2_e h
    obtain ⟨x, y, q, rfl, h⟩ := h
    cases h
    exact ⟨hl, dx_kt_cons.mpr ⟨trivial, (dx_kt_cons.mp (dx_kt_cons.mp ht).2).2⟩⟩
  | ldiv =>
    replace h := dx_l2_e h
    obtain ⟨x, y, q, rfl, h⟩ := h
    split at h
    case isTrue => cases h
    cases h
    exact ⟨hl, dx_kt_cons.mpr ⟨trivial, (dx_kt_cons.mp (dx_kt_cons.mp ht).2).2⟩⟩
  | lrem =>
    replace h := dx_l2_e h
    obtain ⟨x, y, q, rfl, h⟩ := h
    split at h
    case isTrue => cases h
    cases h
    exact ⟨hl, dx_kt_cons.mpr ⟨trivial, (dx_kt_cons.mp (dx_kt_cons.mp ht).2).2⟩⟩
  | lneg =>
    replace h := dx_l1_e h
    obtain ⟨x, q, rfl, h⟩ := h
    cases h
    exact ⟨hl, dx_kt_cons.mpr ⟨trivial, (dx_kt_cons.mp ht).2⟩⟩
  | lshl =>
    replace h := dx_li_e h
    obtain ⟨x, y, q, rfl, h⟩ := h
    cases h
    exact ⟨hl, dx_kt_cons.mpr ⟨trivial, (dx_kt_cons.mp (dx_kt_cons.mp ht).2).2⟩⟩
  | lshr =>
    replace h := dx_li_e h
    obtain ⟨x, y, q, rfl, h⟩ := h
    cases h
    exact ⟨hl, dx_kt_cons.mpr ⟨trivial, (dx_kt_cons.mp (dx_kt_cons.mp ht).2).2⟩⟩
  | i2l =>
    replace h := dx_i1_e h
    obtain ⟨x, q, rfl, h⟩ := h
    cases h
    exact ⟨hl, dx_kt_cons.mpr ⟨trivial, (dx_kt_cons.mp ht).2⟩⟩
  | l2i =>
    replace h := dx_l1_e h
    obtain ⟨x, q, rfl, h⟩ := h
    cases h
    exact ⟨hl, dx_kt_cons.mpr ⟨trivial, (dx_kt_cons.mp ht).2⟩⟩
  | i2c =>
    replace h := dx_i1_e h
    obtain ⟨x, q, rfl, h⟩ := h
    cases h
    exact ⟨hl, dx_kt_cons.mpr ⟨trivial, (dx_kt_cons.mp ht).2⟩⟩
  | i2b =>
    replace h := dx_i1_e h
    obtain ⟨x, q, rfl, h⟩ := h
    cases h
    exact ⟨hl, dx_kt_cons.mpr ⟨trivial, (dx_kt_cons.mp ht).2⟩⟩
  | dup =>
    replace h := dx_v1_e h
    obtain ⟨v, q, rfl, h⟩ := h
    split at h
    case isFalse => cases h
    cases h
    exact ⟨hl, dx_kt_cons.mpr ⟨(dx_kt_cons.mp ht).1, ht⟩⟩
  | pop =>
    replace h := dx_v1_e h
    obtain ⟨v, q, rfl, h⟩ := h
    split at h
    case isFalse => cases h
    cases h
    exact ⟨hl, (dx_kt_cons.mp ht).2⟩
  | pop2 =>
    replace h := dx_v1_e h
    obtain ⟨v, q, rfl, h⟩ := h
    split at h
    case isFalse => cases h
    cases h
    exact ⟨hl, (dx_kt_cons.mp ht).2⟩
  | dup_x1 =>
    replace h := dx_v2_e h
    obtain ⟨v, w, q, rfl, h⟩ := h
    split at h
    case isFalse => cases h
    cases h
    simp only [dx_kt_cons] at ht ⊢
    exact ⟨hl, ht.1, ht.2.1, ht.1, ht.2.2⟩
  | dup_x2 =>
    replace h := dx_v3_e h
    obtain ⟨v, w, u, q, rfl, h⟩ := h
    split at h
    case isFalse => cases h
    cases h
    simp only [dx_kt_cons] at ht ⊢
    exact ⟨hl, ht.1, ht.2.1, ht.2.2.1, ht.1, ht.2.2.2⟩
  | dup2 =>
    replace h := dx_v2_e h
    obtain ⟨v, w, q, rfl, h⟩ := h
    split at h
    case isFalse => cases h
    cases h
    simp only [dx_kt_cons] at ht ⊢
    exact ⟨hl, ht.1, ht.2.1, ht.1, ht.2.1, ht.2.2⟩
  | ifCond cd off =>
    replace h := dx_i1_e h
    obtain ⟨x, q, rfl, h⟩ := h
    replace h := dx_jp_e h
    obtain ⟨t, -, h⟩ := h
    cases h
    exact ⟨hl, (dx_kt_cons.mp ht).2⟩
  | if_icmp cd off =>
    replace h := dx_i2_e h
    obtain ⟨x, y, q, rfl, h⟩ := h
    replace h := dx_jp_e h
    obtain ⟨t, -, h⟩ := h
    cases h
    exact ⟨hl, (dx_kt_cons.mp (dx_kt_cons.mp ht).2).2⟩
  | goto off =>
    replace h : dx_jp pc off (fun t => some (t, lv, st)) = some r := h
    replace h := dx_jp_e h
    obtain ⟨t, -, h⟩ := h
    cases h
    exact ⟨hl, ht⟩
  | tableswitch d lo hi offs =>
    replace h := dx_i1_e h
    obtain ⟨x, q, rfl, h⟩ := h
    split at h
    case isFalse => cases h
    replace h := dx_jp_e h
    obtain ⟨t, -, h⟩ := h
    cases h
    exact ⟨hl, (dx_kt_cons.mp ht).2⟩
  | lookupswitch d ps =>
    replace h := dx_i1_e h
    obtain ⟨x, q, rfl, h⟩ := h
    split at h
    case isFalse => cases h
    replace h := dx_jp_e h
    obtain ⟨t, -, h⟩ := h
    cases h
    exact ⟨hl, (dx_kt_cons.mp ht).2⟩
  | _ => cases h
theorem dx_ks_set {n : Nat} {σ : dx_S} {a : Nat} {x : dx_E} (h : dx_ks n σ) (hx : dx_ke n x) : dx_ks n (σ.set a x) := fun y hy => by
  rcases List.mem_or_eq_of_mem_set hy with h1 | rfl
  · exact h y h1
  · exact hx
/-- no constant names a cell -/
def dx_kK (K : dx_S) : Prop := ∀ x ∈ K, dx_ke 0 x
theorem dx_b_ok {K σ : dx_S} {x : dx_I} {pc : Nat} {lv : dx_L} {st : List Value} {r : dx_R} {n : Nat} (h : dx_b K x pc lv st σ = some r) (hK : dx_kK K) (hc : dx_kv 0 x.2.2.2.2) (hs : dx_ks n σ) (ht : dx_kt n st) : r.2.1 = lv ∧ dx_kt n r.2.2 := by
  obtain ⟨i, xa, xb, xf, xv⟩ := x
  cases i with
  | getfield k =>
    replace h := dx_v1_e h
    obtain ⟨o, q, rfl, h⟩ := h
    replace h := dx_ob_e h
    obtain ⟨v, hv, h⟩ := h
    cases h
    refine ⟨rfl, dx_kt_cons.mpr ⟨?_, (dx_kt_cons.mp ht).2⟩⟩
    rcases dx_gf_e hv with ⟨a, fs, rfl, g1, g2⟩ | ⟨a, fs, rfl, g1, g2⟩
    · exact hs _ (List.mem_of_getElem? g1) v (List.mem_of_getElem? g2)
    · exact dx_kv_le (Nat.zero_le _) (hK _ (List.mem_of_getElem? g1) v (List.mem_of_getElem? g2))
  | iaload =>
    replace h := dx_iv_e h
    obtain ⟨i, o, q, rfl, h⟩ := h
    replace h := dx_ob_e h
    obtain ⟨v, hv, h⟩ := h
    cases h
    exact ⟨rfl, dx_kt_cons.mpr ⟨trivial, (dx_kt_cons.mp (dx_kt_cons.mp ht).2).2⟩⟩
  | caload =>
    replace h := dx_iv_e h
    obtain ⟨i, o, q, rfl, h⟩ := h
    replace h := dx_ob_e h
    obtain ⟨v, hv, h⟩ := h
    cases h
    exact ⟨rfl, dx_kt_cons.mpr ⟨trivial, (dx_kt_cons.mp (dx_kt_cons.mp ht).2).2⟩⟩
  | baload =>
    replace h := dx_iv_e h
    obtain ⟨i, o, q, rfl, h⟩ := h
    replace h := dx_ob_e h
    obtain ⟨v, hv, h⟩ := h
    cases h
    exact ⟨rfl, dx_kt_cons.mpr ⟨trivial, (dx_kt_cons.mp (dx_kt_cons.mp ht).2).2⟩⟩
  | laload =>
    replace h := dx_iv_e h
    obtain ⟨i, o, q, rfl, h⟩ := h
    replace h := dx_ob_e h
    obtain ⟨v, hv, h⟩ := h
    cases h
    exact ⟨rfl, dx_kt_cons.mpr ⟨trivial, (dx_kt_cons.mp (dx_kt_cons.mp ht).2).2⟩⟩
  | arraylength =>
    replace h := dx_v1_e h
    obtain ⟨o, q, rfl, h⟩ := h
    replace h := dx_ob_e h
    obtain ⟨v, hv, h⟩ := h
    cases h
    exact ⟨rfl, dx_kt_cons.mpr ⟨trivial, (dx_kt_cons.mp ht).2⟩⟩
  | getstatic k =>
    cases h
    exact ⟨rfl, dx_kt_cons.mpr ⟨dx_kv_le (Nat.zero_le _) hc, ht⟩⟩
  | ldc k =>
    cases h
    exact ⟨rfl, dx_kt_cons.mpr ⟨dx_kv_le (Nat.zero_le _) hc, ht⟩⟩
  | ldc2_w k =>
    cases h
    exact ⟨rfl, dx_kt_cons.mpr ⟨dx_kv_le (Nat.zero_le _) hc, ht⟩⟩
  | ldc_w k =>
    cases h
    exact ⟨rfl, dx_kt_cons.mpr ⟨dx_kv_le (Nat.zero_le _) hc, ht⟩⟩
  | _ => cases h
theorem dx_c_ok {σ σ' : dx_S} {x : dx_I} {pc : Nat} {lv : dx_L} {st : List Value} {r : dx_R} {n : Nat} (h : dx_c x pc lv st σ = some (r, σ')) (hs : dx_ks n σ) (ht : dx_kt n st) : r.2.1 = lv ∧ dx_kt n r.2.2 ∧ dx_ks n σ' ∧ σ'.length = σ.length := by
  obtain ⟨i, xa, xb, xf, xv⟩ := x
  cases i with
  | putfield k =>
    replace h := dx_v2_e h
    obtain ⟨v, o, q, rfl, h⟩ := h
    replace h := dx_ob_e h
    obtain ⟨σ1, hv, h⟩ := h
    cases h
    simp only [dx_kt_cons] at ht
    obtain ⟨a, fs, rfl, g1, g2, g3, rfl⟩ := dx_pf_e hv
    refine ⟨rfl, ht.2.2, dx_ks_set hs fun w hw => ?_, List.length_set⟩
    rcases List.mem_or_eq_of_mem_set hw with h1 | rfl
    · exact hs _ (List.mem_of_getElem? g1) w h1
    · exact ht.1
  | iastore =>
    replace h := dx_iiv_e h
    obtain ⟨v, i, o, q, rfl, h⟩ := h
    replace h := dx_ob_e h
    obtain ⟨σ1, hv, h⟩ := h
    cases h
    simp only [dx_kt_cons] at ht
    obtain ⟨a, n1, f, rfl, g1, g2, rfl⟩ := dx_pi_e hv
    exact ⟨rfl, ht.2.2.2, dx_ks_set hs trivial, List.length_set⟩
  | castore =>
    replace h := dx_iiv_e h
    obtain ⟨v, i, o, q, rfl, h⟩ := h
    replace h := dx_ob_e h
    obtain ⟨σ1, hv, h⟩ := h
    cases h
    simp only [dx_kt_cons] at ht
    obtain ⟨a, n1, f, rfl, g1, g2, rfl⟩ := dx_pi_e hv
    exact ⟨rfl, ht.2.2.2, dx_ks_set hs trivial, List.length_set⟩
  | lastore =>
    replace h := dx_liv_e h
    obtain ⟨v, i, o, q, rfl, h⟩ := h
    replace h := dx_ob_e h
    obtain ⟨σ1, hv, h⟩ := h
    cases h
    simp only [dx_kt_cons] at ht
    obtain ⟨a, n1, f, rfl, g1, g2, rfl⟩ := dx_pl_e hv
    exact ⟨rfl, ht.2.2.2, dx_ks_set hs trivial, List.length_set⟩
  | _ => cases h
