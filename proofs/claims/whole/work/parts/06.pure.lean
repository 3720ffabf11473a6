-- steps that leave the heap alone
section ZP
variable {p : Program} {l : Launch} {e : Env} {R : Room} {s : State} {m : MethodId} {args : Array Value} {below : List Frame} {meth : Method} {c : Code} {H : Heap} {locs : List Loc} {cells slots : Nat} {Q : State → Prop}
variable {cc : ByteArray} {own : String} {sa b nL pc n a0 b0 w0 : Nat} {ini : Bool} {kv : Value} {lv : List (Nat × Value)} {st : List Value} {ls : Array Slot} {q : zS}
set_option maxHeartbeats 4000000 in
theorem zp_s {i : Jvm.ClassFile.Instr} (hx : p.tables.exec = Jvm.exec) (hb : c.code = cc) (hown : s.vm.findClass own = some m.cls) (hts : ∀ w ∈ zlw, w.before args s = true)
    (hd : decode cc pc = .ok (i, zlen i n)) (hk : zlnk own nL ini i a0 b0 w0 kv = true) (hl : lv_has ls nL (lv.map (ztl sa b))) (h : zp i kv pc lv st = some q)
    (kk : ∀ ls', lv_has ls' nL (q.2.1.map (ztl sa b)) → W p l e R s m args below meth c H locs cells slots Q (F0 m q.1 ls' (q.2.2.map (zt sa b)))) :
    W p l e R s m args below meth c H locs cells slots Q (F0 m pc ls (st.map (zt sa b))) := by
  cases i with
  | iconst k => obtain rfl := Option.some.inj h; exact lv_iconst hx hb hd rfl (kk ls hl)
  | bipush k => obtain rfl := Option.some.inj h; exact lv_bipush hx hb hd rfl (kk ls hl)
  | sipush k => obtain rfl := Option.some.inj h; exact lv_sipush hx hb hd rfl (kk ls hl)
  | lconst k => obtain rfl := Option.some.inj h; exact lv_lconst hx hb hd rfl (kk ls hl)
  | aconst_null => obtain rfl := Option.some.inj h; exact lv_null hx hb hd (kk ls hl)
  | ldc k =>
    obtain ⟨x, rfl, rfl⟩ := zki_inv h
    have hk : decide (lw_tbl[w0]? = some (Cond.constant own k x)) = true := hk
    exact lv_ldc hx hb hown (hts _ (zmm (of_decide_eq_true hk) rfl)) hd (kk ls hl)
  | ldc_w k =>
    obtain ⟨x, rfl, rfl⟩ := zki_inv h
    have hk : decide (lw_tbl[w0]? = some (Cond.constant own k x)) = true := hk
    exact lv_ldcw hx hb hown (hts _ (zmm (of_decide_eq_true hk) rfl)) hd (kk ls hl)
  | ldc2_w k =>
    obtain ⟨x, rfl, rfl⟩ := zkl_inv h
    have hk : decide (lw_tbl[w0]? = some (Cond.constantLong own k x)) = true := hk
    exact lv_ldc2 hx hb hown (hts _ (zmm (of_decide_eq_true hk) rfl)) hd (kk ls hl)
  | iload k => obtain ⟨x, hg, rfl⟩ := zld0_inv h; exact lv_iload hx hb hd (zgl_at hl hg) (kk ls hl)
  | iload_n k => obtain ⟨x, hg, rfl⟩ := zld0_inv h; exact lv_iload_n hx hb hd rfl (zgl_at hl hg) (kk ls hl)
  | lload k => obtain ⟨x, hg, rfl⟩ := zld1_inv h; exact lv_lload hx hb hd (zgl_at hl hg) (kk ls hl)
  | lload_n k => obtain ⟨x, hg, rfl⟩ := zld1_inv h; exact lv_lload_n hx hb hd rfl (zgl_at hl hg) (kk ls hl)
  | aload k =>
    obtain ⟨v, hg, rfl, hv⟩ := zld2_inv h
    rcases hv with ⟨x, rfl⟩ | rfl | ⟨x, rfl⟩
    · exact lv_aload hx hb hd (zgl_at hl hg) (kk ls hl)
    · exact lv_aloadN hx hb hd (zgl_at hl hg) (kk ls hl)
    · exact lv_aload hx hb hd (zgl_at hl hg) (kk ls hl)
  | aload_n k =>
    obtain ⟨v, hg, rfl, hv⟩ := zld2_inv h
    rcases hv with ⟨x, rfl⟩ | rfl | ⟨x, rfl⟩
    · exact lv_aload_n hx hb hd rfl (zgl_at hl hg) (kk ls hl)
    · exact lv_aload_nN hx hb hd rfl (zgl_at hl hg) (kk ls hl)
    · exact lv_aload_n hx hb hd rfl (zgl_at hl hg) (kk ls hl)
  | istore k => obtain ⟨x, r, rfl, rfl⟩ := zsi_inv h; exact lv_istore hx hb hd hl (Nat.le_of_ble_eq_true hk) (zst_map sa b lv k (.int x)) kk
  | istore_n k => obtain ⟨x, r, rfl, rfl⟩ := zsi_inv h; exact lv_istore_n hx hb hd rfl hl (Nat.le_of_ble_eq_true hk) (zst_map sa b lv k.val (.int x)) kk
  | lstore k => obtain ⟨x, r, rfl, rfl⟩ := zsl_inv h; exact lv_lstore hx hb hd hl (Nat.le_of_ble_eq_true hk) (zst2_map sa b lv k (.long x)) kk
  | lstore_n k => obtain ⟨x, r, rfl, rfl⟩ := zsl_inv h; exact lv_lstore_n hx hb hd rfl hl (Nat.le_of_ble_eq_true hk) (zst2_map sa b lv k.val (.long x)) kk
  | astore k =>
    obtain ⟨r, hq⟩ := zsa_inv h
    rcases hq with ⟨x, rfl, rfl⟩ | ⟨rfl, rfl⟩
    · exact lv_astore hx hb hd hl (Nat.le_of_ble_eq_true hk) (zst_map sa b lv k (.ref x)) kk
    · exact lv_astoreN hx hb hd hl (Nat.le_of_ble_eq_true hk) (zst_map sa b lv k .null) kk
  | astore_n k =>
    obtain ⟨r, hq⟩ := zsa_inv h
    rcases hq with ⟨x, rfl, rfl⟩ | ⟨rfl, rfl⟩
    · exact lv_astore_n hx hb hd rfl hl (Nat.le_of_ble_eq_true hk) (zst_map sa b lv k.val (.ref x)) kk
    · exact lv_astore_nN hx hb hd rfl hl (Nat.le_of_ble_eq_true hk) (zst_map sa b lv k.val .null) kk
  | iinc k d =>
    obtain ⟨x, hg, rfl⟩ := zinc_inv h
    obtain ⟨k0, hk0⟩ := List.getElem?_of_mem (List.mem_map.mpr ⟨(k, .int x), zgl_mem hg, rfl⟩ : (k, Value.int x) ∈ lv.map (ztl sa b))
    exact lv_iinc hx hb hd hl hk0 rfl (Nat.le_of_ble_eq_true hk) (zst_map sa b lv k (.int (x + Int32.ofInt d))) kk
  | iadd => obtain ⟨x, y, r, rfl, rfl⟩ := zi2_inv h; exact lv_iadd hx hb hd (kk ls hl)
  | isub => obtain ⟨x, y, r, rfl, rfl⟩ := zi2_inv h; exact lv_isub hx hb hd (kk ls hl)
  | imul => obtain ⟨x, y, r, rfl, rfl⟩ := zi2_inv h; exact lv_imul hx hb hd (kk ls hl)
  | iand => obtain ⟨x, y, r, rfl, rfl⟩ := zi2_inv h; exact lv_iand hx hb hd (kk ls hl)
  | ior => obtain ⟨x, y, r, rfl, rfl⟩ := zi2_inv h; exact lv_ior hx hb hd (kk ls hl)
  | ixor => obtain ⟨x, y, r, rfl, rfl⟩ := zi2_inv h; exact lv_ixor hx hb hd (kk ls hl)
  | ishl => obtain ⟨x, y, r, rfl, rfl⟩ := zi2_inv h; exact lv_ishl hx hb hd (kk ls hl)
  | ishr => obtain ⟨x, y, r, rfl, rfl⟩ := zi2_inv h; exact lv_ishr hx hb hd (kk ls hl)
  | iushr => obtain ⟨x, y, r, rfl, rfl⟩ := zi2_inv h; exact lv_iushr hx hb hd rfl (kk ls hl)
  | ladd => obtain ⟨x, y, r, rfl, rfl⟩ := zl2_inv h; exact lv_ladd hx hb hd (kk ls hl)
  | lsub => obtain ⟨x, y, r, rfl, rfl⟩ := zl2_inv h; exact lv_lsub hx hb hd (kk ls hl)
  | lmul => obtain ⟨x, y, r, rfl, rfl⟩ := zl2_inv h; exact lv_lmul hx hb hd (kk ls hl)
  | land => obtain ⟨x, y, r, rfl, rfl⟩ := zl2_inv h; exact lv_land hx hb hd (kk ls hl)
  | lor => obtain ⟨x, y, r, rfl, rfl⟩ := zl2_inv h; exact lv_lor hx hb hd (kk ls hl)
  | lcmp => obtain ⟨x, y, r, rfl, rfl⟩ := zl2_inv h; exact W.lcmp hx hb hd (kk ls hl)
  | idiv => obtain ⟨x, y, r, rfl, hne, rfl⟩ := zdv_inv h; exact lv_idiv hx hb hd hne (kk ls hl)
  | irem => obtain ⟨x, y, r, rfl, hne, rfl⟩ := zdv_inv h; exact lv_irem hx hb hd hne (kk ls hl)
  | ldiv => obtain ⟨x, y, r, rfl, hne, rfl⟩ := zdvl_inv h; exact lv_ldiv hx hb hd hne (kk ls hl)
  | lrem => obtain ⟨x, y, r, rfl, hne, rfl⟩ := zdvl_inv h; exact lv_lrem hx hb hd hne (kk ls hl)
  | ineg => obtain ⟨x, r, rfl, rfl⟩ := zi1_inv h; exact lv_ineg hx hb hd (kk ls hl)
  | i2l => obtain ⟨x, r, rfl, rfl⟩ := zi1_inv h; exact lv_i2l hx hb hd rfl (kk ls hl)
  | i2b => obtain ⟨x, r, rfl, rfl⟩ := zi1_inv h; exact lv_i2b hx hb hd rfl (kk ls hl)
  | lneg => obtain ⟨x, r, rfl, rfl⟩ := zl1_inv h; exact lv_lneg hx hb hd (kk ls hl)
  | l2i => obtain ⟨x, r, rfl, rfl⟩ := zl1_inv h; exact lv_l2i hx hb hd rfl (kk ls hl)
  | dup => obtain ⟨v, r, rfl, hv, rfl⟩ := zd0_inv h; exact lv_dup hx hb hd (zone_cat hv) (kk ls hl)
  | dup_x1 => obtain ⟨v, w, r, rfl, hv, hw, rfl⟩ := zdx1_inv h; exact lv_dup_x1 hx hb hd (zone_cat hv) (zone_cat hw) (kk ls hl)
  | dup_x2 => obtain ⟨v, w, u, r, rfl, hv, hw, hu, rfl⟩ := zdx2_inv h; exact lv_dup_x2 hx hb hd (zone_cat hv) (zone_cat hw) (zone_cat hu) (kk ls hl)
  | dup2 => obtain ⟨v, w, r, rfl, hv, hw, rfl⟩ := zd2_inv h; exact lv_dup2_11 hx hb hd (zone_cat hv) (zone_cat hw) (kk ls hl)
  | pop => obtain ⟨v, r, rfl, hv, rfl⟩ := zpo_inv h; exact lv_pop hx hb hd (zone_cat hv) (kk ls hl)
  | goto off => obtain ⟨t, ht, rfl⟩ := zgo_inv h; exact lv_goto hx hb hd ht (kk ls hl)
  | ifCond cnd off =>
    obtain ⟨x, r, rfl, hz⟩ := zb1_inv h
    obtain ⟨t, ht, hq⟩ := zbr_inv hz
    cases cnd
    · refine lv_if_eq hx hb hd ht (fun hc => ?_) (fun hc => ?_) <;> rcases hq with ⟨hT, rfl⟩ | ⟨hT, rfl⟩ <;> first | exact kk ls hl | exact absurd hc (of_decide_eq_false hT) | exact absurd (of_decide_eq_true hT) hc | exact absurd hc (of_decide_eq_true hT)
    · refine lv_if_ne hx hb hd ht (fun hc => ?_) (fun hc => ?_) <;> rcases hq with ⟨hT, rfl⟩ | ⟨hT, rfl⟩ <;> first | exact kk ls hl | exact absurd hc (of_decide_eq_false hT) | exact absurd (of_decide_eq_true hT) hc | exact absurd hc (of_decide_eq_true hT)
    · refine lv_if_lt hx hb hd ht (fun hc => ?_) (fun hc => ?_) <;> rcases hq with ⟨hT, rfl⟩ | ⟨hT, rfl⟩ <;> first | exact kk ls hl | exact absurd hc (of_decide_eq_false hT) | exact absurd (of_decide_eq_true hT) hc | exact absurd hc (of_decide_eq_true hT)
    · refine lv_if_ge hx hb hd ht (fun hc => ?_) (fun hc => ?_) <;> rcases hq with ⟨hT, rfl⟩ | ⟨hT, rfl⟩ <;> first | exact kk ls hl | exact absurd hc (of_decide_eq_false hT) | exact absurd (of_decide_eq_true hT) hc | exact absurd hc (of_decide_eq_true hT)
    · refine lv_if_gt hx hb hd ht (fun hc => ?_) (fun hc => ?_) <;> rcases hq with ⟨hT, rfl⟩ | ⟨hT, rfl⟩ <;> first | exact kk ls hl | exact absurd hc (of_decide_eq_false hT) | exact absurd (of_decide_eq_true hT) hc | exact absurd hc (of_decide_eq_true hT)
    · refine lv_if_le hx hb hd ht (fun hc => ?_) (fun hc => ?_) <;> rcases hq with ⟨hT, rfl⟩ | ⟨hT, rfl⟩ <;> first | exact kk ls hl | exact absurd hc (of_decide_eq_false hT) | exact absurd (of_decide_eq_true hT) hc | exact absurd hc (of_decide_eq_true hT)
  | if_icmp cnd off =>
    obtain ⟨x, y, r, rfl, hz⟩ := zb2_inv h
    obtain ⟨t, ht, hq⟩ := zbr_inv hz
    cases cnd
    · refine lv_icmp_eq hx hb hd ht (fun hc => ?_) (fun hc => ?_) <;> rcases hq with ⟨hT, rfl⟩ | ⟨hT, rfl⟩ <;> first | exact kk ls hl | exact absurd hc (of_decide_eq_false hT) | exact absurd (of_decide_eq_true hT) hc | exact absurd hc (of_decide_eq_true hT)
    · refine lv_icmp_ne hx hb hd ht (fun hc => ?_) (fun hc => ?_) <;> rcases hq with ⟨hT, rfl⟩ | ⟨hT, rfl⟩ <;> first | exact kk ls hl | exact absurd hc (of_decide_eq_false hT) | exact absurd (of_decide_eq_true hT) hc | exact absurd hc (of_decide_eq_true hT)
    · refine lv_icmp_lt hx hb hd ht (fun hc => ?_) (fun hc => ?_) <;> rcases hq with ⟨hT, rfl⟩ | ⟨hT, rfl⟩ <;> first | exact kk ls hl | exact absurd hc (of_decide_eq_false hT) | exact absurd (of_decide_eq_true hT) hc | exact absurd hc (of_decide_eq_true hT)
    · refine lv_icmp_ge hx hb hd ht (fun hc => ?_) (fun hc => ?_) <;> rcases hq with ⟨hT, rfl⟩ | ⟨hT, rfl⟩ <;> first | exact kk ls hl | exact absurd hc (of_decide_eq_false hT) | exact absurd (of_decide_eq_true hT) hc | exact absurd hc (of_decide_eq_true hT)
    · refine lv_icmp_gt hx hb hd ht (fun hc => ?_) (fun hc => ?_) <;> rcases hq with ⟨hT, rfl⟩ | ⟨hT, rfl⟩ <;> first | exact kk ls hl | exact absurd hc (of_decide_eq_false hT) | exact absurd (of_decide_eq_true hT) hc | exact absurd hc (of_decide_eq_true hT)
    · refine lv_icmp_le hx hb hd ht (fun hc => ?_) (fun hc => ?_) <;> rcases hq with ⟨hT, rfl⟩ | ⟨hT, rfl⟩ <;> first | exact kk ls hl | exact absurd hc (of_decide_eq_false hT) | exact absurd (of_decide_eq_true hT) hc | exact absurd hc (of_decide_eq_true hT)
  | ifnull off =>
    obtain ⟨r, hq⟩ := zbn_inv h
    rcases hq with ⟨rfl, hz⟩ | ⟨k, rfl, hz⟩ <;> obtain ⟨t, ht, hq⟩ := zbr_inv hz <;> rcases hq with ⟨hT, rfl⟩ | ⟨hT, rfl⟩
    · exact lv_ifnullN hx hb hd ht (kk ls hl)
    · cases hT
    · cases hT
    · exact lv_ifnull hx hb hd (kk ls hl)
  | ifnonnull off =>
    obtain ⟨r, hq⟩ := zbn_inv h
    rcases hq with ⟨rfl, hz⟩ | ⟨k, rfl, hz⟩ <;> obtain ⟨t, ht, hq⟩ := zbr_inv hz <;> rcases hq with ⟨hT, rfl⟩ | ⟨hT, rfl⟩
    · cases hT
    · exact lv_ifnonnullN hx hb hd (kk ls hl)
    · exact lv_ifnonnull hx hb hd ht (kk ls hl)
    · cases hT
  | tableswitch d lo hi offs =>
    obtain ⟨x, r, rfl, hq⟩ := ztsw_inv h
    rcases hq with ⟨ho, hg⟩ | ⟨h1, h2, off, ho, hg⟩
    · obtain ⟨t, ht, rfl⟩ := zgo_inv hg; exact lv_tableOut hx hb hd ho ht (kk ls hl)
    · obtain ⟨t, ht, rfl⟩ := zgo_inv hg; exact lv_tableIn hx hb hd h1 h2 ho ht (kk ls hl)
  | _ => exact znq h
end ZP
