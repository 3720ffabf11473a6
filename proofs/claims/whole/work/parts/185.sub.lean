-- locals that are not needed may be forgotten
def znd (lv : List (Nat × Value)) : Prop := lv.Pairwise (fun p q => p.1 ≠ q.1)
def zsub (l1 l2 : List (Nat × Value)) : Prop := (∀ q ∈ l1, q ∈ l2) ∧ znd l2
theorem zgl_of {i : Nat} {v : Value} : ∀ {lv : List (Nat × Value)}, znd lv → (i, v) ∈ lv → zgl lv i = some v
  | [], _, h => by cases h
  | q :: r, hn, h => by
    have hp := List.pairwise_cons.mp hn
    unfold zgl
    rcases List.mem_cons.mp h with e | e
    · rw [← e]
      simp [Nat.beq_refl]
    · have hne : q.1 ≠ i := hp.1 _ e
      have hb : Nat.beq q.1 i = false := by
        cases hc : Nat.beq q.1 i with
        | false => rfl
        | true => exact absurd (Nat.eq_of_beq_eq_true hc) hne
      rw [hb]
      exact zgl_of hp.2 e
theorem zsub_get {l1 l2 : List (Nat × Value)} {i : Nat} {v : Value} (h : zsub l1 l2) (hg : zgl l1 i = some v) : zgl l2 i = some v := zgl_of h.2 (h.1 _ (zgl_mem hg))
theorem zsub_cons {l1 l2 : List (Nat × Value)} {i : Nat} {v : Value} {p : Nat × Value → Bool} (h : zsub l1 l2) (hp : ∀ q, p q = true → q.1 ≠ i) : zsub ((i, v) :: l1.filter p) ((i, v) :: l2.filter p) := by
  refine ⟨fun q hq => ?_, ?_⟩
  · rcases List.mem_cons.mp hq with e | e
    · rw [e]; exact List.mem_cons_self
    · have h1 := List.mem_filter.mp e
      exact List.mem_cons_of_mem _ (List.mem_filter.mpr ⟨h.1 _ h1.1, h1.2⟩)
  · refine List.pairwise_cons.mpr ⟨fun q hq => ?_, List.Pairwise.filter p h.2⟩
    exact fun e => hp q (List.mem_filter.mp hq).2 e.symm
theorem zsub_st {l1 l2 : List (Nat × Value)} {i : Nat} {v : Value} (h : zsub l1 l2) : zsub (zst l1 i v) (zst l2 i v) := zsub_cons h (fun q hq e => by simp [e] at hq)
theorem zsub_st2 {l1 l2 : List (Nat × Value)} {i : Nat} {v : Value} (h : zsub l1 l2) : zsub (zst2 l1 i v) (zst2 l2 i v) := zsub_cons h (fun q hq e => by simp [e] at hq)
theorem zbr_sub {c : Bool} {pc : Nat} {off : Int} {l1 l2 : List (Nat × Value)} {r : List Value} {q : zS} (hs : zsub l1 l2) (h : zbr c pc off l1 r = some q) : ∃ l2', zbr c pc off l2 r = some (q.1, l2', q.2.2) ∧ zsub q.2.1 l2' := by
  unfold zbr at h ⊢
  split at h
  · cases h
  · split at h
    · obtain rfl := Option.some.inj h; exact ⟨l2, rfl, hs⟩
    · obtain rfl := Option.some.inj h; exact ⟨l2, rfl, hs⟩
theorem zgo_sub {pc : Nat} {off : Int} {l1 l2 : List (Nat × Value)} {r : List Value} {q : zS} (hs : zsub l1 l2) (h : zgo pc off l1 r = some q) : ∃ l2', zgo pc off l2 r = some (q.1, l2', q.2.2) ∧ zsub q.2.1 l2' := by
  unfold zgo at h ⊢
  split at h
  · cases h
  · obtain rfl := Option.some.inj h; exact ⟨l2, rfl, hs⟩
/-- the same step with more locals -/
theorem zp_sub {i : Jvm.ClassFile.Instr} {kv : Value} {pc : Nat} {l1 l2 : List (Nat × Value)} {st : List Value} {q : zS} (hs : zsub l1 l2) (h : zp i kv pc l1 st = some q) : ∃ l2', zp i kv pc l2 st = some (q.1, l2', q.2.2) ∧ zsub q.2.1 l2' := by
  cases i with
  | iconst k => obtain rfl := Option.some.inj h; exact ⟨l2, rfl, hs⟩
  | bipush k => obtain rfl := Option.some.inj h; exact ⟨l2, rfl, hs⟩
  | sipush k => obtain rfl := Option.some.inj h; exact ⟨l2, rfl, hs⟩
  | lconst k => obtain rfl := Option.some.inj h; exact ⟨l2, rfl, hs⟩
  | aconst_null => obtain rfl := Option.some.inj h; exact ⟨l2, rfl, hs⟩
  | ldc k => obtain ⟨x, rfl, rfl⟩ := zki_inv h; exact ⟨l2, rfl, hs⟩
  | ldc_w k => obtain ⟨x, rfl, rfl⟩ := zki_inv h; exact ⟨l2, rfl, hs⟩
  | ldc2_w k => obtain ⟨x, rfl, rfl⟩ := zkl_inv h; exact ⟨l2, rfl, hs⟩
  | iload k => obtain ⟨x, hg, rfl⟩ := zld0_inv h; exact ⟨l2, by show zld 0 (pc + 2) l2 st k = _; simp [zld, zsub_get hs hg], hs⟩
  | iload_n k => obtain ⟨x, hg, rfl⟩ := zld0_inv h; exact ⟨l2, by show zld 0 (pc + 1) l2 st k.val = _; simp [zld, zsub_get hs hg], hs⟩
  | lload k => obtain ⟨x, hg, rfl⟩ := zld1_inv h; exact ⟨l2, by show zld 1 (pc + 2) l2 st k = _; simp [zld, zsub_get hs hg], hs⟩
  | lload_n k => obtain ⟨x, hg, rfl⟩ := zld1_inv h; exact ⟨l2, by show zld 1 (pc + 1) l2 st k.val = _; simp [zld, zsub_get hs hg], hs⟩
  | aload k =>
    obtain ⟨v, hg, rfl, hv⟩ := zld2_inv h
    refine ⟨l2, ?_, hs⟩
    show zld 2 (pc + 2) l2 st k = _
    rcases hv with ⟨x, rfl⟩ | rfl | ⟨x, rfl⟩ <;> simp [zld, zsub_get hs hg]
  | aload_n k =>
    obtain ⟨v, hg, rfl, hv⟩ := zld2_inv h
    refine ⟨l2, ?_, hs⟩
    show zld 2 (pc + 1) l2 st k.val = _
    rcases hv with ⟨x, rfl⟩ | rfl | ⟨x, rfl⟩ <;> simp [zld, zsub_get hs hg]
  | istore k => obtain ⟨x, r, rfl, rfl⟩ := zsi_inv h; exact ⟨_, rfl, zsub_st hs⟩
  | istore_n k => obtain ⟨x, r, rfl, rfl⟩ := zsi_inv h; exact ⟨_, rfl, zsub_st hs⟩
  | lstore k => obtain ⟨x, r, rfl, rfl⟩ := zsl_inv h; exact ⟨_, rfl, zsub_st2 hs⟩
  | lstore_n k => obtain ⟨x, r, rfl, rfl⟩ := zsl_inv h; exact ⟨_, rfl, zsub_st2 hs⟩
  | astore k =>
    obtain ⟨r, hq⟩ := zsa_inv h
    rcases hq with ⟨x, rfl, rfl⟩ | ⟨rfl, rfl⟩ <;> exact ⟨_, rfl, zsub_st hs⟩
  | astore_n k =>
    obtain ⟨r, hq⟩ := zsa_inv h
    rcases hq with ⟨x, rfl, rfl⟩ | ⟨rfl, rfl⟩ <;> exact ⟨_, rfl, zsub_st hs⟩
  | iinc k d => obtain ⟨x, hg, rfl⟩ := zinc_inv h; exact ⟨_, by show zinc (pc + 3) l2 st k d = _; simp [zinc, zsub_get hs hg], zsub_st hs⟩
  | iadd => obtain ⟨x, y, r, rfl, rfl⟩ := zi2_inv h; exact ⟨l2, rfl, hs⟩
  | isub => obtain ⟨x, y, r, rfl, rfl⟩ := zi2_inv h; exact ⟨l2, rfl, hs⟩
  | imul => obtain ⟨x, y, r, rfl, rfl⟩ := zi2_inv h; exact ⟨l2, rfl, hs⟩
  | iand => obtain ⟨x, y, r, rfl, rfl⟩ := zi2_inv h; exact ⟨l2, rfl, hs⟩
  | ior => obtain ⟨x, y, r, rfl, rfl⟩ := zi2_inv h; exact ⟨l2, rfl, hs⟩
  | ixor => obtain ⟨x, y, r, rfl, rfl⟩ := zi2_inv h; exact ⟨l2, rfl, hs⟩
  | ishl => obtain ⟨x, y, r, rfl, rfl⟩ := zi2_inv h; exact ⟨l2, rfl, hs⟩
  | ishr => obtain ⟨x, y, r, rfl, rfl⟩ := zi2_inv h; exact ⟨l2, rfl, hs⟩
  | iushr => obtain ⟨x, y, r, rfl, rfl⟩ := zi2_inv h; exact ⟨l2, rfl, hs⟩
  | ladd => obtain ⟨x, y, r, rfl, rfl⟩ := zl2_inv h; exact ⟨l2, rfl, hs⟩
  | lsub => obtain ⟨x, y, r, rfl, rfl⟩ := zl2_inv h; exact ⟨l2, rfl, hs⟩
  | lmul => obtain ⟨x, y, r, rfl, rfl⟩ := zl2_inv h; exact ⟨l2, rfl, hs⟩
  | land => obtain ⟨x, y, r, rfl, rfl⟩ := zl2_inv h; exact ⟨l2, rfl, hs⟩
  | lor => obtain ⟨x, y, r, rfl, rfl⟩ := zl2_inv h; exact ⟨l2, rfl, hs⟩
  | lcmp => obtain ⟨x, y, r, rfl, rfl⟩ := zl2_inv h; exact ⟨l2, rfl, hs⟩
  | idiv => obtain ⟨x, y, r, rfl, hne, rfl⟩ := zdv_inv h; exact ⟨l2, by simp [zp, zdv, hne], hs⟩
  | irem => obtain ⟨x, y, r, rfl, hne, rfl⟩ := zdv_inv h; exact ⟨l2, by simp [zp, zdv, hne], hs⟩
  | ldiv => obtain ⟨x, y, r, rfl, hne, rfl⟩ := zdvl_inv h; exact ⟨l2, by simp [zp, zdvl, hne], hs⟩
  | lrem => obtain ⟨x, y, r, rfl, hne, rfl⟩ := zdvl_inv h; exact ⟨l2, by simp [zp, zdvl, hne], hs⟩
  | ineg => obtain ⟨x, r, rfl, rfl⟩ := zi1_inv h; exact ⟨l2, rfl, hs⟩
  | i2l => obtain ⟨x, r, rfl, rfl⟩ := zi1_inv h; exact ⟨l2, rfl, hs⟩
  | i2b => obtain ⟨x, r, rfl, rfl⟩ := zi1_inv h; exact ⟨l2, rfl, hs⟩
  | lneg => obtain ⟨x, r, rfl, rfl⟩ := zl1_inv h; exact ⟨l2, rfl, hs⟩
  | l2i => obtain ⟨x, r, rfl, rfl⟩ := zl1_inv h; exact ⟨l2, rfl, hs⟩
  | dup => obtain ⟨v, r, rfl, hv, rfl⟩ := zd0_inv h; exact ⟨l2, by simp [zp, zd0, hv], hs⟩
  | dup_x1 => obtain ⟨v, w, r, rfl, hv, hw, rfl⟩ := zdx1_inv h; exact ⟨l2, by simp [zp, zdx1, hv, hw], hs⟩
  | dup_x2 => obtain ⟨v, w, u, r, rfl, hv, hw, hu, rfl⟩ := zdx2_inv h; exact ⟨l2, by simp [zp, zdx2, hv, hw, hu], hs⟩
  | dup2 => obtain ⟨v, w, r, rfl, hv, hw, rfl⟩ := zd2_inv h; exact ⟨l2, by simp [zp, zd2, hv, hw], hs⟩
  | pop => obtain ⟨v, r, rfl, hv, rfl⟩ := zpo_inv h; exact ⟨l2, by simp [zp, zpo, hv], hs⟩
  | goto off => exact zgo_sub hs (show zgo pc off l1 st = some q from h)
  | ifCond c off =>
    obtain ⟨x, r, rfl, hz⟩ := zb1_inv h
    exact zbr_sub hs hz
  | if_icmp c off =>
    obtain ⟨x, y, r, rfl, hz⟩ := zb2_inv h
    exact zbr_sub hs hz
  | ifnull off =>
    obtain ⟨r, hq⟩ := zbn_inv h
    rcases hq with ⟨rfl, hz⟩ | ⟨k, rfl, hz⟩ <;> exact zbr_sub hs hz
  | ifnonnull off =>
    obtain ⟨r, hq⟩ := zbn_inv h
    rcases hq with ⟨rfl, hz⟩ | ⟨k, rfl, hz⟩ <;> exact zbr_sub hs hz
  | tableswitch d lo hi offs =>
    obtain ⟨x, r, rfl, hq⟩ := ztsw_inv h
    rcases hq with ⟨ho, hg⟩ | ⟨h1, h2, off, ho, hg⟩
    · obtain ⟨l2', e, e2⟩ := zgo_sub hs hg
      refine ⟨l2', ?_, e2⟩
      show ztsw pc d lo hi offs l2 (.int x :: r) = _
      rw [← e]
      rcases ho with ho | ho <;> simp [ztsw, ho]
    · obtain ⟨l2', e, e2⟩ := zgo_sub hs hg
      refine ⟨l2', ?_, e2⟩
      show ztsw pc d lo hi offs l2 (.int x :: r) = _
      rw [← e]
      simp [ztsw, h1, h2, ho]
  | _ => exact znq h
theorem zr_sub {i : Jvm.ClassFile.Instr} {a b pc : Nat} {xs : zX} {hp : List zC} {l1 l2 : List (Nat × Value)} {st : List Value} {q : zS} (hs : zsub l1 l2) (h : zr i a b xs hp pc l1 st = some q) : ∃ l2', zr i a b xs hp pc l2 st = some (q.1, l2', q.2.2) ∧ zsub q.2.1 l2' := by
  have al : ∀ t0, zal t0 xs hp (pc + 1) l1 st = some q → ∃ l2', zal t0 xs hp (pc + 1) l2 st = some (q.1, l2', q.2.2) ∧ zsub q.2.1 l2' := fun t0 hz => by
    rcases zal_inv hz with ⟨j, u, r, t, l, v, rfl, hu, ht, hin, hv, rfl⟩ | ⟨j, u, r, x, rfl, hxs, ht, hin, rfl⟩
    · exact ⟨l2, by have h1 : zin j l.length = true := decide_eq_true hin; simp [zal, hu, ht, h1, hv], hs⟩
    · exact ⟨l2, by have h1 : zin j x.1 = true := decide_eq_true hin; simp [zal, hxs, ht, h1], hs⟩
  cases i with
  | getfield k => obtain ⟨u, r, fs, v, rfl, hu, hv, rfl⟩ := zgf_inv (show zgf a b hp (pc + 3) l1 st = some q from h); exact ⟨l2, by simp [zr, zgf, hu, hv, Nat.beq_refl], hs⟩
  | iaload => exact al (fun t => Nat.beq t 0) h
  | baload => exact al (fun t => Nat.beq t 1) h
  | laload => exact al (fun t => Nat.beq t 2) h
  | aaload => exact al zrt h
  | arraylength =>
    rcases zle_inv (show zle xs hp (pc + 1) l1 st = some q from h) with ⟨u, r, t, l, rfl, hu, ht, rfl⟩ | ⟨u, r, x, rfl, hxs, rfl⟩
    · exact ⟨l2, by have h1 : Nat.blt t zNT = true := Nat.ble_eq_true_of_le ht; simp [zr, zle, hu, h1], hs⟩
    · exact ⟨l2, by simp [zr, zle, hxs], hs⟩
  | checkcast k => obtain ⟨u, r, l, rfl, hu, rfl⟩ := zcc_inv (show zcc hp (pc + 3) l1 st = some q from h); exact ⟨l2, by simp [zr, zcc, hu], hs⟩
  | _ => exact znq h
theorem zw_lv {i : Jvm.ClassFile.Instr} {a b pc : Nat} {hp : List zC} {l1 l2 : List (Nat × Value)} {st : List Value} {q : zS × List zC} (h : zw i a b hp pc l1 st = some q) : q.1.2.1 = l1 ∧ zw i a b hp pc l2 st = some ((q.1.1, l2, q.1.2.2), q.2) := by
  cases i with
  | putfield k =>
    obtain ⟨v, u, r, fs, rfl, hu, hbl, hf, rfl⟩ := zpf_inv (show zpf a b hp (pc + 3) l1 st = some q from h)
    refine ⟨rfl, ?_⟩
    have h1 : Nat.blt b fs.length = true := Nat.ble_eq_true_of_le hbl
    simp [zw, zpf, hu, Nat.beq_refl, h1, hf]
  | iastore =>
    obtain ⟨x, j, u, r, l, rfl, hu, hin, rfl⟩ := zis_inv (show zis hp (pc + 1) l1 st = some q from h)
    have h1 : zin j l.length = true := decide_eq_true hin
    exact ⟨rfl, by simp [zw, zis, hu, h1]⟩
  | bastore =>
    obtain ⟨x, j, u, r, l, rfl, hu, hin, rfl⟩ := zbs_inv (show zbs hp (pc + 1) l1 st = some q from h)
    have h1 : zin j l.length = true := decide_eq_true hin
    exact ⟨rfl, by simp [zw, zbs, hu, h1]⟩
  | lastore =>
    obtain ⟨x, j, u, r, l, rfl, hu, hin, rfl⟩ := zls_inv (show zls hp (pc + 1) l1 st = some q from h)
    have h1 : zin j l.length = true := decide_eq_true hin
    exact ⟨rfl, by simp [zw, zls, hu, h1]⟩
  | aastore =>
    obtain ⟨v, j, u, r, t, l, rfl, hu, hes, hin, rfl⟩ := zas_inv (show zas hp (pc + 1) l1 st = some q from h)
    have h1 : zin j l.length = true := decide_eq_true hin
    exact ⟨rfl, by simp [zw, zas, hu, hes, h1]⟩
  | _ => exact znq h
theorem zn_lv {i : Jvm.ClassFile.Instr} {a pc : Nat} {h : zH} {l1 l2 : List (Nat × Value)} {st : List Value} {q : zS × zH} (hz : zn i a h pc l1 st = some q) : q.1.2.1 = l1 ∧ zn i a h pc l2 st = some ((q.1.1, l2, q.1.2.2), q.2) := by
  have key : ∀ {d : Value} {pc' : Nat}, zna a d h pc' l1 st = some q → q.1.2.1 = l1 ∧ zna a d h pc' l2 st = some ((q.1.1, l2, q.1.2.2), q.2) := fun {d pc'} hz => by
    obtain ⟨n, r, rfl, hn, hb8, rfl⟩ := zna_inv hz
    have h1 : Nat.ble (n.toNatClampNeg * 8) 536870912 = true := Nat.ble_eq_true_of_le hb8
    have h2 : decide (¬ n < 0) = true := decide_eq_true hn
    refine ⟨rfl, ?_⟩
    unfold zna
    dsimp only
    rw [h1, h2]
    rfl
  cases i with
  | new k => obtain rfl := Option.some.inj hz; exact ⟨rfl, rfl⟩
  | newarray t =>
    cases t with
    | int => exact key (show zna a (.int 0) h (pc + 2) l1 st = some q from hz)
    | boolean => exact key (show zna a (.int 0) h (pc + 2) l1 st = some q from hz)
    | long => exact key (show zna a (.long 0) h (pc + 2) l1 st = some q from hz)
    | _ => exact znq hz
  | anewarray k => exact key (show zna a .null h (pc + 3) l1 st = some q from hz)
  | _ => exact znq hz
theorem zk_lv {mt : List zM} {call : Nat → List Value → zH → Option (Option Value × zH)} {fr lo : Nat} {i : Jvm.ClassFile.Instr} {a b pc : Nat} {h : zH} {l1 l2 : List (Nat × Value)} {st : List Value} {q : zS × zH} (hz : zk mt call fr lo i a b h pc l1 st = some q) : q.1.2.1 = l1 ∧ zk mt call fr lo i a b h pc l2 st = some ((q.1.1, l2, q.1.2.2), q.2) := by
  have key : ∀ {kind : Nat}, zcm mt call kind a h (pc + 3) l1 st = some q → q.1.2.1 = l1 ∧ zcm mt call kind a h (pc + 3) l2 st = some ((q.1.1, l2, q.1.2.2), q.2) := fun {kind} hz => by
    unfold zcm at hz ⊢
    split at hz
    · cases hz
    · split at hz
      · cases hz
      · split at hz
        · cases hz
        · split at hz
          · cases hz
          · split at hz
            · cases hz
            · obtain rfl := Option.some.inj hz
              exact ⟨rfl, rfl⟩
  have mx : ∀ f, zmx f fr lo h (pc + 3) l1 st = some q → q.1.2.1 = l1 ∧ zmx f fr lo h (pc + 3) l2 st = some ((q.1.1, l2, q.1.2.2), q.2) := fun f hz => by
    unfold zmx at hz ⊢
    split at hz
    · split at hz
      · obtain rfl := Option.some.inj hz
        exact ⟨rfl, rfl⟩
      · cases hz
    · cases hz
  cases i with
  | invokestatic k =>
    rcases b with _ | _ | _ | _ | _ | _ | b
    · exact key (show zcm mt call 0 a h (pc + 3) l1 st = some q from hz)
    · exact key (show zcm mt call 0 a h (pc + 3) l1 st = some q from hz)
    · exact znq hz
    · exact mx _ hz
    · exact mx _ hz
    · have hz : zac fr lo h (pc + 3) l1 st = some q := hz
      show q.1.2.1 = l1 ∧ zac fr lo h (pc + 3) l2 st = _
      unfold zac at hz ⊢
      split at hz
      · split at hz
        · split at hz
          · split at hz
            · obtain rfl := Option.some.inj hz
              exact ⟨rfl, rfl⟩
            · cases hz
          · cases hz
        · cases hz
      · cases hz
    · exact znq hz
  | invokevirtual k =>
    rcases b with _ | _ | b
    · exact key (show zcm mt call 1 a h (pc + 3) l1 st = some q from hz)
    · have hz : zcn fr lo h (pc + 3) l1 st = some q := hz
      show q.1.2.1 = l1 ∧ zcn fr lo h (pc + 3) l2 st = _
      unfold zcn at hz ⊢
      split at hz
      · split at hz
        · split at hz
          · obtain rfl := Option.some.inj hz
            exact ⟨rfl, rfl⟩
          · cases hz
        · cases hz
      · cases hz
    · exact znq hz
  | invokespecial k =>
    rcases b with _ | _ | _ | b
    · exact key (show zcm mt call 2 a h (pc + 3) l1 st = some q from hz)
    · exact key (show zcm mt call 2 a h (pc + 3) l1 st = some q from hz)
    · have hz : zoi fr lo h (pc + 3) l1 st = some q := hz
      show q.1.2.1 = l1 ∧ zoi fr lo h (pc + 3) l2 st = _
      unfold zoi at hz ⊢
      split at hz
      · split at hz
        · obtain rfl := Option.some.inj hz
          exact ⟨rfl, rfl⟩
        · cases hz
      · cases hz
    · exact znq hz
  | _ => exact znq hz
theorem zp_n {i : Jvm.ClassFile.Instr} {a b pc : Nat} {xs : zX} {hp : List zC} {l1 l2 : List (Nat × Value)} {st : List Value} {kv : Value} (hr : ∃ q, zr i a b xs hp pc l1 st = some q) : zp i kv pc l2 st = none := by
  obtain ⟨q, hr⟩ := hr
  cases i <;> first | rfl | exact znq hr
theorem zp_nw {i : Jvm.ClassFile.Instr} {a b pc : Nat} {xs : zX} {hp : List zC} {l1 l2 : List (Nat × Value)} {st : List Value} {kv : Value} (hr : ∃ q, zw i a b hp pc l1 st = some q) : zp i kv pc l2 st = none ∧ zr i a b xs hp pc l2 st = none := by
  obtain ⟨q, hr⟩ := hr
  cases i <;> first | exact ⟨rfl, rfl⟩ | exact znq hr
theorem zp_nn {i : Jvm.ClassFile.Instr} {a b pc : Nat} {xs : zX} {h : zH} {l1 l2 : List (Nat × Value)} {st : List Value} {kv : Value} (hr : ∃ q, zn i a h pc l1 st = some q) : zp i kv pc l2 st = none ∧ zr i a b xs h.1 pc l2 st = none ∧ zw i a b h.1 pc l2 st = none := by
  obtain ⟨q, hr⟩ := hr
  cases i <;> first | exact ⟨rfl, rfl, rfl⟩ | exact znq hr
theorem zp_nk {mt : List zM} {call : Nat → List Value → zH → Option (Option Value × zH)} {fr lo : Nat} {i : Jvm.ClassFile.Instr} {a b pc : Nat} {xs : zX} {h : zH} {l1 l2 : List (Nat × Value)} {st : List Value} {kv : Value} (hr : ∃ q, zk mt call fr lo i a b h pc l1 st = some q) : zp i kv pc l2 st = none ∧ zr i a b xs h.1 pc l2 st = none ∧ zw i a b h.1 pc l2 st = none ∧ zn i a h pc l2 st = none := by
  obtain ⟨q, hr⟩ := hr
  cases i <;> first | exact ⟨rfl, rfl, rfl, rfl⟩ | exact znq hr
theorem zstep_sub {mt : List zM} {call : Nat → List Value → zH → Option (Option Value × zH)} {fr lo : Nat} {xs : zX} {x : zE} {pc : Nat} {l1 l2 : List (Nat × Value)} {st : List Value} {h : zH} {q : zS × zH} (hs : zsub l1 l2) (hz : zstep mt call fr lo xs x (pc, l1, st) h = some q) : ∃ l2', zstep mt call fr lo xs x (pc, l2, st) h = some ((q.1.1, l2', q.1.2.2), q.2) ∧ zsub q.1.2.1 l2' := by
  rcases zstep_inv hz with ⟨s', h1, rfl⟩ | ⟨s', h1, rfl⟩ | ⟨y, h1, rfl⟩ | h1 | h1
  · obtain ⟨l2', e, e2⟩ := zp_sub hs h1
    exact ⟨l2', by unfold zstep; simp only [e], e2⟩
  · obtain ⟨l2', e, e2⟩ := zr_sub hs h1
    have e0 := zp_n (l2 := l2) (kv := xV x) ⟨_, h1⟩
    exact ⟨l2', by unfold zstep; simp only [e0, e], e2⟩
  · obtain ⟨e, e2⟩ := zw_lv (l2 := l2) h1
    obtain ⟨e0, e1⟩ := zp_nw (l2 := l2) (kv := xV x) (xs := xs) ⟨_, h1⟩
    exact ⟨l2, by unfold zstep; simp only [e0, e1, e2], by rw [show y.1.2.1 = l1 from e]; exact hs⟩
  · obtain ⟨e, e2⟩ := zn_lv (l2 := l2) h1
    obtain ⟨e0, e1, e3⟩ := zp_nn (b := xB x) (l2 := l2) (kv := xV x) (xs := xs) ⟨_, h1⟩
    exact ⟨l2, by unfold zstep; simp only [e0, e1, e3, e2], by rw [e]; exact hs⟩
  · obtain ⟨e, e2⟩ := zk_lv (l2 := l2) h1
    obtain ⟨e0, e1, e3, e4⟩ := zp_nk (l2 := l2) (kv := xV x) (xs := xs) ⟨_, h1⟩
    exact ⟨l2, by unfold zstep; simp only [e0, e1, e3, e4, e2], by rw [e]; exact hs⟩
theorem zloop_sub {mt : List zM} {call : Nat → List Value → zH → Option (Option Value × zH)} {fr lo : Nat} {xs : zX} {M : zM} {r : Option Value × zH} : ∀ {f pc : Nat} {l1 l2 : List (Nat × Value)} {st : List Value} {h : zH}, zsub l1 l2 → zloop mt call fr lo xs M f (pc, l1, st) h = some r → zloop mt call fr lo xs M f (pc, l2, st) h = some r
  | 0, pc, l1, l2, st, h, hs, hz => by cases hz
  | f + 1, pc, l1, l2, st, h, hs, hz => by
    rw [zloop] at hz ⊢
    dsimp only at hz ⊢
    split at hz
    · cases hz
    · split at hz
      · exact hz
      · split at hz
        · cases hz
        · next q hq =>
          obtain ⟨l2', e, e2⟩ := zstep_sub hs hq
          rw [e]
          exact zloop_sub e2 hz
/-- fewer locals are enough -/
theorem zeS {fr lo : Nat} {xs : zX} {M : zM} {h : zH} {r : Option Value × zH} {pc : Nat} {l2 : List (Nat × Value)} {st : List Value} (l1 : List (Nat × Value)) (hs : zsub l1 l2) (k : zRun fr lo xs M (pc, l1, st) h r) : zRun fr lo xs M (pc, l2, st) h r := by
  obtain ⟨F, hF⟩ := k
  exact ⟨F, zloop_sub hs hF⟩
def zndB (l : List Nat) : Bool := match l with
  | [] => true
  | k :: r => r.all (fun j => !Nat.beq k j) && zndB r
theorem zndB_ok : ∀ {l : List (Nat × Value)}, zndB (l.map Prod.fst) = true → znd l
  | [], _ => List.Pairwise.nil
  | q :: r, h => by
    have h1 := Bool.and_eq_true_iff.mp (show ((r.map Prod.fst).all (fun j => !Nat.beq q.1 j) && zndB (r.map Prod.fst)) = true from h)
    refine List.pairwise_cons.mpr ⟨fun p hp e => ?_, zndB_ok h1.2⟩
    have h2 := List.all_eq_true.mp h1.1 p.1 (List.mem_map.mpr ⟨p, hp, rfl⟩)
    rw [e, Nat.beq_refl] at h2
    cases h2
theorem zsub_pick {l1 l2 : List (Nat × Value)} (ks : List Nat) (h : ks.filterMap (fun k => l2[k]?) = l1) (hn : zndB (l2.map Prod.fst) = true) : zsub l1 l2 := by
  refine ⟨fun q hq => ?_, zndB_ok hn⟩
  rw [← h] at hq
  obtain ⟨k, -, hk⟩ := List.mem_filterMap.mp hq
  exact List.mem_of_getElem? hk
