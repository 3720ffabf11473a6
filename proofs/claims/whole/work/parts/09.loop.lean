-- the loop of steps; a whole method
theorem zw_len {i : Jvm.ClassFile.Instr} {a b pc : Nat} {h : List zC} {lv : List (Nat × Value)} {st : List Value} {q : zS × List zC} (hz : zw i a b h pc lv st = some q) : q.2.length = h.length := by
  cases i with
  | putfield k => obtain ⟨v, u, r, fs, -, -, -, -, rfl⟩ := zpf_inv hz; simp
  | iastore => obtain ⟨x, j, u, r, l, -, -, -, rfl⟩ := zis_inv hz; simp
  | bastore => obtain ⟨x, j, u, r, l, -, -, -, rfl⟩ := zbs_inv hz; simp
  | lastore => obtain ⟨x, j, u, r, l, -, -, -, rfl⟩ := zls_inv hz; simp
  | aastore => obtain ⟨v, j, u, r, t, l, -, -, -, -, rfl⟩ := zas_inv hz; simp
  | _ => exact znq hz
theorem zn_len {i : Jvm.ClassFile.Instr} {a pc : Nat} {h : zH} {lv : List (Nat × Value)} {st : List Value} {q : zS × zH} (hz : zn i a h pc lv st = some q) : h.1.length ≤ q.2.1.length ∧ h.2 ≤ q.2.2 := by
  cases i with
  | new k => obtain rfl := Option.some.inj hz; simp
  | newarray t =>
    cases t with
    | int => obtain ⟨n, r, -, -, -, rfl⟩ := zna_inv (show zna a (.int 0) h (pc + 2) lv st = some q from hz); simp
    | boolean => obtain ⟨n, r, -, -, -, rfl⟩ := zna_inv (show zna a (.int 0) h (pc + 2) lv st = some q from hz); simp
    | long => obtain ⟨n, r, -, -, -, rfl⟩ := zna_inv (show zna a (.long 0) h (pc + 2) lv st = some q from hz); simp
    | _ => exact znq hz
  | anewarray k => obtain ⟨n, r, -, -, -, rfl⟩ := zna_inv hz; simp
  | _ => exact znq hz
theorem zk_len {mt : List zM} {call : Nat → List Value → zH → Option (Option Value × zH)} {fr lo : Nat} {i : Jvm.ClassFile.Instr} {a b pc : Nat} {h : zH} {lv : List (Nat × Value)} {st : List Value} {q : zS × zH} (hz : zk mt call fr lo i a b h pc lv st = some q) : h.1.length ≤ q.2.1.length ∧ h.2 ≤ q.2.2 := by
  have key : ∀ {kind : Nat}, zcm mt call kind a h (pc + 3) lv st = some q → h.1.length ≤ q.2.1.length ∧ h.2 ≤ q.2.2 := fun hz => by
    obtain ⟨M, as, rest, r, -, -, -, -, -, -, -, h1, h2, rfl⟩ := zcm_inv hz
    exact ⟨h1, h2⟩
  cases i with
  | invokestatic k =>
    rcases b with _ | _ | _ | _ | _ | _ | b
    · exact key (show zcm mt call 0 a h (pc + 3) lv st = some q from hz)
    · exact key (show zcm mt call 0 a h (pc + 3) lv st = some q from hz)
    · exact znq hz
    · obtain ⟨x, y, r, -, -, -, rfl⟩ := zmx_inv (show zmx (fun x y => if y < x then y else x) fr lo h (pc + 3) lv st = some q from hz)
      exact ⟨Nat.le_refl _, Nat.le_refl _⟩
    · obtain ⟨x, y, r, -, -, -, rfl⟩ := zmx_inv (show zmx (fun x y => if x < y then y else x) fr lo h (pc + 3) lv st = some q from hz)
      exact ⟨Nat.le_refl _, Nat.le_refl _⟩
    · obtain ⟨n, dp, d, sp, s0, r, p0, g0, -, -, -, -, -, -, -, -, -, -, -, rfl⟩ := zac_inv (show zac fr lo h (pc + 3) lv st = some q from hz)
      simp
    · exact znq hz
  | invokevirtual k =>
    rcases b with _ | _ | b
    · exact key (show zcm mt call 1 a h (pc + 3) lv st = some q from hz)
    · obtain ⟨u, r, l0, -, -, -, -, -, rfl⟩ := zcn_inv (show zcn fr lo h (pc + 3) lv st = some q from hz)
      simp
    · exact znq hz
  | invokespecial k =>
    rcases b with _ | _ | _ | b
    · exact key (show zcm mt call 2 a h (pc + 3) lv st = some q from hz)
    · exact key (show zcm mt call 2 a h (pc + 3) lv st = some q from hz)
    · obtain ⟨u, r, -, -, -, rfl⟩ := zoi_inv (show zoi fr lo h (pc + 3) lv st = some q from hz)
      exact ⟨Nat.le_refl _, Nat.le_refl _⟩
    · exact znq hz
  | _ => exact znq hz
theorem zstep_inv {mt : List zM} {call : Nat → List Value → zH → Option (Option Value × zH)} {fr lo : Nat} {xs : zX} {x : zE} {s : zS} {h : zH} {q : zS × zH} (hz : zstep mt call fr lo xs x s h = some q) :
    (∃ s', zp (xI x) (xV x) s.1 s.2.1 s.2.2 = some s' ∧ q = (s', h)) ∨ (∃ s', zr (xI x) (xA x) (xB x) xs h.1 s.1 s.2.1 s.2.2 = some s' ∧ q = (s', h)) ∨ (∃ y, zw (xI x) (xA x) (xB x) h.1 s.1 s.2.1 s.2.2 = some y ∧ q = (y.1, (y.2, h.2))) ∨ zn (xI x) (xA x) h s.1 s.2.1 s.2.2 = some q ∨ zk mt call fr lo (xI x) (xA x) (xB x) h s.1 s.2.1 s.2.2 = some q := by
  unfold zstep at hz
  split at hz
  · next s' h1 => exact Or.inl ⟨s', h1, (Option.some.inj hz).symm⟩
  · split at hz
    · next s' h1 => exact Or.inr (Or.inl ⟨s', h1, (Option.some.inj hz).symm⟩)
    · split at hz
      · next y h1 => exact Or.inr (Or.inr (Or.inl ⟨y, h1, (Option.some.inj hz).symm⟩))
      · split at hz
        · next y h1 => exact Or.inr (Or.inr (Or.inr (Or.inl (by rw [h1]; exact hz))))
        · exact Or.inr (Or.inr (Or.inr (Or.inr hz)))
theorem zstep_len {mt : List zM} {call : Nat → List Value → zH → Option (Option Value × zH)} {fr lo : Nat} {xs : zX} {x : zE} {s : zS} {h : zH} {q : zS × zH} (hz : zstep mt call fr lo xs x s h = some q) : h.1.length ≤ q.2.1.length ∧ h.2 ≤ q.2.2 := by
  rcases zstep_inv hz with ⟨s', -, rfl⟩ | ⟨s', -, rfl⟩ | ⟨y, h1, rfl⟩ | h1 | h1
  · exact ⟨Nat.le_refl _, Nat.le_refl _⟩
  · exact ⟨Nat.le_refl _, Nat.le_refl _⟩
  · exact ⟨Nat.le_of_eq (zw_len h1).symm, Nat.le_refl _⟩
  · exact zn_len h1
  · exact zk_len h1
theorem zloop_len {mt : List zM} {call : Nat → List Value → zH → Option (Option Value × zH)} {fr lo : Nat} {xs : zX} {M : zM} : ∀ {f : Nat} {s : zS} {h : zH} {r : Option Value × zH}, zloop mt call fr lo xs M f s h = some r → h.1.length ≤ r.2.1.length ∧ h.2 ≤ r.2.2
  | 0, s, h, r, hz => by cases hz
  | f + 1, s, h, r, hz => by
    unfold zloop at hz
    split at hz
    · cases hz
    · split at hz
      · obtain rfl := Option.some.inj hz
        exact ⟨Nat.le_refl _, Nat.le_refl _⟩
      · split at hz
        · cases hz
        · next q hq =>
          have h1 := zstep_len hq
          have h2 := zloop_len hz
          exact ⟨Nat.le_trans h1.1 h2.1, Nat.le_trans h1.2 h2.2⟩
theorem zlk_inv {pc : Nat} {x : zE} : ∀ {t : List zE}, zlk t pc = some x → x ∈ t ∧ xP x = pc
  | [], h => by cases h
  | y :: r, h => by
    unfold zlk at h
    split at h
    · next hq =>
      obtain rfl := Option.some.inj h
      exact ⟨List.mem_cons_self, Nat.eq_of_beq_eq_true hq⟩
    · obtain ⟨h1, h2⟩ := zlk_inv h
      exact ⟨List.mem_cons_of_mem _ h1, h2⟩
theorem zlk2_inv {pc : Nat} {x : zE} : ∀ {t : List (Nat × List zE)}, zlk2 t pc = some x → ∃ g ∈ t, x ∈ g.2 ∧ xP x = pc
  | [], h => by cases h
  | y :: r, h => by
    unfold zlk2 at h
    split at h
    · exact ⟨y, List.mem_cons_self, zlk_inv h⟩
    · obtain ⟨g, h1, h2⟩ := zlk2_inv h
      exact ⟨g, List.mem_cons_of_mem _ h1, h2⟩
section ZL
variable {p : Program} {l : Launch} {e : Env} {R : Room} {s : State} {m : MethodId} {args : Array Value} {below : List Frame} {meth : Method} {c : Code} {Q : State → Prop}
variable {cc : ByteArray} {own : String} {sa b nL : Nat} {ini : Bool} {D : va_G} {tc : Nat → ClassId} {xs : zX} {mt : List zM} {call : Nat → List Value → zH → Option (Option Value × zH)} {fr lo : Nat} {M : zM}
set_option maxHeartbeats 4000000 in
theorem zloop_s (hx : p.tables.exec = Jvm.exec) (hb : c.code = cc) (hml : c.maxLocals = nL) (hown : s.vm.findClass own = some m.cls) (hts : ∀ w ∈ zlw, w.before args s = true) (hnm : ini = true → meth.name = "<init>") (hK : va_K D zcl (ztys tc) s) (hsb : ∀ x, xs = some x → sa < b)
    (hmt : zT mt) (hg : zgood) (hobj : zlib) (hcal : zCal l mt call fr lo D tc sa b) (hfr : fr ≤ R.frames) (hlo : lo ≤ R.locals)
    (hM : ∀ g ∈ mT M, ∀ x ∈ g.2, zxo own cc nL ini x = true) {Cf Sf : Nat} (hCf : Cf ≤ R.cells) (hSf : Sf ≤ R.slots) {r : Option Value × zH} {H0 : Heap}
    (hend : ∀ (pc : Nat) (st : List Value) (ls : Array Slot) (H : Heap) (locs : List Loc) (i : Jvm.ClassFile.Instr) (n : Nat), decode cc pc = .ok (i, zlen i n) → zre (mR M) i st = some r.1 → zR D tc sa b r.2.1 H → (∀ x, x < b → H[x]? = H0[x]?) → (∀ x ∈ locs, b ≤ x.base) → W p l e R s m args below meth c H locs Cf Sf Q (F0 m pc ls (st.map (zt sa b)))) :
    ∀ (f : Nat) (z : zS) (h : zH) (ls : Array Slot) (H : Heap) (locs : List Loc) (cells slots : Nat), zloop mt call fr lo xs M f z h = some r → lv_has ls nL (z.2.1.map (ztl sa b)) → zR D tc sa b h.1 H → (∀ x, xs = some x → va_X sa x.1 x.2 s H) → (∀ x, x < b → H[x]? = H0[x]?) → (∀ x ∈ locs, b ≤ x.base) →
      cells + (r.2.1.length - h.1.length) = Cf → slots + (r.2.2 - h.2) = Sf → W p l e R s m args below meth c H locs cells slots Q (F0 m z.1 ls (z.2.2.map (zt sa b))) := by
  intro f
  induction f with
  | zero => intro z h ls H locs cells slots hz; cases hz
  | succ f ih =>
    intro z h ls H locs cells slots hz hl hR hX hF hL hc1 hc2
    unfold zloop at hz
    split at hz
    · cases hz
    · next x hxk =>
      obtain ⟨g, hgm, hxm, hpc⟩ := zlk2_inv hxk
      have hxo := Bool.and_eq_true_iff.mp (hM g hgm x hxm)
      have hd : decode cc z.1 = .ok (xI x, zlen (xI x) (xN x)) := by rw [← hpc]; exact of_decide_eq_true hxo.1
      have hk := hxo.2
      split at hz
      · next rv hre =>
        obtain rfl := Option.some.inj hz
        refine W.cs (cells' := Cf) (slots' := Sf) (by have e : cells + (h.1.length - h.1.length) = Cf := hc1; omega) (by have e : slots + (h.2 - h.2) = Sf := hc2; omega) ?_
        exact hend z.1 z.2.2 ls H locs (xI x) (xN x) hd hre hR hF hL
      · split at hz
        · cases hz
        · next q hq =>
          have hlen := zstep_len hq
          have hlen2 := zloop_len hz
          have app : ∀ {L : List Loc}, (∀ x ∈ L, b ≤ x.base) → ∀ x ∈ locs ++ L, b ≤ x.base := fun hL2 x hx => by
            rcases List.mem_append.mp hx with h | h
            · exact hL x h
            · exact hL2 x h
          have keep : ∀ {H' : Heap}, (∀ x, x < b → H'[x]? = H[x]?) → ∀ x, xs = some x → va_X sa x.1 x.2 s H' := fun h1 x hxs => (hX x hxs).kept (h1 sa (hsb x hxs))
          rcases zstep_inv hq with ⟨s', h1, rfl⟩ | ⟨s', h1, rfl⟩ | ⟨y, h1, rfl⟩ | h1 | h1
          · exact zp_s hx hb hown hts hd hk hl h1 (fun ls' hl' => ih s' h ls' H locs cells slots hz hl' hR hX hF hL hc1 hc2)
          · exact zr_s hx hb hown hts hK hR hX hd hk hl h1 (fun ls' hl' => ih s' h ls' H locs cells slots hz hl' hR hX hF hL hc1 hc2)
          · refine zw_s hx hb hown hts hnm hK hR hd hk hl h1 (fun H' L ls' hl' hR' hF' hL' => ih y.1 (y.2, h.2) ls' H' (locs ++ L) cells slots hz hl' hR' (keep hF') (fun x hx => (hF' x hx).trans (hF x hx)) (app hL') ?_ hc2)
            show cells + (r.2.1.length - y.2.length) = Cf
            rw [zw_len h1]
            exact hc1
          · refine zn_s hx hb hown hts hK hR hd hk hl h1 (by omega) (by omega) (fun H' ls' hl' hR' hF' => ih q.1 q.2 ls' H' locs _ _ hz hl' hR' (keep hF') (fun x hx => (hF' x hx).trans (hF x hx)) hL (by omega) (by omega))
          · refine zk_s hx hb hml hown hts hK hR hmt hg hobj hcal hfr hlo hd hk hl h1 (by omega) (by omega) (fun H' L ls' hl' hR' hF' hL' => ih q.1 q.2 ls' H' (locs ++ L) _ _ hz hl' hR' (keep hF') (fun x hx => (hF' x hx).trans (hF x hx)) (app hL') (by omega) (by omega))
end ZL
theorem zsl_len (vs : List Value) : (lg_sl vs).length = zcat vs := by
  induction vs with
  | nil => rfl
  | cons v r ih =>
    have h1 : lg_sl (v :: r) = (if v.category = 2 then [Slot.val v, .second] else [.val v]) ++ lg_sl r := by simp [lg_sl]
    have h2 : zcat (v :: r) = v.category + zcat r := by simp [zcat]
    rw [h1, h2, List.length_append, ih]
    cases v <;> rfl
theorem zargs (sa b : Nat) : ∀ (vs : List Value) (i : Nat), lv_args i (vs.map (zt sa b)) = (lv_args i vs).map (ztl sa b)
  | [], _ => rfl
  | v :: r, i => by
    show (i, zt sa b v) :: lv_args (if (zt sa b v).category = 2 then i + 2 else i + 1) (r.map (zt sa b)) = _
    rw [zt_cat, zargs sa b r]
    rfl
theorem zre_s {p : Program} {l : Launch} {e : Env} {R : Room} {s : State} {m : MethodId} {args : Array Value} {below : List Frame} {meth : Method} {c : Code} {cc : ByteArray} {sa b Cf Sf pc n : Nat} {D : va_G} {tc : Nat → ClassId} {H : Heap} {locs : List Loc} {ls : Array Slot} {st : List Value} {i : Jvm.ClassFile.Instr} {ret : Option FieldType} {r : Option Value × zH}
    (hx : p.tables.exec = Jvm.exec) (hb : c.code = cc) (hr : meth.sig.returnType = ret) (hlocks : meth.locks = false) (hd : decode cc pc = .ok (i, zlen i n)) (hz : zre ret i st = some r.1) (hR : zR D tc sa b r.2.1 H) (hF : ∀ x, x < b → H[x]? = s.heap[x]?) (hL : ∀ x ∈ locs, b ≤ x.base) :
    W p l e R s m args below meth c H locs Cf Sf (MQ below (zQc D tc sa b r) args s Cf Sf (fun x => b ≤ x)) (F0 m pc ls (st.map (zt sa b))) := by
  have post : ∀ {v : Option Value}, r.1 = v → ∀ t : State, t.heap = H → s.WarmedH t.vm → zQc D tc sa b r args s (.returned (v.map (zt sa b))) t := fun hv t ht _ => ⟨by rw [hv], by rw [ht]; exact hR, fun x hx => by rw [ht]; exact hF x hx⟩
  cases i with
  | return_ =>
    unfold zre at hz
    dsimp only at hz
    split at hz
    · exact W.vret hx hb hr (post (v := none) (Option.some.inj hz).symm) hL hd hlocks
    · cases hz
  | ireturn =>
    unfold zre at hz
    dsimp only at hz
    split at hz
    · next ty v =>
      split at hz
      · next hf => exact W.zret hx hb hr (zfit_ok (sa := sa) (b := b) hf).1 (post (v := some (.int v)) (Option.some.inj hz).symm) hL hd hlocks
      · cases hz
    · cases hz
  | lreturn =>
    unfold zre at hz
    dsimp only at hz
    split at hz
    · next v => exact W.lret hx hb hr (post (v := some (.long v)) (Option.some.inj hz).symm) hL hd hlocks
    · cases hz
  | areturn =>
    unfold zre at hz
    dsimp only at hz
    split at hz
    · exact W.aret hx hb hr (Or.inl ⟨_, rfl⟩) (Or.inl rfl) (post (v := some .null) (Option.some.inj hz).symm) hL hd hlocks
    · next k => exact W.aret (v := .ref (b + k)) hx hb hr (Or.inl ⟨_, rfl⟩) (Or.inr ⟨_, rfl⟩) (post (v := some (.ref k)) (Option.some.inj hz).symm) hL hd hlocks
    · exact W.aret hx hb hr (Or.inr ⟨_, rfl⟩) (Or.inl rfl) (post (v := some .null) (Option.some.inj hz).symm) hL hd hlocks
    · next k => exact W.aret (v := .ref (b + k)) hx hb hr (Or.inr ⟨_, rfl⟩) (Or.inr ⟨_, rfl⟩) (post (v := some (.ref k)) (Option.some.inj hz).symm) hL hd hlocks
    · cases hz
  | _ => exact znq hz
set_option maxHeartbeats 4000000 in
theorem zbody_s {l : Launch} {sa b : Nat} {D : va_G} {tc : Nat → ClassId} {mt : List zM} {call : Nat → List Value → zH → Option (Option Value × zH)} {fr lo f a : Nat} {as : List Value} {h : zH} {r : Option Value × zH} {M : zM}
    (hmt : zT mt) (hg : zgood) (hobj : zlib) (hcal : zCal l mt call fr lo D tc sa b) (hM : mt[a]? = some M) (hz : zbody mt call fr lo none f a as h = some r) :
    Met l (mY M) (zws M) { frames := fr, cells := r.2.1.length - h.1.length, slots := r.2.2 - h.2, locals := lo } (zPc D tc sa b as h) (zQc D tc sa b r) (r.2.1.length - h.1.length) (r.2.2 - h.2) (fun x => b ≤ x) := by
  obtain ⟨y1, y2, y3, y4, y5, y6, y7, y8, y9⟩ := hmt a M hM
  refine Met.ofW (cc := mC M) (maxL := mL M) (ret := mR M) y5 rfl ?_
  intro p e s m args below meth c s₁ B hml hv
  obtain ⟨rfl, hR, hK, hEx⟩ := hv
  have hx := B.exec
  have hb := B.bytes
  have hr := B.returns
  have hts0 := atoms_spec (ws := zws M) B.pre
  have hts : ∀ w ∈ zlw, w.before (as.map (zt sa b)).toArray s = true := fun w hw => by
    rcases hg w hw with h1 | h1
    · exact hts0 w (List.mem_cons_of_mem _ (List.mem_filter.mpr ⟨hw, h1⟩))
    · exact zEx_use hEx hw h1
  have hown : s.vm.findClass (mY M).cls = some m.cls := findClass_of_methodNamed B.named
  have hlocks := B.notSynchronized
  have hin : meth.name = (mY M).name := (name_of_methodNamed B.named B.method).1
  unfold zbody at hz
  rw [hM] at hz
  dsimp only at hz
  split at hz
  · next hle =>
    have hle2 : zcat as ≤ mL M := Nat.le_of_ble_eq_true hle
    have hl := lv_entry (as.map (zt sa b)) (n := mL M) (by rw [zsl_len]; have e := zcat_t sa b as; unfold zcat; rw [e]; exact hle2)
    rw [lg_entry_eq]
    generalize (lg_sl (as.map (zt sa b)) ++ List.replicate (mL M - (lg_sl (as.map (zt sa b))).length) Slot.unset).toArray = ls at hl ⊢
    rw [zargs] at hl
    exact zloop_s (M := M) (H0 := s.heap) hx hb hml hown hts (fun h => by rw [hin]; exact (y8 (Nat.eq_of_beq_eq_true h)).2.1) hK (fun x hx => by cases hx) hmt hg hobj hcal (Nat.le_refl _) (Nat.le_refl _) y9 (Nat.le_refl _) (Nat.le_refl _)
      (fun pc st ls H locs i n h1 h2 h3 h4 h5 => zre_s hx hb hr hlocks h1 h2 h3 h4 h5) f (0, lv_args 0 as, []) h ls s.heap [] 0 0 hz hl hR (fun x hx => by cases hx) (fun _ _ => rfl) (fun x hx => by cases hx) (Nat.zero_add _) (Nat.zero_add _)
  · cases hz
theorem zcall_s {l : Launch} {sa b : Nat} {D : va_G} {tc : Nat → ClassId} {mt : List zM} {f : Nat} (hmt : zT mt) (hg : zgood) (hobj : zlib) :
    ∀ (fr lo a : Nat) (as : List Value) (h : zH) (r : Option Value × zH) (M : zM), mt[a]? = some M → zcall mt f fr lo a as h = some r →
      Met l (mY M) (zws M) { frames := fr, cells := r.2.1.length - h.1.length, slots := r.2.2 - h.2, locals := lo } (zPc D tc sa b as h) (zQc D tc sa b r) (r.2.1.length - h.1.length) (r.2.2 - h.2) (fun x => b ≤ x) := by
  intro fr
  induction fr with
  | zero =>
    intro lo a as h r M hM hz
    exact zbody_s hmt hg hobj (fun a as h r M _ hc => by cases hc) hM hz
  | succ fr ih =>
    intro lo a as h r M hM hz
    refine zbody_s hmt hg hobj (fun a' as' h' r' M' hM' hc => ?_) hM hz
    rw [hM'] at hc
    dsimp only at hc
    split at hc
    · next hle =>
      have hle2 : 19 + mL M' ≤ lo := Nat.le_of_ble_eq_true hle
      exact ⟨_, rfl, rfl, Nat.le_refl _, by show 8 + (mL M' + 11) + (lo - (19 + mL M')) ≤ lo; omega, ih (lo - (19 + mL M')) a' as' h' r' M' hM' hc⟩
    · cases hc
