-- calls, the loop of steps, a whole method
def zws (M : zM) : List Cond := Cond.code (mY M) (mC M) (mL M) (mR M) :: zlw.filter goodWord
/-- words that a method's own word list can't carry: they go with the start's facts -/
def zbad (w : Cond) : Bool := match w with
  | .methodLinkNest _ _ _ _ => true
  | .castable _ _ => true
  | .arrayOver ty => match ty with
    | .object _ => true
    | _ => false
  | _ => false
def zEx (U : State) : Prop := ∀ w ∈ zlw, zbad w = true → w.before #[] U = true
theorem zEx_of {args : Array Value} {s : State} (hts : ∀ w ∈ zlw, w.before args s = true) : zEx s := fun w hw hb => by
  have h := hts w hw
  cases w with
  | methodLinkNest a i x k => exact va_Nw.of rfl h
  | castable a k => exact va_Nw.of rfl h
  | arrayOver ty =>
    cases ty with
    | object C => exact va_AO.of h
    | _ => cases hb
  | _ => cases hb
theorem zEx_use {args : Array Value} {s : State} (hx : zEx s) {w : Cond} (hw : w ∈ zlw) (hb : zbad w = true) : w.before args s = true := by
  have h := hx w hw hb
  cases w with
  | methodLinkNest a i x k => exact va_Nw.use rfl h
  | castable a k => exact va_Nw.use rfl h
  | arrayOver ty =>
    cases ty with
    | object C => exact va_AO.use h
    | _ => cases hb
  | _ => cases hb
theorem zEx_warm {s U : State} (hW : s.WarmedH U.vm) (hx : zEx s) : zEx U := fun w hw hb => by
  have h := hx w hw hb
  cases w with
  | methodLinkNest a i x k => exact va_Nw.warmM hW h
  | castable a k => exact va_Nw.warmC hW h
  | arrayOver ty =>
    cases ty with
    | object C => exact va_AO.moved hW.alike h
    | _ => cases hb
  | _ => cases hb
theorem zEx_same {s U : State} (hv : s.vm = U.vm) (hx : zEx s) : zEx U := fun w hw hb => by
  have h := hx w hw hb
  cases w with
  | methodLinkNest a i x k => exact va_Nw.same rfl hv h
  | castable a k => exact va_Nw.same rfl hv h
  | arrayOver ty =>
    cases ty with
    | object C => exact va_AO.moved (by rw [hv]; exact Vm.Alike.refl U.vm) h
    | _ => cases hb
  | _ => cases hb
/-- what the tables say of a method, and of every instruction of it -/
def zMo (a : Nat) (M : zM) : Prop :=
  zyn[a]? = some (mY M) ∧ Cond.code (mY M) (mC M) (mL M) (mR M) ∈ zlw ∧ Cond.initialized (mY M).cls ∈ zlw ∧
  ((mY M).cls ≠ "java/lang/invoke/MethodHandle" ∧ (mY M).cls ≠ "java/lang/invoke/VarHandle" ∧ (parseMethodDescriptor (mY M).desc).map (fun d => d.parameters.length) = some (mN M)) ∧ plainName (mY M).cls = true ∧
  (mK M = 0 → Cond.static (mY M) ∈ zlw) ∧ (mK M = 1 → Cond.instanceMethod (mY M) ∈ zlw ∧ Cond.selects (mY M).cls (mY M) (mY M) ∈ zlw ∧ ∃ C, zcl[(mW M).2.2.2]? = some C ∧ C.1 = (mY M).cls) ∧
  (mK M = 2 → Cond.instanceMethod (mY M) ∈ zlw ∧ (mY M).name = "<init>" ∧ mR M = none) ∧
  ∀ g ∈ mT M, ∀ x ∈ g.2, zxo (mY M).cls (mC M) (mL M) (Nat.beq (mK M) 2) x = true
def zT (mt : List zM) : Prop := ∀ a M, mt[a]? = some M → zMo a M
def zgood : Prop := ∀ w ∈ zlw, goodWord w = true ∨ zbad w = true
theorem zgi {a : Nat} {M : zM} (hM : zMo a M) : GoodIn zlw (zws M) := fun w hw => by
  rcases List.mem_cons.mp hw with rfl | hw
  · exact ⟨hM.2.1, Or.inl rfl⟩
  · have h := List.mem_filter.mp hw
    exact ⟨h.1, good_of_word h.2⟩
def zPc (D : va_G) (tc : Nat → ClassId) (sa b : Nat) (as : List Value) (h : zH) : Array Value → State → Prop := va_Pc (as.map (zt sa b)) (fun U => zR D tc sa b h.1 U.heap ∧ va_K D zcl (ztys tc) U ∧ zEx U)
def zQc (D : va_G) (tc : Nat → ClassId) (sa b : Nat) (r : Option Value × zH) : Array Value → State → Outcome → State → Prop := fun _ st oc t => oc = .returned (r.1.map (zt sa b)) ∧ zR D tc sa b r.2.1 t.heap ∧ ∀ x : Nat, x < b → t.heap[x]? = st.heap[x]?
theorem zblind {D : va_G} {tc : Nat → ClassId} {sa b : Nat} {as : List Value} {h : zH} : FrameBlind (zPc D tc sa b as h) := fun a U g mk q => by
  obtain ⟨q0, q1, q2, q5⟩ := q
  exact ⟨q0, q1, va_K.moved (u := U) (U := U.calling g mk a) (Vm.Alike.refl U.vm) q2, zEx_same (s := U) (U := U.calling g mk a) rfl q5⟩
def zCal (l : Launch) (mt : List zM) (call : Nat → List Value → zH → Option (Option Value × zH)) (fr lo : Nat) (D : va_G) (tc : Nat → ClassId) (sa b : Nat) : Prop := ∀ (a : Nat) (as : List Value) (h : zH) (r : Option Value × zH) (M : zM), mt[a]? = some M → call a as h = some r →
  ∃ rm : Room, rm.cells = r.2.1.length - h.1.length ∧ rm.slots = r.2.2 - h.2 ∧ rm.frames + 1 ≤ fr ∧ 8 + (mL M + 11) + rm.locals ≤ lo ∧ Met l (mY M) (zws M) rm (zPc D tc sa b as h) (zQc D tc sa b r) rm.cells rm.slots (fun x => b ≤ x)
theorem zpop_inv : ∀ {n : Nat} {st : List Value} {q : List Value × List Value}, zpop n st = some q → q.1.length = n ∧ st = q.1.reverse ++ q.2
  | 0, st, q, h => by
    obtain rfl := Option.some.inj h
    exact ⟨rfl, rfl⟩
  | n + 1, [], q, h => by cases h
  | n + 1, v :: r, q, h => by
    have h : (match zpop n r with | some q => some (q.1 ++ [v], q.2) | none => none) = some q := h
    split at h
    · next q2 hq =>
      obtain ⟨h1, h2⟩ := zpop_inv hq
      obtain rfl := Option.some.inj h
      refine ⟨by simp [h1], ?_⟩
      rw [h2]
      simp
    · cases h
theorem zcm_inv {mt : List zM} {call : Nat → List Value → zH → Option (Option Value × zH)} {kind a pc : Nat} {h : zH} {lv : List (Nat × Value)} {st : List Value} {q : zS × zH} (hz : zcm mt call kind a h pc lv st = some q) :
    ∃ M as rest r, mt[a]? = some M ∧ mK M = kind ∧ as.length = zco kind (mN M) ∧ st = as.reverse ++ rest ∧ zrc kind (mW M).2.2.2 as h.1 = true ∧ zcat rest ≤ 8 ∧ call a as h = some r ∧ h.1.length ≤ r.2.1.length ∧ h.2 ≤ r.2.2 ∧ q = ((pc, lv, r.1.toList ++ rest), r.2) := by
  unfold zcm at hz
  split at hz
  · cases hz
  · next M hM =>
    split at hz
    · cases hz
    · next qq hq =>
      split at hz
      · cases hz
      · next hc =>
        split at hz
        · cases hz
        · next r hr =>
          split at hz
          · cases hz
          · next hm =>
            obtain ⟨g1, g2⟩ := zpop_inv hq
            have h2 := Bool.and_eq_true_iff.mp hc
            have h3 := Bool.and_eq_true_iff.mp h2.2
            have h4 := Bool.and_eq_true_iff.mp hm
            exact ⟨M, qq.1, qq.2, r, hM, Nat.eq_of_beq_eq_true h2.1, g1, g2, h3.1, Nat.le_of_ble_eq_true h3.2, hr, Nat.le_of_ble_eq_true h4.1, Nat.le_of_ble_eq_true h4.2, (Option.some.inj hz).symm⟩
theorem zrc1_inv {cx : Nat} {as : List Value} {hp : List zC} (h : zrc 1 cx as hp = true) : ∃ u as' fs, as = .ref u :: as' ∧ hp[u]? = some (.inr (cx, fs)) := by
  cases as with
  | nil => cases h
  | cons v r =>
    cases v with
    | ref u =>
      have h : (match hp[u]? with | some (.inr o) => Nat.beq o.1 cx | _ => false) = true := h
      split at h
      · next o ho =>
        have e : o.1 = cx := Nat.eq_of_beq_eq_true h
        exact ⟨u, r, o.2, rfl, by rw [ho, ← e]⟩
      · cases h
    | _ => cases h
theorem zrc2_inv {cx : Nat} {as : List Value} {hp : List zC} (h : zrc 2 cx as hp = true) : ∃ u as', as = .ref u :: as' := by
  cases as with
  | nil => cases h
  | cons v r =>
    cases v with
    | ref u => exact ⟨u, r, rfl⟩
    | _ => cases h
theorem zcat_t (sa b : Nat) (st : List Value) : ((st.map (zt sa b)).map fun v => v.category).sum = zcat st := by
  unfold zcat
  rw [List.map_map]
  congr 1
  apply List.map_congr_left
  intro v _
  exact zt_cat sa b v
theorem zoi_inv {fr lo pc : Nat} {h : zH} {lv : List (Nat × Value)} {st : List Value} {q : zS × zH} (hz : zoi fr lo h pc lv st = some q) : ∃ u r, st = .ref u :: r ∧ 1 ≤ fr ∧ zcat r + 12 ≤ lo ∧ q = ((pc, lv, r), h) := by
  unfold zoi at hz
  split at hz
  · next u r =>
    split at hz
    · next hb =>
      have h2 := Bool.and_eq_true_iff.mp hb
      exact ⟨u, r, rfl, Nat.le_of_ble_eq_true h2.1, Nat.le_of_ble_eq_true h2.2, (Option.some.inj hz).symm⟩
    · cases hz
  · cases hz
theorem zmx_inv {f : Int32 → Int32 → Int32} {fr lo pc : Nat} {h : zH} {lv : List (Nat × Value)} {st : List Value} {q : zS × zH} (hz : zmx f fr lo h pc lv st = some q) : ∃ x y r, st = .int y :: .int x :: r ∧ 1 ≤ fr ∧ zcat r + 13 ≤ lo ∧ q = ((pc, lv, .int (f x y) :: r), h) := by
  unfold zmx at hz
  split at hz
  · next y x r =>
    split at hz
    · next hb =>
      have h2 := Bool.and_eq_true_iff.mp hb
      exact ⟨x, y, r, rfl, Nat.le_of_ble_eq_true h2.1, Nat.le_of_ble_eq_true h2.2, (Option.some.inj hz).symm⟩
    · cases hz
  · cases hz
/-- the words of Object's constructor, of Math.min and Math.max -/
def zlib : Prop := (Cond.instanceMethod Lib.objectInit ∈ zlw ∧ Cond.code Lib.objectInit ⟨#[0xb1]⟩ 1 none ∈ zlw) ∧ Cond.initialized "java/lang/Math" ∈ zlw ∧ (Cond.static Lib.Math.min.name ∈ zlw ∧ Cond.code Lib.Math.min.name Lib.Math.min.code 2 (some .int) ∈ zlw) ∧ (Cond.static Lib.Math.max.name ∈ zlw ∧ Cond.code Lib.Math.max.name Lib.Math.max.code 2 (some .int) ∈ zlw) ∧
  (Cond.native arraycopyName ∈ zlw ∧ Cond.static arraycopyName ∈ zlw ∧ Cond.initialized "java/lang/System" ∈ zlw) ∧
  (Cond.sameMethod "[I" "java/lang/Object" "clone" "()Ljava/lang/Object;" ∈ zlw ∧ Cond.native ⟨"java/lang/Object", "clone", "()Ljava/lang/Object;"⟩ ∈ zlw ∧ Cond.instanceMethod ⟨"java/lang/Object", "clone", "()Ljava/lang/Object;"⟩ ∈ zlw ∧ Cond.selects "[I" ⟨"[I", "clone", "()Ljava/lang/Object;"⟩ ⟨"java/lang/Object", "clone", "()Ljava/lang/Object;"⟩ ∈ zlw ∧ Cond.castable "[I" "java/lang/Cloneable" ∈ zlw)
theorem zac_inv {fr lo pc : Nat} {h : zH} {lv : List (Nat × Value)} {st : List Value} {q : zS × zH} (hz : zac fr lo h pc lv st = some q) : ∃ n dp d sp s r p g, st = .int n :: .int dp :: .ref d :: .int sp :: .ref s :: r ∧ h.1[s]? = some (.inl (0, p)) ∧ h.1[d]? = some (.inl (0, g)) ∧ 1 ≤ fr ∧ zcat r + 18 ≤ lo ∧ ¬ sp < 0 ∧ ¬ dp < 0 ∧ ¬ n < 0 ∧ sp.toNatClampNeg + n.toNatClampNeg ≤ p.length ∧ dp.toNatClampNeg + n.toNatClampNeg ≤ g.length ∧ p.all zisI = true ∧
    q = ((pc, lv, r), (h.1.set d (.inl (0, zcp p g sp.toNatClampNeg dp.toNatClampNeg n.toNatClampNeg)), h.2)) := by
  unfold zac at hz
  split at hz
  · next n dp d sp s r =>
    split at hz
    · next p hp =>
      split at hz
      · next g hg =>
        split at hz
        · next hb =>
          have h1 := Bool.and_eq_true_iff.mp hb
          have h2 := Bool.and_eq_true_iff.mp h1.1
          have h3 := Bool.and_eq_true_iff.mp h1.2
          have h4 := Bool.and_eq_true_iff.mp h3.1
          have h5 := Bool.and_eq_true_iff.mp h3.2
          have h6 := Bool.and_eq_true_iff.mp h5.1
          have h7 := Bool.and_eq_true_iff.mp h6.2
          have h8 := Bool.and_eq_true_iff.mp h5.2
          have h9 := Bool.and_eq_true_iff.mp h8.2
          have e1 : p.1 = 0 := Nat.eq_of_beq_eq_true h4.1
          have e2 : g.1 = 0 := Nat.eq_of_beq_eq_true h4.2
          exact ⟨n, dp, d, sp, s, r, p.2, g.2, rfl, by rw [hp, ← e1], by rw [hg, ← e2], Nat.le_of_ble_eq_true h2.1, Nat.le_of_ble_eq_true h2.2, of_decide_eq_true h6.1, of_decide_eq_true h7.1, of_decide_eq_true h7.2, Nat.le_of_ble_eq_true h8.1, Nat.le_of_ble_eq_true h9.1, h9.2, (Option.some.inj hz).symm⟩
        · cases hz
      · cases hz
    · cases hz
  · cases hz
theorem zcn_inv {fr lo pc : Nat} {h : zH} {lv : List (Nat × Value)} {st : List Value} {q : zS × zH} (hz : zcn fr lo h pc lv st = some q) : ∃ k r l, st = .ref k :: r ∧ h.1[k]? = some (.inl (0, l)) ∧ 1 ≤ fr ∧ zcat r + 14 ≤ lo ∧ l.all zisI = true ∧ q = ((pc, lv, .ref h.1.length :: r), (h.1 ++ [.inl (0, l)], h.2 + l.length)) := by
  unfold zcn at hz
  split at hz
  · next k r =>
    split at hz
    · next p hp =>
      split at hz
      · next hb =>
        have h1 := Bool.and_eq_true_iff.mp hb
        have h2 := Bool.and_eq_true_iff.mp h1.1
        have h3 := Bool.and_eq_true_iff.mp h1.2
        have e1 : p.1 = 0 := Nat.eq_of_beq_eq_true h3.1
        exact ⟨k, r, p.2, rfl, by rw [hp, ← e1], Nat.le_of_ble_eq_true h2.1, Nat.le_of_ble_eq_true h2.2, h3.2, (Option.some.inj hz).symm⟩
      · cases hz
    · cases hz
  · cases hz
theorem zcp_len {src dst : List Value} {sp dp n : Nat} (h1 : sp + n ≤ src.length) (h2 : dp + n ≤ dst.length) : (zcp src dst sp dp n).length = dst.length := by
  unfold zcp
  simp
  omega
theorem zcp_get {src dst : List Value} {sp dp n : Nat} (h1 : sp + n ≤ src.length) (h2 : dp + n ≤ dst.length) (j : Nat) : (zcp src dst sp dp n).getD j .null = va_cpy (fun i => src.getD i .null) (fun i => dst.getD i .null) sp dp n j := by
  unfold zcp va_cpy
  simp only [List.getD_eq_getElem?_getD]
  by_cases hj : j < dp
  · rw [List.getElem?_append_left (by rw [List.length_take]; omega), List.getElem?_take_of_lt hj, if_neg (by omega)]
  · rw [List.getElem?_append_right (by rw [List.length_take]; omega)]
    have e : (dst.take dp).length = dp := by rw [List.length_take]; omega
    rw [e]
    by_cases hj2 : j < dp + n
    · rw [if_pos (by omega), List.getElem?_append_left (by rw [List.length_take, List.length_drop]; omega), List.getElem?_take_of_lt (by omega), List.getElem?_drop]
    · have e2 : ((src.drop sp).take n).length = n := by rw [List.length_take, List.length_drop]; omega
      rw [if_neg (by omega), List.getElem?_append_right (by rw [e2]; omega), e2, List.getElem?_drop]
      congr 2
      omega
theorem zisI_ok {l : List Value} (h : l.all zisI = true) {i : Nat} (hi : i < l.length) : ∃ k, l.getD i .null = .int k := by
  have h1 := List.all_eq_true.mp h (l[i]) (List.getElem_mem hi)
  have e : l.getD i .null = l[i] := by simp [List.getD_eq_getElem?_getD, hi]
  rw [e]
  cases hv : l[i] with
  | int k => exact ⟨k, rfl⟩
  | _ => rw [hv] at h1; cases h1
theorem zlM_inv {own : String} {i a w : Nat} {y : MethodName} (hy : zyn[a]? = some y) (h : zlM own i a w = true) : Cond.methodLink own i y ∈ zlw := by
  unfold zlM at h
  rw [hy] at h
  exact zmm (of_decide_eq_true h) rfl
theorem zlMN_inv {own : String} {i a w : Nat} {y : MethodName} (hy : zyn[a]? = some y) (h : zlMN own i a w = true) : Cond.methodLinkNest own i y R_ST ∈ zlw := by
  unfold zlMN at h
  rw [hy] at h
  exact zmm (of_decide_eq_true h) rfl
section ZK
variable {p : Program} {l : Launch} {e : Env} {R : Room} {s : State} {m : MethodId} {args : Array Value} {below : List Frame} {meth : Method} {c : Code} {H : Heap} {locs : List Loc} {cells slots : Nat} {Q : State → Prop}
variable {cc : ByteArray} {own : String} {sa b nL pc n a0 b0 w0 : Nat} {ini : Bool} {kv : Value} {lv : List (Nat × Value)} {st : List Value} {ls : Array Slot} {q : zS × zH}
variable {D : va_G} {tc : Nat → ClassId} {h : zH} {mt : List zM} {call : Nat → List Value → zH → Option (Option Value × zH)} {fr lo : Nat}
theorem zgoe {mc ms : Nat} {r : Option Value × zH} {rest st0 : List Value} {a : Array Value} (hr : va_Run p l e R s m args below meth c H locs cells slots mc ms (F0 m pc ls st0) (rest.map (zt sa b)) (zQc D tc sa b r a) (fun x => b ≤ x))
    (kk : ∀ (H' : Heap) (L : List Loc), zR D tc sa b r.2.1 H' → (∀ x : Nat, x < b → H'[x]? = H[x]?) → (∀ x ∈ L, b ≤ x.base) → W p l e R s m args below meth c H' (locs ++ L) (cells + mc) (slots + ms) Q (F0 m (pc + 3) ls ((r.1.toList ++ rest).map (zt sa b)))) :
    W p l e R s m args below meth c H locs cells slots Q (F0 m pc ls st0) := by
  intro T hT X
  obtain ⟨v, st₀, t, T', L, h0, X', hL, e1, e2, ⟨hv, hRr, hfr⟩, st⟩ := hr T hT X
  obtain rfl : v = r.1.map (zt sa b) := by injection hv
  have hs : (r.1.map (zt sa b)).toList ++ rest.map (zt sa b) = (r.1.toList ++ rest).map (zt sa b) := by
    cases r.1 <;> rfl
  obtain ⟨t2, a1, b1⟩ := kk T'.heap L (by rw [e1]; exact hRr) (fun x hx => by rw [e1, hfr x hx, h0]) hL T' rfl X'
  refine ⟨t2, st t2 ?_, b1⟩
  rw [hs]
  exact a1
set_option maxHeartbeats 4000000 in
theorem zk_s {i : Jvm.ClassFile.Instr} (hx : p.tables.exec = Jvm.exec) (hb : c.code = cc) (hml : c.maxLocals = nL) (hown : s.vm.findClass own = some m.cls) (hts : ∀ w ∈ zlw, w.before args s = true) (hK : va_K D zcl (ztys tc) s) (hR : zR D tc sa b h.1 H)
    (hmt : zT mt) (hg : zgood) (hobj : zlib) (hcal : zCal l mt call fr lo D tc sa b) (hfr : fr ≤ R.frames) (hlo : lo ≤ R.locals)
    (hd : decode cc pc = .ok (i, zlen i n)) (hk : zlnk own nL ini i a0 b0 w0 kv = true) (hl : lv_has ls nL (lv.map (ztl sa b))) (hz : zk mt call fr lo i a0 b0 h pc lv st = some q)
    (hcl : cells + (q.2.1.length - h.1.length) ≤ R.cells) (hsl : slots + (q.2.2 - h.2) ≤ R.slots)
    (kk : ∀ (H' : Heap) (L : List Loc) (ls' : Array Slot), lv_has ls' nL (q.1.2.1.map (ztl sa b)) → zR D tc sa b q.2.1 H' → (∀ x, x < b → H'[x]? = H[x]?) → (∀ x ∈ L, b ≤ x.base) → W p l e R s m args below meth c H' (locs ++ L) (cells + (q.2.1.length - h.1.length)) (slots + (q.2.2 - h.2)) Q (F0 m q.1.1 ls' (q.1.2.2.map (zt sa b)))) :
    W p l e R s m args below meth c H locs cells slots Q (F0 m pc ls (st.map (zt sa b))) := by
  have pre : ∀ (as : List Value) (U : State), U.heap = H → s.WarmedH U.vm → zPc D tc sa b as h (as.map (zt sa b)).toArray U := fun as U hU hW => ⟨rfl, by rw [hU]; exact hR, va_K.moved hW.alike hK, zEx_warm hW (zEx_of hts)⟩
  cases i with
  | invokestatic k =>
    rcases b0 with _ | _ | _ | _ | _ | _ | b0
    · obtain ⟨M, as, rest, r, hM, hki, hlen, rfl, -, hcat, hca, hm1, hm2, rfl⟩ := zcm_inv (show zcm mt call 0 a0 h (pc + 3) lv st = some q from hz)
      obtain ⟨y1, y2, y3, y4, y5, y6, y7, y8, y9⟩ := hmt a0 M hM
      obtain ⟨rm, m1, m2, m3, m4, hMet⟩ := hcal a0 as h r M hM hca
      have hlk := zlM_inv y1 (show zlM own k a0 w0 = true from hk)
      have hrun := va_runS (g := F0 m pc ls ((as.reverse ++ rest).map (zt sa b))) (H := H) (locs := locs) (cells := cells) (slots := slots) (below := below) (e := e) (meth := meth) (As := as.map (zt sa b)) (rest := rest.map (zt sa b)) ⟨hx, hb, hml, hown, hts⟩ hMet
        ⟨callB_of (R := R) (mN M) hts (zgi (hmt a0 M hM)) rfl rfl rfl (hts _ y3) (hts _ hlk) y4 ⟨Nat.le_trans m3 hfr, Nat.le_trans m4 hlo⟩, hts _ (y6 hki)⟩ ⟨zblind, fun U hU hW => pre as U hU hW⟩ rfl (by rw [List.length_map]; exact hlen) hl.1 (by rw [List.map_append, List.map_reverse]) (lv_room (by rw [zcat_t]; exact hcat)) hd ⟨by rw [m1]; exact hcl, by rw [m2]; exact hsl⟩
      refine zgoe hrun fun H' L h1 h2 h3 => ?_
      rw [m1, m2]
      exact kk H' L ls hl h1 h2 h3
    · obtain ⟨M, as, rest, r, hM, hki, hlen, rfl, -, hcat, hca, hm1, hm2, rfl⟩ := zcm_inv (show zcm mt call 0 a0 h (pc + 3) lv st = some q from hz)
      obtain ⟨y1, y2, y3, y4, y5, y6, y7, y8, y9⟩ := hmt a0 M hM
      obtain ⟨rm, m1, m2, m3, m4, hMet⟩ := hcal a0 as h r M hM hca
      have hlk := zlMN_inv y1 (show zlMN own k a0 w0 = true from hk)
      have hrun := va_runSN (g := F0 m pc ls ((as.reverse ++ rest).map (zt sa b))) (H := H) (locs := locs) (cells := cells) (slots := slots) (below := below) (e := e) (meth := meth) (As := as.map (zt sa b)) (rest := rest.map (zt sa b)) ⟨hx, hb, hml, hown, hts⟩ hMet
        ⟨va_cnB (R := R) (mN M) hts (zgi (hmt a0 M hM)) rfl rfl rfl (va_Nw.of rfl (hts _ hlk)) (hts _ y3) y4 ⟨Nat.le_trans m3 hfr, Nat.le_trans m4 hlo⟩, hts _ (y6 hki), trivial⟩ ⟨zblind, fun U hU hW => pre as U hU hW⟩ rfl (by rw [List.length_map]; exact hlen) hl.1 (by rw [List.map_append, List.map_reverse]) (lv_room (by rw [zcat_t]; exact hcat)) hd ⟨by rw [m1]; exact hcl, by rw [m2]; exact hsl⟩
      refine zgoe hrun fun H' L h1 h2 h3 => ?_
      rw [m1, m2]
      exact kk H' L ls hl h1 h2 h3
    · exact znq hz
    · obtain ⟨x, y, r, rfl, f1, f2, rfl⟩ := zmx_inv (show zmx (fun x y => if y < x then y else x) fr lo h (pc + 3) lv st = some q from hz)
      have hlk : Cond.methodLink own k Lib.Math.min.name ∈ zlw := zmm (of_decide_eq_true (show decide (lw_tbl[w0]? = some (Cond.methodLink own k Lib.Math.min.name)) = true from hk)) rfl
      have h7 := kk H [] ls hl hR (fun _ _ => rfl) (fun x hx => by cases hx)
      rw [List.append_nil] at h7
      have hcl2 : cells + (h.1.length - h.1.length) ≤ R.cells := hcl
      have hsl2 : slots + (h.2 - h.2) ≤ R.slots := hsl
      exact va_mmin hx hb (by rw [hml]; exact hl.1.symm) hown (hts _ hlk) (hts _ hobj.2.2.1.1) (hts _ hobj.2.1) (hts _ hobj.2.2.1.2) (Nat.le_trans f1 hfr) (by rw [zcat_t]; exact Nat.le_trans f2 hlo) (by omega) (by omega) hd (W.cs (cells' := cells + (h.1.length - h.1.length)) (slots' := slots + (h.2 - h.2)) (by omega) (by omega) h7)
    · obtain ⟨x, y, r, rfl, f1, f2, rfl⟩ := zmx_inv (show zmx (fun x y => if x < y then y else x) fr lo h (pc + 3) lv st = some q from hz)
      have hlk : Cond.methodLink own k Lib.Math.max.name ∈ zlw := zmm (of_decide_eq_true (show decide (lw_tbl[w0]? = some (Cond.methodLink own k Lib.Math.max.name)) = true from hk)) rfl
      have h7 := kk H [] ls hl hR (fun _ _ => rfl) (fun x hx => by cases hx)
      rw [List.append_nil] at h7
      have hcl2 : cells + (h.1.length - h.1.length) ≤ R.cells := hcl
      have hsl2 : slots + (h.2 - h.2) ≤ R.slots := hsl
      exact va_mmax hx hb (by rw [hml]; exact hl.1.symm) hown (hts _ hlk) (hts _ hobj.2.2.2.1.1) (hts _ hobj.2.1) (hts _ hobj.2.2.2.1.2) (Nat.le_trans f1 hfr) (by rw [zcat_t]; exact Nat.le_trans f2 hlo) (by omega) (by omega) hd (W.cs (cells' := cells + (h.1.length - h.1.length)) (slots' := slots + (h.2 - h.2)) (by omega) (by omega) h7)
    · obtain ⟨n, dp, d, sp, s0, r, p0, g0, rfl, hs0, hd0, f1, f2, c1, c2, c3, c4, c5, c6, rfl⟩ := zac_inv (show zac fr lo h (pc + 3) lv st = some q from hz)
      have hlk : Cond.methodLink own k arraycopyName ∈ zlw := zmm (of_decide_eq_true (show decide (lw_tbl[w0]? = some (Cond.methodLink own k arraycopyName)) = true from hk)) rfl
      have hc0 : H[b + s0]? = some (arrV (tc 0) p0.length (fun j => zt sa b (p0.getD j .null))) := hR.2 s0 _ hs0
      have hc1 : H[b + d]? = some (arrV (tc 0) g0.length (fun j => zt sa b (g0.getD j .null))) := hR.2 d _ hd0
      have nn : ∀ z : Int32, ¬ z < 0 → z.toInt = (z.toNatClampNeg : Int) := fun z hz => by
        have hz0 : (0 : Int) ≤ z.toInt := by
          have := Int32.not_lt.mp hz
          simpa using Int32.le_iff_toInt_le.mp this
        show z.toInt = ((z.toInt.toNat : Nat) : Int)
        omega
      obtain ⟨-, k0, hk0, cm0, hkk0⟩ := (hK.2 0 (tc 0, .int) rfl).1 p0.length (fun j => zt sa b (p0.getD j .null))
      intro T hT X
      obtain ⟨vm', X', step⟩ := X.arraycopy hx hown (hts _ hlk) (hts _ hobj.2.2.2.2.1.1) (hts _ hobj.2.2.2.2.1.2.1) (hts _ hobj.2.2.2.2.1.2.2) (src := b + s0) (dst := b + d) (cs := arrV (tc 0) p0.length (fun j => zt sa b (p0.getD j .null))) (cd := arrV (tc 0) g0.length (fun j => zt sa b (g0.getD j .null))) (srcPos := sp) (destPos := dp) (n := n) (by rw [hT]; exact hc0) (by rw [hT]; exact hc1)
        (fun _ h => by cases h) (fun _ h => by cases h) (fun h => by cases h) (fun h => by cases h) hk0 hk0 hkk0 hkk0 (by simp) c1 c2 c3
        (by rw [nn sp c1, nn n c3, arrV_size]; omega) (by rw [nn dp c2, nn n c3, arrV_size]; omega)
        (fun vm₁ _ i hi => by
          obtain ⟨kk2, hkk2⟩ := zisI_ok c6 (show sp.toNatClampNeg + i < p0.length by omega)
          have e : (arrV (tc 0) p0.length (fun j => zt sa b (p0.getD j .null))).slots.getD (sp.toNatClampNeg + i) .null = .int kk2 := by
            rw [Array.getD_eq_getD_getElem?, arrV_read _ _ (by omega), hkk2]
            rfl
          rw [e]
          exact ⟨rfl, trivial⟩)
        (g := F0 m pc ls (.int n :: .int dp :: .ref (b + d) :: .int sp :: .ref (b + s0) :: r.map (zt sa b))) rfl (by rw [hml]; exact hl.1) (rest := r.map (zt sa b)) rfl (by rw [hb]; exact hd) (Nat.le_trans f1 hfr)
        (by
          have e := zcat_t sa b r
          show 2 * 0 + ((r.map (zt sa b)).map fun v => v.category).sum + (7 + 11) ≤ R.locals
          omega)
      have e1 : copied (arrV (tc 0) p0.length (fun j => zt sa b (p0.getD j .null))) (arrV (tc 0) g0.length (fun j => zt sa b (g0.getD j .null))) sp dp n = arrV (tc 0) (zcp p0 g0 sp.toNatClampNeg dp.toNatClampNeg n.toNatClampNeg).length (fun j => zt sa b ((zcp p0 g0 sp.toNatClampNeg dp.toNatClampNeg n.toNatClampNeg).getD j .null)) := by
        rw [zcp_len c4 c5]
        refine (va_copied (zt sa b) (tc 0) (tc 0) (fun j => p0.getD j .null) (fun j => g0.getD j .null) c4).trans ?_
        apply arrV_cg
        intro j _
        rw [zcp_get c4 c5]
      rw [e1] at X' step
      have hlt : b + d < T.heap.size := by rw [hT]; exact (Array.getElem?_eq_some_iff.mp hc1).1
      have h7 := kk ((T.setVm vm').setCell (b + d) (arrV (tc 0) (zcp p0 g0 sp.toNatClampNeg dp.toNatClampNeg n.toNatClampNeg).length (fun j => zt sa b ((zcp p0 g0 sp.toNatClampNeg dp.toNatClampNeg n.toNatClampNeg).getD j .null)))).heap (((arrV (tc 0) p0.length (fun j => zt sa b (p0.getD j .null))).stretch sp.toNatClampNeg n.toNatClampNeg).zipIdx.map fun q => (⟨b + d, dp.toNatClampNeg + q.2⟩ : Loc)) ls hl
        (hR.set hd0 (by rw [size_setCell]; show T.heap.size = _; rw [hT]) (fun x hx => by rw [heapAt_setCell_ne _ (Ne.symm hx)]; show T.heap[x]? = _; rw [hT]) (heapAt_setCell_self _ hlt))
        (fun x hxb => by rw [heapAt_setCell_ne _ (Nat.ne_of_gt (Nat.lt_of_lt_of_le hxb (Nat.le_add_right b d)))]; show T.heap[x]? = _; rw [hT])
        (fun x hx => by obtain ⟨z, -, hz⟩ := List.mem_map.mp hx; rw [← hz]; exact Nat.le_add_right b d)
      have hcl2 : cells + (h.1.length - h.1.length) ≤ R.cells := by simpa using hcl
      obtain ⟨t, a1, b1⟩ := (W.cs (cells := cells) (slots := slots) (by simp) (by simp) h7) _ rfl X'
      exact ⟨t, step t a1, b1⟩
    · exact znq hz
  | invokevirtual k =>
    rcases b0 with _ | _ | b0
    · obtain ⟨M, as, rest, r, hM, hki, hlen, rfl, hrc, hcat, hca, hm1, hm2, rfl⟩ := zcm_inv (show zcm mt call 1 a0 h (pc + 3) lv st = some q from hz)
      obtain ⟨y1, y2, y3, y4, y5, y6, y7, y8, y9⟩ := hmt a0 M hM
      obtain ⟨rm, m1, m2, m3, m4, hMet⟩ := hcal a0 as h r M hM hca
      have hlk := zlM_inv y1 (show zlM own k a0 w0 = true from hk)
      obtain ⟨z1, z2, C, z3, z4⟩ := y7 hki
      obtain ⟨u, as', fs, rfl, hu⟩ := zrc1_inv hrc
      have hat : va_at D zcl (b + u, .inr ((mW M).2.2.2, fs.map (zt sa b))) H := hR.2 u _ hu
      have hrec := va_recv hK (zP1 hat) z3 (q0 := 0) rfl
      rw [z4] at hrec
      have hst : ((Value.ref u :: as').reverse ++ rest).map (zt sa b) = (as'.map (zt sa b)).reverse ++ .ref (b + u) :: rest.map (zt sa b) := by simp [zt]
      have hrun := va_runV (g := F0 m pc ls (((Value.ref u :: as').reverse ++ rest).map (zt sa b))) (H := H) (locs := locs) (cells := cells) (slots := slots) (below := below) (e := e) (meth := meth) (b := b + u) (As := as'.map (zt sa b)) (rest := rest.map (zt sa b)) ⟨hx, hb, hml, hown, hts⟩ hMet
        ⟨callB_of (R := R) (mN M) hts (zgi (hmt a0 M hM)) rfl rfl rfl (hts _ y3) (hts _ hlk) y4 ⟨Nat.le_trans m3 hfr, Nat.le_trans m4 hlo⟩, hts _ z1, hts _ z2⟩ ⟨zblind, hrec, fun U hU hW => pre (.ref u :: as') U hU hW⟩ rfl (by rw [List.length_map]; exact Nat.succ.inj hlen) hl.1 hst (lv_room (by rw [zcat_t]; exact hcat)) hd ⟨by rw [m1]; exact hcl, by rw [m2]; exact hsl⟩
      refine zgoe hrun fun H' L h1 h2 h3 => ?_
      rw [m1, m2]
      exact kk H' L ls hl h1 h2 h3
    · obtain ⟨u, r, l0, rfl, hu, f1, f2, f3, rfl⟩ := zcn_inv (show zcn fr lo h (pc + 3) lv st = some q from hz)
      have hlk : Cond.methodLink own k ⟨"[I", "clone", "()Ljava/lang/Object;"⟩ ∈ zlw := zmm (of_decide_eq_true (show decide (lw_tbl[w0]? = some (Cond.methodLink own k ⟨"[I", "clone", "()Ljava/lang/Object;"⟩)) = true from hk)) rfl
      have hc0 : H[b + u]? = some (arrV (tc 0) l0.length (fun j => zt sa b (l0.getD j .null))) := hR.2 u _ hu
      have hnm : s.vm.findClass "[I" = some (tc 0) := (hK.2 0 (tc 0, .int) rfl).2
      obtain ⟨c0, t0', g1, g2, g3⟩ := Cond.castable_spec (hts _ hobj.2.2.2.2.2.2.2.2.2)
      cases hnm.symm.trans g1
      have e1 : (h.1 ++ [(.inl (0, l0) : zC)]).length - h.1.length = 1 := by simp
      have e2 : h.2 + l0.length - h.2 = l0.length := by omega
      have hcl : cells + 1 ≤ R.cells := by rw [← e1]; exact hcl
      have hsl : slots + l0.length ≤ R.slots := by rw [← e2]; exact hsl
      intro T hT X
      obtain ⟨-, kA, hkA, comp, hkind⟩ := State.isArrayOf_alike X.warmed.alike ((hK.2 0 (tc 0, .int) rfl).1 0 (fun _ => .null))
      obtain ⟨-, kS, hkS, compS, hkindS⟩ := (hK.2 0 (tc 0, .int) rfl).1 0 (fun _ => .null)
      obtain ⟨vm', X', step⟩ := X.cloneArray hx hown (hts _ hlk) (hts _ hobj.2.2.2.2.2.1) (hts _ hobj.2.2.2.2.2.2.1) (hts _ hobj.2.2.2.2.2.2.2.1) (hts _ hobj.2.2.2.2.2.2.2.2.1) (a := b + u) (cell := arrV (tc 0) l0.length (fun j => zt sa b (l0.getD j .null))) (by rw [hT]; exact hc0) (fun k h => by cases h) (fun h => by cases h) hnm g2 g3
        (fun i v hv => by
          have hi : i < l0.length := by
            have h9 := (Array.getElem?_eq_some_iff.mp hv).1
            rw [arrV_size] at h9
            exact h9
          obtain ⟨kk2, hkk2⟩ := zisI_ok f3 hi
          rw [arrV_read _ _ hi, hkk2] at hv
          rw [← Option.some.inj hv]
          have hk' : T.vm.classes[tc 0]? = some kA := hkA
          show T.fitsSlot (tc 0) .none i (.int kk2) = true
          simp [State.fitsSlot, State.slotType?, hk', hkind, fits])
        (g := F0 m pc ls (.ref (b + u) :: r.map (zt sa b))) rfl (by rw [hml]; exact hl.1) rfl (by rw [hb]; exact hd) (Nat.le_trans f1 hfr)
        (by
          have e := zcat_t sa b r
          show 2 * 0 + ((r.map (zt sa b)).map fun v => v.category).sum + 14 ≤ R.locals
          omega) hcl (by rw [arrV_size]; exact hsl) (hloader := Vm.clonesLoader_of_array hkS hkindS)
      rw [arrV_size] at X'
      have h7 := kk (H.push (arrV (tc 0) l0.length (fun j => zt sa b (l0.getD j .null)))) [] ls hl (hR.push (by rw [Array.size_push]) (fun x hxl => by rw [Array.getElem?_push, if_neg (Nat.ne_of_lt hxl)]) (by
          show (H.push _)[b + h.1.length]? = some (arrV (tc 0) l0.length (fun j => zt sa b (l0.getD j .null)))
          rw [← hR.1, Array.getElem?_push_size])) (fun x hxb => by rw [Array.getElem?_push, if_neg (by rw [hR.1]; omega)]) (fun x hx => by cases hx)
      rw [List.append_nil] at h7
      obtain ⟨t, a1, b1⟩ := (W.cs (cells := cells + 1) (slots := slots + l0.length) (by rw [e1]) (by rw [e2]) h7) _ (by show T.heap.push _ = _; rw [hT]; rfl) X'
      refine ⟨t, step t ?_, b1⟩
      have e3 : (Value.ref T.heap.size :: r.map (zt sa b)) = (Value.ref h.1.length :: r).map (zt sa b) := by rw [hT, hR.1]; rfl
      rw [e3]
      exact a1
    · exact znq hz
  | invokespecial k =>
    by_cases hb2 : b0 = 2
    · subst hb2
      obtain ⟨u, r, rfl, f1, f2, rfl⟩ := zoi_inv (show zoi fr lo h (pc + 3) lv st = some q from hz)
      have hlk : Cond.methodLink own k Lib.objectInit ∈ zlw := zmm (of_decide_eq_true (show decide (lw_tbl[w0]? = some (Cond.methodLink own k Lib.objectInit)) = true from hk)) rfl
      refine W.objInit hx hb hown (hts _ hlk) (hts _ hobj.1.1) (hts _ hobj.1.2) rfl (by rw [hml]; exact hl.1) rfl hd (Nat.le_trans f1 hfr) ?_ ?_
      · show 2 * (F0 m pc ls ((Value.ref u :: r).map (zt sa b))).monitorRoom + ((r.map (zt sa b)).map fun v => v.category).sum + 12 ≤ R.locals
        rw [zcat_t]
        have h8 : 2 * (F0 m pc ls ((Value.ref u :: r).map (zt sa b))).monitorRoom = 0 := rfl
        omega
      · have h7 := kk H [] ls hl hR (fun _ _ => rfl) (fun x hx => by cases hx)
        rw [List.append_nil] at h7
        refine W.cs (cells' := cells + (h.1.length - h.1.length)) (slots' := slots + (h.2 - h.2)) (by omega) (by omega) ?_
        exact h7
    · have hz2 : zcm mt call 2 a0 h (pc + 3) lv st = some q := by
        rcases b0 with _ | _ | _ | b0
        · exact hz
        · exact hz
        · exact absurd rfl hb2
        · exact znq hz
      obtain ⟨M, as, rest, r, hM, hki, hlen, rfl, hrc, hcat, hca, hm1, hm2, rfl⟩ := zcm_inv hz2
      obtain ⟨y1, y2, y3, y4, y5, y6, y7, y8, y9⟩ := hmt a0 M hM
      obtain ⟨rm, m1, m2, m3, m4, hMet⟩ := hcal a0 as h r M hM hca
      obtain ⟨z1, z2, z3⟩ := y8 hki
      obtain ⟨u, as', rfl⟩ := zrc2_inv hrc
      have hw : zws M = Cond.code (mY M) (mC M) (mL M) none :: zlw.filter goodWord := by unfold zws; rw [z3]
      have hst : ((Value.ref u :: as').reverse ++ rest).map (zt sa b) = (as'.map (zt sa b)).reverse ++ .ref (b + u) :: rest.map (zt sa b) := by simp [zt]
      rcases b0 with _ | _ | _ | b0
      · have hlk := zlM_inv y1 (show zlM own k a0 w0 = true from hk)
        have hrun := va_runI (g := F0 m pc ls (((Value.ref u :: as').reverse ++ rest).map (zt sa b))) (H := H) (locs := locs) (cells := cells) (slots := slots) (below := below) (e := e) (meth := meth) (b := b + u) (As := as'.map (zt sa b)) (rest := rest.map (zt sa b)) ⟨hx, hb, hml, hown, hts⟩ hMet
          ⟨callB_of (R := R) (mN M) hts (zgi (hmt a0 M hM)) hw rfl rfl (hts _ y3) (hts _ hlk) y4 ⟨Nat.le_trans m3 hfr, Nat.le_trans m4 hlo⟩, z2, hts _ z1⟩ ⟨zblind, fun U hU hW => pre (.ref u :: as') U hU hW⟩ rfl (by rw [List.length_map]; exact Nat.succ.inj hlen) hl.1 hst (lv_room (by rw [zcat_t]; exact hcat)) hd ⟨by rw [m1]; exact hcl, by rw [m2]; exact hsl⟩
        refine zgoe hrun fun H' L h1 h2 h3 => ?_
        rw [m1, m2]
        exact kk H' L ls hl h1 h2 h3
      · have hlk := zlMN_inv y1 (show zlMN own k a0 w0 = true from hk)
        have hrun := va_runIN (g := F0 m pc ls (((Value.ref u :: as').reverse ++ rest).map (zt sa b))) (H := H) (locs := locs) (cells := cells) (slots := slots) (below := below) (e := e) (meth := meth) (b := b + u) (As := as'.map (zt sa b)) (rest := rest.map (zt sa b)) ⟨hx, hb, hml, hown, hts⟩ hMet
          ⟨va_cnB (R := R) (mN M) hts (zgi (hmt a0 M hM)) hw rfl rfl (va_Nw.of rfl (hts _ hlk)) (hts _ y3) y4 ⟨Nat.le_trans m3 hfr, Nat.le_trans m4 hlo⟩, z2, hts _ z1⟩ ⟨zblind, fun U hU hW => pre (.ref u :: as') U hU hW⟩ rfl (by rw [List.length_map]; exact Nat.succ.inj hlen) hl.1 hst (lv_room (by rw [zcat_t]; exact hcat)) hd ⟨by rw [m1]; exact hcl, by rw [m2]; exact hsl⟩
        refine zgoe hrun fun H' L h1 h2 h3 => ?_
        rw [m1, m2]
        exact kk H' L ls hl h1 h2 h3
      · exact absurd rfl hb2
      · exact znq hz
  | _ => exact znq hz
end ZK
