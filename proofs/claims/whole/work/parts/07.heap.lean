-- the heap of the abstract machine lies in the heap from b on
def zat (D : va_G) (tc : Nat → ClassId) (sa b k : Nat) (e : zC) (H : Heap) : Prop := match e with
  | .inl q => H[b + k]? = some (arrV (tc q.1) q.2.length (fun j => zt sa b (q.2.getD j .null)))
  | .inr o => va_at D zcl (b + k, .inr (o.1, o.2.map (zt sa b))) H
theorem zat.kept {D : va_G} {tc : Nat → ClassId} {sa b k : Nat} {e : zC} {H H1 : Heap} (h : zat D tc sa b k e H) (hq : H1[b + k]? = H[b + k]?) : zat D tc sa b k e H1 := by
  cases e with
  | inl q => exact hq.trans h
  | inr o => exact va_at.kept (q := (b + k, .inr (o.1, o.2.map (zt sa b)))) h hq
def zR (D : va_G) (tc : Nat → ClassId) (sa b : Nat) (h : List zC) (H : Heap) : Prop := H.size = b + h.length ∧ ∀ (k : Nat) (e : zC), h[k]? = some e → zat D tc sa b k e H
theorem zR.set {D : va_G} {tc : Nat → ClassId} {sa b k : Nat} {h : List zC} {e0 e : zC} {H H1 : Heap} (hR : zR D tc sa b h H) (hk : h[k]? = some e0) (z : H1.size = H.size) (oq : ∀ q : Nat, q ≠ b + k → H1[q]? = H[q]?) (he : zat D tc sa b k e H1) : zR D tc sa b (h.set k e) H1 := by
  refine ⟨by rw [z, hR.1, List.length_set], fun j x hj => ?_⟩
  by_cases hjk : j = k
  · rw [hjk] at hj ⊢
    rw [List.getElem?_set_self (List.getElem?_eq_some_iff.mp hk).1] at hj
    rw [← Option.some.inj hj]
    exact he
  · rw [List.getElem?_set_ne (Ne.symm hjk)] at hj
    exact (hR.2 j x hj).kept (oq _ (by omega))
theorem zR.push {D : va_G} {tc : Nat → ClassId} {sa b : Nat} {h : List zC} {e : zC} {H H1 : Heap} (hR : zR D tc sa b h H) (z : H1.size = H.size + 1) (oq : ∀ q : Nat, q < H.size → H1[q]? = H[q]?) (he : zat D tc sa b h.length e H1) : zR D tc sa b (h ++ [e]) H1 := by
  refine ⟨by rw [z, hR.1, List.length_append]; rfl, fun j x hj => ?_⟩
  by_cases hl : j < h.length
  · rw [List.getElem?_append_left hl] at hj
    exact (hR.2 j x hj).kept (oq _ (by rw [hR.1]; omega))
  · have hj2 : j < (h ++ [e]).length := (List.getElem?_eq_some_iff.mp hj).1
    rw [List.length_append] at hj2
    have hj3 : j = h.length := by simp at hj2; omega
    rw [hj3] at hj ⊢
    rw [List.getElem?_append_right (Nat.le_refl _), Nat.sub_self] at hj
    rw [← Option.some.inj hj]
    exact he
theorem zP1 {D : va_G} {cl : List vw_C} {q : Nat × va_E} {H : Heap} (h : va_at D cl q H) : va_P D cl [q] H := fun k x hk => by
  cases k with
  | zero => rw [← Option.some.inj hk]; exact h
  | succ k => simp at hk
theorem arrV_cg (cA : ClassId) {N : Nat} {f g : Nat → Value} (h : ∀ j, j < N → f j = g j) : arrV cA N f = arrV cA N g := by
  unfold arrV
  congr 2
  funext j
  exact h j.val j.isLt
theorem zt_up (sa b : Nat) (cA : ClassId) (l : List Value) (k : Nat) (v : Value) : arrV cA (l.set k v).length (fun j => zt sa b ((l.set k v).getD j .null)) = (arrV cA l.length (fun j => zt sa b (l.getD j .null))).setSlot k (zt sa b v) := by
  rw [arrV_store, List.length_set]
  apply arrV_cg
  intro j hj
  unfold updV
  by_cases hk : j = k
  · subst hk
    simp [List.getD_eq_getElem?_getD, hj]
  · simp [List.getD_eq_getElem?_getD, List.getElem?_set_ne (Ne.symm hk), hk]
theorem zgd {l : List Value} {k : Nat} {v : Value} (h : l[k]? = some v) : l.getD k .null = v := by
  rw [List.getD_eq_getElem?_getD, h]
  rfl
theorem zgf_inv {a b pc : Nat} {h : List zC} {lv : List (Nat × Value)} {st : List Value} {q : zS} (hz : zgf a b h pc lv st = some q) : ∃ u r fs v, st = .ref u :: r ∧ h[u]? = some (.inr (a, fs)) ∧ fs[b]? = some v ∧ q = (pc, lv, v :: r) := by
  unfold zgf at hz
  split at hz
  · next u r =>
    split at hz
    · next o ho =>
      split at hz
      · next hb =>
        split at hz
        · next v hv =>
          have e : o.1 = a := Nat.eq_of_beq_eq_true hb
          exact ⟨u, r, o.2, v, rfl, by rw [ho, ← e], hv, (Option.some.inj hz).symm⟩
        · cases hz
      · cases hz
    · cases hz
  · cases hz
theorem zal_inv {t0 : Nat → Bool} {xs : zX} {pc : Nat} {h : List zC} {lv : List (Nat × Value)} {st : List Value} {q : zS} (hz : zal t0 xs h pc lv st = some q) :
    (∃ j u r t l v, st = .int j :: .ref u :: r ∧ h[u]? = some (.inl (t, l)) ∧ t0 t = true ∧ ¬ (j < 0 ∨ l.length ≤ j.toNatClampNeg) ∧ l[j.toNatClampNeg]? = some v ∧ q = (pc, lv, v :: r)) ∨
    (∃ j u r x, st = .int j :: .retAddr u :: r ∧ xs = some x ∧ t0 0 = true ∧ ¬ (j < 0 ∨ x.1 ≤ j.toNatClampNeg) ∧ q = (pc, lv, .int (x.2 j.toNatClampNeg) :: r)) := by
  unfold zal at hz
  split at hz
  · next j u r =>
    split at hz
    · next o ho =>
      split at hz
      · next hb =>
        have h2 := Bool.and_eq_true_iff.mp hb
        split at hz
        · next v hv => exact Or.inl ⟨j, u, r, o.1, o.2, v, rfl, ho, h2.1, of_decide_eq_true h2.2, hv, (Option.some.inj hz).symm⟩
        · cases hz
      · cases hz
    · cases hz
  · next j u r =>
    split at hz
    · next x =>
      split at hz
      · next hb =>
        have h2 := Bool.and_eq_true_iff.mp hb
        exact Or.inr ⟨j, u, r, x, rfl, rfl, h2.1, of_decide_eq_true h2.2, (Option.some.inj hz).symm⟩
      · cases hz
    · cases hz
  · cases hz
theorem zle_inv {xs : zX} {pc : Nat} {h : List zC} {lv : List (Nat × Value)} {st : List Value} {q : zS} (hz : zle xs h pc lv st = some q) :
    (∃ u r t l, st = .ref u :: r ∧ h[u]? = some (.inl (t, l)) ∧ t < zNT ∧ q = (pc, lv, .int (Int32.ofNat l.length) :: r)) ∨ (∃ u r x, st = .retAddr u :: r ∧ xs = some x ∧ q = (pc, lv, .int (Int32.ofNat x.1) :: r)) := by
  unfold zle at hz
  split at hz
  · next u r =>
    split at hz
    · next o ho =>
      split at hz
      · next hb => exact Or.inl ⟨u, r, o.1, o.2, rfl, ho, Nat.le_of_ble_eq_true hb, (Option.some.inj hz).symm⟩
      · cases hz
    · cases hz
  · next u r =>
    split at hz
    · next x => exact Or.inr ⟨u, r, x, rfl, rfl, (Option.some.inj hz).symm⟩
    · cases hz
  · cases hz
theorem zcc_inv {pc : Nat} {h : List zC} {lv : List (Nat × Value)} {st : List Value} {q : zS} (hz : zcc h pc lv st = some q) : ∃ k r l, st = .ref k :: r ∧ h[k]? = some (.inl (0, l)) ∧ q = (pc, lv, .ref k :: r) := by
  unfold zcc at hz
  split at hz
  · next k r =>
    split at hz
    · next o ho =>
      split at hz
      · next hb =>
        have e : o.1 = 0 := Nat.eq_of_beq_eq_true hb
        exact ⟨k, r, o.2, rfl, by rw [ho, ← e], (Option.some.inj hz).symm⟩
      · cases hz
    · cases hz
  · cases hz
theorem zlF_inv {own : String} {i a b w : Nat} (h : zlF own i a b w = true) : ∃ C, zcl[a]? = some C ∧ b < C.2.2 ∧ Cond.fieldLink own i (C.2.1 b).1 (C.2.1 b).2.1 (C.2.1 b).2.2.1 ∈ zlw := by
  unfold zlF at h
  split at h
  · next C hC =>
    have h2 := Bool.and_eq_true_iff.mp h
    exact ⟨C, hC, Nat.le_of_ble_eq_true h2.1, zmm (of_decide_eq_true h2.2) rfl⟩
  · cases h
section ZH
variable {p : Program} {l : Launch} {e : Env} {R : Room} {s : State} {m : MethodId} {args : Array Value} {below : List Frame} {meth : Method} {c : Code} {H : Heap} {locs : List Loc} {cells slots : Nat} {Q : State → Prop}
variable {cc : ByteArray} {own : String} {sa b nL pc n a0 b0 w0 : Nat} {ini : Bool} {kv : Value} {lv : List (Nat × Value)} {st : List Value} {ls : Array Slot} {q : zS}
variable {D : va_G} {tc : Nat → ClassId} {h : List zC} {xs : zX}
set_option maxHeartbeats 4000000 in
theorem zr_s {i : Jvm.ClassFile.Instr} (hx : p.tables.exec = Jvm.exec) (hb : c.code = cc) (hown : s.vm.findClass own = some m.cls) (hts : ∀ w ∈ zlw, w.before args s = true) (hK : va_K D zcl (ztys tc) s) (hR : zR D tc sa b h H) (hX : ∀ x, xs = some x → va_X sa x.1 x.2 s H)
    (hd : decode cc pc = .ok (i, zlen i n)) (hk : zlnk own nL ini i a0 b0 w0 kv = true) (hl : lv_has ls nL (lv.map (ztl sa b))) (hz : zr i a0 b0 xs h pc lv st = some q)
    (kk : ∀ ls', lv_has ls' nL (q.2.1.map (ztl sa b)) → W p l e R s m args below meth c H locs cells slots Q (F0 m q.1 ls' (q.2.2.map (zt sa b)))) :
    W p l e R s m args below meth c H locs cells slots Q (F0 m pc ls (st.map (zt sa b))) := by
  cases i with
  | getfield k =>
    obtain ⟨u, r, fs, v, rfl, hu, hv, rfl⟩ := zgf_inv (show zgf a0 b0 h (pc + 3) lv st = some q from hz)
    obtain ⟨C, hC, hbN, hfl⟩ := zlF_inv (show zlF own k a0 b0 w0 = true from hk)
    have hat : va_at D zcl (b + u, .inr (a0, fs.map (zt sa b))) H := hR.2 u _ hu
    exact va_get (D := D) (ci := a0) (C := C.1) (T := C.2.1) (N := C.2.2) hx hb hts (zcl_ok a0 hC).1 hown hK (zP1 hat) 0 rfl hC b0 hbN (hts _ hfl) (fun _ h9 => h9) (v := zt sa b v) (by rw [List.getElem?_map, hv]; rfl) hd (kk ls hl)
  | iaload =>
    rcases zal_inv (show zal (fun t => Nat.beq t 0) xs h (pc + 1) lv st = some q from hz) with ⟨j, u, r, t, l, v, rfl, hu, ht, hin, hv, rfl⟩ | ⟨j, u, r, x, rfl, hxs, ht, hin, rfl⟩
    · obtain rfl : t = 0 := Nat.eq_of_beq_eq_true ht
      have hc : H[b + u]? = some (arrV (tc 0) l.length (fun j => zt sa b (l.getD j .null))) := hR.2 u _ hu
      have hlt : j.toNatClampNeg < l.length := Nat.not_le.mp fun x => hin (Or.inr x)
      exact W.iald (v := zt sa b v) hx hb hc ((hK.2 0 (tc 0, .int) rfl).1 l.length _) (fun x => by cases x) (by rw [arrV_size]; exact hin) (by rw [arrV_read _ _ hlt, zgd hv]) rfl rfl hd (kk ls hl)
    · obtain ⟨scr, h1, h2, h3, h4, h5⟩ := hX x hxs
      have hlt : j.toNatClampNeg < x.1 := Nat.not_le.mp fun y => hin (Or.inr y)
      exact W.iald (v := .int (x.2 j.toNatClampNeg)) hx hb h1 h2 h3 (by rw [h4]; exact hin) (h5 _ hlt) rfl rfl hd (kk ls hl)
  | baload =>
    rcases zal_inv (show zal (fun t => Nat.beq t 1) xs h (pc + 1) lv st = some q from hz) with ⟨j, u, r, t, l, v, rfl, hu, ht, hin, hv, rfl⟩ | ⟨j, u, r, x, rfl, hxs, ht, hin, rfl⟩
    · obtain rfl : t = 1 := Nat.eq_of_beq_eq_true ht
      have hc : H[b + u]? = some (arrV (tc 1) l.length (fun j => zt sa b (l.getD j .null))) := hR.2 u _ hu
      have hlt : j.toNatClampNeg < l.length := Nat.not_le.mp fun x => hin (Or.inr x)
      exact W.zald (v := zt sa b v) hx hb hc ((hK.2 1 (tc 1, .boolean) rfl).1 l.length _) (fun x => by cases x) (by rw [arrV_size]; exact hin) (by rw [arrV_read _ _ hlt, zgd hv]) rfl rfl hd (kk ls hl)
    · cases ht
  | laload =>
    rcases zal_inv (show zal (fun t => Nat.beq t 2) xs h (pc + 1) lv st = some q from hz) with ⟨j, u, r, t, l, v, rfl, hu, ht, hin, hv, rfl⟩ | ⟨j, u, r, x, rfl, hxs, ht, hin, rfl⟩
    · obtain rfl : t = 2 := Nat.eq_of_beq_eq_true ht
      have hc : H[b + u]? = some (arrV (tc 2) l.length (fun j => zt sa b (l.getD j .null))) := hR.2 u _ hu
      have hlt : j.toNatClampNeg < l.length := Nat.not_le.mp fun x => hin (Or.inr x)
      exact W.lald (v := zt sa b v) hx hb hc ((hK.2 2 (tc 2, .long) rfl).1 l.length _) (fun x => by cases x) (by rw [arrV_size]; exact hin) (by rw [arrV_read _ _ hlt, zgd hv]) rfl rfl hd (kk ls hl)
    · cases ht
  | aaload =>
    rcases zal_inv (show zal zrt xs h (pc + 1) lv st = some q from hz) with ⟨j, u, r, t, l, v, rfl, hu, ht, hin, hv, rfl⟩ | ⟨j, u, r, x, rfl, hxs, ht, hin, rfl⟩
    · have hc : H[b + u]? = some (arrV (tc t) l.length (fun j => zt sa b (l.getD j .null))) := hR.2 u _ hu
      have hlt : j.toNatClampNeg < l.length := Nat.not_le.mp fun x => hin (Or.inr x)
      unfold zrt at ht
      split at ht
      · next c hc2 =>
        obtain ⟨C, -, -, hty⟩ := zte_ok hc2
        exact W.aald (v := zt sa b v) (ty := .object C.1) hx hb hc ((hK.2 t _ (hty tc)).1 l.length _) rfl (fun x => by cases x) (by rw [arrV_size]; exact hin) (by rw [arrV_read _ _ hlt, zgd hv]) rfl rfl hd (kk ls hl)
      · cases ht
    · cases ht
  | arraylength =>
    rcases zle_inv (show zle xs h (pc + 1) lv st = some q from hz) with ⟨u, r, t, l, rfl, hu, ht, rfl⟩ | ⟨u, r, x, rfl, hxs, rfl⟩
    · have hc : H[b + u]? = some (arrV (tc t) l.length (fun j => zt sa b (l.getD j .null))) := hR.2 u _ hu
      obtain ⟨ty, hty⟩ := ztys_ok ht tc
      exact W.alen hx hb hc ((hK.2 t _ hty).1 l.length _) (by rw [arrV_size]) rfl rfl hd (kk ls hl)
    · obtain ⟨scr, h1, h2, h3, h4, h5⟩ := hX x hxs
      exact W.alen hx hb h1 h2 (by rw [h4]) rfl rfl hd (kk ls hl)
  | checkcast k =>
    obtain ⟨u, r, l, rfl, hu, rfl⟩ := zcc_inv (show zcc h (pc + 3) lv st = some q from hz)
    have hc : H[b + u]? = some (arrV (tc 0) l.length (fun j => zt sa b (l.getD j .null))) := hR.2 u _ hu
    have hlk : Cond.classLink own k "[I" ∈ zlw := zmm (of_decide_eq_true (show decide (lw_tbl[w0]? = some (Cond.classLink own k "[I")) = true from hk)) rfl
    have hnm : s.vm.findClass "[I" = some (tc 0) := (hK.2 0 (tc 0, .int) rfl).2
    intro T hT X
    obtain ⟨vm', X', step⟩ := X.checkcastYes hx hown (hts _ hlk) (by rw [hT]; exact hc) rfl hnm (va_asg _ _) (g := F0 m pc ls (.ref (b + u) :: r.map (zt sa b))) rfl rfl (by rw [hb]; exact hd)
    obtain ⟨t, a1, b1⟩ := kk ls hl (T.setVm vm') hT X'
    exact ⟨t, step t a1, b1⟩
  | _ => exact znq hz
end ZH
theorem zfit_ok {sa b : Nat} {ty : FieldType} {v : Value} (h : zfit ty v = true) : narrow ty (zt sa b v) = zt sa b v ∧ fits ty (zt sa b v) = true := by
  cases ty with
  | int => cases v <;> first | exact ⟨rfl, rfl⟩ | cases h
  | long => cases v <;> first | exact ⟨rfl, rfl⟩ | cases h
  | object C => cases v <;> first | exact ⟨rfl, rfl⟩ | cases h
  | array C => cases v <;> first | exact ⟨rfl, rfl⟩ | cases h
  | boolean =>
    cases v with
    | int k =>
      have h : (decide (k = 0) || decide (k = 1)) = true := h
      rcases Bool.or_eq_true_iff.mp h with h | h
      · rw [of_decide_eq_true h]; exact ⟨(by decide : narrow .boolean (.int 0) = .int 0), (by decide : fits .boolean (.int 0) = true)⟩
      · rw [of_decide_eq_true h]; exact ⟨(by decide : narrow .boolean (.int 1) = .int 1), (by decide : fits .boolean (.int 1) = true)⟩
    | _ => cases h
  | _ => cases h
theorem zpf_inv {a b pc : Nat} {h : List zC} {lv : List (Nat × Value)} {st : List Value} {q : zS × List zC} (hz : zpf a b h pc lv st = some q) : ∃ v u r fs, st = v :: .ref u :: r ∧ h[u]? = some (.inr (a, fs)) ∧ b < fs.length ∧ zfit (zty a b) v = true ∧ q = ((pc, lv, r), h.set u (.inr (a, fs.set b v))) := by
  unfold zpf at hz
  split at hz
  · next v u r =>
    split at hz
    · next o ho =>
      split at hz
      · next hb =>
        have h2 := Bool.and_eq_true_iff.mp hb
        have h3 := Bool.and_eq_true_iff.mp h2.2
        have e : o.1 = a := Nat.eq_of_beq_eq_true h2.1
        exact ⟨v, u, r, o.2, rfl, by rw [ho, ← e], Nat.le_of_ble_eq_true h3.1, h3.2, by rw [← e]; exact (Option.some.inj hz).symm⟩
      · cases hz
    · cases hz
  · cases hz
theorem zis_inv {pc : Nat} {h : List zC} {lv : List (Nat × Value)} {st : List Value} {q : zS × List zC} (hz : zis h pc lv st = some q) : ∃ x j u r l, st = .int x :: .int j :: .ref u :: r ∧ h[u]? = some (.inl (0, l)) ∧ ¬ (j < 0 ∨ l.length ≤ j.toNatClampNeg) ∧ q = ((pc, lv, r), h.set u (.inl (0, l.set j.toNatClampNeg (.int x)))) := by
  unfold zis at hz
  split at hz
  · next x j u r =>
    split at hz
    · next o ho =>
      split at hz
      · next hb =>
        have h2 := Bool.and_eq_true_iff.mp hb
        have e : o.1 = 0 := Nat.eq_of_beq_eq_true h2.1
        exact ⟨x, j, u, r, o.2, rfl, by rw [ho, ← e], of_decide_eq_true h2.2, by rw [← e]; exact (Option.some.inj hz).symm⟩
      · cases hz
    · cases hz
  · cases hz
theorem zbs_inv {pc : Nat} {h : List zC} {lv : List (Nat × Value)} {st : List Value} {q : zS × List zC} (hz : zbs h pc lv st = some q) : ∃ x j u r l, st = .int x :: .int j :: .ref u :: r ∧ h[u]? = some (.inl (1, l)) ∧ ¬ (j < 0 ∨ l.length ≤ j.toNatClampNeg) ∧ q = ((pc, lv, r), h.set u (.inl (1, l.set j.toNatClampNeg (.int (x &&& 1))))) := by
  unfold zbs at hz
  split at hz
  · next x j u r =>
    split at hz
    · next o ho =>
      split at hz
      · next hb =>
        have h2 := Bool.and_eq_true_iff.mp hb
        have e : o.1 = 1 := Nat.eq_of_beq_eq_true h2.1
        exact ⟨x, j, u, r, o.2, rfl, by rw [ho, ← e], of_decide_eq_true h2.2, by rw [← e]; exact (Option.some.inj hz).symm⟩
      · cases hz
    · cases hz
  · cases hz
theorem zls_inv {pc : Nat} {h : List zC} {lv : List (Nat × Value)} {st : List Value} {q : zS × List zC} (hz : zls h pc lv st = some q) : ∃ x j u r l, st = .long x :: .int j :: .ref u :: r ∧ h[u]? = some (.inl (2, l)) ∧ ¬ (j < 0 ∨ l.length ≤ j.toNatClampNeg) ∧ q = ((pc, lv, r), h.set u (.inl (2, l.set j.toNatClampNeg (.long x)))) := by
  unfold zls at hz
  split at hz
  · next x j u r =>
    split at hz
    · next o ho =>
      split at hz
      · next hb =>
        have h2 := Bool.and_eq_true_iff.mp hb
        have e : o.1 = 2 := Nat.eq_of_beq_eq_true h2.1
        exact ⟨x, j, u, r, o.2, rfl, by rw [ho, ← e], of_decide_eq_true h2.2, by rw [← e]; exact (Option.some.inj hz).symm⟩
      · cases hz
    · cases hz
  · cases hz
theorem zas_inv {pc : Nat} {h : List zC} {lv : List (Nat × Value)} {st : List Value} {q : zS × List zC} (hz : zas h pc lv st = some q) : ∃ v j u r t l, st = v :: .int j :: .ref u :: r ∧ h[u]? = some (.inl (t, l)) ∧ zes h t v = true ∧ ¬ (j < 0 ∨ l.length ≤ j.toNatClampNeg) ∧ q = ((pc, lv, r), h.set u (.inl (t, l.set j.toNatClampNeg v))) := by
  unfold zas at hz
  split at hz
  · next v j u r =>
    split at hz
    · next o ho =>
      split at hz
      · next hb =>
        have h2 := Bool.and_eq_true_iff.mp hb
        exact ⟨v, j, u, r, o.1, o.2, rfl, ho, h2.1, of_decide_eq_true h2.2, (Option.some.inj hz).symm⟩
      · cases hz
    · cases hz
  · cases hz
theorem zes_inv {h : List zC} {t : Nat} {v : Value} (hz : zes h t v = true) : ∃ c, zte t = some c ∧ (v = .null ∨ ∃ u fs, v = .ref u ∧ h[u]? = some (.inr (c, fs))) := by
  unfold zes at hz
  split at hz
  · unfold zrt at hz
    split at hz
    · next c hc => exact ⟨c, hc, Or.inl rfl⟩
    · cases hz
  · next u =>
    split at hz
    · next o ho =>
      split at hz
      · next c hc =>
        have e : c = o.1 := Nat.eq_of_beq_eq_true hz
        exact ⟨c, hc, Or.inr ⟨u, o.2, rfl, by rw [ho, e]⟩⟩
      · cases hz
    · cases hz
  · cases hz
section ZW
variable {p : Program} {l : Launch} {e : Env} {R : Room} {s : State} {m : MethodId} {args : Array Value} {below : List Frame} {meth : Method} {c : Code} {H : Heap} {locs : List Loc} {cells slots : Nat} {Q : State → Prop}
variable {cc : ByteArray} {own : String} {sa b nL pc n a0 b0 w0 : Nat} {ini : Bool} {kv : Value} {lv : List (Nat × Value)} {st : List Value} {ls : Array Slot} {q : zS × List zC}
variable {D : va_G} {tc : Nat → ClassId} {h : List zC}
set_option maxHeartbeats 4000000 in
theorem zpf_s {k u : Nat} {v : Value} {r : List Value} {fs : List Value} {C : vw_C} (hx : p.tables.exec = Jvm.exec) (hb : c.code = cc) (hown : s.vm.findClass own = some m.cls) (hts : ∀ w ∈ zlw, w.before args s = true) (hnm : ini = true → meth.name = "<init>") (hK : va_K D zcl (ztys tc) s)
    (hat : va_at D zcl (b + u, .inr (a0, fs.map (zt sa b))) H) (hC : zcl[a0]? = some C) (hbN : b0 < C.2.2) (hfl : Cond.fieldLink own k (C.2.1 b0).1 (C.2.1 b0).2.1 (C.2.1 b0).2.2.1 ∈ zlw) (hlp : zlP own ini a0 b0 = true) (hbl : b0 < fs.length) (hfit : zfit (zty a0 b0) v = true) (hd : decode cc pc = .ok (.putfield k, 3))
    (kk : ∀ (H' : Heap) (i : Nat), va_at D zcl (b + u, .inr (a0, (fs.set b0 v).map (zt sa b))) H' → H'.size = H.size → (∀ x, x ≠ b + u → H'[x]? = H[x]?) → W p l e R s m args below meth c H' (locs ++ [⟨b + u, i⟩]) cells slots Q (F0 m (pc + 3) ls r)) :
    W p l e R s m args below meth c H locs cells slots Q (F0 m pc ls (zt sa b v :: .ref (b + u) :: r)) := by
  obtain ⟨ok1, ok2, ok3, -⟩ := zcl_ok a0 hC
  have hap := va_apart (own := own) hts ok1 (zty a0) ok2 ok3 hK hC
  obtain ⟨r', h1, cell, q1, q2, q3, q4⟩ := hat
  have hr : r' = C := Option.some.inj (h1.symm.trans hC)
  subst hr
  obtain ⟨hS, hfc, kC, hkC, hkind⟩ := hK.1 a0 _ hC
  obtain ⟨cf, kf, fi, f, hi, hsl⟩ := hS b0 hbN
  have hlay := hts _ (ok1 _ (u_in_lay hbN))
  have hst := (u_facts hfc hkC (u_lays hts ok1 hbN) hi).1
  obtain ⟨hn, hf⟩ := zfit_ok (sa := sa) (b := b) hfit
  have fin : ∀ H' : Heap, H'[b + u]? = some (cell.setSlot (D.2 a0 b0) (zt sa b v)) → va_at D zcl (b + u, .inr (a0, (fs.set b0 v).map (zt sa b))) H' := fun H' e1 => by
    rw [List.map_set]
    exact ⟨_, hC, t_OB.to (V := updV (vp_V (fs.map (zt sa b))) b0 (zt sa b v)) ⟨_, e1, q2, q3, t_set q4 hap hbN _⟩ (fun j _ => vp_updV_set (by rw [List.length_map]; exact hbl) _ j)⟩
  unfold u_lay at hlay
  cases hF : (r'.2.1 b0).2.2.2 with
  | false =>
    rw [if_neg (by rw [hF]; decide)] at hlay
    refine W.putK hx hb (f := f) ⟨hown, hts _ hfl, ⟨_, _, _, hi⟩, hst⟩ (by rw [q2]; exact u_store hfc hkC hkind hlay hi (ok2 b0 hbN) hn hf) q1 q3 (by rw [hsl]; exact k2_hasslot (q4 b0 hbN)) rfl rfl hd fun H' e1 e2 e3 => ?_
    rw [hsl] at e1 ⊢
    exact kk H' _ (fin H' e1) e2 e3
  | true =>
    rw [if_pos hF] at hlay
    have hp : ini = true ∧ (r'.2.1 b0).1 = own := by
      unfold zlP at hlp
      rw [hC] at hlp
      have h2 : (!(r'.2.1 b0).2.2.2 || (ini && decide ((r'.2.1 b0).1 = own))) = true := hlp
      rw [hF] at h2
      have h3 := Bool.and_eq_true_iff.mp (show (ini && decide ((r'.2.1 b0).1 = own)) = true from h2)
      exact ⟨h3.1, of_decide_eq_true h3.2⟩
    have hcf : m.cls = cf := by
      obtain ⟨_, _, c', _, _, _, -, -, hf', -, -, -, hown2, -⟩ := Cond.laysFinal_spec hlay
      have e1 : c' = cf := by have := hi.symm.trans hf'; simp at this; exact this.1.symm
      rw [hp.2] at hown2
      rw [← e1]; exact Option.some.inj (hown.symm.trans hown2)
    refine W.putFinK hx hb hown (hts _ hfl) hi hst hcf (hnm hp.1) (by rw [q2]; exact u_fits hfc hkC hkind (Or.inr hlay) hi (ok2 b0 hbN) hn hf) q1 q3 (by rw [hsl]; exact k2_hasslot (q4 b0 hbN)) rfl rfl hd fun H' e1 e2 e3 => ?_
    rw [hsl] at e1 ⊢
    exact kk H' _ (fin H' e1) e2 e3
set_option maxHeartbeats 4000000 in
theorem zw_s {i : Jvm.ClassFile.Instr} (hx : p.tables.exec = Jvm.exec) (hb : c.code = cc) (hown : s.vm.findClass own = some m.cls) (hts : ∀ w ∈ zlw, w.before args s = true) (hnm : ini = true → meth.name = "<init>") (hK : va_K D zcl (ztys tc) s) (hR : zR D tc sa b h H)
    (hd : decode cc pc = .ok (i, zlen i n)) (hk : zlnk own nL ini i a0 b0 w0 kv = true) (hl : lv_has ls nL (lv.map (ztl sa b))) (hz : zw i a0 b0 h pc lv st = some q)
    (kk : ∀ (H' : Heap) (L : List Loc) (ls' : Array Slot), lv_has ls' nL (q.1.2.1.map (ztl sa b)) → zR D tc sa b q.2 H' → (∀ x, x < b → H'[x]? = H[x]?) → (∀ x ∈ L, b ≤ x.base) → W p l e R s m args below meth c H' (locs ++ L) cells slots Q (F0 m q.1.1 ls' (q.1.2.2.map (zt sa b)))) :
    W p l e R s m args below meth c H locs cells slots Q (F0 m pc ls (st.map (zt sa b))) := by
  have one : ∀ {u k : Nat}, ∀ x ∈ [(⟨b + u, k⟩ : Loc)], b ≤ x.base := fun {u k} x hx => by
    rw [List.mem_singleton.mp hx]; exact Nat.le_add_right b u
  cases i with
  | putfield k =>
    obtain ⟨v, u, r, fs, rfl, hu, hbl, hfit, rfl⟩ := zpf_inv hz
    have hk2 := Bool.and_eq_true_iff.mp (show (zlF own k a0 b0 w0 && zlP own ini a0 b0) = true from hk)
    obtain ⟨C, hC, hbN, hfl⟩ := zlF_inv hk2.1
    have hat : va_at D zcl (b + u, .inr (a0, fs.map (zt sa b))) H := hR.2 u _ hu
    exact zpf_s hx hb hown hts hnm hK hat hC hbN hfl hk2.2 hbl hfit hd (fun H' i h1 h2 h3 => kk H' _ ls hl (hR.set hu h2 h3 h1) (fun x hxb => h3 x (by omega)) one)
  | iastore =>
    obtain ⟨x, j, u, r, l, rfl, hu, hin, rfl⟩ := zis_inv hz
    have hc : H[b + u]? = some (arrV (tc 0) l.length (fun j => zt sa b (l.getD j .null))) := hR.2 u _ hu
    refine W.iast hx hb hc ((hK.2 0 (tc 0, .int) rfl).1 l.length _) (fun x => by cases x) (by rw [arrV_size]; exact hin) rfl rfl hd fun H' e1 z oq => ?_
    refine kk H' _ ls hl (hR.set hu z oq ?_) (fun x hxb => oq x (Nat.ne_of_lt (Nat.lt_of_lt_of_le hxb (Nat.le_add_right b u)))) one
    show H'[b + u]? = some (arrV (tc 0) (l.set j.toNatClampNeg (.int x)).length (fun q => zt sa b ((l.set j.toNatClampNeg (.int x)).getD q .null)))
    rw [zt_up, e1]
    rfl
  | bastore =>
    obtain ⟨x, j, u, r, l, rfl, hu, hin, rfl⟩ := zbs_inv hz
    have hc : H[b + u]? = some (arrV (tc 1) l.length (fun j => zt sa b (l.getD j .null))) := hR.2 u _ hu
    refine W.zast hx hb hc ((hK.2 1 (tc 1, .boolean) rfl).1 l.length _) (fun x => by cases x) (by rw [arrV_size]; exact hin) rfl rfl hd fun H' e1 z oq => ?_
    refine kk H' _ ls hl (hR.set hu z oq ?_) (fun x hxb => oq x (Nat.ne_of_lt (Nat.lt_of_lt_of_le hxb (Nat.le_add_right b u)))) one
    show H'[b + u]? = some (arrV (tc 1) (l.set j.toNatClampNeg (.int (x &&& 1))).length (fun q => zt sa b ((l.set j.toNatClampNeg (.int (x &&& 1))).getD q .null)))
    rw [zt_up, e1]
    rfl
  | lastore =>
    obtain ⟨x, j, u, r, l, rfl, hu, hin, rfl⟩ := zls_inv hz
    have hc : H[b + u]? = some (arrV (tc 2) l.length (fun j => zt sa b (l.getD j .null))) := hR.2 u _ hu
    refine W.last hx hb hc ((hK.2 2 (tc 2, .long) rfl).1 l.length _) (fun x => by cases x) (by rw [arrV_size]; exact hin) rfl rfl hd fun H' e1 z oq => ?_
    refine kk H' _ ls hl (hR.set hu z oq ?_) (fun x hxb => oq x (Nat.ne_of_lt (Nat.lt_of_lt_of_le hxb (Nat.le_add_right b u)))) one
    show H'[b + u]? = some (arrV (tc 2) (l.set j.toNatClampNeg (.long x)).length (fun q => zt sa b ((l.set j.toNatClampNeg (.long x)).getD q .null)))
    rw [zt_up, e1]
    rfl
  | aastore =>
    obtain ⟨v, j, u, r, t, l, rfl, hu, hes, hin, rfl⟩ := zas_inv hz
    have hc : H[b + u]? = some (arrV (tc t) l.length (fun j => zt sa b (l.getD j .null))) := hR.2 u _ hu
    have hlt : j.toNatClampNeg < l.length := Nat.not_le.mp fun x => hin (Or.inr x)
    have h0 : ¬ j < 0 := fun x => hin (Or.inl x)
    obtain ⟨ce, hce, hv⟩ := zes_inv hes
    obtain ⟨C, hC, -, hty⟩ := zte_ok hce
    have fin : ∀ H' : Heap, H'[b + u]? = some ((arrV (tc t) l.length (fun j => zt sa b (l.getD j .null))).setSlot j.toNatClampNeg (zt sa b v)) → zat D tc sa b u (.inl (t, l.set j.toNatClampNeg v)) H' := fun H' e1 => by
      show H'[b + u]? = some (arrV (tc t) (l.set j.toNatClampNeg v).length (fun q => zt sa b ((l.set j.toNatClampNeg v).getD q .null)))
      rw [zt_up, e1]
    rcases hv with rfl | ⟨y, fs, rfl, hy⟩
    · exact va_WaastN (C := C.1) hx hb hc ((hK.2 t _ (hty tc)).1 l.length _) (fun x => by cases x) (by rw [arrV_size]; exact hin) rfl rfl hd fun H' e1 z oq => kk H' _ ls hl (hR.set hu z oq (fin H' e1)) (fun x hxb => oq x (Nat.ne_of_lt (Nat.lt_of_lt_of_le hxb (Nat.le_add_right b u)))) one
    · obtain ⟨r', hr', cellV, g1, g2, g3, -⟩ := (hR.2 y _ hy : va_at D zcl (b + y, .inr (ce, fs.map (zt sa b))) H)
      have hcls := (hK.1 ce C hC).2
      obtain ⟨kA, comp, k1, k2, k3, -⟩ := (hK.2 t _ (hty tc)).2
      have hcomp : comp = D.1 ce := Option.some.inj (k3.symm.trans hcls.1)
      subst hcomp
      obtain ⟨kC, hkC, -⟩ := hcls.2
      exact W.aast hx hb hc (fun x hh => by cases hh) (fun hh => by cases hh) k1 k2 rfl hkC ⟨h0, by rw [arrV_size]; exact hlt⟩ g1 (fun x hh => by rw [g3] at hh; cases hh) (by rw [g2]; exact hkC) (by rw [g2]; exact va_assign hcls) rfl rfl hd fun H' e1 z oq => kk H' _ ls hl (hR.set hu z oq (fin H' e1)) (fun x hxb => oq x (Nat.ne_of_lt (Nat.lt_of_lt_of_le hxb (Nat.le_add_right b u)))) one
  | _ => exact znq hz
end ZW
theorem zrep {sa b : Nat} (cA : ClassId) (n : Nat) (d : Value) : arrV cA (List.replicate n d).length (fun j => zt sa b ((List.replicate n d).getD j .null)) = arrV cA n (fun _ => zt sa b d) := by
  rw [List.length_replicate]
  apply arrV_cg
  intro j hj
  simp [List.getD_eq_getElem?_getD, List.getElem?_replicate, hj]
theorem zdf_t {sa b a : Nat} {C : vw_C} (h : zcl[a]? = some C) : (zdf a).map (zt sa b) = zdf a := zdf_map sa b a h
theorem zna_inv {a pc : Nat} {d : Value} {h : zH} {lv : List (Nat × Value)} {st : List Value} {q : zS × zH} (hz : zna a d h pc lv st = some q) : ∃ n r, st = .int n :: r ∧ ¬ n < 0 ∧ n.toNatClampNeg * 8 ≤ 536870912 ∧ q = ((pc, lv, .ref h.1.length :: r), (h.1 ++ [.inl (a, List.replicate n.toNatClampNeg d)], h.2 + n.toNatClampNeg)) := by
  unfold zna at hz
  split at hz
  · next n r =>
    split at hz
    · next hb =>
      have h2 := Bool.and_eq_true_iff.mp hb
      exact ⟨n, r, rfl, of_decide_eq_true h2.1, Nat.le_of_ble_eq_true h2.2, (Option.some.inj hz).symm⟩
    · cases hz
  · cases hz
theorem zlN_inv {own : String} {i a w : Nat} (h : zlN own i a w = true) : ∃ C, zcl[a]? = some C ∧ Cond.classLink own i C.1 ∈ zlw := by
  unfold zlN at h
  split at h
  · next C hC => exact ⟨C, hC, zmm (of_decide_eq_true h) rfl⟩
  · cases h
section ZN
variable {p : Program} {l : Launch} {e : Env} {R : Room} {s : State} {m : MethodId} {args : Array Value} {below : List Frame} {meth : Method} {c : Code} {H : Heap} {locs : List Loc} {cells slots : Nat} {Q : State → Prop}
variable {cc : ByteArray} {own : String} {sa b nL pc n a0 b0 w0 : Nat} {ini : Bool} {kv : Value} {lv : List (Nat × Value)} {st : List Value} {ls : Array Slot} {q : zS × zH}
variable {D : va_G} {tc : Nat → ClassId} {h : zH}
set_option maxHeartbeats 4000000 in
theorem zn_s {i : Jvm.ClassFile.Instr} (hx : p.tables.exec = Jvm.exec) (hb : c.code = cc) (hown : s.vm.findClass own = some m.cls) (hts : ∀ w ∈ zlw, w.before args s = true) (hK : va_K D zcl (ztys tc) s) (hR : zR D tc sa b h.1 H)
    (hd : decode cc pc = .ok (i, zlen i n)) (hk : zlnk own nL ini i a0 b0 w0 kv = true) (hl : lv_has ls nL (lv.map (ztl sa b))) (hz : zn i a0 h pc lv st = some q)
    (hcl : cells + (q.2.1.length - h.1.length) ≤ R.cells) (hsl : slots + (q.2.2 - h.2) ≤ R.slots)
    (kk : ∀ (H' : Heap) (ls' : Array Slot), lv_has ls' nL (q.1.2.1.map (ztl sa b)) → zR D tc sa b q.2.1 H' → (∀ x, x < b → H'[x]? = H[x]?) → W p l e R s m args below meth c H' locs (cells + (q.2.1.length - h.1.length)) (slots + (q.2.2 - h.2)) Q (F0 m q.1.1 ls' (q.1.2.2.map (zt sa b)))) :
    W p l e R s m args below meth c H locs cells slots Q (F0 m pc ls (st.map (zt sa b))) := by
  cases i with
  | new k =>
    obtain rfl := Option.some.inj hz
    obtain ⟨C, hC, hcw⟩ := zlN_inv (show zlN own k a0 w0 = true from hk)
    obtain ⟨ok1, ok2, ok3, ok4, ok5, ok6, ok7⟩ := zcl_ok a0 hC
    have hKn := hK.1 a0 C hC
    have e1 : (h.1 ++ [(.inr (a0, zdf a0) : zC)]).length - h.1.length = 1 := by simp
    have e2 : h.2 + (zdf a0).length - h.2 = C.2.2 := by rw [ok6]; omega
    have hcl : cells + 1 ≤ R.cells := by rw [← e1]; exact hcl
    have hsl : slots + C.2.2 ≤ R.slots := by rw [← e2]; exact hsl
    refine W.newcK hx hb hown (hts _ hcw) (hts _ ok4) (hts _ ok5) rfl hd hcl hsl hKn.2.1 hR.1 fun H1 kC hkC g1 z1 o1 => ?_
    refine W.cs (cells' := cells + ((h.1 ++ [(.inr (a0, zdf a0) : zC)]).length - h.1.length)) (slots' := slots + (h.2 + (zdf a0).length - h.2)) (by rw [e1]) (by rw [e2]) ?_
    refine kk H1 ls hl (hR.push (by rw [z1, hR.1]) (fun x hxl => o1 x (by rw [← hR.1]; exact hxl)) ?_) (fun x hxb => o1 x (by omega))
    show va_at D zcl (b + h.1.length, .inr (a0, (zdf a0).map (zt sa b))) H1
    rw [zdf_t hC]
    exact ⟨C, hC, (u_born (zty a0) hts ok1 hKn hkC g1 ok2).to ok7⟩
  | newarray t =>
    cases t with
    | int =>
      obtain rfl : a0 = 0 := Nat.eq_of_beq_eq_true (show Nat.beq a0 0 = true from hk)
      obtain ⟨n, r, rfl, hn, hb8, rfl⟩ := zna_inv (show zna 0 (.int 0) h (pc + 2) lv st = some q from hz)
      have e1 : (h.1 ++ [(.inl (0, List.replicate n.toNatClampNeg (.int 0)) : zC)]).length - h.1.length = 1 := by simp
      have e2 : h.2 + n.toNatClampNeg - h.2 = n.toNatClampNeg := by omega
      have hcl : cells + 1 ≤ R.cells := by rw [← e1]; exact hcl
      have hsl : slots + n.toNatClampNeg ≤ R.slots := by rw [← e2]; exact hsl
      refine va_newaK hx hb (hts _ zw_aci) rfl hd rfl hn rfl (by show n.toNatClampNeg * 4 ≤ _; omega) hcl hsl hR.1 fun H1 cA g1 z1 o1 hAr hNm => ?_
      have hcA : cA = tc 0 := Option.some.inj (hNm.symm.trans (hK.2 0 (tc 0, .int) rfl).2)
      refine W.cs (cells' := cells + ((h.1 ++ [(.inl (0, List.replicate n.toNatClampNeg (.int 0)) : zC)]).length - h.1.length)) (slots' := slots + (h.2 + n.toNatClampNeg - h.2)) (by rw [e1]) (by rw [e2]) ?_
      refine kk H1 ls hl (hR.push (by rw [z1, hR.1]) (fun x hxl => o1 x (by rw [← hR.1]; exact hxl)) ?_) (fun x hxb => o1 x (by omega))
      show H1[b + h.1.length]? = some (arrV (tc 0) (List.replicate n.toNatClampNeg (Value.int 0)).length (fun j => zt sa b ((List.replicate n.toNatClampNeg (Value.int 0)).getD j .null)))
      rw [zrep (tc 0) n.toNatClampNeg (.int 0), g1, hcA]
      rfl
    | boolean =>
      obtain rfl : a0 = 1 := Nat.eq_of_beq_eq_true (show Nat.beq a0 1 = true from hk)
      obtain ⟨n, r, rfl, hn, hb8, rfl⟩ := zna_inv (show zna 1 (.int 0) h (pc + 2) lv st = some q from hz)
      have e1 : (h.1 ++ [(.inl (1, List.replicate n.toNatClampNeg (.int 0)) : zC)]).length - h.1.length = 1 := by simp
      have e2 : h.2 + n.toNatClampNeg - h.2 = n.toNatClampNeg := by omega
      have hcl : cells + 1 ≤ R.cells := by rw [← e1]; exact hcl
      have hsl : slots + n.toNatClampNeg ≤ R.slots := by rw [← e2]; exact hsl
      refine va_newaK hx hb (hts _ zw_acz) rfl hd rfl hn rfl (by show n.toNatClampNeg * 1 ≤ _; omega) hcl hsl hR.1 fun H1 cA g1 z1 o1 hAr hNm => ?_
      have hcA : cA = tc 1 := Option.some.inj (hNm.symm.trans (hK.2 1 (tc 1, .boolean) rfl).2)
      refine W.cs (cells' := cells + ((h.1 ++ [(.inl (1, List.replicate n.toNatClampNeg (.int 0)) : zC)]).length - h.1.length)) (slots' := slots + (h.2 + n.toNatClampNeg - h.2)) (by rw [e1]) (by rw [e2]) ?_
      refine kk H1 ls hl (hR.push (by rw [z1, hR.1]) (fun x hxl => o1 x (by rw [← hR.1]; exact hxl)) ?_) (fun x hxb => o1 x (by omega))
      show H1[b + h.1.length]? = some (arrV (tc 1) (List.replicate n.toNatClampNeg (Value.int 0)).length (fun j => zt sa b ((List.replicate n.toNatClampNeg (Value.int 0)).getD j .null)))
      rw [zrep (tc 1) n.toNatClampNeg (.int 0), g1, hcA]
      rfl
    | long =>
      obtain rfl : a0 = 2 := Nat.eq_of_beq_eq_true (show Nat.beq a0 2 = true from hk)
      obtain ⟨n, r, rfl, hn, hb8, rfl⟩ := zna_inv (show zna 2 (.long 0) h (pc + 2) lv st = some q from hz)
      have e1 : (h.1 ++ [(.inl (2, List.replicate n.toNatClampNeg (.long 0)) : zC)]).length - h.1.length = 1 := by simp
      have e2 : h.2 + n.toNatClampNeg - h.2 = n.toNatClampNeg := by omega
      have hcl : cells + 1 ≤ R.cells := by rw [← e1]; exact hcl
      have hsl : slots + n.toNatClampNeg ≤ R.slots := by rw [← e2]; exact hsl
      refine va_newaK hx hb (hts _ zw_acj) rfl hd rfl hn rfl (by show n.toNatClampNeg * 8 ≤ _; omega) hcl hsl hR.1 fun H1 cA g1 z1 o1 hAr hNm => ?_
      have hcA : cA = tc 2 := Option.some.inj (hNm.symm.trans (hK.2 2 (tc 2, .long) rfl).2)
      refine W.cs (cells' := cells + ((h.1 ++ [(.inl (2, List.replicate n.toNatClampNeg (.long 0)) : zC)]).length - h.1.length)) (slots' := slots + (h.2 + n.toNatClampNeg - h.2)) (by rw [e1]) (by rw [e2]) ?_
      refine kk H1 ls hl (hR.push (by rw [z1, hR.1]) (fun x hxl => o1 x (by rw [← hR.1]; exact hxl)) ?_) (fun x hxb => o1 x (by omega))
      show H1[b + h.1.length]? = some (arrV (tc 2) (List.replicate n.toNatClampNeg (Value.long 0)).length (fun j => zt sa b ((List.replicate n.toNatClampNeg (Value.long 0)).getD j .null)))
      rw [zrep (tc 2) n.toNatClampNeg (.long 0), g1, hcA]
      rfl
    | _ => cases hk
  | anewarray k =>
    obtain ⟨n, r, rfl, hn, hb8, rfl⟩ := zna_inv hz
    have hk : (match zte a0 with | some c => zlN own k c w0 | none => false) = true := hk
    split at hk
    · next ce hce =>
      obtain ⟨C, hC, hcw⟩ := zlN_inv hk
      obtain ⟨C', hC', hao, hty⟩ := zte_ok hce
      obtain rfl : C' = C := Option.some.inj (hC'.symm.trans hC)
      have e1 : (h.1 ++ [(.inl (a0, List.replicate n.toNatClampNeg .null) : zC)]).length - h.1.length = 1 := by simp
      have e2 : h.2 + n.toNatClampNeg - h.2 = n.toNatClampNeg := by omega
      have hcl : cells + 1 ≤ R.cells := by rw [← e1]; exact hcl
      have hsl : slots + n.toNatClampNeg ≤ R.slots := by rw [← e2]; exact hsl
      refine W.anew hx hb hown (hts _ hcw) (hts _ hao) rfl hd rfl hn (by omega) hcl hsl fun cA kA comp f1 f2 f3 f4 => ?_
      obtain ⟨kA', comp', k1, k2, k3, k4⟩ := (hK.2 a0 _ (hty tc)).2
      have hcA : cA = tc a0 := Option.some.inj (f1.symm.trans k4)
      refine W.cs (cells' := cells + ((h.1 ++ [(.inl (a0, List.replicate n.toNatClampNeg .null) : zC)]).length - h.1.length)) (slots' := slots + (h.2 + n.toNatClampNeg - h.2)) (by rw [e1]) (by rw [e2]) ?_
      have hstk : (Value.ref H.size :: r.map (zt sa b)) = (Value.ref h.1.length :: r).map (zt sa b) := by rw [hR.1]; rfl
      refine W.eq (g2 := F0 m (pc + 3) ls ((Value.ref h.1.length :: r).map (zt sa b))) (by rw [← hstk]) ?_
      refine kk _ ls hl (hR.push (by rw [Array.size_push]) (fun x hxl => by rw [Array.getElem?_push, if_neg (Nat.ne_of_lt hxl)]) ?_) (fun x hxb => by rw [Array.getElem?_push, if_neg (by rw [hR.1]; omega)])
      show (H.push _)[b + h.1.length]? = some (arrV (tc a0) (List.replicate n.toNatClampNeg Value.null).length (fun j => zt sa b ((List.replicate n.toNatClampNeg Value.null).getD j .null)))
      rw [zrep (tc a0) n.toNatClampNeg .null, ← hR.1, Array.getElem?_push_size, hcA, ← arrV_new]
      rfl
    · cases hk
  | _ => exact znq hz
end ZN
