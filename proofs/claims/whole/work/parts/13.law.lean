-- from a run of the abstract machine to the law's walk
def zcal (mt : List zM) (f fr lo : Nat) : Nat → List Value → zH → Option (Option Value × zH) := fun a' as' h' => match mt[a']? with
  | none => none
  | some M' => match Nat.ble (19 + mL M') lo with
    | true => zcall mt f fr (lo - (19 + mL M')) a' as' h'
    | false => none
theorem zcal_s {l : Launch} {sa b : Nat} {D : va_G} {tc : Nat → ClassId} {mt : List zM} {f fr lo : Nat} (hmt : zT mt) (hg : zgood) (hobj : zlib) : zCal l mt (zcal mt f fr lo) (fr + 1) lo D tc sa b := fun a' as' h' r' M' hM' hc => by
  unfold zcal at hc
  rw [hM'] at hc
  dsimp only at hc
  split at hc
  · next hle =>
    have hle2 : 19 + mL M' ≤ lo := Nat.le_of_ble_eq_true hle
    exact ⟨_, rfl, rfl, Nat.le_refl _, by show 8 + (mL M' + 11) + (lo - (19 + mL M')) ≤ lo; omega, zcall_s hmt hg hobj fr (lo - (19 + mL M')) a' as' h' r' M' hM' hc⟩
  · cases hc
theorem zknow {s : State} {args : Array Value} (hts : ∀ w ∈ zlw, w.before args s = true) : ∃ (D : va_G) (tc : Nat → ClassId), va_K D zcl (ztys tc) s := by
  have h1 : ∀ c : Nat, ∃ v : ClassId × (Nat → Nat), ∀ q : vw_C, zcl[c]? = some q → u_Kn s q.1 q.2.1 q.2.2 v.1 v.2 := fun c => by
    cases hc : zcl[c]? with
    | none => exact ⟨(0, fun _ => 0), fun q hq => by cases hq⟩
    | some C =>
      obtain ⟨ok1, -, -, ok4, -⟩ := zcl_ok c hc
      obtain ⟨cC, iS, hk⟩ := u_known hts ok1 (hts _ ok4)
      exact ⟨(cC, iS), fun q hq => by rw [← Option.some.inj hq]; exact hk⟩
  have h2 : ∀ t : Nat, ∃ cA : ClassId, ∀ ty : FieldType, (ztys (fun _ => cA))[t]? = some (cA, ty) → ArrOfT s cA ty ∧ va_RA s cA ty := fun t => by
    have prim : ∀ ty : FieldType, Cond.arrayClass ty ∈ zlw → ∃ cA : ClassId, ArrOfT s cA ty ∧ s.vm.findClass ("[" ++ ty.toString) = some cA := fun ty hw => by
      obtain ⟨cA, kA, comp, hf, hk, hkind⟩ := Cond.arrayClass_spec (hts _ hw)
      exact ⟨cA, fun n z => ⟨fun k h => (by cases h), kA, hk, comp, hkind⟩, hf⟩
    cases hz : zte t with
    | some c =>
      obtain ⟨C, hC, hao, hty⟩ := zte_ok hz
      obtain ⟨comp, cA, k, g1, g2, g3, g4, g5⟩ := Cond.arrayOver_spec (va_AO.of (hts _ hao))
      refine ⟨cA, fun ty h => ?_⟩
      have e : ty = .object C.1 := (congrArg Prod.snd (Option.some.inj ((hty (fun _ => cA)).symm.trans h))).symm
      rw [e]
      exact ⟨fun N z => ⟨(fun k h => by cases h), k, g3, comp, g4⟩, k, comp, g3, g4, g1, g5⟩
    | none =>
      match t, hz with
      | 0, _ =>
        obtain ⟨cA, p1, p2⟩ := prim .int zw_aci
        exact ⟨cA, fun ty h => by
          have e : FieldType.int = ty := congrArg Prod.snd (Option.some.inj (show some (cA, FieldType.int) = some (cA, ty) from h))
          rw [← e]
          exact ⟨p1, p2⟩⟩
      | 1, _ =>
        obtain ⟨cA, p1, p2⟩ := prim .boolean zw_acz
        exact ⟨cA, fun ty h => by
          have e : FieldType.boolean = ty := congrArg Prod.snd (Option.some.inj (show some (cA, FieldType.boolean) = some (cA, ty) from h))
          rw [← e]
          exact ⟨p1, p2⟩⟩
      | 2, _ =>
        obtain ⟨cA, p1, p2⟩ := prim .long zw_acj
        exact ⟨cA, fun ty h => by
          have e : FieldType.long = ty := congrArg Prod.snd (Option.some.inj (show some (cA, FieldType.long) = some (cA, ty) from h))
          rw [← e]
          exact ⟨p1, p2⟩⟩
      | 3, hz => cases hz
      | 4, hz => cases hz
      | 5, hz => cases hz
      | 6, hz => cases hz
      | n + 7, _ => exact ⟨0, fun ty h => by cases h⟩
  refine ⟨(fun c => (Classical.choose (h1 c)).1, fun c => (Classical.choose (h1 c)).2), fun t => Classical.choose (h2 t), fun c q hq => Classical.choose_spec (h1 c) q hq, fun k q hk => ?_⟩
  have hs := Classical.choose_spec (h2 k)
  have e : ∀ tc : Nat → ClassId, (ztys tc)[k]? = some q → q.1 = tc k ∧ (ztys (fun _ => tc k))[k]? = some (tc k, q.2) := fun tc h => by
    match k, h with
    | 0, h => rw [← Option.some.inj h]; exact ⟨rfl, rfl⟩
    | 1, h => rw [← Option.some.inj h]; exact ⟨rfl, rfl⟩
    | 2, h => rw [← Option.some.inj h]; exact ⟨rfl, rfl⟩
    | 3, h => rw [← Option.some.inj h]; exact ⟨rfl, rfl⟩
    | 4, h => rw [← Option.some.inj h]; exact ⟨rfl, rfl⟩
    | 5, h => rw [← Option.some.inj h]; exact ⟨rfl, rfl⟩
    | 6, h => rw [← Option.some.inj h]; exact ⟨rfl, rfl⟩
    | n + 7, h => cases h
  obtain ⟨e1, e2⟩ := e _ hk
  rw [e1]
  exact hs q.2 e2
theorem zre_one {st : List Value} {i : Jvm.ClassFile.Instr} (h : zre (some .boolean) i st = some (some (.int 1))) : i = .ireturn ∧ st = [.int 1] := by
  cases i with
  | ireturn =>
    rcases st with _ | ⟨a, _ | ⟨a2, r⟩⟩
    · cases h
    · cases a with
      | int v =>
        have h : (match zfit .boolean (.int v) with | true => some (some (Value.int v)) | false => none) = some (some (Value.int 1)) := h
        split at h
        · injection h with h
          injection h with h
          injection h with h
          rw [h]
          exact ⟨rfl, rfl⟩
        · cases h
      | _ => cases h
    · cases a <;> cases h
  | return_ => rcases st with _ | ⟨a, r⟩ <;> cases h
  | lreturn => rcases st with _ | ⟨a, _ | ⟨a2, r⟩⟩ <;> first | cases h | (cases a <;> cases h)
  | areturn => rcases st with _ | ⟨a, _ | ⟨a2, r⟩⟩ <;> first | cases h | (cases a <;> cases h)
  | _ => exact znq h
noncomputable def M_law : zM := (⟨R_La, "law", "([I)Z"⟩, code, 4, some .boolean, 1, (0, 0, 0, 0), 0, k_law)
theorem zwhole {p : Program} {e : Env} {s : State} {m : MethodId} {below : List Frame} {meth : Method} {c : Code} (l : Launch) {b L f g : Nat} {xs : Nat → Int32} {h : zH} (C0 : lw_At p s m meth c b L xs)
    (hz : zloop zmt (zcal zmt f 9 420) 10 420 (some (L, xs)) M_law g (0, [(0, .retAddr 0)], []) ([], 0) = some (some (.int 1), h)) (hc : h.1.length ≤ 600000) (hs : h.2 ≤ 7302250) :
    W p l e room_1 s m #[Value.ref b] below meth c s.heap [] 0 0 (lw_Z below #[Value.ref b] s) (entryFrame m ([Value.ref b] : List Value).toArray 4) := by
  obtain ⟨hx, hb, hr, hml, hown, hts0, hX, hbl, hlocks, -⟩ := C0
  have hts : ∀ w ∈ zlw, w.before #[Value.ref b] s = true := fun w hw => hts0 w (List.mem_filter.mp hw).1
  obtain ⟨D, tc, hK⟩ := zknow hts
  have hl := lv_entry ([Value.ref b] : List Value) (n := 4) (Nat.le_of_ble_eq_true rfl)
  rw [lg_entry_eq]
  generalize (lg_sl ([Value.ref b] : List Value) ++ List.replicate (4 - (lg_sl ([Value.ref b] : List Value)).length) Slot.unset).toArray = ls at hl ⊢
  have hl : lv_has ls 4 (([(0, Value.retAddr 0)] : List (Nat × Value)).map (ztl b s.heap.size)) := hl
  refine zloop_s (M := M_law) (H0 := s.heap) (own := R_La) (ini := false) (sa := b) (b := s.heap.size) (r := (some (.int 1), h)) (Cf := h.1.length) (Sf := h.2) hx hb hml hown hts (fun h => by cases h) hK (fun _ _ => hbl) zmt_ok zgood_ok zlib_ok (zcal_s zmt_ok zgood_ok zlib_ok) (Nat.le_refl _) (Nat.le_refl _) (zall x_law) hc hs
    (fun pc st ls H locs i n h1 h2 h3 h4 h5 => ?_) g (0, [(0, .retAddr 0)], []) ([], 0) ls s.heap [] 0 0 hz hl ⟨rfl, fun k x hk => by simp at hk⟩ (fun x hx => by rw [← Option.some.inj hx]; exact hX) (fun _ _ => rfl) (fun x hx => by cases hx) (by show 0 + (h.1.length - 0) = h.1.length; omega) (by show 0 + (h.2 - 0) = h.2; omega)
  refine va_forget h5 (W.widen (k := 600000) (n := 7302250) hc hs ?_)
  obtain ⟨rfl, rfl⟩ := zre_one (show zre (some .boolean) i st = some (some (.int 1)) from h2)
  exact lw_ret hx hb hr hlocks h1
