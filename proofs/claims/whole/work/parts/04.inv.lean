-- what the abstract machine does, the machine does: values, locals, cells
theorem znq {α : Type} {q : α} {P : Prop} (h : (none : Option α) = some q) : P := by cases h
def zt (sa b : Nat) (v : Value) : Value := match v with
  | .ref i => .ref (b + i)
  | .retAddr _ => .ref sa
  | w => w
theorem zt_cat (sa b : Nat) (v : Value) : (zt sa b v).category = v.category := by cases v <;> rfl
def ztl (sa b : Nat) (q : Nat × Value) : Nat × Value := (q.1, zt sa b q.2)
theorem zgl_mem {i : Nat} {v : Value} : ∀ {lv : List (Nat × Value)}, zgl lv i = some v → (i, v) ∈ lv
  | [], h => by cases h
  | q :: r, h => by
    unfold zgl at h
    cases hq : Nat.beq q.1 i with
    | true =>
      rw [hq] at h
      have e1 : q.1 = i := Nat.eq_of_beq_eq_true hq
      have e2 : q.2 = v := Option.some.inj h
      rw [← e1, ← e2]
      exact List.mem_cons_self
    | false =>
      rw [hq] at h
      exact List.mem_cons_of_mem _ (zgl_mem h)
theorem zgl_at {sa b nL i : Nat} {ls : Array Slot} {lv : List (Nat × Value)} {v : Value} (hl : lv_has ls nL (lv.map (ztl sa b))) (h : zgl lv i = some v) : ls[i]? = some (.val (zt sa b v)) :=
  hl.2.2 (i, zt sa b v) (List.mem_map.mpr ⟨(i, v), zgl_mem h, rfl⟩)
theorem zst_map (sa b : Nat) (lv : List (Nat × Value)) (i : Nat) (v : Value) : (i, zt sa b v) :: (lv.map (ztl sa b)).filter (fun q => !(q.1 == i) && !(q.1 + 1 == i && q.2.category == 2)) = (zst lv i v).map (ztl sa b) := by
  have h : (lv.map (ztl sa b)).filter (fun q => !(q.1 == i) && !(q.1 + 1 == i && q.2.category == 2)) = (lv.filter (fun q => !(q.1 == i) && !(q.1 + 1 == i && q.2.category == 2))).map (ztl sa b) := by
    rw [List.filter_map]
    congr 1
    apply List.filter_congr
    intro q _
    simp [ztl, zt_cat]
  rw [h]
  rfl
theorem zst2_map (sa b : Nat) (lv : List (Nat × Value)) (i : Nat) (v : Value) : (i, zt sa b v) :: (lv.map (ztl sa b)).filter (fun q => !(q.1 == i) && (!(q.1 == i + 1) && !(q.1 + 1 == i && q.2.category == 2))) = (zst2 lv i v).map (ztl sa b) := by
  have h : (lv.map (ztl sa b)).filter (fun q => !(q.1 == i) && (!(q.1 == i + 1) && !(q.1 + 1 == i && q.2.category == 2))) = (lv.filter (fun q => !(q.1 == i) && (!(q.1 == i + 1) && !(q.1 + 1 == i && q.2.category == 2)))).map (ztl sa b) := by
    rw [List.filter_map]
    congr 1
    apply List.filter_congr
    intro q _
    simp [ztl, zt_cat]
  rw [h]
  rfl
theorem ztg_eq {pc t : Nat} {off : Int} (h : ztg pc off = some t) : (pc : Int) + off = (t : Int) := by
  unfold ztg at h
  cases hi : Int.add (Int.ofNat pc) off with
  | ofNat k =>
    rw [hi] at h
    have e : k = t := Option.some.inj h
    rw [← e]
    exact hi
  | negSucc k =>
    rw [hi] at h
    cases h
theorem zi1_inv {pc : Nat} {lv : List (Nat × Value)} {st : List Value} {f : Int32 → Value} {q : zS} (h : zi1 pc lv st f = some q) : ∃ x r, st = .int x :: r ∧ q = (pc, lv, f x :: r) := by
  unfold zi1 at h
  split at h
  · exact ⟨_, _, rfl, (Option.some.inj h).symm⟩
  · cases h
theorem zi2_inv {pc : Nat} {lv : List (Nat × Value)} {st : List Value} {f : Int32 → Int32 → Value} {q : zS} (h : zi2 pc lv st f = some q) : ∃ x y r, st = .int y :: .int x :: r ∧ q = (pc, lv, f x y :: r) := by
  unfold zi2 at h
  split at h
  · exact ⟨_, _, _, rfl, (Option.some.inj h).symm⟩
  · cases h
theorem zl1_inv {pc : Nat} {lv : List (Nat × Value)} {st : List Value} {f : Int64 → Value} {q : zS} (h : zl1 pc lv st f = some q) : ∃ x r, st = .long x :: r ∧ q = (pc, lv, f x :: r) := by
  unfold zl1 at h
  split at h
  · exact ⟨_, _, rfl, (Option.some.inj h).symm⟩
  · cases h
theorem zl2_inv {pc : Nat} {lv : List (Nat × Value)} {st : List Value} {f : Int64 → Int64 → Value} {q : zS} (h : zl2 pc lv st f = some q) : ∃ x y r, st = .long y :: .long x :: r ∧ q = (pc, lv, f x y :: r) := by
  unfold zl2 at h
  split at h
  · exact ⟨_, _, _, rfl, (Option.some.inj h).symm⟩
  · cases h
theorem zdv_inv {pc : Nat} {lv : List (Nat × Value)} {st : List Value} {f : Int32 → Int32 → Value} {q : zS} (h : zdv pc lv st f = some q) : ∃ x y r, st = .int y :: .int x :: r ∧ ¬ y = 0 ∧ q = (pc, lv, f x y :: r) := by
  unfold zdv at h
  split at h
  · split at h
    · cases h
    · next hd => exact ⟨_, _, _, rfl, of_decide_eq_false hd, (Option.some.inj h).symm⟩
  · cases h
theorem zdvl_inv {pc : Nat} {lv : List (Nat × Value)} {st : List Value} {f : Int64 → Int64 → Value} {q : zS} (h : zdvl pc lv st f = some q) : ∃ x y r, st = .long y :: .long x :: r ∧ ¬ y = 0 ∧ q = (pc, lv, f x y :: r) := by
  unfold zdvl at h
  split at h
  · split at h
    · cases h
    · next hd => exact ⟨_, _, _, rfl, of_decide_eq_false hd, (Option.some.inj h).symm⟩
  · cases h
theorem zbr_inv {c : Bool} {pc : Nat} {off : Int} {lv : List (Nat × Value)} {r : List Value} {q : zS} (h : zbr c pc off lv r = some q) : ∃ t : Nat, (pc : Int) + off = (t : Int) ∧ ((c = true ∧ q = (t, lv, r)) ∨ (c = false ∧ q = (pc + 3, lv, r))) := by
  unfold zbr at h
  split at h
  · cases h
  · next t ht =>
    refine ⟨t, ztg_eq ht, ?_⟩
    split at h
    · exact Or.inl ⟨rfl, (Option.some.inj h).symm⟩
    · exact Or.inr ⟨rfl, (Option.some.inj h).symm⟩
theorem zb1_inv {c : Int32 → Bool} {pc : Nat} {off : Int} {lv : List (Nat × Value)} {st : List Value} {q : zS} (h : zb1 c pc off lv st = some q) : ∃ x r, st = .int x :: r ∧ zbr (c x) pc off lv r = some q := by
  unfold zb1 at h
  split at h
  · exact ⟨_, _, rfl, h⟩
  · cases h
theorem zb2_inv {c : Int32 → Int32 → Bool} {pc : Nat} {off : Int} {lv : List (Nat × Value)} {st : List Value} {q : zS} (h : zb2 c pc off lv st = some q) : ∃ x y r, st = .int y :: .int x :: r ∧ zbr (c x y) pc off lv r = some q := by
  unfold zb2 at h
  split at h
  · exact ⟨_, _, _, rfl, h⟩
  · cases h
theorem zbn_inv {n : Bool} {pc : Nat} {off : Int} {lv : List (Nat × Value)} {st : List Value} {q : zS} (h : zbn n pc off lv st = some q) : ∃ r, (st = .null :: r ∧ zbr n pc off lv r = some q) ∨ ∃ k, st = .ref k :: r ∧ zbr (!n) pc off lv r = some q := by
  unfold zbn at h
  split at h
  · exact ⟨_, Or.inl ⟨rfl, h⟩⟩
  · exact ⟨_, Or.inr ⟨_, rfl, h⟩⟩
  · cases h
theorem zgo_inv {pc : Nat} {off : Int} {lv : List (Nat × Value)} {st : List Value} {q : zS} (h : zgo pc off lv st = some q) : ∃ t : Nat, (pc : Int) + off = (t : Int) ∧ q = (t, lv, st) := by
  unfold zgo at h
  split at h
  · cases h
  · next t ht => exact ⟨t, ztg_eq ht, (Option.some.inj h).symm⟩
theorem zld0_inv {pc i : Nat} {lv : List (Nat × Value)} {st : List Value} {q : zS} (h : zld 0 pc lv st i = some q) : ∃ x, zgl lv i = some (.int x) ∧ q = (pc, lv, .int x :: st) := by
  unfold zld at h
  split at h
  · next x hx => exact ⟨x, hx, (Option.some.inj h).symm⟩
  all_goals cases h
theorem zld1_inv {pc i : Nat} {lv : List (Nat × Value)} {st : List Value} {q : zS} (h : zld 1 pc lv st i = some q) : ∃ x, zgl lv i = some (.long x) ∧ q = (pc, lv, .long x :: st) := by
  unfold zld at h
  split at h
  · cases h
  · next x hx => exact ⟨x, hx, (Option.some.inj h).symm⟩
  all_goals cases h
theorem zld2_inv {pc i : Nat} {lv : List (Nat × Value)} {st : List Value} {q : zS} (h : zld 2 pc lv st i = some q) : ∃ v, zgl lv i = some v ∧ q = (pc, lv, v :: st) ∧ ((∃ x, v = .ref x) ∨ v = .null ∨ ∃ x, v = .retAddr x) := by
  unfold zld at h
  split at h
  · cases h
  · cases h
  · next x hx => exact ⟨_, hx, (Option.some.inj h).symm, Or.inl ⟨x, rfl⟩⟩
  · next hx => exact ⟨_, hx, (Option.some.inj h).symm, Or.inr (Or.inl rfl)⟩
  · next x hx => exact ⟨_, hx, (Option.some.inj h).symm, Or.inr (Or.inr ⟨x, rfl⟩)⟩
  · cases h
theorem zsi_inv {pc i : Nat} {lv : List (Nat × Value)} {st : List Value} {q : zS} (h : zsi pc lv st i = some q) : ∃ x r, st = .int x :: r ∧ q = (pc, zst lv i (.int x), r) := by
  unfold zsi at h
  split at h
  · exact ⟨_, _, rfl, (Option.some.inj h).symm⟩
  · cases h
theorem zsl_inv {pc i : Nat} {lv : List (Nat × Value)} {st : List Value} {q : zS} (h : zsl pc lv st i = some q) : ∃ x r, st = .long x :: r ∧ q = (pc, zst2 lv i (.long x), r) := by
  unfold zsl at h
  split at h
  · exact ⟨_, _, rfl, (Option.some.inj h).symm⟩
  · cases h
theorem zsa_inv {pc i : Nat} {lv : List (Nat × Value)} {st : List Value} {q : zS} (h : zsa pc lv st i = some q) : ∃ r, (∃ x, st = .ref x :: r ∧ q = (pc, zst lv i (.ref x), r)) ∨ (st = .null :: r ∧ q = (pc, zst lv i .null, r)) := by
  unfold zsa at h
  split at h
  · exact ⟨_, Or.inl ⟨_, rfl, (Option.some.inj h).symm⟩⟩
  · exact ⟨_, Or.inr ⟨rfl, (Option.some.inj h).symm⟩⟩
  · cases h
theorem zinc_inv {pc i : Nat} {n : Int} {lv : List (Nat × Value)} {st : List Value} {q : zS} (h : zinc pc lv st i n = some q) : ∃ x, zgl lv i = some (.int x) ∧ q = (pc, zst lv i (.int (x + Int32.ofInt n)), st) := by
  unfold zinc at h
  split at h
  · next x hx => exact ⟨x, hx, (Option.some.inj h).symm⟩
  · cases h
theorem zone_cat {sa b : Nat} {v : Value} (h : zone v = true) : (zt sa b v).category = 1 := by
  cases v <;> first | rfl | cases h
theorem zd0_inv {pc : Nat} {lv : List (Nat × Value)} {st : List Value} {q : zS} (h : zd0 pc lv st = some q) : ∃ v r, st = v :: r ∧ zone v = true ∧ q = (pc, lv, v :: v :: r) := by
  unfold zd0 at h
  split at h
  · split at h
    · next hv => exact ⟨_, _, rfl, hv, (Option.some.inj h).symm⟩
    · cases h
  · cases h
theorem zpo_inv {pc : Nat} {lv : List (Nat × Value)} {st : List Value} {q : zS} (h : zpo pc lv st = some q) : ∃ v r, st = v :: r ∧ zone v = true ∧ q = (pc, lv, r) := by
  unfold zpo at h
  split at h
  · split at h
    · next hv => exact ⟨_, _, rfl, hv, (Option.some.inj h).symm⟩
    · cases h
  · cases h
theorem zdx1_inv {pc : Nat} {lv : List (Nat × Value)} {st : List Value} {q : zS} (h : zdx1 pc lv st = some q) : ∃ v w r, st = v :: w :: r ∧ zone v = true ∧ zone w = true ∧ q = (pc, lv, v :: w :: v :: r) := by
  unfold zdx1 at h
  split at h
  · split at h
    · next hv => exact ⟨_, _, _, rfl, (Bool.and_eq_true_iff.mp hv).1, (Bool.and_eq_true_iff.mp hv).2, (Option.some.inj h).symm⟩
    · cases h
  · cases h
theorem zd2_inv {pc : Nat} {lv : List (Nat × Value)} {st : List Value} {q : zS} (h : zd2 pc lv st = some q) : ∃ v w r, st = v :: w :: r ∧ zone v = true ∧ zone w = true ∧ q = (pc, lv, v :: w :: v :: w :: r) := by
  unfold zd2 at h
  split at h
  · split at h
    · next hv => exact ⟨_, _, _, rfl, (Bool.and_eq_true_iff.mp hv).1, (Bool.and_eq_true_iff.mp hv).2, (Option.some.inj h).symm⟩
    · cases h
  · cases h
theorem zdx2_inv {pc : Nat} {lv : List (Nat × Value)} {st : List Value} {q : zS} (h : zdx2 pc lv st = some q) : ∃ v w u r, st = v :: w :: u :: r ∧ zone v = true ∧ zone w = true ∧ zone u = true ∧ q = (pc, lv, v :: w :: u :: v :: r) := by
  unfold zdx2 at h
  split at h
  · split at h
    · next hv =>
      have h1 := Bool.and_eq_true_iff.mp hv
      have h2 := Bool.and_eq_true_iff.mp h1.2
      exact ⟨_, _, _, _, rfl, h1.1, h2.1, h2.2, (Option.some.inj h).symm⟩
    · cases h
  · cases h
theorem zki_inv {pc : Nat} {lv : List (Nat × Value)} {st : List Value} {v : Value} {q : zS} (h : zki pc lv st v = some q) : ∃ x, v = .int x ∧ q = (pc, lv, .int x :: st) := by
  unfold zki at h
  split at h
  · exact ⟨_, rfl, (Option.some.inj h).symm⟩
  · cases h
theorem zkl_inv {pc : Nat} {lv : List (Nat × Value)} {st : List Value} {v : Value} {q : zS} (h : zkl pc lv st v = some q) : ∃ x, v = .long x ∧ q = (pc, lv, .long x :: st) := by
  unfold zkl at h
  split at h
  · exact ⟨_, rfl, (Option.some.inj h).symm⟩
  · cases h
theorem ztsw_inv {pc : Nat} {d lo hi : Int} {offs : Array Int} {lv : List (Nat × Value)} {st : List Value} {q : zS} (h : ztsw pc d lo hi offs lv st = some q) :
    ∃ x r, st = .int x :: r ∧ (((x.toInt < lo ∨ hi < x.toInt) ∧ zgo pc d lv r = some q) ∨ (¬ x.toInt < lo ∧ ¬ hi < x.toInt ∧ ∃ off, offs[(x.toInt - lo).toNat]? = some off ∧ zgo pc off lv r = some q)) := by
  unfold ztsw at h
  split at h
  · next x r =>
    refine ⟨x, r, rfl, ?_⟩
    split at h
    · next hc =>
      rcases Bool.or_eq_true_iff.mp hc with hc | hc
      · exact Or.inl ⟨Or.inl (of_decide_eq_true hc), h⟩
      · exact Or.inl ⟨Or.inr (of_decide_eq_true hc), h⟩
    · next hc =>
      have h2 := Bool.or_eq_false_iff.mp hc
      split at h
      · next off ho => exact Or.inr ⟨of_decide_eq_false h2.1, of_decide_eq_false h2.2, off, ho, h⟩
      · cases h
  · cases h
