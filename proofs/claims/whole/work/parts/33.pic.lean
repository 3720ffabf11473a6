-- the fixed cells as a picture
/-- ints, longs, references, by cell and slot -/
abbrev yW : Type := (Nat → Nat → Int32) × (Nat → Nat → Int64) × (Nat → Nat → Option Nat)
def yrv : Option Nat → Value
  | none => .null
  | some u => .ref u
/-- what a slot of a kind holds: one value always, an int, a long, a reference -/
def ysl (w : yW) (c j : Nat) : Value ⊕ Nat → Value
  | .inl v => v
  | .inr 0 => .int (w.1 c j)
  | .inr 1 => .long (w.2.1 c j)
  | .inr _ => yrv (w.2.2 c j)
def ylist (w : yW) (c : Nat) (ks : List (Value ⊕ Nat)) : List Value := ks.mapIdx (fun j k => ysl w c j k)
def ycel (w : yW) (c : Nat) (s : Bool × Nat × List (Value ⊕ Nat)) : zC := bif s.1 then .inr (s.2.1, ylist w c s.2.2) else .inl (s.2.1, ylist w c s.2.2)
def yshp : List (Bool × Nat × List (Value ⊕ Nat)) := [
  (true, 0, [.inl (.ref 1), .inl (.ref 2), .inl (.ref 3), .inl (.ref 4), .inl (.ref 6), .inr 2, .inl (.ref 9), .inr 0, .inr 0, .inl (.ref 10), .inl (.ref 11), .inl (.ref 12), .inl (.ref 13)]),
  (false, 3, [.inl (.ref 14), .inl (.ref 26)]),
  (false, 3, [.inl (.ref 17), .inl (.ref 29)]),
  (false, 4, [.inl (.ref 20), .inl (.ref 32)]),
  (true, 1, [.inl (.ref 5)]),
  (false, 0, [.inr 0, .inr 0, .inr 0, .inr 0, .inr 0, .inr 0, .inr 0, .inr 0, .inr 0]),
  (true, 2, [.inl (.ref 7), .inl (.ref 8), .inr 0]),
  (false, 0, List.replicate 6 (.inr 0)),
  (false, 0, List.replicate 6 (.inr 0)),
  (false, 0, List.replicate 256 (.inr 0)),
  (true, 3, [.inr 1, .inr 1]),
  (true, 3, [.inr 1, .inr 1]),
  (false, 5, [.inl (.ref 38), .inl (.ref 39), .inl (.ref 40), .inl (.ref 41), .inl (.ref 42), .inl (.ref 43), .inl (.ref 44), .inl (.ref 45), .inl (.ref 46), .inl (.ref 47), .inl (.ref 48), .inl (.ref 49), .inl (.ref 50), .inl (.ref 51), .inl (.ref 52), .inl (.ref 53)]),
  (false, 0, List.replicate 16 (.inr 0)),
  (true, 4, [.inl (.ref 15), .inl (.ref 16)]),
  (false, 0, List.replicate 16 (.inr 0)),
  (false, 6, List.replicate 16 (.inr 2)),
  (true, 4, [.inl (.ref 18), .inl (.ref 19)]),
  (false, 0, List.replicate 16 (.inr 0)),
  (false, 6, List.replicate 16 (.inr 2)),
  (true, 5, [.inl (.ref 21), .inl (.ref 22), .inl (.ref 23), .inl (.ref 24), .inl (.ref 25), .inr 0]),
  (false, 0, List.replicate 516 (.inr 0)),
  (false, 0, List.replicate 129 (.inr 0)),
  (false, 0, List.replicate 129 (.inr 0)),
  (false, 0, List.replicate 129 (.inr 0)),
  (false, 0, List.replicate 129 (.inr 0)),
  (true, 4, [.inl (.ref 27), .inl (.ref 28)]),
  (false, 0, List.replicate 16 (.inr 0)),
  (false, 6, List.replicate 16 (.inr 2)),
  (true, 4, [.inl (.ref 30), .inl (.ref 31)]),
  (false, 0, List.replicate 16 (.inr 0)),
  (false, 6, List.replicate 16 (.inr 2)),
  (true, 5, [.inl (.ref 33), .inl (.ref 34), .inl (.ref 35), .inl (.ref 36), .inl (.ref 37), .inr 0]),
  (false, 0, List.replicate 516 (.inr 0)),
  (false, 0, List.replicate 129 (.inr 0)),
  (false, 0, List.replicate 129 (.inr 0)),
  (false, 0, List.replicate 129 (.inr 0)),
  (false, 0, List.replicate 129 (.inr 0)),
  (true, 3, [.inr 1, .inr 1]),
  (true, 3, [.inr 1, .inr 1]),
  (true, 3, [.inr 1, .inr 1]),
  (true, 3, [.inr 1, .inr 1]),
  (true, 3, [.inr 1, .inr 1]),
  (true, 3, [.inr 1, .inr 1]),
  (true, 3, [.inr 1, .inr 1]),
  (true, 3, [.inr 1, .inr 1]),
  (true, 3, [.inr 1, .inr 1]),
  (true, 3, [.inr 1, .inr 1]),
  (true, 3, [.inr 1, .inr 1]),
  (true, 3, [.inr 1, .inr 1]),
  (true, 3, [.inr 1, .inr 1]),
  (true, 3, [.inr 1, .inr 1]),
  (true, 3, [.inr 1, .inr 1]),
  (true, 3, [.inr 1, .inr 1]),
  (true, 8, [.inl (.ref 55), .inl (.ref 56), .inl (.ref 57), .inl (.ref 58), .inl (.ref 59), .inl (.ref 60), .inl (.ref 61), .inl (.ref 62), .inl (.ref 63), .inl (.ref 64), .inr 0, .inl (.ref 65), .inl (.ref 66), .inr 1, .inr 1, .inl (.ref 67), .inl (.ref 68), .inr 0, .inr 0, .inr 0, .inr 0, .inr 0, .inr 0, .inl (.ref 69), .inl (.ref 70), .inl (.ref 71)]),
  (false, 1, List.replicate 65 (.inr 0)),
  (false, 0, List.replicate 65 (.inr 0)),
  (false, 0, List.replicate 65 (.inr 0)),
  (false, 0, List.replicate 65 (.inr 0)),
  (false, 0, List.replicate 390 (.inr 0)),
  (false, 0, List.replicate 390 (.inr 0)),
  (false, 0, List.replicate 65 (.inr 0)),
  (false, 0, List.replicate 65 (.inr 0)),
  (false, 0, List.replicate 65 (.inr 0)),
  (false, 0, List.replicate 65 (.inr 0)),
  (false, 0, List.replicate 6 (.inr 0)),
  (false, 0, List.replicate 6 (.inr 0)),
  (false, 2, List.replicate 16 (.inr 1)),
  (false, 2, List.replicate 16 (.inr 1)),
  (false, 0, List.replicate 256 (.inr 0)),
  (false, 0, [.inr 0, .inr 0, .inr 0, .inr 0, .inr 0, .inr 0, .inr 0, .inr 0, .inr 0]),
  (false, 0, List.replicate 9 (.inr 0))]
def ypic (w : yW) : List zC := yshp.mapIdx (fun c s => ycel w c s)
/-- the heap: the fixed cells, the geometries' cells, the slots made -/
def yhp (w : yW) (G : List zC) (n : Nat) : zH := (ypic w ++ G, n)
theorem yshp_len : yshp.length = 72 := rfl
theorem ypic_len (w : yW) : (ypic w).length = 72 := by rw [ypic, List.length_mapIdx]; rfl
theorem yhp_get {w : yW} {G : List zC} {n c : Nat} {s : Bool × Nat × List (Value ⊕ Nat)} (hs : yshp[c]? = some s) : (yhp w G n).1[c]? = some (ycel w c s) := by
  have hc : c < yshp.length := (List.getElem?_eq_some_iff.mp hs).1
  show (ypic w ++ G)[c]? = _
  rw [List.getElem?_append_left (by rw [ypic_len]; exact hc), ypic, List.getElem?_mapIdx, hs]
  rfl
theorem yhp_o {w : yW} {G : List zC} {n c a : Nat} {ks : List (Value ⊕ Nat)} (hs : yshp[c]? = some (true, a, ks)) : (yhp w G n).1[c]? = some (.inr (a, ylist w c ks)) := yhp_get hs
theorem yhp_a {w : yW} {G : List zC} {n c a : Nat} {ks : List (Value ⊕ Nat)} (hs : yshp[c]? = some (false, a, ks)) : (yhp w G n).1[c]? = some (.inl (a, ylist w c ks)) := yhp_get hs
theorem ylist_get {w : yW} {c j : Nat} {ks : List (Value ⊕ Nat)} {k : Value ⊕ Nat} (hk : ks[j]? = some k) : (ylist w c ks)[j]? = some (ysl w c j k) := by
  rw [ylist, List.getElem?_mapIdx, hk]
  rfl
theorem ylist_len {w : yW} {c : Nat} {ks : List (Value ⊕ Nat)} : (ylist w c ks).length = ks.length := List.length_mapIdx
/-- one slot written -/
def yat (c j c' j' : Nat) : Bool := Nat.beq c' c && Nat.beq j' j
def wI (w : yW) (c j : Nat) (v : Int32) : yW := (fun c' j' => bif yat c j c' j' then v else w.1 c' j', w.2)
def wL (w : yW) (c j : Nat) (v : Int64) : yW := (w.1, fun c' j' => bif yat c j c' j' then v else w.2.1 c' j', w.2.2)
def wR (w : yW) (c j : Nat) (v : Option Nat) : yW := (w.1, w.2.1, fun c' j' => bif yat c j c' j' then v else w.2.2 c' j')
theorem yat_ne {c j c' j' : Nat} (h : ¬ (c' = c ∧ j' = j)) : yat c j c' j' = false := by
  cases e : yat c j c' j' with
  | false => rfl
  | true =>
    simp only [yat, Bool.and_eq_true] at e
    exact absurd ⟨Nat.eq_of_beq_eq_true e.1, Nat.eq_of_beq_eq_true e.2⟩ h
theorem yat_self (c j : Nat) : yat c j c j = true := by simp [yat, Nat.beq_refl]
/-- two states that differ in one slot alone -/
def ydif (w w' : yW) (c j : Nat) : Prop := ∀ c' j', ¬ (c' = c ∧ j' = j) → w'.1 c' j' = w.1 c' j' ∧ w'.2.1 c' j' = w.2.1 c' j' ∧ w'.2.2 c' j' = w.2.2 c' j'
theorem ydif_sl {w w' : yW} {c j c' j' : Nat} (h : ydif w w' c j) (hn : ¬ (c' = c ∧ j' = j)) : ∀ k, ysl w' c' j' k = ysl w c' j' k
  | .inl v => rfl
  | .inr 0 => congrArg Value.int (h c' j' hn).1
  | .inr 1 => congrArg Value.long (h c' j' hn).2.1
  | .inr (_ + 2) => congrArg yrv (h c' j' hn).2.2
theorem ydif_list {w w' : yW} {c j c' : Nat} (h : ydif w w' c j) (hn : c' ≠ c) (ks : List (Value ⊕ Nat)) : ylist w' c' ks = ylist w c' ks := by
  unfold ylist
  congr 1
  funext i k
  exact ydif_sl h (fun e => hn e.1) k
theorem yset_list {w w' : yW} {c j : Nat} {ks : List (Value ⊕ Nat)} {k : Value ⊕ Nat} {v : Value} (h : ydif w w' c j) (hk : ks[j]? = some k) (hv : ysl w' c j k = v) : (ylist w c ks).set j v = ylist w' c ks := by
  apply List.ext_getElem?
  intro i
  by_cases hi : i = j
  · subst hi
    rw [List.getElem?_set_self (by rw [ylist_len]; exact (List.getElem?_eq_some_iff.mp hk).1), ylist_get hk, hv]
  · rw [List.getElem?_set_ne (Ne.symm hi), ylist, ylist, List.getElem?_mapIdx, List.getElem?_mapIdx]
    cases ks[i]? with
    | none => rfl
    | some k' => exact congrArg some (ydif_sl h (fun e => hi e.2) k').symm
theorem yset_of {w w' : yW} {c j : Nat} {s : Bool × Nat × List (Value ⊕ Nat)} {x : zC} (S : List (Bool × Nat × List (Value ⊕ Nat))) (h : ydif w w' c j) (hs : S[c]? = some s) (hx : x = ycel w' c s) : (S.mapIdx (fun c s => ycel w c s)).set c x = S.mapIdx (fun c s => ycel w' c s) := by
  have hc : c < S.length := (List.getElem?_eq_some_iff.mp hs).1
  apply List.ext_getElem?
  intro i
  by_cases hi : i = c
  · subst hi
    rw [List.getElem?_set_self (by rw [List.length_mapIdx]; exact hc), List.getElem?_mapIdx, hs, hx]
    rfl
  · rw [List.getElem?_set_ne (Ne.symm hi), List.getElem?_mapIdx, List.getElem?_mapIdx]
    cases S[i]? with
    | none => rfl
    | some s' =>
      refine congrArg some ?_
      show ycel w i s' = ycel w' i s'
      unfold ycel
      rw [ydif_list h hi]
theorem yset_pic {w w' : yW} {G : List zC} {n c j : Nat} {s : Bool × Nat × List (Value ⊕ Nat)} {x : zC} (h : ydif w w' c j) (hs : yshp[c]? = some s) (hx : x = ycel w' c s) : ((yhp w G n).1.set c x, (yhp w G n).2) = yhp w' G n := by
  have hc : c < (ypic w).length := by rw [ypic_len, ← yshp_len]; exact (List.getElem?_eq_some_iff.mp hs).1
  have e : (ypic w).set c x = ypic w' := yset_of yshp h hs hx
  show ((ypic w ++ G).set c x, n) = (ypic w' ++ G, n)
  rw [List.set_append_left _ _ hc, e]
theorem ydI (w : yW) (c j : Nat) (v : Int32) : ydif w (wI w c j v) c j := fun c' j' hn => ⟨by show (bif yat c j c' j' then v else w.1 c' j') = _; rw [yat_ne hn]; rfl, rfl, rfl⟩
theorem ydL (w : yW) (c j : Nat) (v : Int64) : ydif w (wL w c j v) c j := fun c' j' hn => ⟨rfl, by show (bif yat c j c' j' then v else w.2.1 c' j') = _; rw [yat_ne hn]; rfl, rfl⟩
theorem ydR (w : yW) (c j : Nat) (v : Option Nat) : ydif w (wR w c j v) c j := fun c' j' hn => ⟨rfl, rfl, by show (bif yat c j c' j' then v else w.2.2 c' j') = _; rw [yat_ne hn]; rfl⟩
theorem wI_self (w : yW) (c j : Nat) (v : Int32) : (wI w c j v).1 c j = v := by show (bif yat c j c j then v else _) = _; rw [yat_self]; rfl
theorem wL_self (w : yW) (c j : Nat) (v : Int64) : (wL w c j v).2.1 c j = v := by show (bif yat c j c j then v else _) = _; rw [yat_self]; rfl
theorem wR_self (w : yW) (c j : Nat) (v : Option Nat) : (wR w c j v).2.2 c j = v := by show (bif yat c j c j then v else _) = _; rw [yat_self]; rfl
