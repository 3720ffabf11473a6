-- what a method writes: frames; null or not
def ySt : List (Nat × Option Nat) → Nat → Nat → Bool
  | [], _, _ => false
  | (c0, none) :: S, c, j => Nat.beq c c0 || ySt S c j
  | (c0, some j0) :: S, c, j => (Nat.beq c c0 && Nat.beq j j0) || ySt S c j
/-- outside the places of S nothing is written -/
def yK (S : List (Nat × Option Nat)) (w w' : yW) : Prop := (∀ c j, ySt S c j = false → w'.1 c j = w.1 c j ∧ w'.2.1 c j = w.2.1 c j ∧ w'.2.2 c j = w.2.2 c j) ∧ True
section YKS
variable {S S' : List (Nat × Option Nat)} {w w0 w' w'' : yW}
theorem yK_rfl : yK S w w := ⟨fun _ _ _ => ⟨rfl, rfl, rfl⟩, trivial⟩
theorem yK_tr (h1 : yK S w w') (h2 : yK S w' w'') : yK S w w'' := ⟨fun c j h =>
  ⟨(h2.1 c j h).1.trans (h1.1 c j h).1, (h2.1 c j h).2.1.trans (h1.1 c j h).2.1, (h2.1 c j h).2.2.trans (h1.1 c j h).2.2⟩, trivial⟩
theorem yK_dif {c j : Nat} (hd : ydif w w' c j) (h : ySt S c j = true) (k : yK S w0 w) : yK S w0 w' := by
  refine yK_tr k ⟨fun c' j' hs => hd c' j' (fun e => ?_), trivial⟩
  rw [e.1, e.2, h] at hs
  cases hs
theorem yK_wI {c j : Nat} {v : Int32} (h : ySt S c j = true) (k : yK S w0 w) : yK S w0 (wI w c j v) := yK_dif (ydI w c j v) h k
theorem yK_wL {c j : Nat} {v : Int64} (h : ySt S c j = true) (k : yK S w0 w) : yK S w0 (wL w c j v) := yK_dif (ydL w c j v) h k
theorem yK_wR {c j : Nat} {v : Option Nat} (h : ySt S c j = true) (k : yK S w0 w) : yK S w0 (wR w c j v) := yK_dif (ydR w c j v) h k
theorem yK_if {b : Bool} (h1 : yK S w0 w) (h2 : yK S w0 w') : yK S w0 (bif b then w else w') := by cases b <;> assumption
theorem yK_if1 {α : Type} {b : Bool} {x y : yW × α} (h1 : yK S w0 x.1) (h2 : yK S w0 y.1) : yK S w0 (bif b then x else y).1 := by cases b <;> assumption
def ySub (S S' : List (Nat × Option Nat)) : Bool := match S with
  | [] => true
  | (c, none) :: S => S'.any (fun q => Nat.beq c q.1 && q.2.isNone) && ySub S S'
  | (c, some j) :: S => ySt S' c j && ySub S S'
theorem ySt_none {c j : Nat} : ∀ {S : List (Nat × Option Nat)}, S.any (fun q => Nat.beq c q.1 && q.2.isNone) = true → ySt S c j = true
  | [], h => by cases h
  | (c0, none) :: S, h => by
    unfold ySt
    cases hb : Nat.beq c c0
    · rw [List.any_cons] at h
      simp only [hb, Bool.false_and, Bool.false_or] at h
      rw [ySt_none h]
      rfl
    · rfl
  | (c0, some j0) :: S, h => by
    unfold ySt
    rw [List.any_cons] at h
    simp only [Option.isNone_some, Bool.and_false, Bool.false_or] at h
    rw [ySt_none h, Bool.or_true]
theorem ySub_ok {c j : Nat} : ∀ {S S' : List (Nat × Option Nat)}, ySub S S' = true → ySt S c j = true → ySt S' c j = true
  | [], _, _, h => by cases h
  | (c0, none) :: S, S', hs, h => by
    unfold ySub at hs
    unfold ySt at h
    rw [Bool.and_eq_true] at hs
    rw [Bool.or_eq_true] at h
    rcases h with h | h
    · have e := Nat.eq_of_beq_eq_true h
      subst e
      exact ySt_none hs.1
    · exact ySub_ok hs.2 h
  | (c0, some j0) :: S, S', hs, h => by
    unfold ySub at hs
    unfold ySt at h
    rw [Bool.and_eq_true] at hs
    rw [Bool.or_eq_true, Bool.and_eq_true] at h
    rcases h with h | h
    · have e := Nat.eq_of_beq_eq_true h.1
      have e2 := Nat.eq_of_beq_eq_true h.2
      subst e e2
      exact hs.1
    · exact ySub_ok hs.2 h
theorem yK_mono (h : ySub S S' = true) (k : yK S w w') : yK S' w w' := ⟨fun c j hs => k.1 c j (by
  cases e : ySt S c j
  · rfl
  · rw [ySub_ok h e] at hs; cases hs), trivial⟩
theorem yKi {c j : Nat} (k : yK S w w') (h : ySt S c j = false) : w'.1 c j = w.1 c j := (k.1 c j h).1
theorem yKl {c j : Nat} (k : yK S w w') (h : ySt S c j = false) : w'.2.1 c j = w.2.1 c j := (k.1 c j h).2.1
theorem yKr {c j : Nat} (k : yK S w w') (h : ySt S c j = false) : w'.2.2 c j = w.2.2 c j := (k.1 c j h).2.2
theorem yKA {c N : Nat} (k : yK S w w') (h : ∀ j, ySt S c j = false) : yA w' c N = yA w c N := by
  unfold yA
  exact List.map_congr_left (fun j _ => yKi k (h j))
end YKS
def yN (o : Option Nat) : Bool := o.isNone
def yS (o : Option Nat) : Bool := o.isSome
def yd (o : Option Nat) : Nat := o.getD 0
section YNU
variable {pc : Nat} {off : Int} {lv : List (Nat × Value)} {r : List Value}
theorem ybnn (o : Option Nat) : zbn true pc off lv (yrv o :: r) = zbr (yN o) pc off lv r := by cases o <;> rfl
theorem ybns (o : Option Nat) : zbn false pc off lv (yrv o :: r) = zbr (yS o) pc off lv r := by cases o <;> rfl
theorem yrv_nn {o : Option Nat} (h : yN o = false) : yrv o = .ref (yd o) := by cases o with
  | none => cases h
  | some x => rfl
theorem yrv_ns {o : Option Nat} (h : yS o = true) : yrv o = .ref (yd o) := by cases o with
  | none => cases h
  | some x => rfl
theorem yN_eq {o : Option Nat} (h : yN o = false) : o = some (yd o) := by cases o with
  | none => cases h
  | some x => rfl
theorem yS_eq {o : Option Nat} (h : yS o = true) : o = some (yd o) := by cases o with
  | none => cases h
  | some x => rfl
theorem yre {s : String} (o : Option Nat) : zre (some (.object s)) .areturn [yrv o] = some (some (yrv o)) := by cases o <;> rfl
end YNU
theorem zIx_n2 {s : Int32} {N : Nat} (h : zIx s N) : s.toNatClampNeg < N := by
  have h1 := zIx_a h
  have h2 := h.2
  omega
theorem ySt_hd {S : List (Nat × Option Nat)} {c j : Nat} : ySt ((c, none) :: S) c j = true := by
  unfold ySt
  rw [Nat.beq_refl]
  rfl
theorem ySt_hs {S : List (Nat × Option Nat)} {c j : Nat} : ySt ((c, some j) :: S) c j = true := by
  unfold ySt
  rw [Nat.beq_refl, Nat.beq_refl]
  rfl
theorem ySt_tl {S : List (Nat × Option Nat)} {p : Nat × Option Nat} {c j : Nat} (h : ySt S c j = true) : ySt (p :: S) c j = true := by
  obtain ⟨c0, o⟩ := p
  cases o <;> (unfold ySt; rw [h, Bool.or_true])
theorem yJ_wI {w w0 : yW} {c j : Nat} {v : Int32} (h : w.2 = w0.2) : (wI w c j v).2 = w0.2 := h
theorem yJ_if {b : Bool} {x y w0 : yW} (h1 : x.2 = w0.2) (h2 : y.2 = w0.2) : (bif b then x else y).2 = w0.2 := by cases b <;> assumption
theorem yJ_if1 {α : Type} {b : Bool} {x y : yW × α} {w0 : yW} (h1 : x.1.2 = w0.2) (h2 : y.1.2 = w0.2) : (bif b then x else y).1.2 = w0.2 := by cases b <;> assumption
section YFA
variable {fr lo : Nat} {xs : zX} {M : zM} {w : yW} {G : List zC} {n : Nat} {r : Option Value × zH} {pc : Nat} {lv : List (Nat × Value)} {rest : List Value} {x : zE} {j : Int32}
theorem yf2 {P : Nat → Prop} (h0 : P 0) (h1 : P 1) {k : Nat} (hk : k < 2) : P k := by
  match k, hk with
  | 0, _ => exact h0
  | 1, _ => exact h1
theorem yfP (hx : zlk2 (mT M) pc = some x) (hi : xI x = .aaload) (hj : zIx j 2) (kk : zRun fr lo xs M (pc + 1, lv, .ref (14 + 12 * j.toNatClampNeg) :: rest) (yhp w G n) r) : zRun fr lo xs M (pc, lv, .int j :: .ref 1 :: rest) (yhp w G n) r :=
  zeaa hx hi (yhp_a (c := 1) rfl) rfl (zIx_a hj) (yf2 (P := fun k => (ylist w 1 [.inl (.ref 14), .inl (.ref 26)])[k]? = some (.ref (14 + 12 * k))) rfl rfl (zIx_n2 hj)) kk
theorem yfC (hx : zlk2 (mT M) pc = some x) (hi : xI x = .aaload) (hj : zIx j 2) (kk : zRun fr lo xs M (pc + 1, lv, .ref (17 + 12 * j.toNatClampNeg) :: rest) (yhp w G n) r) : zRun fr lo xs M (pc, lv, .int j :: .ref 2 :: rest) (yhp w G n) r :=
  zeaa hx hi (yhp_a (c := 2) rfl) rfl (zIx_a hj) (yf2 (P := fun k => (ylist w 2 [.inl (.ref 17), .inl (.ref 29)])[k]? = some (.ref (17 + 12 * k))) rfl rfl (zIx_n2 hj)) kk
theorem yfI (hx : zlk2 (mT M) pc = some x) (hi : xI x = .aaload) (hj : zIx j 2) (kk : zRun fr lo xs M (pc + 1, lv, .ref (20 + 12 * j.toNatClampNeg) :: rest) (yhp w G n) r) : zRun fr lo xs M (pc, lv, .int j :: .ref 3 :: rest) (yhp w G n) r :=
  zeaa hx hi (yhp_a (c := 3) rfl) rfl (zIx_a hj) (yf2 (P := fun k => (ylist w 3 [.inl (.ref 20), .inl (.ref 32)])[k]? = some (.ref (20 + 12 * k))) rfl rfl (zIx_n2 hj)) kk
theorem yf16 : ∀ k : Fin 16, (yshp[12]?.map (fun s => s.2.2[k.1]?)) = some (some (.inl (.ref (38 + k.1)))) := by decide +kernel
theorem yfD (hx : zlk2 (mT M) pc = some x) (hi : xI x = .aaload) (hj : zIx j 16) (kk : zRun fr lo xs M (pc + 1, lv, .ref (38 + j.toNatClampNeg) :: rest) (yhp w G n) r) : zRun fr lo xs M (pc, lv, .int j :: .ref 12 :: rest) (yhp w G n) r := by
  refine zeaa hx hi (yhp_a (c := 12) rfl) rfl (zIx_a hj) (ylist_get (k := .inl (.ref (38 + j.toNatClampNeg))) ?_) kk
  have h := yf16 ⟨j.toNatClampNeg, zIx_n2 hj⟩
  exact Option.some.inj h
end YFA
/-- a distance written -/
def wD (w : yW) (d : Nat) (p : Int64 × Int64) : yW := wL (wL w d 0 p.1) d 1 p.2
theorem yK_wD {S : List (Nat × Option Nat)} {w w0 : yW} {d : Nat} {p : Int64 × Int64} (h : ySt S d 0 = true) (k : yK S w0 w) (h1 : ySt S d 1 = true := by rfl) : yK S w0 (wD w d p) := yK_wL h1 (yK_wL h k)
theorem ysp {fr lo : Nat} {xs : zX} {M : zM} {pc : Nat} {lv : List (Nat × Value)} {rest : List Value} {h : zH} {r : Option Value × zH} {o : Option Nat} (k1 : yN o = true → zRun fr lo xs M (pc, lv, .null :: rest) h r) (k2 : yN o = false → zRun fr lo xs M (pc, lv, .ref (yd o) :: rest) h r) : zRun fr lo xs M (pc, lv, yrv o :: rest) h r := by
  cases o with
  | none => exact k1 rfl
  | some x => exact k2 rfl
theorem yK_p {α : Type} {S : List (Nat × Option Nat)} {w w' : yW} {v : α} (h : yK S w w') : yK S w (w', v).1 := h
theorem yJ_p {α : Type} {w w' : yW} {v : α} (h : w'.2 = w.2) : (w', v).1.2 = w.2 := h
