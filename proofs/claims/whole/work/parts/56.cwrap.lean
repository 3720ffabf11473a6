-- the class's geometries and distances over the picture
theorem yOk_n {G : List zC} {x : Nat} (h : yOk G x) : (gX G x).length ≤ 1000 := by
  have := h.2.2.2.2.2.2.2.1
  omega
theorem yOk_l {G : List zC} {x : Nat} (h : yOk G x) : (gY G x).length = (gX G x).length := h.2.2.2.2.2.1
theorem yOk_1 {G : List zC} {x : Nat} (h : yOk G x) : 1 ≤ (gX G x).length := h.2.2.2.2.2.2.1
theorem yhp_D {w : yW} {G : List zC} {sz d : Nat} {p : Int64 × Int64} (hd : yshp[d]? = some (true, 3, [.inr 1, .inr 1])) : zD (yhp w G sz) d p = yhp (wD w d p) G sz := by
  have h1 := yset_o (G := G) (n := sz) (ydL w d 0 p.1) hd rfl (ysL w d 0 p.1)
  have h2 := yset_o (G := G) (n := sz) (ydL (wL w d 0 p.1) d 1 p.2) hd rfl (ysL (wL w d 0 p.1) d 1 p.2)
  have e : (ylist (wL w d 0 p.1) d [.inr 1, .inr 1]).set 1 (.long p.2) = [.long p.1, .long p.2] := by
    show [Value.long ((wL w d 0 p.1).2.1 d 0), .long p.2] = _
    rw [wL_self]
  rw [e, ← h1] at h2
  show ((yhp w G sz).1.set d _, (yhp w G sz).2) = _
  rw [wD, ← h2, List.set_set]
theorem yD_lt {d : Nat} (hd : yshp[d]? = some (true, 3, [.inr 1, .inr 1])) : d < 72 := (List.getElem?_eq_some_iff.mp hd).1
/-- the class's distance of two geometries -/
def gD (G : List zC) (x y : Nat) (p : Int64 × Int64) : Int64 × Int64 := f_Di_between (gX G x) (gY G x) (gX G y) (gY G y) (gK G x) (gK G y) p
section YCW
variable {fr lo : Nat} {w : yW} {G : List zC} {sz x y d e : Nat}
theorem y_isSameAs (hx : yOk G x) (hy : yOk G y) (hlo : 22 ≤ lo) : zAns (fr + 1) lo 84 [.ref x, .ref y] (yhp w G sz) (some (.int (f_Ge_isSameAs (gX G x) (gY G x) (gX G y) (gY G y) (gK G x) (gK G y))), yhp w G sz) :=
  s_Ge_isSameAs _ _ _ _ _ _ x (x + 1) (x + 2) (x + 3) (yGo hx) (yGx hx) (yGy hx) (yOk_l hx) (yOk_n hx) y (y + 1) (y + 2) (y + 3) (yGo hy) (yGx hy) (yGy hy) (yOk_l hy) (yOk_n hy) hlo
theorem y_fault (hx : yOk G x) (hlo : 176 ≤ lo) : zAns (fr + 6) lo 17 [.ref x] (yhp w G sz) (some (.int (f_Ge_fault (gX G x) (gY G x) (gK G x))), yhp w G sz) :=
  s_Ge_fault _ _ _ x (x + 1) (x + 2) (x + 3) (yGo hx) (yGx hx) (yGy hx) (yOk_l hx) (yOk_n hx) (yOk_1 hx) hlo
theorem y_between (hd : yshp[d]? = some (true, 3, [.inr 1, .inr 1])) (hx : yOk G x) (hy : yOk G y) (hlo : 160 ≤ lo) : zAns (fr + 5) lo 58 [.ref d, .ref x, .ref y] (yhp w G sz) (none, yhp (wD w d (gD G x y (w.2.1 d 0, w.2.1 d 1))) G sz) := by
  have l := yD_lt hd
  have hx0 := hx.1
  have hy0 := hy.1
  rw [← yhp_D hd]
  exact s_Di_between _ _ _ _ _ _ (w.2.1 d 0, w.2.1 d 1) d (yhp_o hd) x (x + 1) (x + 2) (x + 3) (yGo hx) (yGx hx) (yGy hx) (yOk_l hx) (yOk_n hx) y (y + 1) (y + 2) (y + 3) (yGo hy) (yGx hy) (yGy hy) (yOk_l hy) (yOk_n hy) (by omega) (by omega) (by omega) (by omega) (by omega) (by omega) (yOk_1 hx) (yOk_1 hy) hlo
theorem y_become (hd : yshp[d]? = some (true, 3, [.inr 1, .inr 1])) (t b : Int64) (hlo : 24 ≤ lo) : zAns (fr + 1) lo 49 [.ref d, .long t, .long b] (yhp w G sz) (none, yhp (wD w d (t, b)) G sz) := by
  rw [← yhp_D hd]
  exact s_Di_become (w.2.1 d 0) (w.2.1 d 1) t b d (yhp_o hd) hlo
theorem y_isAtMost (hd : yshp[d]? = some (true, 3, [.inr 1, .inr 1])) (l : Int32) (hlo : 21 ≤ lo) : zAns (fr + 1) lo 63 [.ref d, .int l] (yhp w G sz) (some (.int (f_Di_isAtMost (w.2.1 d 0) (w.2.1 d 1) l)), yhp w G sz) := s_Di_isAtMost _ _ l d (yhp_o hd) hlo
theorem y_isAtLeast (hd : yshp[d]? = some (true, 3, [.inr 1, .inr 1])) (l : Int32) (hlo : 21 ≤ lo) : zAns (fr + 1) lo 54 [.ref d, .int l] (yhp w G sz) (some (.int (f_Di_isAtLeast (w.2.1 d 0) (w.2.1 d 1) l)), yhp w G sz) := s_Di_isAtLeast _ _ l d (yhp_o hd) hlo
theorem y_isBelow (hd : yshp[d]? = some (true, 3, [.inr 1, .inr 1])) (he : yshp[e]? = some (true, 3, [.inr 1, .inr 1])) (hlo : 21 ≤ lo) : zAns (fr + 1) lo 70 [.ref d, .ref e] (yhp w G sz) (some (.int (f_Di_isBelow (w.2.1 d 0) (w.2.1 d 1) (w.2.1 e 0) (w.2.1 e 1))), yhp w G sz) := s_Di_isBelow _ _ _ _ d (yhp_o hd) e (yhp_o he) hlo
theorem y_wholePart (hd : yshp[d]? = some (true, 3, [.inr 1, .inr 1])) (hlo : 20 ≤ lo) : zAns (fr + 1) lo 77 [.ref d] (yhp w G sz) (some (.int (f_Di_wholePart (w.2.1 d 0) (w.2.1 d 1))), yhp w G sz) := s_Di_wholePart _ _ d (yhp_o hd) hlo
theorem y_gapTo (hx : yOk G x) (hy : yOk G y) (hlo : 107 ≤ lo) : zAns (fr + 3) lo 56 [.ref (x + 3), .ref (y + 3)] (yhp w G sz) (some (.int (f_Bo_gapTo (gB G x 0) (gB G x 1) (gB G x 2) (gB G x 3) (gB G y 0) (gB G y 1) (gB G y 2) (gB G y 3))), yhp w G sz) := s_Bo_gapTo _ _ _ _ _ _ _ _ (x + 3) (yGb hx) (y + 3) (yGb hy) hlo
theorem y_gapRect (hx : yOk G x) (p q u v : Int32) (hlo : 86 ≤ lo) : zAns (fr + 2) lo 52 [.ref (x + 3), .int p, .int q, .int u, .int v] (yhp w G sz) (some (.int (f_Bo_gapToRectangle (gB G x 0) (gB G x 1) (gB G x 2) (gB G x 3) p q u v)), yhp w G sz) := s_Bo_gapToRectangle _ _ _ _ p q u v (x + 3) (yGb hx) hlo
theorem y_quarter (hx : yOk G x) (l : Int32) (hlo : 22 ≤ lo) : zAns (fr + 1) lo 37 [.ref (x + 3), .int l] (yhp w G sz) (some (.int (f_Bo_quarter (gB G x 0) (gB G x 1) (gB G x 2) (gB G x 3) l)), yhp w G sz) := s_Bo_quarter _ _ _ _ l (x + 3) (yGb hx) hlo
theorem y_homeLevel (hx : yOk G x) (hlo : 22 ≤ lo) : zAns (fr + 1) lo 36 [.ref (x + 3)] (yhp w G sz) (some (.int (f_Bo_homeLevel (gB G x 0) (gB G x 1) (gB G x 2) (gB G x 3))), yhp w G sz) := s_Bo_homeLevel _ _ _ _ (x + 3) (yGb hx) hlo
end YCW
/-- the cells of a table, of an index -/
def yTb (c : Nat) : Prop := yshp[c]? = some (true, 4, [.inl (.ref (c + 1)), .inl (.ref (c + 2))]) ∧ yshp[c + 1]? = some (false, 0, List.replicate 16 (.inr 0)) ∧ yshp[c + 2]? = some (false, 6, List.replicate 16 (.inr 2))
def yId (c : Nat) : Prop := yshp[c]? = some (true, 5, [.inl (.ref (c + 1)), .inl (.ref (c + 2)), .inl (.ref (c + 3)), .inl (.ref (c + 4)), .inl (.ref (c + 5)), .inr 0]) ∧ yshp[c + 1]? = some (false, 0, List.replicate 516 (.inr 0)) ∧ yshp[c + 2]? = some (false, 0, List.replicate 129 (.inr 0)) ∧ yshp[c + 3]? = some (false, 0, List.replicate 129 (.inr 0)) ∧ yshp[c + 4]? = some (false, 0, List.replicate 129 (.inr 0)) ∧ yshp[c + 5]? = some (false, 0, List.replicate 129 (.inr 0))
theorem yTb_P {t : Int32} (ht : zIx t 2) : yTb (14 + 12 * t.toNatClampNeg) := yf2 (P := fun k => yTb (14 + 12 * k)) ⟨rfl, rfl, rfl⟩ ⟨rfl, rfl, rfl⟩ (zIx_n2 ht)
theorem yTb_C {t : Int32} (ht : zIx t 2) : yTb (17 + 12 * t.toNatClampNeg) := yf2 (P := fun k => yTb (17 + 12 * k)) ⟨rfl, rfl, rfl⟩ ⟨rfl, rfl, rfl⟩ (zIx_n2 ht)
theorem yId_t {t : Int32} (ht : zIx t 2) : yId (20 + 12 * t.toNatClampNeg) := yf2 (P := fun k => yId (20 + 12 * k)) ⟨rfl, rfl, rfl, rfl, rfl, rfl⟩ ⟨rfl, rfl, rfl, rfl, rfl, rfl⟩ (zIx_n2 ht)
theorem yDs_n : ∀ k : Fin 16, yshp[38 + k.1]? = some (true, 3, [.inr 1, .inr 1]) := by decide +kernel
theorem yDs {j : Int32} (hj : zIx j 16) : yshp[38 + j.toNatClampNeg]? = some (true, 3, [.inr 1, .inr 1]) := yDs_n ⟨j.toNatClampNeg, zIx_n2 hj⟩
theorem yRk_I {w : yW} {G : List zC} {c j : Nat} {v : Int32} (h : yRk w G) : yRk (wI w c j v) G := h
theorem yRk_J {w w' : yW} {G : List zC} (h : yRk w G) (e : w'.2 = w.2) : yRk w' G := fun c j x hx => h c j x (by rw [← e]; exact hx)
theorem yRk_L {w : yW} {G : List zC} {c j : Nat} {v : Int64} (h : yRk w G) : yRk (wL w c j v) G := h
theorem yRk_D {w : yW} {G : List zC} {d : Nat} {p : Int64 × Int64} (h : yRk w G) : yRk (wD w d p) G := h
theorem yRk_R {w : yW} {G : List zC} {c j : Nat} {o : Option Nat} (h : yRk w G) (ho : ∀ x, o = some x → yOk G x) : yRk (wR w c j o) G := by
  intro c' j' x hx
  have hx : (bif yat c j c' j' then o else w.2.2 c' j') = some x := hx
  cases e : yat c j c' j'
  · rw [e] at hx
    exact h c' j' x hx
  · rw [e] at hx
    exact ho x hx
