-- the geometries' cells, behind the fixed ones
def gK (G : List zC) (x : Nat) : Int32 := match G[x - 72]? with
  | some (.inr (_, .int k :: _)) => k
  | _ => 0
def gInt (v : Value) : Int32 := match v with
  | .int k => k
  | _ => 0
def gL (c : Option zC) : List Int32 := match c with
  | some (.inl (_, l)) => l.map gInt
  | some (.inr (_, l)) => l.map gInt
  | none => []
def gX (G : List zC) (x : Nat) : List Int32 := gL G[x - 71]?
def gY (G : List zC) (x : Nat) : List Int32 := gL G[x - 70]?
def gB (G : List zC) (x k : Nat) : Int32 := (gL G[x - 69]?).getD k 0
/-- v is the least (greatest) of a list -/
def zLow (X : List Int32) (v : Int32) : Prop := (∃ a ∈ X, a.toInt = v.toInt) ∧ ∀ a ∈ X, v.toInt ≤ a.toInt
def zHgh (X : List Int32) (v : Int32) : Prop := (∃ a ∈ X, a.toInt = v.toInt) ∧ ∀ a ∈ X, a.toInt ≤ v.toInt
/-- a geometry stands at cell x: kind, vertices, bound -/
def yOk (G : List zC) (x : Nat) : Prop := 72 ≤ x ∧ G[x - 72]? = some (.inr (6, [.int (gK G x), .ref (x + 1), .ref (x + 2), .ref (x + 3)])) ∧ G[x - 71]? = some (.inl (0, (gX G x).map Value.int)) ∧ G[x - 70]? = some (.inl (0, (gY G x).map Value.int)) ∧ G[x - 69]? = some (.inr (7, [.int (gB G x 0), .int (gB G x 1), .int (gB G x 2), .int (gB G x 3)])) ∧
  (gY G x).length = (gX G x).length ∧ 1 ≤ (gX G x).length ∧ (gX G x).length ≤ 6 ∧ zCo (gX G x) ∧ zCo (gY G x) ∧ zLow (gX G x) (gB G x 0) ∧ zLow (gY G x) (gB G x 1) ∧ zHgh (gX G x) (gB G x 2) ∧ zHgh (gY G x) (gB G x 3) ∧ (0 ≤ (gK G x).toInt ∧ (gK G x).toInt ≤ 2) ∧ ((gK G x).toInt = 1 → 2 ≤ (gX G x).length)
section YGE
variable {w : yW} {G H : List zC} {sz x : Nat}
theorem yhp_G (h : 72 ≤ x) : (yhp w G sz).1[x]? = G[x - 72]? := by
  show (ypic w ++ G)[x]? = _
  rw [List.getElem?_append_right (by rw [ypic_len]; exact h), ypic_len]
theorem yGo (h : yOk G x) : (yhp w G sz).1[x]? = some (.inr (6, [.int (gK G x), .ref (x + 1), .ref (x + 2), .ref (x + 3)])) := by
  rw [yhp_G h.1]; exact h.2.1
theorem yGx (h : yOk G x) : (yhp w G sz).1[x + 1]? = some (.inl (0, (gX G x).map Value.int)) := by
  rw [yhp_G (by have := h.1; omega), ← h.2.2.1]
  congr 1
theorem yGy (h : yOk G x) : (yhp w G sz).1[x + 2]? = some (.inl (0, (gY G x).map Value.int)) := by
  rw [yhp_G (by have := h.1; omega), ← h.2.2.2.1]
  congr 1
theorem yGb (h : yOk G x) : (yhp w G sz).1[x + 3]? = some (.inr (7, [.int (gB G x 0), .int (gB G x 1), .int (gB G x 2), .int (gB G x 3)])) := by
  rw [yhp_G (by have := h.1; omega), ← h.2.2.2.2.1]
  congr 1
theorem yOk_app (h : yOk G x) : yOk (G ++ H) x ∧ gK (G ++ H) x = gK G x ∧ gX (G ++ H) x = gX G x ∧ gY (G ++ H) x = gY G x ∧ ∀ k, gB (G ++ H) x k = gB G x k := by
  have l : ∀ {i : Nat} {c : zC}, G[i]? = some c → (G ++ H)[i]? = G[i]? := fun h => List.getElem?_append_left (List.getElem?_eq_some_iff.mp h).1
  have e1 : gK (G ++ H) x = gK G x := by unfold gK; rw [l h.2.1]
  have e2 : gX (G ++ H) x = gX G x := by unfold gX; rw [l h.2.2.1]
  have e3 : gY (G ++ H) x = gY G x := by unfold gY; rw [l h.2.2.2.1]
  have e4 : ∀ k, gB (G ++ H) x k = gB G x k := by intro k; unfold gB; rw [l h.2.2.2.2.1]
  refine ⟨?_, e1, e2, e3, e4⟩
  unfold yOk
  rw [e1, e2, e3, e4, e4, e4, e4, l h.2.1, l h.2.2.1, l h.2.2.2.1, l h.2.2.2.2.1]
  exact h
/-- every reference of the picture is a geometry -/
def yRk (w : yW) (G : List zC) : Prop := ∀ c j x, w.2.2 c j = some x → yOk G x
theorem yRk_n {c j : Nat} (h : yRk w G) (hn : yN (w.2.2 c j) = false) : yOk G (yd (w.2.2 c j)) := h c j _ (yN_eq hn)
theorem yRk_s {c j : Nat} (h : yRk w G) (hn : yS (w.2.2 c j) = true) : yOk G (yd (w.2.2 c j)) := h c j _ (yS_eq hn)
theorem yes_ok {o : Option Nat} (h : ∀ x, o = some x → yOk G x) : zes (yhp w G sz).1 6 (yrv o) = true := by
  cases o with
  | none => rfl
  | some x =>
    have e := yGo (w := w) (sz := sz) (h x rfl)
    show zes (yhp w G sz).1 6 (.ref x) = true
    generalize (yhp w G sz).1 = L at e ⊢
    unfold zes
    simp only [e]
    rfl
variable {fr lo : Nat} {xs : zX} {M : zM} {r : Option Value × zH} {pc i : Nat} {lv : List (Nat × Value)} {rest : List Value} {e : zE}
theorem ygb (hx : zlk2 (mT M) pc = some e) (hi : xI e = .getfield i) (ha : xA e = 6) (hb : xB e = 3) (ho : yOk G x) (k : zRun fr lo xs M (pc + 3, lv, .ref (x + 3) :: rest) (yhp w G sz) r) : zRun fr lo xs M (pc, lv, .ref x :: rest) (yhp w G sz) r :=
  zegf hx hi ha hb (yGo ho) rfl k
theorem ygc {b : Nat} (hx : zlk2 (mT M) pc = some e) (hi : xI e = .getfield i) (ha : xA e = 7) (hb : xB e = b) (ho : yOk G x) (h4 : b < 4) (k : zRun fr lo xs M (pc + 3, lv, .int (gB G x b) :: rest) (yhp w G sz) r) : zRun fr lo xs M (pc, lv, .ref (x + 3) :: rest) (yhp w G sz) r := by
  refine zegf hx hi ha hb (yGb ho) ?_ k
  match b, h4 with
  | 0, _ => rfl
  | 1, _ => rfl
  | 2, _ => rfl
  | 3, _ => rfl
end YGE
