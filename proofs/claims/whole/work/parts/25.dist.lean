/-- the heap with the distance d as (T, B) -/
def zD (h : zH) (d : Nat) (p : Int64 × Int64) : zH := (h.1.set d (.inr (3, [.long p.1, .long p.2])), h.2)
theorem zD_self {h : zH} {d : Nat} {c : zC} {p : Int64 × Int64} (hd : h.1[d]? = some c) : (zD h d p).1[d]? = some (.inr (3, [.long p.1, .long p.2])) := List.getElem?_set_self (List.getElem?_eq_some_iff.mp hd).1
theorem zD_ne {h : zH} {d g : Nat} {c : Option zC} {p : Int64 × Int64} (hg : h.1[g]? = c) (hne : g ≠ d) : (zD h d p).1[g]? = c := by
  show (h.1.set d _)[g]? = _
  rw [List.getElem?_set_ne (Ne.symm hne)]
  exact hg
theorem zD_D {h : zH} {d : Nat} {p q : Int64 × Int64} : zD (zD h d p) d q = zD h d q := by simp [zD, List.set_set]
theorem zD_id {h : zH} {d : Nat} {T B : Int64} (hd : h.1[d]? = some (.inr (3, [.long T, .long B]))) : zD h d (T, B) = h := by
  have e : h.1.set d (.inr (3, [.long T, .long B])) = h.1 := by
    obtain ⟨hlt, he⟩ := List.getElem?_eq_some_iff.mp hd
    rw [← he]
    exact List.set_getElem_self hlt
  show (h.1.set d (.inr (3, [.long T, .long B])), h.2) = h
  rw [e]
theorem s_Di_become {fr lo : Nat} {h : zH} (T B t b : Int64) (d : Nat) (hd : h.1[d]? = some (.inr (3, [.long T, .long B]))) (hlo : 24 ≤ lo) : zAns (fr + 1) lo 49 [.ref d, .long t, .long b] h (none, zD h d (t, b)) := by
  refine zeb (fr := fr) (M := M_Di_become) rfl (Nat.le_trans (by decide) hlo) rfl ?_
  refine zeN (q := ((2, [(0, .ref d), (1, .long t), (3, .long b)], [.long t, .ref d]), h)) 2 rfl ?_
  refine zepf (fs := [.long T, .long B]) rfl rfl rfl rfl hd (show (0 : Nat) < 2 by decide) rfl ?_
  refine zeN (q := ((7, [(0, .ref d), (1, .long t), (3, .long b)], [.long b, .ref d]), _)) 2 rfl ?_
  refine zepf (fs := [.long t, .long B]) rfl rfl rfl rfl (List.getElem?_set_self (List.getElem?_eq_some_iff.mp hd).1) (show (1 : Nat) < 2 by decide) rfl ?_
  have e : ((h.1.set d (.inr (3, [Value.long t, .long B]))).set d (.inr (3, [Value.long t, .long b])), h.2) = zD h d (t, b) := by simp [zD, List.set_set]
  show zRun fr _ none M_Di_become (10, [(0, .ref d), (1, .long t), (3, .long b)], []) ((h.1.set d (.inr (3, [Value.long t, .long B]))).set d (.inr (3, [Value.long t, .long b])), h.2) (none, zD h d (t, b))
  rw [e]
  exact zer rfl rfl
/-- the less of two fractions: what lessen leaves -/
def f_Di_lessen (T B t b : Int64) : Int64 × Int64 := bif zc .ge (lg_cmp (t * B) (T * b)) 0 then (T, B) else (t, b)
theorem s_Di_lessen {fr lo : Nat} {h : zH} (T B t b : Int64) (d : Nat) (hd : h.1[d]? = some (.inr (3, [.long T, .long B]))) (hlo : 48 ≤ lo) : zAns (fr + 2) lo 62 [.ref d, .long t, .long b] h (none, zD h d (f_Di_lessen T B t b)) := by
  unfold f_Di_lessen
  refine zeb (fr := fr + 1) (M := M_Di_lessen) rfl (Nat.le_trans (by decide) hlo) rfl ?_
  have e0 : mL M_Di_lessen = 5 := rfl
  refine zeN (q := ((2, [(0, .ref d), (1, .long t), (3, .long b)], [.ref d, .long t]), h)) 2 rfl ?_
  refine zegf (fs := [.long T, .long B]) (v := .long B) rfl rfl rfl rfl hd rfl ?_
  refine zeN (q := ((7, [(0, .ref d), (1, .long t), (3, .long b)], [.ref d, .long (t * B)]), h)) 2 rfl ?_
  refine zegf (fs := [.long T, .long B]) (v := .long T) rfl rfl rfl rfl hd rfl ?_
  refine zeN (q := ((13, [(0, .ref d), (1, .long t), (3, .long b)], [.int (lg_cmp (t * B) (T * b))]), h)) 3 rfl ?_
  refine zbc (q1 := (22, [(0, .ref d), (1, .long t), (3, .long b)], [])) (q2 := (16, [(0, .ref d), (1, .long t), (3, .long b)], [])) (cB := zc .ge (lg_cmp (t * B) (T * b)) 0) (off := 9) (lv := [(0, .ref d), (1, .long t), (3, .long b)]) (st := []) rfl rfl rfl rfl rfl (fun c13 => ?_) (fun c13 => ?_)
  · rw [c13]
    show zRun _ _ none M_Di_lessen _ h (none, zD h d (T, B))
    rw [zD_id hd]
    exact zer rfl rfl
  · rw [c13]
    refine zeN (q := ((19, [(0, .ref d), (1, .long t), (3, .long b)], [.long b, .long t, .ref d]), h)) 3 rfl ?_
    refine zec 1 (M' := M_Di_become) (qq := ([.ref d, .long t, .long b], [])) (s' := (22, [(0, .ref d), (1, .long t), (3, .long b)], [])) rfl rfl (fun _ => rfl) rfl rfl (zhk rfl (zrc_ok hd) rfl) (s_Di_become T B t b d hd (by omega)) rfl ?_
    exact zer rfl rfl
def f_Di_isAtMost (T B : Int64) (l : Int32) : Int32 := bif zc .gt (lg_cmp T (l.toInt64 * B)) 0 then 0 else 1
theorem b_Di_isAtMost (T B : Int64) (l : Int32) : zB (f_Di_isAtMost T B l) := by unfold f_Di_isAtMost; exact (zbb _)
set_option maxRecDepth 100000 in
theorem s_Di_isAtMost {fr lo : Nat} {h : zH} (T B : Int64) (l : Int32) (d : Nat) (hd : h.1[d]? = some (.inr (3, [.long T, .long B]))) (hlo : 21 ≤ lo) : zAns (fr + 1) lo 63 [.ref d, .int l] h (some (.int (f_Di_isAtMost T B l)), h) := by
  unfold f_Di_isAtMost
  refine zeb (fr := fr + 0) (M := M_Di_isAtMost) rfl (Nat.le_trans (by decide) hlo) rfl ?_
  have e0 : mL M_Di_isAtMost = 2 := rfl
  refine zeN (q := ((1, [(0, .ref d), (1, .int l)], [.ref d]), h)) 1 rfl ?_
  refine zegf (fs := [.long T, .long B]) (v := .long T) rfl rfl rfl rfl hd rfl ?_
  refine zeN (q := ((7, [(0, .ref d), (1, .int l)], [.ref d, .long l.toInt64, .long T]), h)) 3 rfl ?_
  refine zegf (fs := [.long T, .long B]) (v := .long B) rfl rfl rfl rfl hd rfl ?_
  refine zeN (q := ((12, [(0, .ref d), (1, .int l)], [.int (lg_cmp T (l.toInt64 * B))]), h)) 2 rfl ?_
  refine zdia (q1 := (19, [(0, .ref d), (1, .int l)], [])) (q2 := (15, [(0, .ref d), (1, .int l)], [])) (cB := zc .gt (lg_cmp T (l.toInt64 * B)) 0) (off := 7) (lv := [(0, .ref d), (1, .int l)]) (st := []) (lv2 := [(0, .ref d), (1, .int l)]) (st2 := []) (J := 20) (vA := 0) (vB := 1) 1 2 rfl rfl rfl rfl rfl rfl rfl ?_
  exact zer rfl (zreb (zbb _))
def f_Di_isAtLeast (T B : Int64) (l : Int32) : Int32 := bif zc .gt (lg_cmp (l.toInt64 * B) T) 0 then 0 else 1
theorem b_Di_isAtLeast (T B : Int64) (l : Int32) : zB (f_Di_isAtLeast T B l) := by unfold f_Di_isAtLeast; exact (zbb _)
set_option maxRecDepth 100000 in
theorem s_Di_isAtLeast {fr lo : Nat} {h : zH} (T B : Int64) (l : Int32) (d : Nat) (hd : h.1[d]? = some (.inr (3, [.long T, .long B]))) (hlo : 21 ≤ lo) : zAns (fr + 1) lo 54 [.ref d, .int l] h (some (.int (f_Di_isAtLeast T B l)), h) := by
  unfold f_Di_isAtLeast
  refine zeb (fr := fr + 0) (M := M_Di_isAtLeast) rfl (Nat.le_trans (by decide) hlo) rfl ?_
  have e0 : mL M_Di_isAtLeast = 2 := rfl
  refine zeN (q := ((3, [(0, .ref d), (1, .int l)], [.ref d, .long l.toInt64]), h)) 3 rfl ?_
  refine zegf (fs := [.long T, .long B]) (v := .long B) rfl rfl rfl rfl hd rfl ?_
  refine zeN (q := ((8, [(0, .ref d), (1, .int l)], [.ref d, .long (l.toInt64 * B)]), h)) 2 rfl ?_
  refine zegf (fs := [.long T, .long B]) (v := .long T) rfl rfl rfl rfl hd rfl ?_
  refine zeN (q := ((12, [(0, .ref d), (1, .int l)], [.int (lg_cmp (l.toInt64 * B) T)]), h)) 1 rfl ?_
  refine zdia (q1 := (19, [(0, .ref d), (1, .int l)], [])) (q2 := (15, [(0, .ref d), (1, .int l)], [])) (cB := zc .gt (lg_cmp (l.toInt64 * B) T) 0) (off := 7) (lv := [(0, .ref d), (1, .int l)]) (st := []) (lv2 := [(0, .ref d), (1, .int l)]) (st2 := []) (J := 20) (vA := 0) (vB := 1) 1 2 rfl rfl rfl rfl rfl rfl rfl ?_
  exact zer rfl (zreb (zbb _))
def f_Di_isBelow (T B T2 B2 : Int64) : Int32 := bif zc .ge (lg_cmp (T * B2) (T2 * B)) 0 then 0 else 1
theorem b_Di_isBelow (T B T2 B2 : Int64) : zB (f_Di_isBelow T B T2 B2) := by unfold f_Di_isBelow; exact (zbb _)
set_option maxRecDepth 100000 in
theorem s_Di_isBelow {fr lo : Nat} {h : zH} (T B T2 B2 : Int64) (d : Nat) (hd : h.1[d]? = some (.inr (3, [.long T, .long B]))) (d2 : Nat) (hd2 : h.1[d2]? = some (.inr (3, [.long T2, .long B2]))) (hlo : 21 ≤ lo) : zAns (fr + 1) lo 70 [.ref d, .ref d2] h (some (.int (f_Di_isBelow T B T2 B2)), h) := by
  unfold f_Di_isBelow
  refine zeb (fr := fr + 0) (M := M_Di_isBelow) rfl (Nat.le_trans (by decide) hlo) rfl ?_
  have e0 : mL M_Di_isBelow = 2 := rfl
  refine zeN (q := ((1, [(0, .ref d), (1, .ref d2)], [.ref d]), h)) 1 rfl ?_
  refine zegf (fs := [.long T, .long B]) (v := .long T) rfl rfl rfl rfl hd rfl ?_
  refine zeN (q := ((5, [(0, .ref d), (1, .ref d2)], [.ref d2, .long T]), h)) 1 rfl ?_
  refine zegf (fs := [.long T2, .long B2]) (v := .long B2) rfl rfl rfl rfl hd2 rfl ?_
  refine zeN (q := ((10, [(0, .ref d), (1, .ref d2)], [.ref d2, .long (T * B2)]), h)) 2 rfl ?_
  refine zegf (fs := [.long T2, .long B2]) (v := .long T2) rfl rfl rfl rfl hd2 rfl ?_
  refine zeN (q := ((14, [(0, .ref d), (1, .ref d2)], [.ref d, .long T2, .long (T * B2)]), h)) 1 rfl ?_
  refine zegf (fs := [.long T, .long B]) (v := .long B) rfl rfl rfl rfl hd rfl ?_
  refine zeN (q := ((19, [(0, .ref d), (1, .ref d2)], [.int (lg_cmp (T * B2) (T2 * B))]), h)) 2 rfl ?_
  refine zdia (q1 := (26, [(0, .ref d), (1, .ref d2)], [])) (q2 := (22, [(0, .ref d), (1, .ref d2)], [])) (cB := zc .ge (lg_cmp (T * B2) (T2 * B)) 0) (off := 7) (lv := [(0, .ref d), (1, .ref d2)]) (st := []) (lv2 := [(0, .ref d), (1, .ref d2)]) (st2 := []) (J := 27) (vA := 0) (vB := 1) 1 2 rfl rfl rfl rfl rfl rfl rfl ?_
  exact zer rfl (zreb (zbb _))
def f_Di_wholePart (T B : Int64) : Int32 := (bif zc .le (lg_cmp B 0) 0 then 0 else (T / B).toInt32)
set_option maxRecDepth 100000 in
theorem s_Di_wholePart {fr lo : Nat} {h : zH} (T B : Int64) (d : Nat) (hd : h.1[d]? = some (.inr (3, [.long T, .long B]))) (hlo : 20 ≤ lo) : zAns (fr + 1) lo 77 [.ref d] h (some (.int (f_Di_wholePart T B)), h) := by
  unfold f_Di_wholePart
  refine zeb (fr := fr + 0) (M := M_Di_wholePart) rfl (Nat.le_trans (by decide) hlo) rfl ?_
  have e0 : mL M_Di_wholePart = 1 := rfl
  refine zeN (q := ((1, [(0, .ref d)], [.ref d]), h)) 1 rfl ?_
  refine zegf (fs := [.long T, .long B]) (v := .long B) rfl rfl rfl rfl hd rfl ?_
  refine zeN (q := ((6, [(0, .ref d)], [.int (lg_cmp B 0)]), h)) 2 rfl ?_
  refine zbc (q1 := (22, [(0, .ref d)], [])) (q2 := (9, [(0, .ref d)], [])) (cB := zc .le (lg_cmp B 0) 0) (off := 16) (lv := [(0, .ref d)]) (st := []) rfl rfl rfl rfl rfl (fun c6 => ?_) (fun c6 => ?_)
  · rw [c6]
    refine zeN (q := ((23, [(0, .ref d)], [.int 0]), h)) 1 rfl ?_
    exact zer rfl rfl
  · rw [c6]
    refine zeN (q := ((10, [(0, .ref d)], [.ref d]), h)) 1 rfl ?_
    refine zegf (fs := [.long T, .long B]) (v := .long T) rfl rfl rfl rfl hd rfl ?_
    refine zeN (q := ((14, [(0, .ref d)], [.ref d, .long T]), h)) 1 rfl ?_
    refine zegf (fs := [.long T, .long B]) (v := .long B) rfl rfl rfl rfl hd rfl ?_
    refine zedl rfl rfl (fun e => by rw [e] at c6; exact absurd c6 (by decide)) ?_
    refine zeN (q := ((23, [(0, .ref d)], [.int ((T / B).toInt32)]), h)) 2 rfl ?_
    exact zer rfl rfl
