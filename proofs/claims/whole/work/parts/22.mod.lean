def f_Mo_turn (X Y : List Int32) (a b c : Int32) : Int64 := f_Mo_cross (gI X a) (gI Y a) (gI X b) (gI Y b) (gI X c) (gI Y c)
theorem s_Mo_turn {fr lo : Nat} {h : zH} (X Y : List Int32) (a b c : Int32) (m : Nat) (fs : List Value) (hm : h.1[m]? = some (.inr (8, fs))) (p_xs : Nat) (hf_xs : fs[4]? = some (.ref p_xs)) (ha_xs : h.1[p_xs]? = some (.inl (0, X.map Value.int))) (p_ys : Nat) (hf_ys : fs[5]? = some (.ref p_ys)) (ha_ys : h.1[p_ys]? = some (.inl (0, Y.map Value.int))) (hXY : Y.length = X.length) (ha : zIx a X.length) (hb : zIx b X.length) (hc : zIx c X.length) (hlo : 48 ≤ lo) : zAns (fr + 2) lo 123 [.ref m, .int a, .int b, .int c] h (some (.long (f_Mo_turn X Y a b c)), h) := by
  unfold f_Mo_turn
  refine zeb (fr := fr + 1) (M := M_Mo_turn) rfl (Nat.le_trans (by decide) hlo) rfl ?_
  have e0 : mL M_Mo_turn = 4 := rfl
  refine zeN (q := ((1, [(0, .ref m), (1, .int a), (2, .int b), (3, .int c)], [.ref m]), h)) 1 rfl ?_
  refine zegf (fs := fs) (v := .ref p_xs) rfl rfl rfl rfl hm hf_xs ?_
  refine zeN (q := ((5, [(0, .ref m), (1, .int a), (2, .int b), (3, .int c)], [.int a, .ref p_xs]), h)) 1 rfl ?_
  refine zeia (l := X.map Value.int) (k := a.toNatClampNeg) (v := .int (gI X a)) rfl rfl ha_xs (zIx_a ha) (zIx_b ha) ?_
  refine zeN (q := ((7, [(0, .ref m), (1, .int a), (2, .int b), (3, .int c)], [.ref m, .int (gI X a)]), h)) 1 rfl ?_
  refine zegf (fs := fs) (v := .ref p_ys) rfl rfl rfl rfl hm hf_ys ?_
  refine zeN (q := ((11, [(0, .ref m), (1, .int a), (2, .int b), (3, .int c)], [.int a, .ref p_ys, .int (gI X a)]), h)) 1 rfl ?_
  refine zeia (l := Y.map Value.int) (k := a.toNatClampNeg) (v := .int (gI Y a)) rfl rfl ha_ys (zIx_a (zIx_s ha hXY)) (zIx_b (zIx_s ha hXY)) ?_
  refine zeN (q := ((13, [(0, .ref m), (1, .int a), (2, .int b), (3, .int c)], [.ref m, .int (gI Y a), .int (gI X a)]), h)) 1 rfl ?_
  refine zegf (fs := fs) (v := .ref p_xs) rfl rfl rfl rfl hm hf_xs ?_
  refine zeN (q := ((17, [(0, .ref m), (1, .int a), (2, .int b), (3, .int c)], [.int b, .ref p_xs, .int (gI Y a), .int (gI X a)]), h)) 1 rfl ?_
  refine zeia (l := X.map Value.int) (k := b.toNatClampNeg) (v := .int (gI X b)) rfl rfl ha_xs (zIx_a hb) (zIx_b hb) ?_
  refine zeN (q := ((19, [(0, .ref m), (1, .int a), (2, .int b), (3, .int c)], [.ref m, .int (gI X b), .int (gI Y a), .int (gI X a)]), h)) 1 rfl ?_
  refine zegf (fs := fs) (v := .ref p_ys) rfl rfl rfl rfl hm hf_ys ?_
  refine zeN (q := ((23, [(0, .ref m), (1, .int a), (2, .int b), (3, .int c)], [.int b, .ref p_ys, .int (gI X b), .int (gI Y a), .int (gI X a)]), h)) 1 rfl ?_
  refine zeia (l := Y.map Value.int) (k := b.toNatClampNeg) (v := .int (gI Y b)) rfl rfl ha_ys (zIx_a (zIx_s hb hXY)) (zIx_b (zIx_s hb hXY)) ?_
  refine zeN (q := ((25, [(0, .ref m), (1, .int a), (2, .int b), (3, .int c)], [.ref m, .int (gI Y b), .int (gI X b), .int (gI Y a), .int (gI X a)]), h)) 1 rfl ?_
  refine zegf (fs := fs) (v := .ref p_xs) rfl rfl rfl rfl hm hf_xs ?_
  refine zeN (q := ((29, [(0, .ref m), (1, .int a), (2, .int b), (3, .int c)], [.int c, .ref p_xs, .int (gI Y b), .int (gI X b), .int (gI Y a), .int (gI X a)]), h)) 1 rfl ?_
  refine zeia (l := X.map Value.int) (k := c.toNatClampNeg) (v := .int (gI X c)) rfl rfl ha_xs (zIx_a hc) (zIx_b hc) ?_
  refine zeN (q := ((31, [(0, .ref m), (1, .int a), (2, .int b), (3, .int c)], [.ref m, .int (gI X c), .int (gI Y b), .int (gI X b), .int (gI Y a), .int (gI X a)]), h)) 1 rfl ?_
  refine zegf (fs := fs) (v := .ref p_ys) rfl rfl rfl rfl hm hf_ys ?_
  refine zeN (q := ((35, [(0, .ref m), (1, .int a), (2, .int b), (3, .int c)], [.int c, .ref p_ys, .int (gI X c), .int (gI Y b), .int (gI X b), .int (gI Y a), .int (gI X a)]), h)) 1 rfl ?_
  refine zeia (l := Y.map Value.int) (k := c.toNatClampNeg) (v := .int (gI Y c)) rfl rfl ha_ys (zIx_a (zIx_s hc hXY)) (zIx_b (zIx_s hc hXY)) ?_
  refine zec 0 (M' := M_Mo_cross) (qq := ([.int (gI X a), .int (gI Y a), .int (gI X b), .int (gI Y b), .int (gI X c), .int (gI Y c)], [])) (s' := (39, [(0, .ref m), (1, .int a), (2, .int b), (3, .int c)], [.long (f_Mo_cross (gI X a) (gI Y a) (gI X b) (gI Y b) (gI X c) (gI Y c))])) rfl rfl (fun _ => rfl) rfl rfl rfl (s_Mo_cross (gI X a) (gI Y a) (gI X b) (gI Y b) (gI X c) (gI Y c)  (by omega)) rfl ?_
  exact zer rfl rfl
def f_Mo_lies (X Y : List Int32) (a b c : Int32) : Int32 := f_Mo_on (gI X a) (gI Y a) (gI X b) (gI Y b) (gI X c) (gI Y c)
theorem b_Mo_lies (X Y : List Int32) (a b c : Int32) : zB (f_Mo_lies X Y a b c) := by unfold f_Mo_lies; exact (b_Mo_on (gI X a) (gI Y a) (gI X b) (gI Y b) (gI X c) (gI Y c))
theorem s_Mo_lies {fr lo : Nat} {h : zH} (X Y : List Int32) (a b c : Int32) (m : Nat) (fs : List Value) (hm : h.1[m]? = some (.inr (8, fs))) (p_xs : Nat) (hf_xs : fs[4]? = some (.ref p_xs)) (ha_xs : h.1[p_xs]? = some (.inl (0, X.map Value.int))) (p_ys : Nat) (hf_ys : fs[5]? = some (.ref p_ys)) (ha_ys : h.1[p_ys]? = some (.inl (0, Y.map Value.int))) (hXY : Y.length = X.length) (ha : zIx a X.length) (hb : zIx b X.length) (hc : zIx c X.length) (hlo : 73 ≤ lo) : zAns (fr + 3) lo 122 [.ref m, .int a, .int b, .int c] h (some (.int (f_Mo_lies X Y a b c)), h) := by
  unfold f_Mo_lies
  refine zeb (fr := fr + 2) (M := M_Mo_lies) rfl (Nat.le_trans (by decide) hlo) rfl ?_
  have e0 : mL M_Mo_lies = 4 := rfl
  refine zeN (q := ((1, [(0, .ref m), (1, .int a), (2, .int b), (3, .int c)], [.ref m]), h)) 1 rfl ?_
  refine zegf (fs := fs) (v := .ref p_xs) rfl rfl rfl rfl hm hf_xs ?_
  refine zeN (q := ((5, [(0, .ref m), (1, .int a), (2, .int b), (3, .int c)], [.int a, .ref p_xs]), h)) 1 rfl ?_
  refine zeia (l := X.map Value.int) (k := a.toNatClampNeg) (v := .int (gI X a)) rfl rfl ha_xs (zIx_a ha) (zIx_b ha) ?_
  refine zeN (q := ((7, [(0, .ref m), (1, .int a), (2, .int b), (3, .int c)], [.ref m, .int (gI X a)]), h)) 1 rfl ?_
  refine zegf (fs := fs) (v := .ref p_ys) rfl rfl rfl rfl hm hf_ys ?_
  refine zeN (q := ((11, [(0, .ref m), (1, .int a), (2, .int b), (3, .int c)], [.int a, .ref p_ys, .int (gI X a)]), h)) 1 rfl ?_
  refine zeia (l := Y.map Value.int) (k := a.toNatClampNeg) (v := .int (gI Y a)) rfl rfl ha_ys (zIx_a (zIx_s ha hXY)) (zIx_b (zIx_s ha hXY)) ?_
  refine zeN (q := ((13, [(0, .ref m), (1, .int a), (2, .int b), (3, .int c)], [.ref m, .int (gI Y a), .int (gI X a)]), h)) 1 rfl ?_
  refine zegf (fs := fs) (v := .ref p_xs) rfl rfl rfl rfl hm hf_xs ?_
  refine zeN (q := ((17, [(0, .ref m), (1, .int a), (2, .int b), (3, .int c)], [.int b, .ref p_xs, .int (gI Y a), .int (gI X a)]), h)) 1 rfl ?_
  refine zeia (l := X.map Value.int) (k := b.toNatClampNeg) (v := .int (gI X b)) rfl rfl ha_xs (zIx_a hb) (zIx_b hb) ?_
  refine zeN (q := ((19, [(0, .ref m), (1, .int a), (2, .int b), (3, .int c)], [.ref m, .int (gI X b), .int (gI Y a), .int (gI X a)]), h)) 1 rfl ?_
  refine zegf (fs := fs) (v := .ref p_ys) rfl rfl rfl rfl hm hf_ys ?_
  refine zeN (q := ((23, [(0, .ref m), (1, .int a), (2, .int b), (3, .int c)], [.int b, .ref p_ys, .int (gI X b), .int (gI Y a), .int (gI X a)]), h)) 1 rfl ?_
  refine zeia (l := Y.map Value.int) (k := b.toNatClampNeg) (v := .int (gI Y b)) rfl rfl ha_ys (zIx_a (zIx_s hb hXY)) (zIx_b (zIx_s hb hXY)) ?_
  refine zeN (q := ((25, [(0, .ref m), (1, .int a), (2, .int b), (3, .int c)], [.ref m, .int (gI Y b), .int (gI X b), .int (gI Y a), .int (gI X a)]), h)) 1 rfl ?_
  refine zegf (fs := fs) (v := .ref p_xs) rfl rfl rfl rfl hm hf_xs ?_
  refine zeN (q := ((29, [(0, .ref m), (1, .int a), (2, .int b), (3, .int c)], [.int c, .ref p_xs, .int (gI Y b), .int (gI X b), .int (gI Y a), .int (gI X a)]), h)) 1 rfl ?_
  refine zeia (l := X.map Value.int) (k := c.toNatClampNeg) (v := .int (gI X c)) rfl rfl ha_xs (zIx_a hc) (zIx_b hc) ?_
  refine zeN (q := ((31, [(0, .ref m), (1, .int a), (2, .int b), (3, .int c)], [.ref m, .int (gI X c), .int (gI Y b), .int (gI X b), .int (gI Y a), .int (gI X a)]), h)) 1 rfl ?_
  refine zegf (fs := fs) (v := .ref p_ys) rfl rfl rfl rfl hm hf_ys ?_
  refine zeN (q := ((35, [(0, .ref m), (1, .int a), (2, .int b), (3, .int c)], [.int c, .ref p_ys, .int (gI X c), .int (gI Y b), .int (gI X b), .int (gI Y a), .int (gI X a)]), h)) 1 rfl ?_
  refine zeia (l := Y.map Value.int) (k := c.toNatClampNeg) (v := .int (gI Y c)) rfl rfl ha_ys (zIx_a (zIx_s hc hXY)) (zIx_b (zIx_s hc hXY)) ?_
  refine zec 0 (M' := M_Mo_on) (qq := ([.int (gI X a), .int (gI Y a), .int (gI X b), .int (gI Y b), .int (gI X c), .int (gI Y c)], [])) (s' := (39, [(0, .ref m), (1, .int a), (2, .int b), (3, .int c)], [.int (f_Mo_on (gI X a) (gI Y a) (gI X b) (gI Y b) (gI X c) (gI Y c))])) rfl rfl (fun _ => rfl) rfl rfl rfl (s_Mo_on (gI X a) (gI Y a) (gI X b) (gI Y b) (gI X c) (gI Y c)  (by omega)) rfl ?_
  exact zer rfl (zreb (b_Mo_on (gI X a) (gI Y a) (gI X b) (gI Y b) (gI X c) (gI Y c)))
def f_Mo_touching_43 (X Y : List Int32) (a b c d : Int32) : Int32 := 1
theorem b_Mo_touching_43 (X Y : List Int32) (a b c d : Int32) : zB (f_Mo_touching_43 X Y a b c d) := by unfold f_Mo_touching_43; exact (zB1)
theorem s_Mo_touching_43 {fr lo : Nat} {h : zH} (X Y : List Int32) (a b c d : Int32) (m : Nat) (fs : List Value) (hm : h.1[m]? = some (.inr (8, fs))) (p_xs : Nat) (hf_xs : fs[4]? = some (.ref p_xs)) (ha_xs : h.1[p_xs]? = some (.inl (0, X.map Value.int))) (p_ys : Nat) (hf_ys : fs[5]? = some (.ref p_ys)) (ha_ys : h.1[p_ys]? = some (.inl (0, Y.map Value.int))) (hXY : Y.length = X.length) (ha : zIx a X.length) (hb : zIx b X.length) (hc : zIx c X.length) (hd : zIx d X.length) (hlo : 73 ≤ lo) : zRun (fr + 3) lo none M_Mo_touching (43, [(0, .ref m), (1, .int a), (2, .int b), (3, .int c), (4, .int d)], []) h (some (.int (f_Mo_touching_43 X Y a b c d)), h) := by
  unfold f_Mo_touching_43
  refine zeN (q := ((44, [(0, .ref m), (1, .int a), (2, .int b), (3, .int c), (4, .int d)], [.int 1]), h)) 1 rfl ?_
  exact zer rfl rfl
def f_Mo_touching_144 (X Y : List Int32) (a b c d : Int32) : Int32 := 0
theorem b_Mo_touching_144 (X Y : List Int32) (a b c d : Int32) : zB (f_Mo_touching_144 X Y a b c d) := by unfold f_Mo_touching_144; exact (zB0)
theorem s_Mo_touching_144 {fr lo : Nat} {h : zH} (X Y : List Int32) (a b c d : Int32) (m : Nat) (fs : List Value) (hm : h.1[m]? = some (.inr (8, fs))) (p_xs : Nat) (hf_xs : fs[4]? = some (.ref p_xs)) (ha_xs : h.1[p_xs]? = some (.inl (0, X.map Value.int))) (p_ys : Nat) (hf_ys : fs[5]? = some (.ref p_ys)) (ha_ys : h.1[p_ys]? = some (.inl (0, Y.map Value.int))) (hXY : Y.length = X.length) (ha : zIx a X.length) (hb : zIx b X.length) (hc : zIx c X.length) (hd : zIx d X.length) (hlo : 73 ≤ lo) : zRun (fr + 3) lo none M_Mo_touching (144, [(11, .long (f_Mo_turn X Y c d b)), (9, .long (f_Mo_turn X Y c d a)), (7, .long (f_Mo_turn X Y a b d)), (5, .long (f_Mo_turn X Y a b c)), (0, .ref m), (1, .int a), (2, .int b), (3, .int c), (4, .int d)], []) h (some (.int (f_Mo_touching_144 X Y a b c d)), h) := by
  unfold f_Mo_touching_144
  refine zeN (q := ((145, [(11, .long (f_Mo_turn X Y c d b)), (9, .long (f_Mo_turn X Y c d a)), (7, .long (f_Mo_turn X Y a b d)), (5, .long (f_Mo_turn X Y a b c)), (0, .ref m), (1, .int a), (2, .int b), (3, .int c), (4, .int d)], [.int 0]), h)) 1 rfl ?_
  exact zer rfl rfl
def f_Mo_touching_126 (X Y : List Int32) (a b c d : Int32) : Int32 := (bif zc .le (lg_cmp (f_Mo_turn X Y c d a) 0) 0 then (f_Mo_touching_144 X Y a b c d) else bif zc .ge (lg_cmp (f_Mo_turn X Y c d b) 0) 0 then 0 else 1)
theorem b_Mo_touching_126 (X Y : List Int32) (a b c d : Int32) : zB (f_Mo_touching_126 X Y a b c d) := by unfold f_Mo_touching_126; exact (zbi (b_Mo_touching_144 X Y a b c d) (zbb _))
theorem s_Mo_touching_126 {fr lo : Nat} {h : zH} (X Y : List Int32) (a b c d : Int32) (m : Nat) (fs : List Value) (hm : h.1[m]? = some (.inr (8, fs))) (p_xs : Nat) (hf_xs : fs[4]? = some (.ref p_xs)) (ha_xs : h.1[p_xs]? = some (.inl (0, X.map Value.int))) (p_ys : Nat) (hf_ys : fs[5]? = some (.ref p_ys)) (ha_ys : h.1[p_ys]? = some (.inl (0, Y.map Value.int))) (hXY : Y.length = X.length) (ha : zIx a X.length) (hb : zIx b X.length) (hc : zIx c X.length) (hd : zIx d X.length) (hlo : 73 ≤ lo) : zRun (fr + 3) lo none M_Mo_touching (126, [(11, .long (f_Mo_turn X Y c d b)), (9, .long (f_Mo_turn X Y c d a)), (7, .long (f_Mo_turn X Y a b d)), (5, .long (f_Mo_turn X Y a b c)), (0, .ref m), (1, .int a), (2, .int b), (3, .int c), (4, .int d)], []) h (some (.int (f_Mo_touching_126 X Y a b c d)), h) := by
  unfold f_Mo_touching_126
  refine zeN (q := ((130, [(11, .long (f_Mo_turn X Y c d b)), (9, .long (f_Mo_turn X Y c d a)), (7, .long (f_Mo_turn X Y a b d)), (5, .long (f_Mo_turn X Y a b c)), (0, .ref m), (1, .int a), (2, .int b), (3, .int c), (4, .int d)], [.int (lg_cmp (f_Mo_turn X Y c d a) 0)]), h)) 3 rfl ?_
  refine zbc (q1 := (144, [(11, .long (f_Mo_turn X Y c d b)), (9, .long (f_Mo_turn X Y c d a)), (7, .long (f_Mo_turn X Y a b d)), (5, .long (f_Mo_turn X Y a b c)), (0, .ref m), (1, .int a), (2, .int b), (3, .int c), (4, .int d)], [])) (q2 := (133, [(11, .long (f_Mo_turn X Y c d b)), (9, .long (f_Mo_turn X Y c d a)), (7, .long (f_Mo_turn X Y a b d)), (5, .long (f_Mo_turn X Y a b c)), (0, .ref m), (1, .int a), (2, .int b), (3, .int c), (4, .int d)], [])) (cB := zc .le (lg_cmp (f_Mo_turn X Y c d a) 0) 0) (off := 14) (lv := [(11, .long (f_Mo_turn X Y c d b)), (9, .long (f_Mo_turn X Y c d a)), (7, .long (f_Mo_turn X Y a b d)), (5, .long (f_Mo_turn X Y a b c)), (0, .ref m), (1, .int a), (2, .int b), (3, .int c), (4, .int d)]) (st := []) rfl rfl rfl rfl rfl (fun c130 => ?_) (fun c130 => ?_)
  · rw [c130]
    exact s_Mo_touching_144 X Y a b c d m fs hm p_xs hf_xs ha_xs p_ys hf_ys ha_ys hXY ha hb hc hd (by omega)
  · rw [c130]
    refine zeN (q := ((137, [(11, .long (f_Mo_turn X Y c d b)), (9, .long (f_Mo_turn X Y c d a)), (7, .long (f_Mo_turn X Y a b d)), (5, .long (f_Mo_turn X Y a b c)), (0, .ref m), (1, .int a), (2, .int b), (3, .int c), (4, .int d)], [.int (lg_cmp (f_Mo_turn X Y c d b) 0)]), h)) 3 rfl ?_
    refine zdia (q1 := (144, [(11, .long (f_Mo_turn X Y c d b)), (9, .long (f_Mo_turn X Y c d a)), (7, .long (f_Mo_turn X Y a b d)), (5, .long (f_Mo_turn X Y a b c)), (0, .ref m), (1, .int a), (2, .int b), (3, .int c), (4, .int d)], [])) (q2 := (140, [(11, .long (f_Mo_turn X Y c d b)), (9, .long (f_Mo_turn X Y c d a)), (7, .long (f_Mo_turn X Y a b d)), (5, .long (f_Mo_turn X Y a b c)), (0, .ref m), (1, .int a), (2, .int b), (3, .int c), (4, .int d)], [])) (cB := zc .ge (lg_cmp (f_Mo_turn X Y c d b) 0) 0) (off := 7) (lv := [(11, .long (f_Mo_turn X Y c d b)), (9, .long (f_Mo_turn X Y c d a)), (7, .long (f_Mo_turn X Y a b d)), (5, .long (f_Mo_turn X Y a b c)), (0, .ref m), (1, .int a), (2, .int b), (3, .int c), (4, .int d)]) (st := []) (lv2 := [(11, .long (f_Mo_turn X Y c d b)), (9, .long (f_Mo_turn X Y c d a)), (7, .long (f_Mo_turn X Y a b d)), (5, .long (f_Mo_turn X Y a b c)), (0, .ref m), (1, .int a), (2, .int b), (3, .int c), (4, .int d)]) (st2 := []) (J := 145) (vA := 0) (vB := 1) 1 2 rfl rfl rfl rfl rfl rfl rfl ?_
    exact zer rfl (zreb (zbb _))
def f_Mo_touching_140 (X Y : List Int32) (a b c d : Int32) : Int32 := 1
theorem b_Mo_touching_140 (X Y : List Int32) (a b c d : Int32) : zB (f_Mo_touching_140 X Y a b c d) := by unfold f_Mo_touching_140; exact (zB1)
theorem s_Mo_touching_140 {fr lo : Nat} {h : zH} (X Y : List Int32) (a b c d : Int32) (m : Nat) (fs : List Value) (hm : h.1[m]? = some (.inr (8, fs))) (p_xs : Nat) (hf_xs : fs[4]? = some (.ref p_xs)) (ha_xs : h.1[p_xs]? = some (.inl (0, X.map Value.int))) (p_ys : Nat) (hf_ys : fs[5]? = some (.ref p_ys)) (ha_ys : h.1[p_ys]? = some (.inl (0, Y.map Value.int))) (hXY : Y.length = X.length) (ha : zIx a X.length) (hb : zIx b X.length) (hc : zIx c X.length) (hd : zIx d X.length) (hlo : 73 ≤ lo) : zRun (fr + 3) lo none M_Mo_touching (140, [(11, .long (f_Mo_turn X Y c d b)), (9, .long (f_Mo_turn X Y c d a)), (7, .long (f_Mo_turn X Y a b d)), (5, .long (f_Mo_turn X Y a b c)), (0, .ref m), (1, .int a), (2, .int b), (3, .int c), (4, .int d)], []) h (some (.int (f_Mo_touching_140 X Y a b c d)), h) := by
  unfold f_Mo_touching_140
  refine zeN (q := ((145, [(11, .long (f_Mo_turn X Y c d b)), (9, .long (f_Mo_turn X Y c d a)), (7, .long (f_Mo_turn X Y a b d)), (5, .long (f_Mo_turn X Y a b c)), (0, .ref m), (1, .int a), (2, .int b), (3, .int c), (4, .int d)], [.int 1]), h)) 2 rfl ?_
  exact zer rfl rfl
def f_Mo_touching_112 (X Y : List Int32) (a b c d : Int32) : Int32 := (bif zc .ge (lg_cmp (f_Mo_turn X Y c d a) 0) 0 then (f_Mo_touching_126 X Y a b c d) else (bif zc .gt (lg_cmp (f_Mo_turn X Y c d b) 0) 0 then (f_Mo_touching_140 X Y a b c d) else (f_Mo_touching_126 X Y a b c d)))
theorem b_Mo_touching_112 (X Y : List Int32) (a b c d : Int32) : zB (f_Mo_touching_112 X Y a b c d) := by unfold f_Mo_touching_112; exact (zbi (b_Mo_touching_126 X Y a b c d) (zbi (b_Mo_touching_140 X Y a b c d) (b_Mo_touching_126 X Y a b c d)))
theorem s_Mo_touching_112 {fr lo : Nat} {h : zH} (X Y : List Int32) (a b c d : Int32) (m : Nat) (fs : List Value) (hm : h.1[m]? = some (.inr (8, fs))) (p_xs : Nat) (hf_xs : fs[4]? = some (.ref p_xs)) (ha_xs : h.1[p_xs]? = some (.inl (0, X.map Value.int))) (p_ys : Nat) (hf_ys : fs[5]? = some (.ref p_ys)) (ha_ys : h.1[p_ys]? = some (.inl (0, Y.map Value.int))) (hXY : Y.length = X.length) (ha : zIx a X.length) (hb : zIx b X.length) (hc : zIx c X.length) (hd : zIx d X.length) (hlo : 73 ≤ lo) : zRun (fr + 3) lo none M_Mo_touching (112, [(11, .long (f_Mo_turn X Y c d b)), (9, .long (f_Mo_turn X Y c d a)), (7, .long (f_Mo_turn X Y a b d)), (5, .long (f_Mo_turn X Y a b c)), (0, .ref m), (1, .int a), (2, .int b), (3, .int c), (4, .int d)], []) h (some (.int (f_Mo_touching_112 X Y a b c d)), h) := by
  unfold f_Mo_touching_112
  refine zeN (q := ((116, [(11, .long (f_Mo_turn X Y c d b)), (9, .long (f_Mo_turn X Y c d a)), (7, .long (f_Mo_turn X Y a b d)), (5, .long (f_Mo_turn X Y a b c)), (0, .ref m), (1, .int a), (2, .int b), (3, .int c), (4, .int d)], [.int (lg_cmp (f_Mo_turn X Y c d a) 0)]), h)) 3 rfl ?_
  refine zbc (q1 := (126, [(11, .long (f_Mo_turn X Y c d b)), (9, .long (f_Mo_turn X Y c d a)), (7, .long (f_Mo_turn X Y a b d)), (5, .long (f_Mo_turn X Y a b c)), (0, .ref m), (1, .int a), (2, .int b), (3, .int c), (4, .int d)], [])) (q2 := (119, [(11, .long (f_Mo_turn X Y c d b)), (9, .long (f_Mo_turn X Y c d a)), (7, .long (f_Mo_turn X Y a b d)), (5, .long (f_Mo_turn X Y a b c)), (0, .ref m), (1, .int a), (2, .int b), (3, .int c), (4, .int d)], [])) (cB := zc .ge (lg_cmp (f_Mo_turn X Y c d a) 0) 0) (off := 10) (lv := [(11, .long (f_Mo_turn X Y c d b)), (9, .long (f_Mo_turn X Y c d a)), (7, .long (f_Mo_turn X Y a b d)), (5, .long (f_Mo_turn X Y a b c)), (0, .ref m), (1, .int a), (2, .int b), (3, .int c), (4, .int d)]) (st := []) rfl rfl rfl rfl rfl (fun c116 => ?_) (fun c116 => ?_)
  · rw [c116]
    exact s_Mo_touching_126 X Y a b c d m fs hm p_xs hf_xs ha_xs p_ys hf_ys ha_ys hXY ha hb hc hd (by omega)
  · rw [c116]
    refine zeN (q := ((123, [(11, .long (f_Mo_turn X Y c d b)), (9, .long (f_Mo_turn X Y c d a)), (7, .long (f_Mo_turn X Y a b d)), (5, .long (f_Mo_turn X Y a b c)), (0, .ref m), (1, .int a), (2, .int b), (3, .int c), (4, .int d)], [.int (lg_cmp (f_Mo_turn X Y c d b) 0)]), h)) 3 rfl ?_
    refine zbc (q1 := (140, [(11, .long (f_Mo_turn X Y c d b)), (9, .long (f_Mo_turn X Y c d a)), (7, .long (f_Mo_turn X Y a b d)), (5, .long (f_Mo_turn X Y a b c)), (0, .ref m), (1, .int a), (2, .int b), (3, .int c), (4, .int d)], [])) (q2 := (126, [(11, .long (f_Mo_turn X Y c d b)), (9, .long (f_Mo_turn X Y c d a)), (7, .long (f_Mo_turn X Y a b d)), (5, .long (f_Mo_turn X Y a b c)), (0, .ref m), (1, .int a), (2, .int b), (3, .int c), (4, .int d)], [])) (cB := zc .gt (lg_cmp (f_Mo_turn X Y c d b) 0) 0) (off := 17) (lv := [(11, .long (f_Mo_turn X Y c d b)), (9, .long (f_Mo_turn X Y c d a)), (7, .long (f_Mo_turn X Y a b d)), (5, .long (f_Mo_turn X Y a b c)), (0, .ref m), (1, .int a), (2, .int b), (3, .int c), (4, .int d)]) (st := []) rfl rfl rfl rfl rfl (fun c123 => ?_) (fun c123 => ?_)
    · rw [c123]
      exact s_Mo_touching_140 X Y a b c d m fs hm p_xs hf_xs ha_xs p_ys hf_ys ha_ys hXY ha hb hc hd (by omega)
    · rw [c123]
      exact s_Mo_touching_126 X Y a b c d m fs hm p_xs hf_xs ha_xs p_ys hf_ys ha_ys hXY ha hb hc hd (by omega)
def f_Mo_touching_98 (X Y : List Int32) (a b c d : Int32) : Int32 := (bif zc .le (lg_cmp (f_Mo_turn X Y a b c) 0) 0 then (f_Mo_touching_144 X Y a b c d) else (bif zc .ge (lg_cmp (f_Mo_turn X Y a b d) 0) 0 then (f_Mo_touching_144 X Y a b c d) else (f_Mo_touching_112 X Y a b c d)))
theorem b_Mo_touching_98 (X Y : List Int32) (a b c d : Int32) : zB (f_Mo_touching_98 X Y a b c d) := by unfold f_Mo_touching_98; exact (zbi (b_Mo_touching_144 X Y a b c d) (zbi (b_Mo_touching_144 X Y a b c d) (b_Mo_touching_112 X Y a b c d)))
theorem s_Mo_touching_98 {fr lo : Nat} {h : zH} (X Y : List Int32) (a b c d : Int32) (m : Nat) (fs : List Value) (hm : h.1[m]? = some (.inr (8, fs))) (p_xs : Nat) (hf_xs : fs[4]? = some (.ref p_xs)) (ha_xs : h.1[p_xs]? = some (.inl (0, X.map Value.int))) (p_ys : Nat) (hf_ys : fs[5]? = some (.ref p_ys)) (ha_ys : h.1[p_ys]? = some (.inl (0, Y.map Value.int))) (hXY : Y.length = X.length) (ha : zIx a X.length) (hb : zIx b X.length) (hc : zIx c X.length) (hd : zIx d X.length) (hlo : 73 ≤ lo) : zRun (fr + 3) lo none M_Mo_touching (98, [(11, .long (f_Mo_turn X Y c d b)), (9, .long (f_Mo_turn X Y c d a)), (7, .long (f_Mo_turn X Y a b d)), (5, .long (f_Mo_turn X Y a b c)), (0, .ref m), (1, .int a), (2, .int b), (3, .int c), (4, .int d)], []) h (some (.int (f_Mo_touching_98 X Y a b c d)), h) := by
  unfold f_Mo_touching_98
  refine zeN (q := ((102, [(11, .long (f_Mo_turn X Y c d b)), (9, .long (f_Mo_turn X Y c d a)), (7, .long (f_Mo_turn X Y a b d)), (5, .long (f_Mo_turn X Y a b c)), (0, .ref m), (1, .int a), (2, .int b), (3, .int c), (4, .int d)], [.int (lg_cmp (f_Mo_turn X Y a b c) 0)]), h)) 3 rfl ?_
  refine zbc (q1 := (144, [(11, .long (f_Mo_turn X Y c d b)), (9, .long (f_Mo_turn X Y c d a)), (7, .long (f_Mo_turn X Y a b d)), (5, .long (f_Mo_turn X Y a b c)), (0, .ref m), (1, .int a), (2, .int b), (3, .int c), (4, .int d)], [])) (q2 := (105, [(11, .long (f_Mo_turn X Y c d b)), (9, .long (f_Mo_turn X Y c d a)), (7, .long (f_Mo_turn X Y a b d)), (5, .long (f_Mo_turn X Y a b c)), (0, .ref m), (1, .int a), (2, .int b), (3, .int c), (4, .int d)], [])) (cB := zc .le (lg_cmp (f_Mo_turn X Y a b c) 0) 0) (off := 42) (lv := [(11, .long (f_Mo_turn X Y c d b)), (9, .long (f_Mo_turn X Y c d a)), (7, .long (f_Mo_turn X Y a b d)), (5, .long (f_Mo_turn X Y a b c)), (0, .ref m), (1, .int a), (2, .int b), (3, .int c), (4, .int d)]) (st := []) rfl rfl rfl rfl rfl (fun c102 => ?_) (fun c102 => ?_)
  · rw [c102]
    exact s_Mo_touching_144 X Y a b c d m fs hm p_xs hf_xs ha_xs p_ys hf_ys ha_ys hXY ha hb hc hd (by omega)
  · rw [c102]
    refine zeN (q := ((109, [(11, .long (f_Mo_turn X Y c d b)), (9, .long (f_Mo_turn X Y c d a)), (7, .long (f_Mo_turn X Y a b d)), (5, .long (f_Mo_turn X Y a b c)), (0, .ref m), (1, .int a), (2, .int b), (3, .int c), (4, .int d)], [.int (lg_cmp (f_Mo_turn X Y a b d) 0)]), h)) 3 rfl ?_
    refine zbc (q1 := (144, [(11, .long (f_Mo_turn X Y c d b)), (9, .long (f_Mo_turn X Y c d a)), (7, .long (f_Mo_turn X Y a b d)), (5, .long (f_Mo_turn X Y a b c)), (0, .ref m), (1, .int a), (2, .int b), (3, .int c), (4, .int d)], [])) (q2 := (112, [(11, .long (f_Mo_turn X Y c d b)), (9, .long (f_Mo_turn X Y c d a)), (7, .long (f_Mo_turn X Y a b d)), (5, .long (f_Mo_turn X Y a b c)), (0, .ref m), (1, .int a), (2, .int b), (3, .int c), (4, .int d)], [])) (cB := zc .ge (lg_cmp (f_Mo_turn X Y a b d) 0) 0) (off := 35) (lv := [(11, .long (f_Mo_turn X Y c d b)), (9, .long (f_Mo_turn X Y c d a)), (7, .long (f_Mo_turn X Y a b d)), (5, .long (f_Mo_turn X Y a b c)), (0, .ref m), (1, .int a), (2, .int b), (3, .int c), (4, .int d)]) (st := []) rfl rfl rfl rfl rfl (fun c109 => ?_) (fun c109 => ?_)
    · rw [c109]
      exact s_Mo_touching_144 X Y a b c d m fs hm p_xs hf_xs ha_xs p_ys hf_ys ha_ys hXY ha hb hc hd (by omega)
    · rw [c109]
      exact s_Mo_touching_112 X Y a b c d m fs hm p_xs hf_xs ha_xs p_ys hf_ys ha_ys hXY ha hb hc hd (by omega)
def f_Mo_touching (X Y : List Int32) (a b c d : Int32) : Int32 := (bif zc .ne (f_Mo_lies X Y a b c) 0 then (f_Mo_touching_43 X Y a b c d) else (bif zc .ne (f_Mo_lies X Y a b d) 0 then (f_Mo_touching_43 X Y a b c d) else (bif zc .ne (f_Mo_lies X Y c d a) 0 then (f_Mo_touching_43 X Y a b c d) else (bif zc .eq (f_Mo_lies X Y c d b) 0 then (bif zc .ge (lg_cmp (f_Mo_turn X Y a b c) 0) 0 then (f_Mo_touching_98 X Y a b c d) else (bif zc .gt (lg_cmp (f_Mo_turn X Y a b d) 0) 0 then (f_Mo_touching_112 X Y a b c d) else (f_Mo_touching_98 X Y a b c d))) else (f_Mo_touching_43 X Y a b c d)))))
theorem b_Mo_touching (X Y : List Int32) (a b c d : Int32) : zB (f_Mo_touching X Y a b c d) := by unfold f_Mo_touching; exact (zbi (b_Mo_touching_43 X Y a b c d) (zbi (b_Mo_touching_43 X Y a b c d) (zbi (b_Mo_touching_43 X Y a b c d) (zbi (zbi (b_Mo_touching_98 X Y a b c d) (zbi (b_Mo_touching_112 X Y a b c d) (b_Mo_touching_98 X Y a b c d))) (b_Mo_touching_43 X Y a b c d)))))
theorem s_Mo_touching {fr lo : Nat} {h : zH} (X Y : List Int32) (a b c d : Int32) (m : Nat) (fs : List Value) (hm : h.1[m]? = some (.inr (8, fs))) (p_xs : Nat) (hf_xs : fs[4]? = some (.ref p_xs)) (ha_xs : h.1[p_xs]? = some (.inl (0, X.map Value.int))) (p_ys : Nat) (hf_ys : fs[5]? = some (.ref p_ys)) (ha_ys : h.1[p_ys]? = some (.inl (0, Y.map Value.int))) (hXY : Y.length = X.length) (ha : zIx a X.length) (hb : zIx b X.length) (hc : zIx c X.length) (hd : zIx d X.length) (hlo : 105 ≤ lo) : zAns (fr + 4) lo 121 [.ref m, .int a, .int b, .int c, .int d] h (some (.int (f_Mo_touching X Y a b c d)), h) := by
  unfold f_Mo_touching
  refine zeb (fr := fr + 3) (M := M_Mo_touching) rfl (Nat.le_trans (by decide) hlo) rfl ?_
  have e0 : mL M_Mo_touching = 13 := rfl
  refine zeN (q := ((4, [(0, .ref m), (1, .int a), (2, .int b), (3, .int c), (4, .int d)], [.int c, .int b, .int a, .ref m]), h)) 4 rfl ?_
  refine zec 1 (M' := M_Mo_lies) (qq := ([.ref m, .int a, .int b, .int c], [])) (s' := (7, [(0, .ref m), (1, .int a), (2, .int b), (3, .int c), (4, .int d)], [.int (f_Mo_lies X Y a b c)])) rfl rfl (fun _ => rfl) rfl rfl (zhk rfl (zrc_ok hm) rfl) (s_Mo_lies X Y a b c m fs hm p_xs hf_xs ha_xs p_ys hf_ys ha_ys hXY ha hb hc (by omega)) rfl ?_
  refine zbc (q1 := (43, [(0, .ref m), (1, .int a), (2, .int b), (3, .int c), (4, .int d)], [])) (q2 := (10, [(0, .ref m), (1, .int a), (2, .int b), (3, .int c), (4, .int d)], [])) (cB := zc .ne (f_Mo_lies X Y a b c) 0) (off := 36) (lv := [(0, .ref m), (1, .int a), (2, .int b), (3, .int c), (4, .int d)]) (st := []) rfl rfl rfl rfl rfl (fun c7 => ?_) (fun c7 => ?_)
  · rw [c7]
    exact s_Mo_touching_43 X Y a b c d m fs hm p_xs hf_xs ha_xs p_ys hf_ys ha_ys hXY ha hb hc hd (by omega)
  · rw [c7]
    refine zeN (q := ((15, [(0, .ref m), (1, .int a), (2, .int b), (3, .int c), (4, .int d)], [.int d, .int b, .int a, .ref m]), h)) 4 rfl ?_
    refine zec 1 (M' := M_Mo_lies) (qq := ([.ref m, .int a, .int b, .int d], [])) (s' := (18, [(0, .ref m), (1, .int a), (2, .int b), (3, .int c), (4, .int d)], [.int (f_Mo_lies X Y a b d)])) rfl rfl (fun _ => rfl) rfl rfl (zhk rfl (zrc_ok hm) rfl) (s_Mo_lies X Y a b d m fs hm p_xs hf_xs ha_xs p_ys hf_ys ha_ys hXY ha hb hd (by omega)) rfl ?_
    refine zbc (q1 := (43, [(0, .ref m), (1, .int a), (2, .int b), (3, .int c), (4, .int d)], [])) (q2 := (21, [(0, .ref m), (1, .int a), (2, .int b), (3, .int c), (4, .int d)], [])) (cB := zc .ne (f_Mo_lies X Y a b d) 0) (off := 25) (lv := [(0, .ref m), (1, .int a), (2, .int b), (3, .int c), (4, .int d)]) (st := []) rfl rfl rfl rfl rfl (fun c18 => ?_) (fun c18 => ?_)
    · rw [c18]
      exact s_Mo_touching_43 X Y a b c d m fs hm p_xs hf_xs ha_xs p_ys hf_ys ha_ys hXY ha hb hc hd (by omega)
    · rw [c18]
      refine zeN (q := ((26, [(0, .ref m), (1, .int a), (2, .int b), (3, .int c), (4, .int d)], [.int a, .int d, .int c, .ref m]), h)) 4 rfl ?_
      refine zec 1 (M' := M_Mo_lies) (qq := ([.ref m, .int c, .int d, .int a], [])) (s' := (29, [(0, .ref m), (1, .int a), (2, .int b), (3, .int c), (4, .int d)], [.int (f_Mo_lies X Y c d a)])) rfl rfl (fun _ => rfl) rfl rfl (zhk rfl (zrc_ok hm) rfl) (s_Mo_lies X Y c d a m fs hm p_xs hf_xs ha_xs p_ys hf_ys ha_ys hXY hc hd ha (by omega)) rfl ?_
      refine zbc (q1 := (43, [(0, .ref m), (1, .int a), (2, .int b), (3, .int c), (4, .int d)], [])) (q2 := (32, [(0, .ref m), (1, .int a), (2, .int b), (3, .int c), (4, .int d)], [])) (cB := zc .ne (f_Mo_lies X Y c d a) 0) (off := 14) (lv := [(0, .ref m), (1, .int a), (2, .int b), (3, .int c), (4, .int d)]) (st := []) rfl rfl rfl rfl rfl (fun c29 => ?_) (fun c29 => ?_)
      · rw [c29]
        exact s_Mo_touching_43 X Y a b c d m fs hm p_xs hf_xs ha_xs p_ys hf_ys ha_ys hXY ha hb hc hd (by omega)
      · rw [c29]
        refine zeN (q := ((37, [(0, .ref m), (1, .int a), (2, .int b), (3, .int c), (4, .int d)], [.int b, .int d, .int c, .ref m]), h)) 4 rfl ?_
        refine zec 1 (M' := M_Mo_lies) (qq := ([.ref m, .int c, .int d, .int b], [])) (s' := (40, [(0, .ref m), (1, .int a), (2, .int b), (3, .int c), (4, .int d)], [.int (f_Mo_lies X Y c d b)])) rfl rfl (fun _ => rfl) rfl rfl (zhk rfl (zrc_ok hm) rfl) (s_Mo_lies X Y c d b m fs hm p_xs hf_xs ha_xs p_ys hf_ys ha_ys hXY hc hd hb (by omega)) rfl ?_
        refine zbc (q1 := (45, [(0, .ref m), (1, .int a), (2, .int b), (3, .int c), (4, .int d)], [])) (q2 := (43, [(0, .ref m), (1, .int a), (2, .int b), (3, .int c), (4, .int d)], [])) (cB := zc .eq (f_Mo_lies X Y c d b) 0) (off := 5) (lv := [(0, .ref m), (1, .int a), (2, .int b), (3, .int c), (4, .int d)]) (st := []) rfl rfl rfl rfl rfl (fun c40 => ?_) (fun c40 => ?_)
        · rw [c40]
          refine zeN (q := ((49, [(0, .ref m), (1, .int a), (2, .int b), (3, .int c), (4, .int d)], [.int c, .int b, .int a, .ref m]), h)) 4 rfl ?_
          refine zec 1 (M' := M_Mo_turn) (qq := ([.ref m, .int a, .int b, .int c], [])) (s' := (52, [(0, .ref m), (1, .int a), (2, .int b), (3, .int c), (4, .int d)], [.long (f_Mo_turn X Y a b c)])) rfl rfl (fun _ => rfl) rfl rfl (zhk rfl (zrc_ok hm) rfl) (s_Mo_turn X Y a b c m fs hm p_xs hf_xs ha_xs p_ys hf_ys ha_ys hXY ha hb hc (by omega)) rfl ?_
          refine zeN (q := ((59, [(5, .long (f_Mo_turn X Y a b c)), (0, .ref m), (1, .int a), (2, .int b), (3, .int c), (4, .int d)], [.int d, .int b, .int a, .ref m]), h)) 5 rfl ?_
          refine zec 1 (M' := M_Mo_turn) (qq := ([.ref m, .int a, .int b, .int d], [])) (s' := (62, [(5, .long (f_Mo_turn X Y a b c)), (0, .ref m), (1, .int a), (2, .int b), (3, .int c), (4, .int d)], [.long (f_Mo_turn X Y a b d)])) rfl rfl (fun _ => rfl) rfl rfl (zhk rfl (zrc_ok hm) rfl) (s_Mo_turn X Y a b d m fs hm p_xs hf_xs ha_xs p_ys hf_ys ha_ys hXY ha hb hd (by omega)) rfl ?_
          refine zeN (q := ((69, [(7, .long (f_Mo_turn X Y a b d)), (5, .long (f_Mo_turn X Y a b c)), (0, .ref m), (1, .int a), (2, .int b), (3, .int c), (4, .int d)], [.int a, .int d, .int c, .ref m]), h)) 5 rfl ?_
          refine zec 1 (M' := M_Mo_turn) (qq := ([.ref m, .int c, .int d, .int a], [])) (s' := (72, [(7, .long (f_Mo_turn X Y a b d)), (5, .long (f_Mo_turn X Y a b c)), (0, .ref m), (1, .int a), (2, .int b), (3, .int c), (4, .int d)], [.long (f_Mo_turn X Y c d a)])) rfl rfl (fun _ => rfl) rfl rfl (zhk rfl (zrc_ok hm) rfl) (s_Mo_turn X Y c d a m fs hm p_xs hf_xs ha_xs p_ys hf_ys ha_ys hXY hc hd ha (by omega)) rfl ?_
          refine zeN (q := ((79, [(9, .long (f_Mo_turn X Y c d a)), (7, .long (f_Mo_turn X Y a b d)), (5, .long (f_Mo_turn X Y a b c)), (0, .ref m), (1, .int a), (2, .int b), (3, .int c), (4, .int d)], [.int b, .int d, .int c, .ref m]), h)) 5 rfl ?_
          refine zec 1 (M' := M_Mo_turn) (qq := ([.ref m, .int c, .int d, .int b], [])) (s' := (82, [(9, .long (f_Mo_turn X Y c d a)), (7, .long (f_Mo_turn X Y a b d)), (5, .long (f_Mo_turn X Y a b c)), (0, .ref m), (1, .int a), (2, .int b), (3, .int c), (4, .int d)], [.long (f_Mo_turn X Y c d b)])) rfl rfl (fun _ => rfl) rfl rfl (zhk rfl (zrc_ok hm) rfl) (s_Mo_turn X Y c d b m fs hm p_xs hf_xs ha_xs p_ys hf_ys ha_ys hXY hc hd hb (by omega)) rfl ?_
          refine zeN (q := ((88, [(11, .long (f_Mo_turn X Y c d b)), (9, .long (f_Mo_turn X Y c d a)), (7, .long (f_Mo_turn X Y a b d)), (5, .long (f_Mo_turn X Y a b c)), (0, .ref m), (1, .int a), (2, .int b), (3, .int c), (4, .int d)], [.int (lg_cmp (f_Mo_turn X Y a b c) 0)]), h)) 4 rfl ?_
          refine zbc (q1 := (98, [(11, .long (f_Mo_turn X Y c d b)), (9, .long (f_Mo_turn X Y c d a)), (7, .long (f_Mo_turn X Y a b d)), (5, .long (f_Mo_turn X Y a b c)), (0, .ref m), (1, .int a), (2, .int b), (3, .int c), (4, .int d)], [])) (q2 := (91, [(11, .long (f_Mo_turn X Y c d b)), (9, .long (f_Mo_turn X Y c d a)), (7, .long (f_Mo_turn X Y a b d)), (5, .long (f_Mo_turn X Y a b c)), (0, .ref m), (1, .int a), (2, .int b), (3, .int c), (4, .int d)], [])) (cB := zc .ge (lg_cmp (f_Mo_turn X Y a b c) 0) 0) (off := 10) (lv := [(11, .long (f_Mo_turn X Y c d b)), (9, .long (f_Mo_turn X Y c d a)), (7, .long (f_Mo_turn X Y a b d)), (5, .long (f_Mo_turn X Y a b c)), (0, .ref m), (1, .int a), (2, .int b), (3, .int c), (4, .int d)]) (st := []) rfl rfl rfl rfl rfl (fun c88 => ?_) (fun c88 => ?_)
          · rw [c88]
            exact s_Mo_touching_98 X Y a b c d m fs hm p_xs hf_xs ha_xs p_ys hf_ys ha_ys hXY ha hb hc hd (by omega)
          · rw [c88]
            refine zeN (q := ((95, [(11, .long (f_Mo_turn X Y c d b)), (9, .long (f_Mo_turn X Y c d a)), (7, .long (f_Mo_turn X Y a b d)), (5, .long (f_Mo_turn X Y a b c)), (0, .ref m), (1, .int a), (2, .int b), (3, .int c), (4, .int d)], [.int (lg_cmp (f_Mo_turn X Y a b d) 0)]), h)) 3 rfl ?_
            refine zbc (q1 := (112, [(11, .long (f_Mo_turn X Y c d b)), (9, .long (f_Mo_turn X Y c d a)), (7, .long (f_Mo_turn X Y a b d)), (5, .long (f_Mo_turn X Y a b c)), (0, .ref m), (1, .int a), (2, .int b), (3, .int c), (4, .int d)], [])) (q2 := (98, [(11, .long (f_Mo_turn X Y c d b)), (9, .long (f_Mo_turn X Y c d a)), (7, .long (f_Mo_turn X Y a b d)), (5, .long (f_Mo_turn X Y a b c)), (0, .ref m), (1, .int a), (2, .int b), (3, .int c), (4, .int d)], [])) (cB := zc .gt (lg_cmp (f_Mo_turn X Y a b d) 0) 0) (off := 17) (lv := [(11, .long (f_Mo_turn X Y c d b)), (9, .long (f_Mo_turn X Y c d a)), (7, .long (f_Mo_turn X Y a b d)), (5, .long (f_Mo_turn X Y a b c)), (0, .ref m), (1, .int a), (2, .int b), (3, .int c), (4, .int d)]) (st := []) rfl rfl rfl rfl rfl (fun c95 => ?_) (fun c95 => ?_)
            · rw [c95]
              exact s_Mo_touching_112 X Y a b c d m fs hm p_xs hf_xs ha_xs p_ys hf_ys ha_ys hXY ha hb hc hd (by omega)
            · rw [c95]
              exact s_Mo_touching_98 X Y a b c d m fs hm p_xs hf_xs ha_xs p_ys hf_ys ha_ys hXY ha hb hc hd (by omega)
        · rw [c40]
          exact s_Mo_touching_43 X Y a b c d m fs hm p_xs hf_xs ha_xs p_ys hf_ys ha_ys hXY ha hb hc hd (by omega)
def f_Mo_sides (SO MA : List Int32) (s : Int32) : Int32 := (bif zc .ne (gI SO s) 1 then gI MA s else (gI MA s) - 1)
theorem s_Mo_sides {fr lo : Nat} {h : zH} (SO MA : List Int32) (s : Int32) (m : Nat) (fs : List Value) (hm : h.1[m]? = some (.inr (8, fs))) (p_sort : Nat) (hf_sort : fs[2]? = some (.ref p_sort)) (ha_sort : h.1[p_sort]? = some (.inl (0, SO.map Value.int))) (p_many : Nat) (hf_many : fs[3]? = some (.ref p_many)) (ha_many : h.1[p_many]? = some (.inl (0, MA.map Value.int))) (hSM : MA.length = SO.length) (hs : zIx s SO.length) (hlo : 21 ≤ lo) : zAns (fr + 1) lo 119 [.ref m, .int s] h (some (.int (f_Mo_sides SO MA s)), h) := by
  unfold f_Mo_sides
  refine zeb (fr := fr + 0) (M := M_Mo_sides) rfl (Nat.le_trans (by decide) hlo) rfl ?_
  have e0 : mL M_Mo_sides = 2 := rfl
  refine zeN (q := ((1, [(0, .ref m), (1, .int s)], [.ref m]), h)) 1 rfl ?_
  refine zegf (fs := fs) (v := .ref p_sort) rfl rfl rfl rfl hm hf_sort ?_
  refine zeN (q := ((5, [(0, .ref m), (1, .int s)], [.int s, .ref p_sort]), h)) 1 rfl ?_
  refine zeia (l := SO.map Value.int) (k := s.toNatClampNeg) (v := .int (gI SO s)) rfl rfl ha_sort (zIx_a hs) (zIx_b hs) ?_
  refine zeN (q := ((7, [(0, .ref m), (1, .int s)], [.int 1, .int (gI SO s)]), h)) 1 rfl ?_
  refine zbc (q1 := (21, [(0, .ref m), (1, .int s)], [])) (q2 := (10, [(0, .ref m), (1, .int s)], [])) (cB := zc .ne (gI SO s) 1) (off := 14) (lv := [(0, .ref m), (1, .int s)]) (st := []) rfl rfl rfl rfl rfl (fun c7 => ?_) (fun c7 => ?_)
  · rw [c7]
    refine zeN (q := ((22, [(0, .ref m), (1, .int s)], [.ref m]), h)) 1 rfl ?_
    refine zegf (fs := fs) (v := .ref p_many) rfl rfl rfl rfl hm hf_many ?_
    refine zeN (q := ((26, [(0, .ref m), (1, .int s)], [.int s, .ref p_many]), h)) 1 rfl ?_
    refine zeia (l := MA.map Value.int) (k := s.toNatClampNeg) (v := .int (gI MA s)) rfl rfl ha_many (zIx_a (zIx_s hs hSM)) (zIx_b (zIx_s hs hSM)) ?_
    exact zer rfl rfl
  · rw [c7]
    refine zeN (q := ((11, [(0, .ref m), (1, .int s)], [.ref m]), h)) 1 rfl ?_
    refine zegf (fs := fs) (v := .ref p_many) rfl rfl rfl rfl hm hf_many ?_
    refine zeN (q := ((15, [(0, .ref m), (1, .int s)], [.int s, .ref p_many]), h)) 1 rfl ?_
    refine zeia (l := MA.map Value.int) (k := s.toNatClampNeg) (v := .int (gI MA s)) rfl rfl ha_many (zIx_a (zIx_s hs hSM)) (zIx_b (zIx_s hs hSM)) ?_
    refine zeN (q := ((27, [(0, .ref m), (1, .int s)], [.int ((gI MA s) - 1)]), h)) 3 rfl ?_
    exact zer rfl rfl
def f_Mo_corner (MA : List Int32) (s j e : Int32) : Int32 := (6 * s) + ((j + e) - (j + e) / (gI MA s) * (gI MA s))
theorem s_Mo_corner {fr lo : Nat} {h : zH} (MA : List Int32) (s j e : Int32) (m : Nat) (fs : List Value) (hm : h.1[m]? = some (.inr (8, fs))) (p_many : Nat) (hf_many : fs[3]? = some (.ref p_many)) (ha_many : h.1[p_many]? = some (.inl (0, MA.map Value.int))) (hs : zIx s MA.length) (hnz : ¬ gI MA s = 0) (hlo : 23 ≤ lo) : zAns (fr + 1) lo 120 [.ref m, .int s, .int j, .int e] h (some (.int (f_Mo_corner MA s j e)), h) := by
  unfold f_Mo_corner
  refine zeb (fr := fr + 0) (M := M_Mo_corner) rfl (Nat.le_trans (by decide) hlo) rfl ?_
  have e0 : mL M_Mo_corner = 4 := rfl
  refine zeN (q := ((8, [(0, .ref m), (1, .int s), (2, .int j), (3, .int e)], [.ref m, .int (j + e), .int (6 * s)]), h)) 7 rfl ?_
  refine zegf (fs := fs) (v := .ref p_many) rfl rfl rfl rfl hm hf_many ?_
  refine zeN (q := ((12, [(0, .ref m), (1, .int s), (2, .int j), (3, .int e)], [.int s, .ref p_many, .int (j + e), .int (6 * s)]), h)) 1 rfl ?_
  refine zeia (l := MA.map Value.int) (k := s.toNatClampNeg) (v := .int (gI MA s)) rfl rfl ha_many (zIx_a hs) (zIx_b hs) ?_
  refine zerm rfl rfl hnz ?_
  refine zeN (q := ((15, [(0, .ref m), (1, .int s), (2, .int j), (3, .int e)], [.int ((6 * s) + ((j + e) - (j + e) / (gI MA s) * (gI MA s)))]), h)) 1 rfl ?_
  exact zer rfl rfl
def f_Mo_gap (a b c d : Int32) : Int64 := (bif zc .ge b c then (bif zc .ge d a then 0 else (a - d).toInt64) else (c - b).toInt64)
theorem s_Mo_gap {fr lo : Nat} {h : zH} (a b c d : Int32)  (hlo : 23 ≤ lo) : zAns (fr + 1) lo 130 [.int a, .int b, .int c, .int d] h (some (.long (f_Mo_gap a b c d)), h) := by
  unfold f_Mo_gap
  refine zeb (fr := fr + 0) (M := M_Mo_gap) rfl (Nat.le_trans (by decide) hlo) rfl ?_
  have e0 : mL M_Mo_gap = 4 := rfl
  refine zeN (q := ((2, [(0, .int a), (1, .int b), (2, .int c), (3, .int d)], [.int c, .int b]), h)) 2 rfl ?_
  refine zbc (q1 := (12, [(0, .int a), (1, .int b), (2, .int c), (3, .int d)], [])) (q2 := (5, [(0, .int a), (1, .int b), (2, .int c), (3, .int d)], [])) (cB := zc .ge b c) (off := 10) (lv := [(0, .int a), (1, .int b), (2, .int c), (3, .int d)]) (st := []) rfl rfl rfl rfl rfl (fun c2 => ?_) (fun c2 => ?_)
  · rw [c2]
    refine zeN (q := ((14, [(0, .int a), (1, .int b), (2, .int c), (3, .int d)], [.int a, .int d]), h)) 2 rfl ?_
    refine zbc (q1 := (24, [(0, .int a), (1, .int b), (2, .int c), (3, .int d)], [])) (q2 := (17, [(0, .int a), (1, .int b), (2, .int c), (3, .int d)], [])) (cB := zc .ge d a) (off := 10) (lv := [(0, .int a), (1, .int b), (2, .int c), (3, .int d)]) (st := []) rfl rfl rfl rfl rfl (fun c14 => ?_) (fun c14 => ?_)
    · rw [c14]
      refine zeN (q := ((25, [(0, .int a), (1, .int b), (2, .int c), (3, .int d)], [.long 0]), h)) 1 rfl ?_
      exact zer rfl rfl
    · rw [c14]
      refine zeN (q := ((25, [(0, .int a), (1, .int b), (2, .int c), (3, .int d)], [.long ((a - d).toInt64)]), h)) 5 rfl ?_
      exact zer rfl rfl
  · rw [c2]
    refine zeN (q := ((25, [(0, .int a), (1, .int b), (2, .int c), (3, .int d)], [.long ((c - b).toInt64)]), h)) 5 rfl ?_
    exact zer rfl rfl
def f_Mo_isTable_9 (t : Int32) : Int32 := 1
theorem b_Mo_isTable_9 (t : Int32) : zB (f_Mo_isTable_9 t) := by unfold f_Mo_isTable_9; exact (zB1)
theorem s_Mo_isTable_9 {fr lo : Nat} {h : zH} (t : Int32)  (hlo : 0 ≤ lo) : zRun (fr + 0) lo none M_Mo_isTable (9, [(0, .int t)], []) h (some (.int (f_Mo_isTable_9 t)), h) := by
  unfold f_Mo_isTable_9
  refine zeN (q := ((14, [(0, .int t)], [.int 1]), h)) 2 rfl ?_
  exact zer rfl rfl
def f_Mo_isTable (t : Int32) : Int32 := (bif zc .eq t 0 then (f_Mo_isTable_9 t) else bif zc .ne t 1 then 0 else 1)
theorem b_Mo_isTable (t : Int32) : zB (f_Mo_isTable t) := by unfold f_Mo_isTable; exact (zbi (b_Mo_isTable_9 t) (zbb _))
theorem s_Mo_isTable {fr lo : Nat} {h : zH} (t : Int32)  (hlo : 20 ≤ lo) : zAns (fr + 1) lo 109 [.int t] h (some (.int (f_Mo_isTable t)), h) := by
  unfold f_Mo_isTable
  refine zeb (fr := fr + 0) (M := M_Mo_isTable) rfl (Nat.le_trans (by decide) hlo) rfl ?_
  have e0 : mL M_Mo_isTable = 1 := rfl
  refine zeN (q := ((1, [(0, .int t)], [.int t]), h)) 1 rfl ?_
  refine zbc (q1 := (9, [(0, .int t)], [])) (q2 := (4, [(0, .int t)], [])) (cB := zc .eq t 0) (off := 8) (lv := [(0, .int t)]) (st := []) rfl rfl rfl rfl rfl (fun c1 => ?_) (fun c1 => ?_)
  · rw [c1]
    exact s_Mo_isTable_9 t  (by omega)
  · rw [c1]
    refine zeN (q := ((6, [(0, .int t)], [.int 1, .int t]), h)) 2 rfl ?_
    refine zdia (q1 := (13, [(0, .int t)], [])) (q2 := (9, [(0, .int t)], [])) (cB := zc .ne t 1) (off := 7) (lv := [(0, .int t)]) (st := []) (lv2 := [(0, .int t)]) (st2 := []) (J := 14) (vA := 0) (vB := 1) 1 2 rfl rfl rfl rfl rfl rfl rfl ?_
    exact zer rfl (zreb (zbb _))
def f_ST_isTable_13 (t : Int32) : Int32 := 0
theorem b_ST_isTable_13 (t : Int32) : zB (f_ST_isTable_13 t) := by unfold f_ST_isTable_13; exact (zB0)
theorem s_ST_isTable_13 {fr lo : Nat} {h : zH} (t : Int32)  (hlo : 0 ≤ lo) : zRun (fr + 0) lo none M_ST_isTable (13, [(0, .int t)], []) h (some (.int (f_ST_isTable_13 t)), h) := by
  unfold f_ST_isTable_13
  refine zeN (q := ((14, [(0, .int t)], [.int 0]), h)) 1 rfl ?_
  exact zer rfl rfl
def f_ST_isTable (t : Int32) : Int32 := (bif zc .lt t 0 then (f_ST_isTable_13 t) else bif zc .ge t 2 then 0 else 1)
theorem b_ST_isTable (t : Int32) : zB (f_ST_isTable t) := by unfold f_ST_isTable; exact (zbi (b_ST_isTable_13 t) (zbb _))
theorem s_ST_isTable {fr lo : Nat} {h : zH} (t : Int32)  (hlo : 20 ≤ lo) : zAns (fr + 1) lo 30 [.int t] h (some (.int (f_ST_isTable t)), h) := by
  unfold f_ST_isTable
  refine zeb (fr := fr + 0) (M := M_ST_isTable) rfl (Nat.le_trans (by decide) hlo) rfl ?_
  have e0 : mL M_ST_isTable = 1 := rfl
  refine zeN (q := ((1, [(0, .int t)], [.int t]), h)) 1 rfl ?_
  refine zbc (q1 := (13, [(0, .int t)], [])) (q2 := (4, [(0, .int t)], [])) (cB := zc .lt t 0) (off := 12) (lv := [(0, .int t)]) (st := []) rfl rfl rfl rfl rfl (fun c1 => ?_) (fun c1 => ?_)
  · rw [c1]
    exact s_ST_isTable_13 t  (by omega)
  · rw [c1]
    refine zeN (q := ((6, [(0, .int t)], [.int 2, .int t]), h)) 2 rfl ?_
    refine zdia (q1 := (13, [(0, .int t)], [])) (q2 := (9, [(0, .int t)], [])) (cB := zc .ge t 2) (off := 7) (lv := [(0, .int t)]) (st := []) (lv2 := [(0, .int t)]) (st2 := []) (J := 14) (vA := 0) (vB := 1) 1 2 rfl rfl rfl rfl rfl rfl rfl ?_
    exact zer rfl (zreb (zbb _))
def f_ST_hasBit (b j : Int32) : Int32 := bif zc .eq ((b >>> (j &&& 31)) &&& 1) 0 then 0 else 1
theorem b_ST_hasBit (b j : Int32) : zB (f_ST_hasBit b j) := by unfold f_ST_hasBit; exact (zbb _)
theorem s_ST_hasBit {fr lo : Nat} {h : zH} (b j : Int32)  (hlo : 21 ≤ lo) : zAns (fr + 1) lo 65 [.int b, .int j] h (some (.int (f_ST_hasBit b j)), h) := by
  unfold f_ST_hasBit
  refine zeb (fr := fr + 0) (M := M_ST_hasBit) rfl (Nat.le_trans (by decide) hlo) rfl ?_
  have e0 : mL M_ST_hasBit = 2 := rfl
  refine zeN (q := ((5, [(0, .int b), (1, .int j)], [.int ((b >>> (j &&& 31)) &&& 1)]), h)) 5 rfl ?_
  refine zdia (q1 := (12, [(0, .int b), (1, .int j)], [])) (q2 := (8, [(0, .int b), (1, .int j)], [])) (cB := zc .eq ((b >>> (j &&& 31)) &&& 1) 0) (off := 7) (lv := [(0, .int b), (1, .int j)]) (st := []) (lv2 := [(0, .int b), (1, .int j)]) (st2 := []) (J := 13) (vA := 0) (vB := 1) 1 2 rfl rfl rfl rfl rfl rfl rfl ?_
  exact zer rfl (zreb (zbb _))
def f_ST_pageBit (t r : Int32) : Int32 := 1 <<< (((4 * t) + (r / 4)) &&& 31)
theorem s_ST_pageBit {fr lo : Nat} {h : zH} (t r : Int32)  (hlo : 21 ≤ lo) : zAns (fr + 1) lo 85 [.int t, .int r] h (some (.int (f_ST_pageBit t r)), h) := by
  unfold f_ST_pageBit
  refine zeb (fr := fr + 0) (M := M_ST_pageBit) rfl (Nat.le_trans (by decide) hlo) rfl ?_
  have e0 : mL M_ST_pageBit = 2 := rfl
  refine zeN (q := ((6, [(0, .int t), (1, .int r)], [.int 4, .int r, .int (4 * t), .int 1]), h)) 6 rfl ?_
  refine zedi rfl rfl (by decide) ?_
  refine zeN (q := ((9, [(0, .int t), (1, .int r)], [.int (1 <<< (((4 * t) + (r / 4)) &&& 31))]), h)) 2 rfl ?_
  exact zer rfl rfl
