theorem wI_ne {w : yW} {c0 j0 c j : Nat} {v : Int32} (hc : c ≠ c0) : (wI w c0 j0 v).1 c j = w.1 c j := by
  show (bif yat c0 j0 c j then v else w.1 c j) = _
  rw [yat_ne (fun e => hc e.1)]
  rfl
theorem yc1 {b : Bool} {x y : yW} {c j : Nat} : (bif b then x else y).1 c j = bif b then x.1 c j else y.1 c j := by cases b <;> rfl
def g_Mo_bind_52 (s i : Int32) (w : yW)  : yW := (bif zc .ge (w.1 59 i.toNatClampNeg) (w.1 61 s.toNatClampNeg) then wI w 61 s.toNatClampNeg (w.1 61 s.toNatClampNeg) else wI w 61 s.toNatClampNeg (w.1 59 i.toNatClampNeg))
set_option maxRecDepth 100000 in
theorem t_Mo_bind_52 {fr lo sz : Nat} {G : List zC} {r : Option Value × zH} (s i : Int32) (w : yW)  (hs : zIx s 65) (hi : zIx i 390) (hlo : 0 ≤ lo) (k : zRun (fr + 0) lo none M_Mo_bind (88, [(0, .ref 54), (1, .int s), (2, .int i)], []) (yhp (g_Mo_bind_52 s i w ) G sz) r) : zRun (fr + 0) lo none M_Mo_bind (52, [(0, .ref 54), (1, .int s), (2, .int i)], []) (yhp w G sz) r := by
  unfold g_Mo_bind_52 at k
  refine zeN (q := ((53, [(0, .ref 54), (1, .int s), (2, .int i)], [.ref 54]), yhp w G sz)) 1 rfl ?_
  refine ygf (kk := .inl (.ref 61)) (v := .ref 61) rfl rfl rfl rfl rfl rfl rfl ?_
  refine zeN (q := ((58, [(0, .ref 54), (1, .int s), (2, .int i)], [.ref 54, .int s, .ref 61]), yhp w G sz)) 2 rfl ?_
  refine ygf (kk := .inl (.ref 59)) (v := .ref 59) rfl rfl rfl rfl rfl rfl rfl ?_
  refine zeN (q := ((62, [(0, .ref 54), (1, .int s), (2, .int i)], [.int i, .ref 59, .int s, .ref 61]), yhp w G sz)) 1 rfl ?_
  refine yia (N := 390) rfl rfl rfl (by assumption) ?_
  refine zeN (q := ((64, [(0, .ref 54), (1, .int s), (2, .int i)], [.ref 54, .int (w.1 59 i.toNatClampNeg), .int s, .ref 61]), yhp w G sz)) 1 rfl ?_
  refine ygf (kk := .inl (.ref 61)) (v := .ref 61) rfl rfl rfl rfl rfl rfl rfl ?_
  refine zeN (q := ((68, [(0, .ref 54), (1, .int s), (2, .int i)], [.int s, .ref 61, .int (w.1 59 i.toNatClampNeg), .int s, .ref 61]), yhp w G sz)) 1 rfl ?_
  refine yia (N := 65) rfl rfl rfl (by assumption) ?_
  refine zbc (q1 := (81, [(0, .ref 54), (1, .int s), (2, .int i)], [.int s, .ref 61])) (q2 := (72, [(0, .ref 54), (1, .int s), (2, .int i)], [.int s, .ref 61])) (cB := zc .ge (w.1 59 i.toNatClampNeg) (w.1 61 s.toNatClampNeg)) (off := 12) (lv := [(0, .ref 54), (1, .int s), (2, .int i)]) (st := [.int s, .ref 61]) rfl rfl rfl rfl rfl (fun c69 => ?_) (fun c69 => ?_)
  · rw [c69] at k
    refine zeN (q := ((82, [(0, .ref 54), (1, .int s), (2, .int i)], [.ref 54, .int s, .ref 61]), yhp w G sz)) 1 rfl ?_
    refine ygf (kk := .inl (.ref 61)) (v := .ref 61) rfl rfl rfl rfl rfl rfl rfl ?_
    refine zeN (q := ((86, [(0, .ref 54), (1, .int s), (2, .int i)], [.int s, .ref 61, .int s, .ref 61]), yhp w G sz)) 1 rfl ?_
    refine yia (N := 65) rfl rfl rfl (by assumption) ?_
    refine yis (N := 65) rfl rfl rfl (by assumption) ?_
    exact k
  · rw [c69] at k
    refine zeN (q := ((73, [(0, .ref 54), (1, .int s), (2, .int i)], [.ref 54, .int s, .ref 61]), yhp w G sz)) 1 rfl ?_
    refine ygf (kk := .inl (.ref 59)) (v := .ref 59) rfl rfl rfl rfl rfl rfl rfl ?_
    refine zeN (q := ((77, [(0, .ref 54), (1, .int s), (2, .int i)], [.int i, .ref 59, .int s, .ref 61]), yhp w G sz)) 1 rfl ?_
    refine yia (N := 390) rfl rfl rfl (by assumption) ?_
    refine zeN (q := ((87, [(0, .ref 54), (1, .int s), (2, .int i)], [.int (w.1 59 i.toNatClampNeg), .int s, .ref 61]), yhp w G sz)) 1 rfl ?_
    refine yis (N := 65) rfl rfl rfl (by assumption) ?_
    exact k
def g_Mo_bind_88 (s i : Int32) (w : yW)  : yW := (bif zc .le (w.1 59 i.toNatClampNeg) (w.1 62 s.toNatClampNeg) then wI w 62 s.toNatClampNeg (w.1 62 s.toNatClampNeg) else wI w 62 s.toNatClampNeg (w.1 59 i.toNatClampNeg))
set_option maxRecDepth 100000 in
theorem t_Mo_bind_88 {fr lo sz : Nat} {G : List zC} {r : Option Value × zH} (s i : Int32) (w : yW)  (hs : zIx s 65) (hi : zIx i 390) (hlo : 0 ≤ lo) (k : zRun (fr + 0) lo none M_Mo_bind (124, [(0, .ref 54), (1, .int s), (2, .int i)], []) (yhp (g_Mo_bind_88 s i w ) G sz) r) : zRun (fr + 0) lo none M_Mo_bind (88, [(0, .ref 54), (1, .int s), (2, .int i)], []) (yhp w G sz) r := by
  unfold g_Mo_bind_88 at k
  refine zeN (q := ((89, [(0, .ref 54), (1, .int s), (2, .int i)], [.ref 54]), yhp w G sz)) 1 rfl ?_
  refine ygf (kk := .inl (.ref 62)) (v := .ref 62) rfl rfl rfl rfl rfl rfl rfl ?_
  refine zeN (q := ((94, [(0, .ref 54), (1, .int s), (2, .int i)], [.ref 54, .int s, .ref 62]), yhp w G sz)) 2 rfl ?_
  refine ygf (kk := .inl (.ref 59)) (v := .ref 59) rfl rfl rfl rfl rfl rfl rfl ?_
  refine zeN (q := ((98, [(0, .ref 54), (1, .int s), (2, .int i)], [.int i, .ref 59, .int s, .ref 62]), yhp w G sz)) 1 rfl ?_
  refine yia (N := 390) rfl rfl rfl (by assumption) ?_
  refine zeN (q := ((100, [(0, .ref 54), (1, .int s), (2, .int i)], [.ref 54, .int (w.1 59 i.toNatClampNeg), .int s, .ref 62]), yhp w G sz)) 1 rfl ?_
  refine ygf (kk := .inl (.ref 62)) (v := .ref 62) rfl rfl rfl rfl rfl rfl rfl ?_
  refine zeN (q := ((104, [(0, .ref 54), (1, .int s), (2, .int i)], [.int s, .ref 62, .int (w.1 59 i.toNatClampNeg), .int s, .ref 62]), yhp w G sz)) 1 rfl ?_
  refine yia (N := 65) rfl rfl rfl (by assumption) ?_
  refine zbc (q1 := (117, [(0, .ref 54), (1, .int s), (2, .int i)], [.int s, .ref 62])) (q2 := (108, [(0, .ref 54), (1, .int s), (2, .int i)], [.int s, .ref 62])) (cB := zc .le (w.1 59 i.toNatClampNeg) (w.1 62 s.toNatClampNeg)) (off := 12) (lv := [(0, .ref 54), (1, .int s), (2, .int i)]) (st := [.int s, .ref 62]) rfl rfl rfl rfl rfl (fun c105 => ?_) (fun c105 => ?_)
  · rw [c105] at k
    refine zeN (q := ((118, [(0, .ref 54), (1, .int s), (2, .int i)], [.ref 54, .int s, .ref 62]), yhp w G sz)) 1 rfl ?_
    refine ygf (kk := .inl (.ref 62)) (v := .ref 62) rfl rfl rfl rfl rfl rfl rfl ?_
    refine zeN (q := ((122, [(0, .ref 54), (1, .int s), (2, .int i)], [.int s, .ref 62, .int s, .ref 62]), yhp w G sz)) 1 rfl ?_
    refine yia (N := 65) rfl rfl rfl (by assumption) ?_
    refine yis (N := 65) rfl rfl rfl (by assumption) ?_
    exact k
  · rw [c105] at k
    refine zeN (q := ((109, [(0, .ref 54), (1, .int s), (2, .int i)], [.ref 54, .int s, .ref 62]), yhp w G sz)) 1 rfl ?_
    refine ygf (kk := .inl (.ref 59)) (v := .ref 59) rfl rfl rfl rfl rfl rfl rfl ?_
    refine zeN (q := ((113, [(0, .ref 54), (1, .int s), (2, .int i)], [.int i, .ref 59, .int s, .ref 62]), yhp w G sz)) 1 rfl ?_
    refine yia (N := 390) rfl rfl rfl (by assumption) ?_
    refine zeN (q := ((123, [(0, .ref 54), (1, .int s), (2, .int i)], [.int (w.1 59 i.toNatClampNeg), .int s, .ref 62]), yhp w G sz)) 1 rfl ?_
    refine yis (N := 65) rfl rfl rfl (by assumption) ?_
    exact k
def g_Mo_bind_124 (s i : Int32) (w : yW)  : yW := (bif zc .ge (w.1 60 i.toNatClampNeg) (w.1 63 s.toNatClampNeg) then wI w 63 s.toNatClampNeg (w.1 63 s.toNatClampNeg) else wI w 63 s.toNatClampNeg (w.1 60 i.toNatClampNeg))
set_option maxRecDepth 100000 in
theorem t_Mo_bind_124 {fr lo sz : Nat} {G : List zC} {r : Option Value × zH} (s i : Int32) (w : yW)  (hs : zIx s 65) (hi : zIx i 390) (hlo : 0 ≤ lo) (k : zRun (fr + 0) lo none M_Mo_bind (160, [(0, .ref 54), (1, .int s), (2, .int i)], []) (yhp (g_Mo_bind_124 s i w ) G sz) r) : zRun (fr + 0) lo none M_Mo_bind (124, [(0, .ref 54), (1, .int s), (2, .int i)], []) (yhp w G sz) r := by
  unfold g_Mo_bind_124 at k
  refine zeN (q := ((125, [(0, .ref 54), (1, .int s), (2, .int i)], [.ref 54]), yhp w G sz)) 1 rfl ?_
  refine ygf (kk := .inl (.ref 63)) (v := .ref 63) rfl rfl rfl rfl rfl rfl rfl ?_
  refine zeN (q := ((130, [(0, .ref 54), (1, .int s), (2, .int i)], [.ref 54, .int s, .ref 63]), yhp w G sz)) 2 rfl ?_
  refine ygf (kk := .inl (.ref 60)) (v := .ref 60) rfl rfl rfl rfl rfl rfl rfl ?_
  refine zeN (q := ((134, [(0, .ref 54), (1, .int s), (2, .int i)], [.int i, .ref 60, .int s, .ref 63]), yhp w G sz)) 1 rfl ?_
  refine yia (N := 390) rfl rfl rfl (by assumption) ?_
  refine zeN (q := ((136, [(0, .ref 54), (1, .int s), (2, .int i)], [.ref 54, .int (w.1 60 i.toNatClampNeg), .int s, .ref 63]), yhp w G sz)) 1 rfl ?_
  refine ygf (kk := .inl (.ref 63)) (v := .ref 63) rfl rfl rfl rfl rfl rfl rfl ?_
  refine zeN (q := ((140, [(0, .ref 54), (1, .int s), (2, .int i)], [.int s, .ref 63, .int (w.1 60 i.toNatClampNeg), .int s, .ref 63]), yhp w G sz)) 1 rfl ?_
  refine yia (N := 65) rfl rfl rfl (by assumption) ?_
  refine zbc (q1 := (153, [(0, .ref 54), (1, .int s), (2, .int i)], [.int s, .ref 63])) (q2 := (144, [(0, .ref 54), (1, .int s), (2, .int i)], [.int s, .ref 63])) (cB := zc .ge (w.1 60 i.toNatClampNeg) (w.1 63 s.toNatClampNeg)) (off := 12) (lv := [(0, .ref 54), (1, .int s), (2, .int i)]) (st := [.int s, .ref 63]) rfl rfl rfl rfl rfl (fun c141 => ?_) (fun c141 => ?_)
  · rw [c141] at k
    refine zeN (q := ((154, [(0, .ref 54), (1, .int s), (2, .int i)], [.ref 54, .int s, .ref 63]), yhp w G sz)) 1 rfl ?_
    refine ygf (kk := .inl (.ref 63)) (v := .ref 63) rfl rfl rfl rfl rfl rfl rfl ?_
    refine zeN (q := ((158, [(0, .ref 54), (1, .int s), (2, .int i)], [.int s, .ref 63, .int s, .ref 63]), yhp w G sz)) 1 rfl ?_
    refine yia (N := 65) rfl rfl rfl (by assumption) ?_
    refine yis (N := 65) rfl rfl rfl (by assumption) ?_
    exact k
  · rw [c141] at k
    refine zeN (q := ((145, [(0, .ref 54), (1, .int s), (2, .int i)], [.ref 54, .int s, .ref 63]), yhp w G sz)) 1 rfl ?_
    refine ygf (kk := .inl (.ref 60)) (v := .ref 60) rfl rfl rfl rfl rfl rfl rfl ?_
    refine zeN (q := ((149, [(0, .ref 54), (1, .int s), (2, .int i)], [.int i, .ref 60, .int s, .ref 63]), yhp w G sz)) 1 rfl ?_
    refine yia (N := 390) rfl rfl rfl (by assumption) ?_
    refine zeN (q := ((159, [(0, .ref 54), (1, .int s), (2, .int i)], [.int (w.1 60 i.toNatClampNeg), .int s, .ref 63]), yhp w G sz)) 1 rfl ?_
    refine yis (N := 65) rfl rfl rfl (by assumption) ?_
    exact k
def g_Mo_bind_160 (s i : Int32) (w : yW)  : yW := (bif zc .le (w.1 60 i.toNatClampNeg) (w.1 64 s.toNatClampNeg) then wI w 64 s.toNatClampNeg (w.1 64 s.toNatClampNeg) else wI w 64 s.toNatClampNeg (w.1 60 i.toNatClampNeg))
set_option maxRecDepth 100000 in
theorem t_Mo_bind_160 {fr lo sz : Nat} {G : List zC} {r : Option Value × zH} (s i : Int32) (w : yW)  (hs : zIx s 65) (hi : zIx i 390) (hlo : 0 ≤ lo) (k : zRun (fr + 0) lo none M_Mo_bind (196, [(0, .ref 54), (1, .int s), (2, .int i)], []) (yhp (g_Mo_bind_160 s i w ) G sz) r) : zRun (fr + 0) lo none M_Mo_bind (160, [(0, .ref 54), (1, .int s), (2, .int i)], []) (yhp w G sz) r := by
  unfold g_Mo_bind_160 at k
  refine zeN (q := ((161, [(0, .ref 54), (1, .int s), (2, .int i)], [.ref 54]), yhp w G sz)) 1 rfl ?_
  refine ygf (kk := .inl (.ref 64)) (v := .ref 64) rfl rfl rfl rfl rfl rfl rfl ?_
  refine zeN (q := ((166, [(0, .ref 54), (1, .int s), (2, .int i)], [.ref 54, .int s, .ref 64]), yhp w G sz)) 2 rfl ?_
  refine ygf (kk := .inl (.ref 60)) (v := .ref 60) rfl rfl rfl rfl rfl rfl rfl ?_
  refine zeN (q := ((170, [(0, .ref 54), (1, .int s), (2, .int i)], [.int i, .ref 60, .int s, .ref 64]), yhp w G sz)) 1 rfl ?_
  refine yia (N := 390) rfl rfl rfl (by assumption) ?_
  refine zeN (q := ((172, [(0, .ref 54), (1, .int s), (2, .int i)], [.ref 54, .int (w.1 60 i.toNatClampNeg), .int s, .ref 64]), yhp w G sz)) 1 rfl ?_
  refine ygf (kk := .inl (.ref 64)) (v := .ref 64) rfl rfl rfl rfl rfl rfl rfl ?_
  refine zeN (q := ((176, [(0, .ref 54), (1, .int s), (2, .int i)], [.int s, .ref 64, .int (w.1 60 i.toNatClampNeg), .int s, .ref 64]), yhp w G sz)) 1 rfl ?_
  refine yia (N := 65) rfl rfl rfl (by assumption) ?_
  refine zbc (q1 := (189, [(0, .ref 54), (1, .int s), (2, .int i)], [.int s, .ref 64])) (q2 := (180, [(0, .ref 54), (1, .int s), (2, .int i)], [.int s, .ref 64])) (cB := zc .le (w.1 60 i.toNatClampNeg) (w.1 64 s.toNatClampNeg)) (off := 12) (lv := [(0, .ref 54), (1, .int s), (2, .int i)]) (st := [.int s, .ref 64]) rfl rfl rfl rfl rfl (fun c177 => ?_) (fun c177 => ?_)
  · rw [c177] at k
    refine zeN (q := ((190, [(0, .ref 54), (1, .int s), (2, .int i)], [.ref 54, .int s, .ref 64]), yhp w G sz)) 1 rfl ?_
    refine ygf (kk := .inl (.ref 64)) (v := .ref 64) rfl rfl rfl rfl rfl rfl rfl ?_
    refine zeN (q := ((194, [(0, .ref 54), (1, .int s), (2, .int i)], [.int s, .ref 64, .int s, .ref 64]), yhp w G sz)) 1 rfl ?_
    refine yia (N := 65) rfl rfl rfl (by assumption) ?_
    refine yis (N := 65) rfl rfl rfl (by assumption) ?_
    exact k
  · rw [c177] at k
    refine zeN (q := ((181, [(0, .ref 54), (1, .int s), (2, .int i)], [.ref 54, .int s, .ref 64]), yhp w G sz)) 1 rfl ?_
    refine ygf (kk := .inl (.ref 60)) (v := .ref 60) rfl rfl rfl rfl rfl rfl rfl ?_
    refine zeN (q := ((185, [(0, .ref 54), (1, .int s), (2, .int i)], [.int i, .ref 60, .int s, .ref 64]), yhp w G sz)) 1 rfl ?_
    refine yia (N := 390) rfl rfl rfl (by assumption) ?_
    refine zeN (q := ((195, [(0, .ref 54), (1, .int s), (2, .int i)], [.int (w.1 60 i.toNatClampNeg), .int s, .ref 64]), yhp w G sz)) 1 rfl ?_
    refine yis (N := 65) rfl rfl rfl (by assumption) ?_
    exact k
theorem u_Mo_bind_52 (s i : Int32) (w : yW) (c j : Nat) (hc : c ≠ 61) : (g_Mo_bind_52 s i w).1 c j = w.1 c j := by simp only [g_Mo_bind_52, yc1, wI_ne hc, Bool.cond_self]
theorem u_Mo_bind_88 (s i : Int32) (w : yW) (c j : Nat) (hc : c ≠ 62) : (g_Mo_bind_88 s i w).1 c j = w.1 c j := by simp only [g_Mo_bind_88, yc1, wI_ne hc, Bool.cond_self]
theorem u_Mo_bind_124 (s i : Int32) (w : yW) (c j : Nat) (hc : c ≠ 63) : (g_Mo_bind_124 s i w).1 c j = w.1 c j := by simp only [g_Mo_bind_124, yc1, wI_ne hc, Bool.cond_self]
theorem u_Mo_bind_160 (s i : Int32) (w : yW) (c j : Nat) (hc : c ≠ 64) : (g_Mo_bind_160 s i w).1 c j = w.1 c j := by simp only [g_Mo_bind_160, yc1, wI_ne hc, Bool.cond_self]
def g_Mo_bind_37 (s mv : Int32) : Nat → yW → Int32 → yW
  | 0, w, i => w
  | n + 1, w, i => (bif zc .ge i ((6 * s) + (w.1 58 s.toNatClampNeg)) then w else g_Mo_bind_37 s mv n ((g_Mo_bind_160 s i  ((g_Mo_bind_124 s i  ((g_Mo_bind_88 s i  ((g_Mo_bind_52 s i  w )) )) )) )) (i + Int32.ofInt 1))
set_option maxRecDepth 100000 in
theorem t_Mo_bind_37 {fr lo sz : Nat} {G : List zC} {r : Option Value × zH} (s mv : Int32) (hs : zIx s 65) (hm : (6 * s + mv).toInt ≤ 390) (hlo : 0 ≤ lo) : ∀ (n : Nat) (w : yW) (i : Int32) (hmv : w.1 58 s.toNatClampNeg = mv) (h0 : 0 ≤ i.toInt) (h1 : i.toInt ≤ 390) (hn : 390 < i.toInt + n) (k : zRun (fr + 0) lo none M_Mo_bind (202, [(0, .ref 54), (1, .int s)], []) (yhp (g_Mo_bind_37 s mv n w i) G sz) r), zRun (fr + 0) lo none M_Mo_bind (37, [(0, .ref 54), (1, .int s), (2, .int i)], []) (yhp w G sz) r := by
  intro n
  induction n with
  | zero => intro w i hmv h0 h1 hn k; exfalso; omega
  | succ n ih =>
    intro w i hmv h0 h1 hn k
    rw [g_Mo_bind_37] at k
    refine zeN (q := ((43, [(0, .ref 54), (1, .int s), (2, .int i)], [.ref 54, .int (6 * s), .int i]), yhp w G sz)) 5 rfl ?_
    refine ygf (kk := .inl (.ref 58)) (v := .ref 58) rfl rfl rfl rfl rfl rfl rfl ?_
    refine zeN (q := ((47, [(0, .ref 54), (1, .int s), (2, .int i)], [.int s, .ref 58, .int (6 * s), .int i]), yhp w G sz)) 1 rfl ?_
    refine yia (N := 65) rfl rfl rfl (by assumption) ?_
    refine zeN (q := ((49, [(0, .ref 54), (1, .int s), (2, .int i)], [.int ((6 * s) + (w.1 58 s.toNatClampNeg)), .int i]), yhp w G sz)) 1 rfl ?_
    refine zbc (q1 := (202, [(0, .ref 54), (1, .int s), (2, .int i)], [])) (q2 := (52, [(0, .ref 54), (1, .int s), (2, .int i)], [])) (cB := zc .ge i ((6 * s) + (w.1 58 s.toNatClampNeg))) (off := 153) (lv := [(0, .ref 54), (1, .int s), (2, .int i)]) (st := []) rfl rfl rfl rfl rfl (fun c49 => ?_) (fun c49 => ?_)
    · rw [c49] at k
      refine zeS [(0, .ref 54), (1, .int s)] (zsub_pick [0, 1] rfl rfl) ?_
      exact k
    · rw [c49] at k
      rw [hmv] at c49
      have hcc := of_decide_eq_false (z_ge c49).symm
      have hi : zIx i 390 := ⟨h0, by omega⟩
      have hi1 := z_inc (a := i) (by omega) (by omega)
      refine t_Mo_bind_52 s i w  hs hi (by omega) ?_
      refine t_Mo_bind_88 s i ((g_Mo_bind_52 s i  w ))  hs hi (by omega) ?_
      refine t_Mo_bind_124 s i ((g_Mo_bind_88 s i  ((g_Mo_bind_52 s i  w )) ))  hs hi (by omega) ?_
      refine t_Mo_bind_160 s i ((g_Mo_bind_124 s i  ((g_Mo_bind_88 s i  ((g_Mo_bind_52 s i  w )) )) ))  hs hi (by omega) ?_
      refine zeN (q := ((37, [(2, .int (i + Int32.ofInt 1)), (0, .ref 54), (1, .int s)], []), yhp ((g_Mo_bind_160 s i  ((g_Mo_bind_124 s i  ((g_Mo_bind_88 s i  ((g_Mo_bind_52 s i  w )) )) )) )) G sz)) 2 rfl ?_
      refine zeS [(0, .ref 54), (1, .int s), (2, .int (i + Int32.ofInt 1))] (zsub_pick [1, 2, 0] rfl rfl) ?_
      exact ih ((g_Mo_bind_160 s i  ((g_Mo_bind_124 s i  ((g_Mo_bind_88 s i  ((g_Mo_bind_52 s i  w )) )) )) )) (i + Int32.ofInt 1) (by rw [u_Mo_bind_160 _ _ _ 58 _ (by decide), u_Mo_bind_124 _ _ _ 58 _ (by decide), u_Mo_bind_88 _ _ _ 58 _ (by decide), u_Mo_bind_52 _ _ _ 58 _ (by decide)]; exact hmv) (by omega) (by omega) (by omega) k
def e_Mo_bind (s mv : Int32) (w : yW) : yW := (g_Mo_bind_37 s mv 391 (wI (wI (wI (wI w 61 s.toNatClampNeg 255) 62 s.toNatClampNeg 0) 63 s.toNatClampNeg 255) 64 s.toNatClampNeg 0) (6 * s))
set_option maxRecDepth 100000 in
theorem r_Mo_bind {fr lo sz : Nat} {G : List zC} (s mv : Int32) (w : yW) (hs : zIx s 65) (hmv : w.1 58 s.toNatClampNeg = mv) (hm : (6 * s + mv).toInt ≤ 390) (hlo : 22 ≤ lo) : zAns (fr + 1) lo 107 [.ref 54, .int s] (yhp w G sz) (none, yhp (e_Mo_bind s mv w) G sz) := by
  unfold e_Mo_bind
  refine zeb (fr := fr + 0) (M := M_Mo_bind) rfl (Nat.le_trans (by decide) hlo) rfl ?_
  have e0 : mL M_Mo_bind = 3 := rfl
  refine zeN (q := ((1, [(0, .ref 54), (1, .int s)], [.ref 54]), yhp w G sz)) 1 rfl ?_
  refine ygf (kk := .inl (.ref 61)) (v := .ref 61) rfl rfl rfl rfl rfl rfl rfl ?_
  refine zeN (q := ((8, [(0, .ref 54), (1, .int s)], [.int 255, .int s, .ref 61]), yhp w G sz)) 2 rfl ?_
  refine yis (N := 65) rfl rfl rfl (by assumption) ?_
  refine zeN (q := ((10, [(0, .ref 54), (1, .int s)], [.ref 54]), yhp (wI w 61 s.toNatClampNeg 255) G sz)) 1 rfl ?_
  refine ygf (kk := .inl (.ref 62)) (v := .ref 62) rfl rfl rfl rfl rfl rfl rfl ?_
  refine zeN (q := ((15, [(0, .ref 54), (1, .int s)], [.int 0, .int s, .ref 62]), yhp (wI w 61 s.toNatClampNeg 255) G sz)) 2 rfl ?_
  refine yis (N := 65) rfl rfl rfl (by assumption) ?_
  refine zeN (q := ((17, [(0, .ref 54), (1, .int s)], [.ref 54]), yhp (wI (wI w 61 s.toNatClampNeg 255) 62 s.toNatClampNeg 0) G sz)) 1 rfl ?_
  refine ygf (kk := .inl (.ref 63)) (v := .ref 63) rfl rfl rfl rfl rfl rfl rfl ?_
  refine zeN (q := ((24, [(0, .ref 54), (1, .int s)], [.int 255, .int s, .ref 63]), yhp (wI (wI w 61 s.toNatClampNeg 255) 62 s.toNatClampNeg 0) G sz)) 2 rfl ?_
  refine yis (N := 65) rfl rfl rfl (by assumption) ?_
  refine zeN (q := ((26, [(0, .ref 54), (1, .int s)], [.ref 54]), yhp (wI (wI (wI w 61 s.toNatClampNeg 255) 62 s.toNatClampNeg 0) 63 s.toNatClampNeg 255) G sz)) 1 rfl ?_
  refine ygf (kk := .inl (.ref 64)) (v := .ref 64) rfl rfl rfl rfl rfl rfl rfl ?_
  refine zeN (q := ((31, [(0, .ref 54), (1, .int s)], [.int 0, .int s, .ref 64]), yhp (wI (wI (wI w 61 s.toNatClampNeg 255) 62 s.toNatClampNeg 0) 63 s.toNatClampNeg 255) G sz)) 2 rfl ?_
  refine yis (N := 65) rfl rfl rfl (by assumption) ?_
  have e6 : (6 * s).toInt = 6 * s.toInt := z_mul (by show _ ≤ (6 : Int) * s.toInt; have := hs.1; omega) (by show (6 : Int) * s.toInt < _; have := hs.2; omega)
  have hs0 := hs.1
  have hs1 := hs.2
  refine zeN (q := ((37, [(2, .int (6 * s)), (0, .ref 54), (1, .int s)], []), yhp (wI (wI (wI (wI w 61 s.toNatClampNeg 255) 62 s.toNatClampNeg 0) 63 s.toNatClampNeg 255) 64 s.toNatClampNeg 0) G sz)) 4 rfl ?_
  refine zeS [(0, .ref 54), (1, .int s), (2, .int (6 * s))] (zsub_pick [1, 2, 0] rfl rfl) ?_
  refine t_Mo_bind_37 s mv hs hm (by omega) 391 (wI (wI (wI (wI w 61 s.toNatClampNeg 255) 62 s.toNatClampNeg 0) 63 s.toNatClampNeg 255) 64 s.toNatClampNeg 0) (6 * s) hmv (by rw [e6]; omega) (by rw [e6]; omega) (by rw [e6]; omega) ?_
  exact zer rfl rfl
