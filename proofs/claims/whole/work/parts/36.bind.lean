def g_Mo_bind_52 (s i : Int32) (w : yW)  : yW := (bif zc .ge (w.1 59 i.toNatClampNeg) (w.1 61 s.toNatClampNeg) then wI w 61 s.toNatClampNeg (w.1 61 s.toNatClampNeg) else wI w 61 s.toNatClampNeg (w.1 59 i.toNatClampNeg))
set_option maxRecDepth 100000 in
theorem t_Mo_bind_52 {fr lo sz : Nat} {G : List zC} {r : Option Value × zH} (s i : Int32) (w : yW)  (hs : zIx s 65) (hi : zIx i 390) (hlo : 0 ≤ lo) (k : zRun (fr + 0) lo none M_Mo_bind (88, [(0, .ref 54), (1, .int s), (2, .int i)], []) (yhp (g_Mo_bind_52 s i w ) G sz) r) : zRun (fr + 0) lo none M_Mo_bind (52, [(0, .ref 54), (1, .int s), (2, .int i)], []) (yhp w G sz) r := by
  unfold g_Mo_bind_52 at k
  refine zeN (q := ((53, [(0, .ref 54), (1, .int s), (2, .int i)], [.ref 54]), yhp w G sz)) 1 rfl ?_
  refine ygf (kk := .inl (.ref 61)) (v := .ref 61) rfl rfl rfl rfl rfl rfl rfl ?_
  refine zeN (q := ((58, [(0, .ref 54), (1, .int s), (2, .int i)], [.ref 54, .int s, .ref 61]), yhp w G sz)) 2 rfl ?_
  refine ygf (kk := .inl (.ref 59)) (v := .ref 59) rfl rfl rfl rfl rfl rfl rfl ?_
  refine zeN (q := ((62, [(0, .ref 54), (1, .int s), (2, .int i)], [.int i, .ref 59, .int s, .ref 61]), yhp w G sz)) 1 rfl ?_
  refine yia (N := 390) rfl rfl rfl (by assumption) ?_
  refine zeN (q := ((64, [(0, .ref 54), (1, .int s), (2, .int i)], [.ref 54, .int (w.1 59 i.toNatClampNeg), .int s, .ref 61]), yhp w G sz)) 1 rfl ?_
  refine ygf (kk := .inl (.ref 61)) (v := .ref 61) rfl rfl rfl rfl rfl rfl rfl ?_
  refine zeN (q := ((68, [(0, .ref 54), (1, .int s), (2, .int i)], [.int s, .ref 61, .int (w.1 59 i.toNatClampNeg), .int s, .ref 61]), yhp w G sz)) 1 rfl ?_
  refine yia (N := 65) rfl rfl rfl (by assumption) ?_
  refine zbc (q1 := (81, [(0, .ref 54), (1, .int s), (2, .int i)], [.int s, .ref 61])) (q2 := (72, [(0, .ref 54), (1, .int s), (2, .int i)], [.int s, .ref 61])) (cB := zc .ge (w.1 59 i.toNatClampNeg) (w.1 61 s.toNatClampNeg)) (off := 12) (lv := [(0, .ref 54), (1, .int s), (2, .int i)]) (st := [.int s, .ref 61]) rfl rfl rfl rfl rfl (fun c69 => ?_) (fun c69 => ?_)
  · rw [c69] at k
    refine zeN (q := ((82, [(0, .ref 54), (1, .int s), (2, .int i)], [.ref 54, .int s, .ref 61]), yhp w G sz)) 1 rfl ?_
    refine ygf (kk := .inl (.ref 61)) (v := .ref 61) rfl rfl rfl rfl rfl rfl rfl ?_
    refine zeN (q := ((86, [(0, .ref 54), (1, .int s), (2, .int i)], [.int s, .ref 61, .int s, .ref 61]), yhp w G sz)) 1 rfl ?_
    refine yia (N := 65) rfl rfl rfl (by assumption) ?_
    refine yis (N := 65) rfl rfl rfl (by assumption) ?_
    exact k
  · rw [c69] at k
    refine zeN (q := ((73, [(0, .ref 54), (1, .int s), (2, .int i)], [.ref 54, .int s, .ref 61]), yhp w G sz)) 1 rfl ?_
    refine ygf (kk := .inl (.ref 59)) (v := .ref 59) rfl rfl rfl rfl rfl rfl rfl ?_
    refine zeN (q := ((77, [(0, .ref 54), (1, .int s), (2, .int i)], [.int i, .ref 59, .int s, .ref 61]), yhp w G sz)) 1 rfl ?_
    refine yia (N := 390) rfl rfl rfl (by assumption) ?_
    refine zeN (q := ((87, [(0, .ref 54), (1, .int s), (2, .int i)], [.int (w.1 59 i.toNatClampNeg), .int s, .ref 61]), yhp w G sz)) 1 rfl ?_
    refine yis (N := 65) rfl rfl rfl (by assumption) ?_
    exact k
def g_Mo_bind_88 (s i : Int32) (w : yW)  : yW := (bif zc .le (w.1 59 i.toNatClampNeg) (w.1 62 s.toNatClampNeg) then wI w 62 s.toNatClampNeg (w.1 62 s.toNatClampNeg) else wI w 62 s.toNatClampNeg (w.1 59 i.toNatClampNeg))
set_option maxRecDepth 100000 in
theorem t_Mo_bind_88 {fr lo sz : Nat} {G : List zC} {r : Option Value × zH} (s i : Int32) (w : yW)  (hs : zIx s 65) (hi : zIx i 390) (hlo : 0 ≤ lo) (k : zRun (fr + 0) lo none M_Mo_bind (124, [(0, .ref 54), (1, .int s), (2, .int i)], []) (yhp (g_Mo_bind_88 s i w ) G sz) r) : zRun (fr + 0) lo none M_Mo_bind (88, [(0, .ref 54), (1, .int s), (2, .int i)], []) (yhp w G sz) r := by
  unfold g_Mo_bind_88 at k
  refine zeN (q := ((89, [(0, .ref 54), (1, .int s), (2, .int i)], [.ref 54]), yhp w G sz)) 1 rfl ?_
  refine ygf (kk := .inl (.ref 62)) (v := .ref 62) rfl rfl rfl rfl rfl rfl rfl ?_
  refine zeN (q := ((94, [(0, .ref 54), (1, .int s), (2, .int i)], [.ref 54, .int s, .ref 62]), yhp w G sz)) 2 rfl ?_
  refine ygf (kk := .inl (.ref 59)) (v := .ref 59) rfl rfl rfl rfl rfl rfl rfl ?_
  refine zeN (q := ((98, [(0, .ref 54), (1, .int s), (2, .int i)], [.int i, .ref 59, .int s, .ref 62]), yhp w G sz)) 1 rfl ?_
  refine yia (N := 390) rfl rfl rfl (by assumption) ?_
  refine zeN (q := ((100, [(0, .ref 54), (1, .int s), (2, .int i)], [.ref 54, .int (w.1 59 i.toNatClampNeg), .int s, .ref 62]), yhp w G sz)) 1 rfl ?_
  refine ygf (kk := .inl (.ref 62)) (v := .ref 62) rfl rfl rfl rfl rfl rfl rfl ?_
  refine zeN (q := ((104, [(0, .ref 54), (1, .int s), (2, .int i)], [.int s, .ref 62, .int (w.1 59 i.toNatClampNeg), .int s, .ref 62]), yhp w G sz)) 1 rfl ?_
  refine yia (N := 65) rfl rfl rfl (by assumption) ?_
  refine zbc (q1 := (117, [(0, .ref 54), (1, .int s), (2, .int i)], [.int s, .ref 62])) (q2 := (108, [(0, .ref 54), (1, .int s), (2, .int i)], [.int s, .ref 62])) (cB := zc .le (w.1 59 i.toNatClampNeg) (w.1 62 s.toNatClampNeg)) (off := 12) (lv := [(0, .ref 54), (1, .int s), (2, .int i)]) (st := [.int s, .ref 62]) rfl rfl rfl rfl rfl (fun c105 => ?_) (fun c105 => ?_)
  · rw [c105] at k
    refine zeN (q := ((118, [(0, .ref 54), (1, .int s), (2, .int i)], [.ref 54, .int s, .ref 62]), yhp w G sz)) 1 rfl ?_
    refine ygf (kk := .inl (.ref 62)) (v := .ref 62) rfl rfl rfl rfl rfl rfl rfl ?_
    refine zeN (q := ((122, [(0, .ref 54), (1, .int s), (2, .int i)], [.int s, .ref 62, .int s, .ref 62]), yhp w G sz)) 1 rfl ?_
    refine yia (N := 65) rfl rfl rfl (by assumption) ?_
    refine yis (N := 65) rfl rfl rfl (by assumption) ?_
    exact k
  · rw [c105] at k
    refine zeN (q := ((109, [(0, .ref 54), (1, .int s), (2, .int i)], [.ref 54, .int s, .ref 62]), yhp w G sz)) 1 rfl ?_
    refine ygf (kk := .inl (.ref 59)) (v := .ref 59) rfl rfl rfl rfl rfl rfl rfl ?_
    refine zeN (q := ((113, [(0, .ref 54), (1, .int s), (2, .int i)], [.int i, .ref 59, .int s, .ref 62]), yhp w G sz)) 1 rfl ?_
    refine yia (N := 390) rfl rfl rfl (by assumption) ?_
    refine zeN (q := ((123, [(0, .ref 54), (1, .int s), (2, .int i)], [.int (w.1 59 i.toNatClampNeg), .int s, .ref 62]), yhp w G sz)) 1 rfl ?_
    refine yis (N := 65) rfl rfl rfl (by assumption) ?_
    exact k
def g_Mo_bind_124 (s i : Int32) (w : yW)  : yW := (bif zc .ge (w.1 60 i.toNatClampNeg) (w.1 63 s.toNatClampNeg) then wI w 63 s.toNatClampNeg (w.1 63 s.toNatClampNeg) else wI w 63 s.toNatClampNeg (w.1 60 i.toNatClampNeg))
set_option maxRecDepth 100000 in
theorem t_Mo_bind_124 {fr lo sz : Nat} {G : List zC} {r : Option Value × zH} (s i : Int32) (w : yW)  (hs : zIx s 65) (hi : zIx i 390) (hlo : 0 ≤ lo) (k : zRun (fr + 0) lo none M_Mo_bind (160, [(0, .ref 54), (1, .int s), (2, .int i)], []) (yhp (g_Mo_bind_124 s i w ) G sz) r) : zRun (fr + 0) lo none M_Mo_bind (124, [(0, .ref 54), (1, .int s), (2, .int i)], []) (yhp w G sz) r := by
  unfold g_Mo_bind_124 at k
  refine zeN (q := ((125, [(0, .ref 54), (1, .int s), (2, .int i)], [.ref 54]), yhp w G sz)) 1 rfl ?_
  refine ygf (kk := .inl (.ref 63)) (v := .ref 63) rfl rfl rfl rfl rfl rfl rfl ?_
  refine zeN (q := ((130, [(0, .ref 54), (1, .int s), (2, .int i)], [.ref 54, .int s, .ref 63]), yhp w G sz)) 2 rfl ?_
  refine ygf (kk := .inl (.ref 60)) (v := .ref 60) rfl rfl rfl rfl rfl rfl rfl ?_
  refine zeN (q := ((134, [(0, .ref 54), (1, .int s), (2, .int i)], [.int i, .ref 60, .int s, .ref 63]), yhp w G sz)) 1 rfl ?_
  refine yia (N := 390) rfl rfl rfl (by assumption) ?_
  refine zeN (q := ((136, [(0, .ref 54), (1, .int s), (2, .int i)], [.ref 54, .int (w.1 60 i.toNatClampNeg), .int s, .ref 63]), yhp w G sz)) 1 rfl ?_
  refine ygf (kk := .inl (.ref 63)) (v := .ref 63) rfl rfl rfl rfl rfl rfl rfl ?_
  refine zeN (q := ((140, [(0, .ref 54), (1, .int s), (2, .int i)], [.int s, .ref 63, .int (w.1 60 i.toNatClampNeg), .int s, .ref 63]), yhp w G sz)) 1 rfl ?_
  refine yia (N := 65) rfl rfl rfl (by assumption) ?_
  refine zbc (q1 := (153, [(0, .ref 54), (1, .int s), (2, .int i)], [.int s, .ref 63])) (q2 := (144, [(0, .ref 54), (1, .int s), (2, .int i)], [.int s, .ref 63])) (cB := zc .ge (w.1 60 i.toNatClampNeg) (w.1 63 s.toNatClampNeg)) (off := 12) (lv := [(0, .ref 54), (1, .int s), (2, .int i)]) (st := [.int s, .ref 63]) rfl rfl rfl rfl rfl (fun c141 => ?_) (fun c141 => ?_)
  · rw [c141] at k
    refine zeN (q := ((154, [(0, .ref 54), (1, .int s), (2, .int i)], [.ref 54, .int s, .ref 63]), yhp w G sz)) 1 rfl ?_
    refine ygf (kk := .inl (.ref 63)) (v := .ref 63) rfl rfl rfl rfl rfl rfl rfl ?_
    refine zeN (q := ((158, [(0, .ref 54), (1, .int s), (2, .int i)], [.int s, .ref 63, .int s, .ref 63]), yhp w G sz)) 1 rfl ?_
    refine yia (N := 65) rfl rfl rfl (by assumption) ?_
    refine yis (N := 65) rfl rfl rfl (by assumption) ?_
    exact k
  · rw [c141] at k
    refine zeN (q := ((145, [(0, .ref 54), (1, .int s), (2, .int i)], [.ref 54, .int s, .ref 63]), yhp w G sz)) 1 rfl ?_
    refine ygf (kk := .inl (.ref 60)) (v := .ref 60) rfl rfl rfl rfl rfl rfl rfl ?_
    refine zeN (q := ((149, [(0, .ref 54), (1, .int s), (2, .int i)], [.int i, .ref 60, .int s, .ref 63]), yhp w G sz)) 1 rfl ?_
    refine yia (N := 390) rfl rfl rfl (by assumption) ?_
    refine zeN (q := ((159, [(0, .ref 54), (1, .int s), (2, .int i)], [.int (w.1 60 i.toNatClampNeg), .int s, .ref 63]), yhp w G sz)) 1 rfl ?_
    refine yis (N := 65) rfl rfl rfl (by assumption) ?_
    exact k
def g_Mo_bind_160 (s i : Int32) (w : yW)  : yW := (bif zc .le (w.1 60 i.toNatClampNeg) (w.1 64 s.toNatClampNeg) then wI w 64 s.toNatClampNeg (w.1 64 s.toNatClampNeg) else wI w 64 s.toNatClampNeg (w.1 60 i.toNatClampNeg))
set_option maxRecDepth 100000 in
theorem t_Mo_bind_160 {fr lo sz : Nat} {G : List zC} {r : Option Value × zH} (s i : Int32) (w : yW)  (hs : zIx s 65) (hi : zIx i 390) (hlo : 0 ≤ lo) (k : zRun (fr + 0) lo none M_Mo_bind (196, [(0, .ref 54), (1, .int s), (2, .int i)], []) (yhp (g_Mo_bind_160 s i w ) G sz) r) : zRun (fr + 0) lo none M_Mo_bind (160, [(0, .ref 54), (1, .int s), (2, .int i)], []) (yhp w G sz) r := by
  unfold g_Mo_bind_160 at k
  refine zeN (q := ((161, [(0, .ref 54), (1, .int s), (2, .int i)], [.ref 54]), yhp w G sz)) 1 rfl ?_
  refine ygf (kk := .inl (.ref 64)) (v := .ref 64) rfl rfl rfl rfl rfl rfl rfl ?_
  refine zeN (q := ((166, [(0, .ref 54), (1, .int s), (2, .int i)], [.ref 54, .int s, .ref 64]), yhp w G sz)) 2 rfl ?_
  refine ygf (kk := .inl (.ref 60)) (v := .ref 60) rfl rfl rfl rfl rfl rfl rfl ?_
  refine zeN (q := ((170, [(0, .ref 54), (1, .int s), (2, .int i)], [.int i, .ref 60, .int s, .ref 64]), yhp w G sz)) 1 rfl ?_
  refine yia (N := 390) rfl rfl rfl (by assumption) ?_
  refine zeN (q := ((172, [(0, .ref 54), (1, .int s), (2, .int i)], [.ref 54, .int (w.1 60 i.toNatClampNeg), .int s, .ref 64]), yhp w G sz)) 1 rfl ?_
  refine ygf (kk := .inl (.ref 64)) (v := .ref 64) rfl rfl rfl rfl rfl rfl rfl ?_
  refine zeN (q := ((176, [(0, .ref 54), (1, .int s), (2, .int i)], [.int s, .ref 64, .int (w.1 60 i.toNatClampNeg), .int s, .ref 64]), yhp w G sz)) 1 rfl ?_
  refine yia (N := 65) rfl rfl rfl (by assumption) ?_
  refine zbc (q1 := (189, [(0, .ref 54), (1, .int s), (2, .int i)], [.int s, .ref 64])) (q2 := (180, [(0, .ref 54), (1, .int s), (2, .int i)], [.int s, .ref 64])) (cB := zc .le (w.1 60 i.toNatClampNeg) (w.1 64 s.toNatClampNeg)) (off := 12) (lv := [(0, .ref 54), (1, .int s), (2, .int i)]) (st := [.int s, .ref 64]) rfl rfl rfl rfl rfl (fun c177 => ?_) (fun c177 => ?_)
  · rw [c177] at k
    refine zeN (q := ((190, [(0, .ref 54), (1, .int s), (2, .int i)], [.ref 54, .int s, .ref 64]), yhp w G sz)) 1 rfl ?_
    refine ygf (kk := .inl (.ref 64)) (v := .ref 64) rfl rfl rfl rfl rfl rfl rfl ?_
    refine zeN (q := ((194, [(0, .ref 54), (1, .int s), (2, .int i)], [.int s, .ref 64, .int s, .ref 64]), yhp w G sz)) 1 rfl ?_
    refine yia (N := 65) rfl rfl rfl (by assumption) ?_
    refine yis (N := 65) rfl rfl rfl (by assumption) ?_
    exact k
  · rw [c177] at k
    refine zeN (q := ((181, [(0, .ref 54), (1, .int s), (2, .int i)], [.ref 54, .int s, .ref 64]), yhp w G sz)) 1 rfl ?_
    refine ygf (kk := .inl (.ref 60)) (v := .ref 60) rfl rfl rfl rfl rfl rfl rfl ?_
    refine zeN (q := ((185, [(0, .ref 54), (1, .int s), (2, .int i)], [.int i, .ref 60, .int s, .ref 64]), yhp w G sz)) 1 rfl ?_
    refine yia (N := 390) rfl rfl rfl (by assumption) ?_
    refine zeN (q := ((195, [(0, .ref 54), (1, .int s), (2, .int i)], [.int (w.1 60 i.toNatClampNeg), .int s, .ref 64]), yhp w G sz)) 1 rfl ?_
    refine yis (N := 65) rfl rfl rfl (by assumption) ?_
    exact k
