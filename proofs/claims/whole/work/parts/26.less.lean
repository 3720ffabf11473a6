def f_Di_lessenByEnd_C100 (T B : Int64) (dx : Int64) (dy : Int64) (qx : Int64) (qy : Int64) (ln : Int64) (al : Int64) : Int64 × Int64 := (bif zc .gt (lg_cmp al 0) 0 then (bif zc .lt (lg_cmp al ln) 0 then f_Di_lessen T B (((qx * dy) - (qy * dx)) * ((qx * dy) - (qy * dx))) ln else f_Di_lessen T B (((qx - dx) * (qx - dx)) + ((qy - dy) * (qy - dy))) 1) else f_Di_lessen T B ((qx * qx) + (qy * qy)) 1)
set_option maxRecDepth 100000 in
theorem s_Di_lessenByEnd_C100 {fr lo : Nat} {h : zH} (T B : Int64) (dx : Int64) (dy : Int64) (qx : Int64) (qy : Int64) (ln : Int64) (al : Int64) (d : Nat) (hd : h.1[d]? = some (.inr (3, [.long T, .long B]))) (hlo : 48 ≤ lo) : zRun (fr + 2) lo none M_Di_lessenByEnd (100, [(0, .ref d), (5, .long dx), (7, .long dy), (9, .long qx), (11, .long qy), (13, .long ln), (15, .long al)], []) h (none, zD h d (f_Di_lessenByEnd_C100 T B dx dy qx qy ln al)) := by
  unfold f_Di_lessenByEnd_C100
  refine zeN (q := ((104, [(0, .ref d), (5, .long dx), (7, .long dy), (9, .long qx), (11, .long qy), (13, .long ln), (15, .long al)], [.int (lg_cmp al 0)]), h)) 3 rfl ?_
  refine zbc (q1 := (126, [(0, .ref d), (5, .long dx), (7, .long dy), (9, .long qx), (11, .long qy), (13, .long ln), (15, .long al)], [])) (q2 := (107, [(0, .ref d), (5, .long dx), (7, .long dy), (9, .long qx), (11, .long qy), (13, .long ln), (15, .long al)], [])) (cB := zc .gt (lg_cmp al 0) 0) (off := 22) (lv := [(0, .ref d), (5, .long dx), (7, .long dy), (9, .long qx), (11, .long qy), (13, .long ln), (15, .long al)]) (st := []) rfl rfl rfl rfl rfl (fun c104 => ?_) (fun c104 => ?_)
  · rw [c104]
    refine zeN (q := ((131, [(0, .ref d), (5, .long dx), (7, .long dy), (9, .long qx), (11, .long qy), (13, .long ln), (15, .long al)], [.int (lg_cmp al ln)]), h)) 3 rfl ?_
    refine zbc (q1 := (165, [(0, .ref d), (5, .long dx), (7, .long dy), (9, .long qx), (11, .long qy), (13, .long ln), (15, .long al)], [])) (q2 := (134, [(0, .ref d), (5, .long dx), (7, .long dy), (9, .long qx), (11, .long qy), (13, .long ln), (15, .long al)], [])) (cB := zc .lt (lg_cmp al ln) 0) (off := 34) (lv := [(0, .ref d), (5, .long dx), (7, .long dy), (9, .long qx), (11, .long qy), (13, .long ln), (15, .long al)]) (st := []) rfl rfl rfl rfl rfl (fun c131 => ?_) (fun c131 => ?_)
    · rw [c131]
      refine zeN (q := ((186, [(17, .long ((qx * dy) - (qy * dx))), (0, .ref d), (5, .long dx), (7, .long dy), (9, .long qx), (11, .long qy), (13, .long ln), (15, .long al)], [.long ln, .long (((qx * dy) - (qy * dx)) * ((qx * dy) - (qy * dx))), .ref d]), h)) 13 rfl ?_
      refine zec 1 (M' := M_Di_lessen) (qq := ([.ref d, .long (((qx * dy) - (qy * dx)) * ((qx * dy) - (qy * dx))), .long ln], [])) (s' := (189, [(17, .long ((qx * dy) - (qy * dx))), (0, .ref d), (5, .long dx), (7, .long dy), (9, .long qx), (11, .long qy), (13, .long ln), (15, .long al)], [])) rfl rfl (fun _ => rfl) rfl rfl (zhk rfl (zrc_ok hd) rfl) (s_Di_lessen T B (((qx * dy) - (qy * dx)) * ((qx * dy) - (qy * dx))) ln d hd (by omega)) rfl ?_
      exact zer rfl rfl
    · rw [c131]
      refine zeN (q := ((159, [(0, .ref d), (5, .long dx), (7, .long dy), (9, .long qx), (11, .long qy), (13, .long ln), (15, .long al)], [.long 1, .long (((qx - dx) * (qx - dx)) + ((qy - dy) * (qy - dy))), .ref d]), h)) 17 rfl ?_
      refine zec 1 (M' := M_Di_lessen) (qq := ([.ref d, .long (((qx - dx) * (qx - dx)) + ((qy - dy) * (qy - dy))), .long 1], [])) (s' := (162, [(0, .ref d), (5, .long dx), (7, .long dy), (9, .long qx), (11, .long qy), (13, .long ln), (15, .long al)], [])) rfl rfl (fun _ => rfl) rfl rfl (zhk rfl (zrc_ok hd) rfl) (s_Di_lessen T B (((qx - dx) * (qx - dx)) + ((qy - dy) * (qy - dy))) 1 d hd (by omega)) rfl ?_
      refine zeN (q := ((189, [(0, .ref d), (5, .long dx), (7, .long dy), (9, .long qx), (11, .long qy), (13, .long ln), (15, .long al)], []), (zD h d (f_Di_lessen T B (((qx - dx) * (qx - dx)) + ((qy - dy) * (qy - dy))) 1)))) 1 rfl ?_
      exact zer rfl rfl
  · rw [c104]
    refine zeN (q := ((120, [(0, .ref d), (5, .long dx), (7, .long dy), (9, .long qx), (11, .long qy), (13, .long ln), (15, .long al)], [.long 1, .long ((qx * qx) + (qy * qy)), .ref d]), h)) 9 rfl ?_
    refine zec 1 (M' := M_Di_lessen) (qq := ([.ref d, .long ((qx * qx) + (qy * qy)), .long 1], [])) (s' := (123, [(0, .ref d), (5, .long dx), (7, .long dy), (9, .long qx), (11, .long qy), (13, .long ln), (15, .long al)], [])) rfl rfl (fun _ => rfl) rfl rfl (zhk rfl (zrc_ok hd) rfl) (s_Di_lessen T B ((qx * qx) + (qy * qy)) 1 d hd (by omega)) rfl ?_
    refine zeN (q := ((189, [(0, .ref d), (5, .long dx), (7, .long dy), (9, .long qx), (11, .long qy), (13, .long ln), (15, .long al)], []), (zD h d (f_Di_lessen T B ((qx * qx) + (qy * qy)) 1)))) 1 rfl ?_
    exact zer rfl rfl
def f_Di_lessenByEnd_C74 (T B : Int64) (dx : Int64) (dy : Int64) (qx : Int64) (qy : Int64) : Int64 × Int64 := (f_Di_lessenByEnd_C100 T B dx dy qx qy ((dx * dx) + (dy * dy)) ((qx * dx) + (qy * dy)))
set_option maxRecDepth 100000 in
theorem s_Di_lessenByEnd_C74 {fr lo : Nat} {h : zH} (T B : Int64) (dx : Int64) (dy : Int64) (qx : Int64) (qy : Int64) (d : Nat) (hd : h.1[d]? = some (.inr (3, [.long T, .long B]))) (hlo : 48 ≤ lo) : zRun (fr + 2) lo none M_Di_lessenByEnd (74, [(0, .ref d), (5, .long dx), (7, .long dy), (9, .long qx), (11, .long qy)], []) h (none, zD h d (f_Di_lessenByEnd_C74 T B dx dy qx qy)) := by
  unfold f_Di_lessenByEnd_C74
  refine zeN (q := ((100, [(15, .long ((qx * dx) + (qy * dy))), (13, .long ((dx * dx) + (dy * dy))), (0, .ref d), (5, .long dx), (7, .long dy), (9, .long qx), (11, .long qy)], []), h)) 16 rfl ?_
  refine zeS [(0, .ref d), (5, .long dx), (7, .long dy), (9, .long qx), (11, .long qy), (13, .long ((dx * dx) + (dy * dy))), (15, .long ((qx * dx) + (qy * dy)))] (zsub_pick [2, 3, 4, 5, 6, 1, 0] rfl rfl) ?_
  exact s_Di_lessenByEnd_C100 T B dx dy qx qy ((dx * dx) + (dy * dy)) ((qx * dx) + (qy * dy)) d hd (by omega)
def f_Di_lessenByEnd (X Y X2 Y2 : List Int32) (j c : Int32) (T B : Int64) : Int64 × Int64 := (f_Di_lessenByEnd_C74 T B (((gI X (f_Ge_end X j)) - (gI X j)).toInt64) (((gI Y (f_Ge_end X j)) - (gI Y j)).toInt64) (((gI X2 c) - (gI X j)).toInt64) (((gI Y2 c) - (gI Y j)).toInt64))
set_option maxRecDepth 100000 in
theorem s_Di_lessenByEnd {fr lo : Nat} {h : zH} (X Y X2 Y2 : List Int32) (j c : Int32) (T B : Int64) (d : Nat) (hd : h.1[d]? = some (.inr (3, [.long T, .long B]))) (g px py pb : Nat) (kd : Int32) (hg : h.1[g]? = some (.inr (6, [.int kd, .ref px, .ref py, .ref pb]))) (hX : h.1[px]? = some (.inl (0, X.map Value.int))) (hY : h.1[py]? = some (.inl (0, Y.map Value.int))) (hXY : Y.length = X.length) (hn : X.length ≤ 1000) (g2 px2 py2 pb2 : Nat) (kd2 : Int32) (hg2 : h.1[g2]? = some (.inr (6, [.int kd2, .ref px2, .ref py2, .ref pb2]))) (hX2 : h.1[px2]? = some (.inl (0, X2.map Value.int))) (hY2 : h.1[py2]? = some (.inl (0, Y2.map Value.int))) (hXY2 : Y2.length = X2.length) (hn2 : X2.length ≤ 1000) (hj : zIx j X.length) (hc : zIx c X2.length) (hlo : 86 ≤ lo) : zAns (fr + 3) lo 61 [.ref d, .ref g, .int j, .ref g2, .int c] h (none, zD h d (f_Di_lessenByEnd X Y X2 Y2 j c T B)) := by
  unfold f_Di_lessenByEnd
  refine zeb (fr := fr + 2) (M := M_Di_lessenByEnd) rfl (Nat.le_trans (by decide) hlo) rfl ?_
  have e0 : mL M_Di_lessenByEnd = 19 := rfl
  refine zeN (q := ((1, [(0, .ref d), (1, .ref g), (2, .int j), (3, .ref g2), (4, .int c)], [.ref g]), h)) 1 rfl ?_
  refine zegf (fs := [.int kd, .ref px, .ref py, .ref pb]) (v := .ref px) rfl rfl rfl rfl hg rfl ?_
  refine zeN (q := ((6, [(0, .ref d), (1, .ref g), (2, .int j), (3, .ref g2), (4, .int c)], [.int j, .ref g, .ref px]), h)) 2 rfl ?_
  refine zec 1 (M' := M_Ge_end) (qq := ([.ref g, .int j], [.ref px])) (s' := (9, [(0, .ref d), (1, .ref g), (2, .int j), (3, .ref g2), (4, .int c)], [.int (f_Ge_end X j), .ref px])) rfl rfl (fun _ => rfl) rfl rfl (zhk rfl (zrc_ok hg) rfl) (s_Ge_end X j g px py pb kd hg hX  (by omega)) rfl ?_
  refine zeia (l := X.map Value.int) (k := (f_Ge_end X j).toNatClampNeg) (v := .int (gI X (f_Ge_end X j))) rfl rfl hX (zIx_a (zIx_end hn hj)) (zIx_b (zIx_end hn hj)) ?_
  refine zeN (q := ((11, [(0, .ref d), (1, .ref g), (2, .int j), (3, .ref g2), (4, .int c)], [.ref g, .int (gI X (f_Ge_end X j))]), h)) 1 rfl ?_
  refine zegf (fs := [.int kd, .ref px, .ref py, .ref pb]) (v := .ref px) rfl rfl rfl rfl hg rfl ?_
  refine zeN (q := ((15, [(0, .ref d), (1, .ref g), (2, .int j), (3, .ref g2), (4, .int c)], [.int j, .ref px, .int (gI X (f_Ge_end X j))]), h)) 1 rfl ?_
  refine zeia (l := X.map Value.int) (k := j.toNatClampNeg) (v := .int (gI X j)) rfl rfl hX (zIx_a hj) (zIx_b hj) ?_
  refine zeN (q := ((21, [(5, .long (((gI X (f_Ge_end X j)) - (gI X j)).toInt64)), (0, .ref d), (1, .ref g), (2, .int j), (3, .ref g2), (4, .int c)], [.ref g]), h)) 4 rfl ?_
  refine zegf (fs := [.int kd, .ref px, .ref py, .ref pb]) (v := .ref py) rfl rfl rfl rfl hg rfl ?_
  refine zeN (q := ((26, [(5, .long (((gI X (f_Ge_end X j)) - (gI X j)).toInt64)), (0, .ref d), (1, .ref g), (2, .int j), (3, .ref g2), (4, .int c)], [.int j, .ref g, .ref py]), h)) 2 rfl ?_
  refine zec 1 (M' := M_Ge_end) (qq := ([.ref g, .int j], [.ref py])) (s' := (29, [(5, .long (((gI X (f_Ge_end X j)) - (gI X j)).toInt64)), (0, .ref d), (1, .ref g), (2, .int j), (3, .ref g2), (4, .int c)], [.int (f_Ge_end X j), .ref py])) rfl rfl (fun _ => rfl) rfl rfl (zhk rfl (zrc_ok hg) rfl) (s_Ge_end X j g px py pb kd hg hX  (by omega)) rfl ?_
  refine zeia (l := Y.map Value.int) (k := (f_Ge_end X j).toNatClampNeg) (v := .int (gI Y (f_Ge_end X j))) rfl rfl hY (zIx_a (zIx_s (zIx_end hn hj) hXY)) (zIx_b (zIx_s (zIx_end hn hj) hXY)) ?_
  refine zeN (q := ((31, [(5, .long (((gI X (f_Ge_end X j)) - (gI X j)).toInt64)), (0, .ref d), (1, .ref g), (2, .int j), (3, .ref g2), (4, .int c)], [.ref g, .int (gI Y (f_Ge_end X j))]), h)) 1 rfl ?_
  refine zegf (fs := [.int kd, .ref px, .ref py, .ref pb]) (v := .ref py) rfl rfl rfl rfl hg rfl ?_
  refine zeN (q := ((35, [(5, .long (((gI X (f_Ge_end X j)) - (gI X j)).toInt64)), (0, .ref d), (1, .ref g), (2, .int j), (3, .ref g2), (4, .int c)], [.int j, .ref py, .int (gI Y (f_Ge_end X j))]), h)) 1 rfl ?_
  refine zeia (l := Y.map Value.int) (k := j.toNatClampNeg) (v := .int (gI Y j)) rfl rfl hY (zIx_a (zIx_s hj hXY)) (zIx_b (zIx_s hj hXY)) ?_
  refine zeN (q := ((41, [(7, .long (((gI Y (f_Ge_end X j)) - (gI Y j)).toInt64)), (5, .long (((gI X (f_Ge_end X j)) - (gI X j)).toInt64)), (0, .ref d), (1, .ref g), (2, .int j), (3, .ref g2), (4, .int c)], [.ref g2]), h)) 4 rfl ?_
  refine zegf (fs := [.int kd2, .ref px2, .ref py2, .ref pb2]) (v := .ref px2) rfl rfl rfl rfl hg2 rfl ?_
  refine zeN (q := ((46, [(7, .long (((gI Y (f_Ge_end X j)) - (gI Y j)).toInt64)), (5, .long (((gI X (f_Ge_end X j)) - (gI X j)).toInt64)), (0, .ref d), (1, .ref g), (2, .int j), (3, .ref g2), (4, .int c)], [.int c, .ref px2]), h)) 1 rfl ?_
  refine zeia (l := X2.map Value.int) (k := c.toNatClampNeg) (v := .int (gI X2 c)) rfl rfl hX2 (zIx_a hc) (zIx_b hc) ?_
  refine zeN (q := ((48, [(7, .long (((gI Y (f_Ge_end X j)) - (gI Y j)).toInt64)), (5, .long (((gI X (f_Ge_end X j)) - (gI X j)).toInt64)), (0, .ref d), (1, .ref g), (2, .int j), (3, .ref g2), (4, .int c)], [.ref g, .int (gI X2 c)]), h)) 1 rfl ?_
  refine zegf (fs := [.int kd, .ref px, .ref py, .ref pb]) (v := .ref px) rfl rfl rfl rfl hg rfl ?_
  refine zeN (q := ((52, [(7, .long (((gI Y (f_Ge_end X j)) - (gI Y j)).toInt64)), (5, .long (((gI X (f_Ge_end X j)) - (gI X j)).toInt64)), (0, .ref d), (1, .ref g), (2, .int j), (3, .ref g2), (4, .int c)], [.int j, .ref px, .int (gI X2 c)]), h)) 1 rfl ?_
  refine zeia (l := X.map Value.int) (k := j.toNatClampNeg) (v := .int (gI X j)) rfl rfl hX (zIx_a hj) (zIx_b hj) ?_
  refine zeN (q := ((58, [(9, .long (((gI X2 c) - (gI X j)).toInt64)), (7, .long (((gI Y (f_Ge_end X j)) - (gI Y j)).toInt64)), (5, .long (((gI X (f_Ge_end X j)) - (gI X j)).toInt64)), (0, .ref d), (1, .ref g), (2, .int j), (3, .ref g2), (4, .int c)], [.ref g2]), h)) 4 rfl ?_
  refine zegf (fs := [.int kd2, .ref px2, .ref py2, .ref pb2]) (v := .ref py2) rfl rfl rfl rfl hg2 rfl ?_
  refine zeN (q := ((63, [(9, .long (((gI X2 c) - (gI X j)).toInt64)), (7, .long (((gI Y (f_Ge_end X j)) - (gI Y j)).toInt64)), (5, .long (((gI X (f_Ge_end X j)) - (gI X j)).toInt64)), (0, .ref d), (1, .ref g), (2, .int j), (3, .ref g2), (4, .int c)], [.int c, .ref py2]), h)) 1 rfl ?_
  refine zeia (l := Y2.map Value.int) (k := c.toNatClampNeg) (v := .int (gI Y2 c)) rfl rfl hY2 (zIx_a (zIx_s hc hXY2)) (zIx_b (zIx_s hc hXY2)) ?_
  refine zeN (q := ((65, [(9, .long (((gI X2 c) - (gI X j)).toInt64)), (7, .long (((gI Y (f_Ge_end X j)) - (gI Y j)).toInt64)), (5, .long (((gI X (f_Ge_end X j)) - (gI X j)).toInt64)), (0, .ref d), (1, .ref g), (2, .int j), (3, .ref g2), (4, .int c)], [.ref g, .int (gI Y2 c)]), h)) 1 rfl ?_
  refine zegf (fs := [.int kd, .ref px, .ref py, .ref pb]) (v := .ref py) rfl rfl rfl rfl hg rfl ?_
  refine zeN (q := ((69, [(9, .long (((gI X2 c) - (gI X j)).toInt64)), (7, .long (((gI Y (f_Ge_end X j)) - (gI Y j)).toInt64)), (5, .long (((gI X (f_Ge_end X j)) - (gI X j)).toInt64)), (0, .ref d), (1, .ref g), (2, .int j), (3, .ref g2), (4, .int c)], [.int j, .ref py, .int (gI Y2 c)]), h)) 1 rfl ?_
  refine zeia (l := Y.map Value.int) (k := j.toNatClampNeg) (v := .int (gI Y j)) rfl rfl hY (zIx_a (zIx_s hj hXY)) (zIx_b (zIx_s hj hXY)) ?_
  refine zeN (q := ((74, [(11, .long (((gI Y2 c) - (gI Y j)).toInt64)), (9, .long (((gI X2 c) - (gI X j)).toInt64)), (7, .long (((gI Y (f_Ge_end X j)) - (gI Y j)).toInt64)), (5, .long (((gI X (f_Ge_end X j)) - (gI X j)).toInt64)), (0, .ref d), (1, .ref g), (2, .int j), (3, .ref g2), (4, .int c)], []), h)) 3 rfl ?_
  refine zeS [(0, .ref d), (5, .long (((gI X (f_Ge_end X j)) - (gI X j)).toInt64)), (7, .long (((gI Y (f_Ge_end X j)) - (gI Y j)).toInt64)), (9, .long (((gI X2 c) - (gI X j)).toInt64)), (11, .long (((gI Y2 c) - (gI Y j)).toInt64))] (zsub_pick [4, 3, 2, 1, 0] rfl rfl) ?_
  exact s_Di_lessenByEnd_C74 T B (((gI X (f_Ge_end X j)) - (gI X j)).toInt64) (((gI Y (f_Ge_end X j)) - (gI Y j)).toInt64) (((gI X2 c) - (gI X j)).toInt64) (((gI Y2 c) - (gI Y j)).toInt64) d hd (by omega)
