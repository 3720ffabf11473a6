def e_ST_vertex (x y : Int32) (w : yW) : yW × Int32 := ((e_Dr_append x y w).1, (e_Dr_append x y w).2)
set_option maxRecDepth 100000 in
theorem r_ST_vertex {fr lo sz : Nat} {G : List zC} (x y : Int32) (w : yW) (hs0 : 0 ≤ (w.1 6 2).toInt) (hlo : 64 ≤ lo) : zAns (fr + 3) lo 7 [.ref 0, .int x, .int y] (yhp w G sz) (some (.int ((e_ST_vertex x y w).2)), yhp ((e_ST_vertex x y w).1) G sz) := by
  unfold e_ST_vertex
  refine zeb (fr := fr + 2) (M := M_ST_vertex) rfl (Nat.le_trans (by decide) hlo) rfl ?_
  have e0 : mL M_ST_vertex = 3 := rfl
  refine zeN (q := ((1, [(0, .ref 0), (1, .int x), (2, .int y)], [.ref 0]), yhp w G sz)) 1 rfl ?_
  refine ygf (kk := .inl (.ref 6)) (v := .ref 6) rfl rfl rfl rfl rfl rfl rfl ?_
  refine zeN (q := ((6, [(0, .ref 0), (1, .int x), (2, .int y)], [.int y, .int x, .ref 6]), yhp w G sz)) 2 rfl ?_
  refine zec 1 (M' := M_Dr_append) (qq := ([.ref 6, .int x, .int y], [])) (s' := (9, [(0, .ref 0), (1, .int x), (2, .int y)], [.int ((e_Dr_append x y w).2)])) rfl rfl (fun _ => rfl) rfl rfl (zhk rfl (zrc_ok (yhp_o rfl)) rfl) (r_Dr_append x y _ hs0 (by omega)) rfl ?_
  exact zer rfl rfl
set_option maxRecDepth 100000 in
theorem kf_ST_vertex (x y : Int32) (w : yW)  : yK [(6, some 2), (7, none), (8, none)] w (e_ST_vertex x y w ).1 := by unfold e_ST_vertex; exact (yK_p (yK_tr yK_rfl (yK_mono rfl (kf_Dr_append ..))))
theorem jf_ST_vertex (x y : Int32) (w : yW)  : (e_ST_vertex x y w ).1.2 = w.2 := by unfold e_ST_vertex; exact (yJ_p ((jf_Dr_append ..).trans rfl))
def e_ST_result (x : Int32) (w : yW) : Int32 := (bif zc .lt x 0 then (-1) else (bif zc .lt x (w.1 0 7) then w.1 9 x.toNatClampNeg else (-1)))
set_option maxRecDepth 100000 in
theorem r_ST_result {fr lo sz : Nat} {G : List zC} (x : Int32) (w : yW) (hr : (w.1 0 7).toInt ≤ 256) (hlo : 21 ≤ lo) : zAns (fr + 1) lo 74 [.ref 0, .int x] (yhp w G sz) (some (.int ((e_ST_result x w))), yhp w G sz) := by
  unfold e_ST_result
  refine zeb (fr := fr + 0) (M := M_ST_result) rfl (Nat.le_trans (by decide) hlo) rfl ?_
  have e0 : mL M_ST_result = 2 := rfl
  refine zeN (q := ((1, [(0, .ref 0), (1, .int x)], [.int x]), yhp w G sz)) 1 rfl ?_
  refine zbc (q1 := (12, [(0, .ref 0), (1, .int x)], [])) (q2 := (4, [(0, .ref 0), (1, .int x)], [])) (cB := zc .lt x 0) (off := 11) (lv := [(0, .ref 0), (1, .int x)]) (st := []) rfl rfl rfl rfl rfl (fun c1 => ?_) (fun c1 => ?_)
  · rw [c1]
    refine zeN (q := ((22, [(0, .ref 0), (1, .int x)], [.int ((-1))]), yhp w G sz)) 2 rfl ?_
    exact zer rfl rfl
  · rw [c1]
    refine zeN (q := ((6, [(0, .ref 0), (1, .int x)], [.ref 0, .int x]), yhp w G sz)) 2 rfl ?_
    refine ygf (kk := .inr 0) (v := .int (w.1 0 7)) rfl rfl rfl rfl rfl rfl rfl ?_
    refine zbc (q1 := (16, [(0, .ref 0), (1, .int x)], [])) (q2 := (12, [(0, .ref 0), (1, .int x)], [])) (cB := zc .lt x (w.1 0 7)) (off := 7) (lv := [(0, .ref 0), (1, .int x)]) (st := []) rfl rfl rfl rfl rfl (fun c9 => ?_) (fun c9 => ?_)
    · rw [c9]
      have a1 := of_decide_eq_false ((zc_lt x 0).symm.trans c1)
      have a2 := of_decide_eq_true ((zc_lt x (w.1 0 7)).symm.trans c9)
      have hx : zIx x 256 := ⟨by have := z_i0; omega, by omega⟩
      refine zeN (q := ((17, [(0, .ref 0), (1, .int x)], [.ref 0]), yhp w G sz)) 1 rfl ?_
      refine ygf (kk := .inl (.ref 9)) (v := .ref 9) rfl rfl rfl rfl rfl rfl rfl ?_
      refine zeN (q := ((21, [(0, .ref 0), (1, .int x)], [.int x, .ref 9]), yhp w G sz)) 1 rfl ?_
      refine yia (N := 256) rfl rfl rfl (by assumption) ?_
      exact zer rfl rfl
    · rw [c9]
      refine zeN (q := ((22, [(0, .ref 0), (1, .int x)], [.int ((-1))]), yhp w G sz)) 2 rfl ?_
      exact zer rfl rfl
def e_ST_reads  (w : yW) : Int32 := w.1 0 8
set_option maxRecDepth 100000 in
theorem r_ST_reads {fr lo sz : Nat} {G : List zC}  (w : yW)  (hlo : 20 ≤ lo) : zAns (fr + 1) lo 75 [.ref 0] (yhp w G sz) (some (.int ((e_ST_reads  w))), yhp w G sz) := by
  unfold e_ST_reads
  refine zeb (fr := fr + 0) (M := M_ST_reads) rfl (Nat.le_trans (by decide) hlo) rfl ?_
  have e0 : mL M_ST_reads = 1 := rfl
  refine zeN (q := ((1, [(0, .ref 0)], [.ref 0]), yhp w G sz)) 1 rfl ?_
  refine ygf (kk := .inr 0) (v := .int (w.1 0 8)) rfl rfl rfl rfl rfl rfl rfl ?_
  exact zer rfl rfl
def e_ST_frame (x : Int32) (w : yW) : Int32 := e_Fr_frameOf x w
set_option maxRecDepth 100000 in
theorem r_ST_frame {fr lo sz : Nat} {G : List zC} (x : Int32) (w : yW)  (hlo : 42 ≤ lo) : zAns (fr + 2) lo 95 [.ref 0, .int x] (yhp w G sz) (some (.int ((e_ST_frame x w))), yhp w G sz) := by
  unfold e_ST_frame
  refine zeb (fr := fr + 1) (M := M_ST_frame) rfl (Nat.le_trans (by decide) hlo) rfl ?_
  have e0 : mL M_ST_frame = 2 := rfl
  refine zeN (q := ((1, [(0, .ref 0), (1, .int x)], [.ref 0]), yhp w G sz)) 1 rfl ?_
  refine ygf (kk := .inl (.ref 4)) (v := .ref 4) rfl rfl rfl rfl rfl rfl rfl ?_
  refine zeN (q := ((5, [(0, .ref 0), (1, .int x)], [.int x, .ref 4]), yhp w G sz)) 1 rfl ?_
  refine zec 1 (M' := M_Fr_frameOf) (qq := ([.ref 4, .int x], [])) (s' := (8, [(0, .ref 0), (1, .int x)], [.int (e_Fr_frameOf x w)])) rfl rfl (fun _ => rfl) rfl rfl (zhk rfl (zrc_ok (yhp_o rfl)) rfl) (r_Fr_frameOf x _ (by omega)) rfl ?_
  exact zer rfl rfl
def e_ST_value (t q : Int32) (w : yW) : Int32 := (bif yS (e_ST_placeOf t q w) then e_Ta_amountOf (14 + 12 * t.toNatClampNeg) q w else 0)
set_option maxRecDepth 100000 in
theorem r_ST_value {fr lo sz : Nat} {G : List zC} (t q : Int32) (w : yW)  (hlo : 65 ≤ lo) : zAns (fr + 3) lo 78 [.ref 0, .int t, .int q] (yhp w G sz) (some (.int ((e_ST_value t q w))), yhp w G sz) := by
  unfold e_ST_value
  refine zeb (fr := fr + 2) (M := M_ST_value) rfl (Nat.le_trans (by decide) hlo) rfl ?_
  have e0 : mL M_ST_value = 3 := rfl
  refine zeN (q := ((3, [(0, .ref 0), (1, .int t), (2, .int q)], [.int q, .int t, .ref 0]), yhp w G sz)) 3 rfl ?_
  refine zec 1 (M' := M_ST_placeOf) (qq := ([.ref 0, .int t, .int q], [])) (s' := (6, [(0, .ref 0), (1, .int t), (2, .int q)], [yrv (e_ST_placeOf t q w)])) rfl rfl (fun _ => rfl) rfl rfl (zhk rfl (zrc_ok (yhp_o rfl)) rfl) (r_ST_placeOf t q _ (by omega)) rfl ?_
  refine zbc (q1 := (13, [(0, .ref 0), (1, .int t), (2, .int q)], [])) (q2 := (9, [(0, .ref 0), (1, .int t), (2, .int q)], [])) (cB := yS (e_ST_placeOf t q w)) (off := 7) (lv := [(0, .ref 0), (1, .int t), (2, .int q)]) (st := []) rfl rfl (ybns (e_ST_placeOf t q w)) rfl rfl (fun c6 => ?_) (fun c6 => ?_)
  · rw [c6]
    have ht := placeOf_t (yNS c6)
    refine zeN (q := ((14, [(0, .ref 0), (1, .int t), (2, .int q)], [.ref 0]), yhp w G sz)) 1 rfl ?_
    refine ygf (kk := .inl (.ref 1)) (v := .ref 1) rfl rfl rfl rfl rfl rfl rfl ?_
    refine zeN (q := ((18, [(0, .ref 0), (1, .int t), (2, .int q)], [.int t, .ref 1]), yhp w G sz)) 1 rfl ?_
    refine yfP rfl rfl ht ?_
    refine zeN (q := ((20, [(0, .ref 0), (1, .int t), (2, .int q)], [.int q, .ref (14 + 12 * t.toNatClampNeg)]), yhp w G sz)) 1 rfl ?_
    refine zec 1 (M' := M_Ta_amountOf) (qq := ([.ref (14 + 12 * t.toNatClampNeg), .int q], [])) (s' := (23, [(0, .ref 0), (1, .int t), (2, .int q)], [.int (e_Ta_amountOf (14 + 12 * t.toNatClampNeg) q w)])) rfl rfl (fun _ => rfl) rfl rfl (zhk rfl (zrc_ok (yhp_o (yTb_P ht).1)) rfl) (r_Ta_amountOf _ _ _ (yTb_P ht) (by omega)) rfl ?_
    exact zer rfl rfl
  · rw [c6]
    refine zeN (q := ((23, [(0, .ref 0), (1, .int t), (2, .int q)], [.int 0]), yhp w G sz)) 2 rfl ?_
    exact zer rfl rfl
def e_ST_rows (t : Int32) (w : yW) : Int32 := (bif zc .eq (e_ST_isTable t) 0 then (-1) else e_Ta_rowBits (14 + 12 * t.toNatClampNeg) w)
set_option maxRecDepth 100000 in
theorem r_ST_rows {fr lo sz : Nat} {G : List zC} (t : Int32) (w : yW)  (hlo : 43 ≤ lo) : zAns (fr + 2) lo 79 [.ref 0, .int t] (yhp w G sz) (some (.int ((e_ST_rows t w))), yhp w G sz) := by
  unfold e_ST_rows
  refine zeb (fr := fr + 1) (M := M_ST_rows) rfl (Nat.le_trans (by decide) hlo) rfl ?_
  have e0 : mL M_ST_rows = 2 := rfl
  refine zeN (q := ((1, [(0, .ref 0), (1, .int t)], [.int t]), yhp w G sz)) 1 rfl ?_
  refine zec 0 (M' := M_ST_isTable) (qq := ([.int t], [])) (s' := (4, [(0, .ref 0), (1, .int t)], [.int (e_ST_isTable t)])) rfl rfl (fun _ => rfl) rfl rfl rfl (r_ST_isTable t (by omega)) rfl ?_
  refine zbc (q1 := (19, [(0, .ref 0), (1, .int t)], [])) (q2 := (7, [(0, .ref 0), (1, .int t)], [])) (cB := zc .eq (e_ST_isTable t) 0) (off := 15) (lv := [(0, .ref 0), (1, .int t)]) (st := []) rfl rfl rfl rfl rfl (fun c4 => ?_) (fun c4 => ?_)
  · rw [c4]
    refine zeN (q := ((20, [(0, .ref 0), (1, .int t)], [.int ((-1))]), yhp w G sz)) 1 rfl ?_
    exact zer rfl rfl
  · rw [c4]
    have ht := z_sTn (b := true) c4
    refine zeN (q := ((8, [(0, .ref 0), (1, .int t)], [.ref 0]), yhp w G sz)) 1 rfl ?_
    refine ygf (kk := .inl (.ref 1)) (v := .ref 1) rfl rfl rfl rfl rfl rfl rfl ?_
    refine zeN (q := ((12, [(0, .ref 0), (1, .int t)], [.int t, .ref 1]), yhp w G sz)) 1 rfl ?_
    refine yfP rfl rfl ht ?_
    refine zec 1 (M' := M_Ta_rowBits) (qq := ([.ref (14 + 12 * t.toNatClampNeg)], [])) (s' := (16, [(0, .ref 0), (1, .int t)], [.int (e_Ta_rowBits (14 + 12 * t.toNatClampNeg) w)])) rfl rfl (fun _ => rfl) rfl rfl (zhk rfl (zrc_ok (yhp_o (yTb_P ht).1)) rfl) (r_Ta_rowBits _ _ (yTb_P ht) (by omega)) rfl ?_
    refine zeN (q := ((20, [(0, .ref 0), (1, .int t)], [.int (e_Ta_rowBits (14 + 12 * t.toNatClampNeg) w)]), yhp w G sz)) 1 rfl ?_
    exact zer rfl rfl
def e_ST_nodes (t : Int32) (w : yW) : Int32 := (bif zc .eq (e_ST_isTable t) 0 then (-1) else e_In_size (20 + 12 * t.toNatClampNeg) w)
set_option maxRecDepth 100000 in
theorem r_ST_nodes {fr lo sz : Nat} {G : List zC} (t : Int32) (w : yW)  (hlo : 42 ≤ lo) : zAns (fr + 2) lo 80 [.ref 0, .int t] (yhp w G sz) (some (.int ((e_ST_nodes t w))), yhp w G sz) := by
  unfold e_ST_nodes
  refine zeb (fr := fr + 1) (M := M_ST_nodes) rfl (Nat.le_trans (by decide) hlo) rfl ?_
  have e0 : mL M_ST_nodes = 2 := rfl
  refine zeN (q := ((1, [(0, .ref 0), (1, .int t)], [.int t]), yhp w G sz)) 1 rfl ?_
  refine zec 0 (M' := M_ST_isTable) (qq := ([.int t], [])) (s' := (4, [(0, .ref 0), (1, .int t)], [.int (e_ST_isTable t)])) rfl rfl (fun _ => rfl) rfl rfl rfl (r_ST_isTable t (by omega)) rfl ?_
  refine zbc (q1 := (19, [(0, .ref 0), (1, .int t)], [])) (q2 := (7, [(0, .ref 0), (1, .int t)], [])) (cB := zc .eq (e_ST_isTable t) 0) (off := 15) (lv := [(0, .ref 0), (1, .int t)]) (st := []) rfl rfl rfl rfl rfl (fun c4 => ?_) (fun c4 => ?_)
  · rw [c4]
    refine zeN (q := ((20, [(0, .ref 0), (1, .int t)], [.int ((-1))]), yhp w G sz)) 1 rfl ?_
    exact zer rfl rfl
  · rw [c4]
    have ht := z_sTn (b := true) c4
    refine zeN (q := ((8, [(0, .ref 0), (1, .int t)], [.ref 0]), yhp w G sz)) 1 rfl ?_
    refine ygf (kk := .inl (.ref 3)) (v := .ref 3) rfl rfl rfl rfl rfl rfl rfl ?_
    refine zeN (q := ((12, [(0, .ref 0), (1, .int t)], [.int t, .ref 3]), yhp w G sz)) 1 rfl ?_
    refine yfI rfl rfl ht ?_
    refine zec 1 (M' := M_In_size) (qq := ([.ref (20 + 12 * t.toNatClampNeg)], [])) (s' := (16, [(0, .ref 0), (1, .int t)], [.int (e_In_size (20 + 12 * t.toNatClampNeg) w)])) rfl rfl (fun _ => rfl) rfl rfl (zhk rfl (zrc_ok (yhp_o (yId_t ht).1)) rfl) (r_In_size _ _ (yId_t ht) (by omega)) rfl ?_
    refine zeN (q := ((20, [(0, .ref 0), (1, .int t)], [.int (e_In_size (20 + 12 * t.toNatClampNeg) w)]), yhp w G sz)) 1 rfl ?_
    exact zer rfl rfl
def e_ST_measure (G : List zC) (t q : Int32) (w : yW) : yW × Int32 := (bif yN (e_ST_placeOf t q w) then (w, (-1)) else (bif yS (w.2.2 0 5) then (wD w 10 (gD G (yd (w.2.2 0 5)) (yd (e_ST_placeOf t q w)) (w.2.1 10 0, w.2.1 10 1)), f_Di_wholePart ((wD w 10 (gD G (yd (w.2.2 0 5)) (yd (e_ST_placeOf t q w)) (w.2.1 10 0, w.2.1 10 1))).2.1 10 0) ((wD w 10 (gD G (yd (w.2.2 0 5)) (yd (e_ST_placeOf t q w)) (w.2.1 10 0, w.2.1 10 1))).2.1 10 1)) else (w, (-1))))
set_option maxRecDepth 100000 in
theorem r_ST_measure {fr lo sz : Nat} (G : List zC) (t q : Int32) (w : yW) (hR : yRk w G) (hlo : 183 ≤ lo) : zAns (fr + 6) lo 76 [.ref 0, .int t, .int q] (yhp w G sz) (some (.int ((e_ST_measure G t q w).2)), yhp ((e_ST_measure G t q w).1) G sz) := by
  unfold e_ST_measure
  refine zeb (fr := fr + 5) (M := M_ST_measure) rfl (Nat.le_trans (by decide) hlo) rfl ?_
  have e0 : mL M_ST_measure = 4 := rfl
  refine zeN (q := ((3, [(0, .ref 0), (1, .int t), (2, .int q)], [.int q, .int t, .ref 0]), yhp w G sz)) 3 rfl ?_
  refine zec 1 (M' := M_ST_placeOf) (qq := ([.ref 0, .int t, .int q], [])) (s' := (6, [(0, .ref 0), (1, .int t), (2, .int q)], [yrv (e_ST_placeOf t q w)])) rfl rfl (fun _ => rfl) rfl rfl (zhk rfl (zrc_ok (yhp_o rfl)) rfl) (r_ST_placeOf t q _ (by omega)) rfl ?_
  refine ysp (fun c3 => ?_) (fun c3 => ?_)
  · rw [c3]
    refine zeN (q := ((19, [(3, .null), (0, .ref 0), (1, .int t), (2, .int q)], [.int ((-1))]), yhp w G sz)) 4 rfl ?_
    exact zer rfl rfl
  · rw [c3]
    refine zeN (q := ((12, [(3, .ref (yd (e_ST_placeOf t q w))), (0, .ref 0), (1, .int t), (2, .int q)], [.ref 0]), yhp w G sz)) 4 rfl ?_
    refine ygf (kk := .inr 2) (v := yrv (w.2.2 0 5)) rfl rfl rfl rfl rfl rfl rfl ?_
    refine zbc (q1 := (20, [(3, .ref (yd (e_ST_placeOf t q w))), (0, .ref 0), (1, .int t), (2, .int q)], [])) (q2 := (18, [(3, .ref (yd (e_ST_placeOf t q w))), (0, .ref 0), (1, .int t), (2, .int q)], [])) (cB := yS (w.2.2 0 5)) (off := 5) (lv := [(3, .ref (yd (e_ST_placeOf t q w))), (0, .ref 0), (1, .int t), (2, .int q)]) (st := []) rfl rfl (ybns (w.2.2 0 5)) rfl rfl (fun c15 => ?_) (fun c15 => ?_)
    · rw [c15]
      have hFn := yNS c15
      have hF := yRk_n hR hFn
      refine zeN (q := ((21, [(3, .ref (yd (e_ST_placeOf t q w))), (0, .ref 0), (1, .int t), (2, .int q)], [.ref 0]), yhp w G sz)) 1 rfl ?_
      refine ygf (kk := .inl (.ref 10)) (v := .ref 10) rfl rfl rfl rfl rfl rfl rfl ?_
      refine zeN (q := ((25, [(3, .ref (yd (e_ST_placeOf t q w))), (0, .ref 0), (1, .int t), (2, .int q)], [.ref 0, .ref 10]), yhp w G sz)) 1 rfl ?_
      refine ygf (kk := .inr 2) (v := yrv (w.2.2 0 5)) rfl rfl rfl rfl rfl rfl rfl ?_
      refine zeN (q := ((29, [(3, .ref (yd (e_ST_placeOf t q w))), (0, .ref 0), (1, .int t), (2, .int q)], [.ref (yd (e_ST_placeOf t q w)), yrv (w.2.2 0 5), .ref 10]), yhp w G sz)) 1 rfl ?_
      rw [yrv_nn hFn]
      refine zec 1 (M' := M_Di_between) (qq := ([.ref 10, .ref (yd (w.2.2 0 5)), .ref (yd (e_ST_placeOf t q w))], [])) (s' := (32, [(3, .ref (yd (e_ST_placeOf t q w))), (0, .ref 0), (1, .int t), (2, .int q)], [])) rfl rfl (fun _ => rfl) rfl rfl (zhk rfl (zrc_ok (yhp_o rfl)) rfl) (y_between (d := 10) rfl hF (placeOf_n hR c3) (by omega)) rfl ?_
      refine zeN (q := ((33, [(3, .ref (yd (e_ST_placeOf t q w))), (0, .ref 0), (1, .int t), (2, .int q)], [.ref 0]), yhp (wD w 10 (gD G (yd (w.2.2 0 5)) (yd (e_ST_placeOf t q w)) (w.2.1 10 0, w.2.1 10 1))) G sz)) 1 rfl ?_
      refine ygf (kk := .inl (.ref 10)) (v := .ref 10) rfl rfl rfl rfl rfl rfl rfl ?_
      refine zec 1 (M' := M_Di_wholePart) (qq := ([.ref 10], [])) (s' := (39, [(3, .ref (yd (e_ST_placeOf t q w))), (0, .ref 0), (1, .int t), (2, .int q)], [.int (f_Di_wholePart ((wD w 10 (gD G (yd (w.2.2 0 5)) (yd (e_ST_placeOf t q w)) (w.2.1 10 0, w.2.1 10 1))).2.1 10 0) ((wD w 10 (gD G (yd (w.2.2 0 5)) (yd (e_ST_placeOf t q w)) (w.2.1 10 0, w.2.1 10 1))).2.1 10 1))])) rfl rfl (fun _ => rfl) rfl rfl (zhk rfl (zrc_ok (yhp_o rfl)) rfl) (y_wholePart (d := 10) rfl (by omega)) rfl ?_
      exact zer rfl rfl
    · rw [c15]
      refine zeN (q := ((19, [(3, .ref (yd (e_ST_placeOf t q w))), (0, .ref 0), (1, .int t), (2, .int q)], [.int ((-1))]), yhp w G sz)) 1 rfl ?_
      exact zer rfl rfl
set_option maxRecDepth 100000 in
theorem kf_ST_measure (G : List zC) (t q : Int32) (w : yW)  : yK [(10, none)] w (e_ST_measure G t q w ).1 := by unfold e_ST_measure; exact (yK_if1 (yK_p yK_rfl) (yK_if1 (yK_p (yK_wD rfl yK_rfl)) (yK_p yK_rfl)))
theorem put_f {c : Nat} {q v : Int32} {o : Option Nat} {w : yW} : (e_Ta_put c q v o w).2.2 0 5 = w.2.2 0 5 := by
  unfold e_Ta_put
  repeat' first | exact rfl | exact (ydR _ _ _ _ 0 5 (fun e => by have := e.1; omega)).2.2 | (generalize zc _ _ _ = b; cases b)
theorem put_1 {c d j : Nat} {q v : Int32} {o : Option Nat} {w : yW} (h : d ≠ c + 1) : (e_Ta_put c q v o w).1 d j = w.1 d j := by
  unfold e_Ta_put
  repeat' first | exact rfl | exact wI_ne h | (generalize zc _ _ _ = b; cases b)
theorem yIn_put {c d : Nat} {q v : Int32} {o : Option Nat} {w : yW} (h : yIn w d) (h1 : d ≠ c + 1) (h2 : d + 1 ≠ c + 1) : yIn (e_Ta_put c q v o w) d := by
  refine ⟨fun j hj => ?_, ?_⟩
  · rw [put_1 h2]
    exact h.1 j hj
  · rw [put_1 h1]
    exact h.2
theorem yRk_put {c : Nat} {G : List zC} {q v : Int32} {o : Option Nat} {w : yW} (h : yRk w G) (ho : ∀ x, o = some x → yOk G x) : yRk (e_Ta_put c q v o w) G := by
  unfold e_Ta_put
  repeat' first | exact h | exact yRk_R (yRk_I h) ho | (generalize zc _ _ _ = b; cases b)
def e_ST_insert (G : List zC) (t v : Int32) (w : yW) : yW × Int32 := (bif zc .eq (e_ST_isTable t) 0 then (w, (-1)) else (bif yS (w.2.2 0 5) then (bif zc .ne (e_Ta_leastFreeRow (14 + 12 * t.toNatClampNeg) w) 16 then (e_In_add G (20 + 12 * t.toNatClampNeg) (yd ((e_Ta_put (14 + 12 * t.toNatClampNeg) (e_Ta_leastFreeRow (14 + 12 * t.toNatClampNeg) w) v (w.2.2 0 5) w).2.2 0 5)) (e_Ta_put (14 + 12 * t.toNatClampNeg) (e_Ta_leastFreeRow (14 + 12 * t.toNatClampNeg) w) v (w.2.2 0 5) w), e_Ta_leastFreeRow (14 + 12 * t.toNatClampNeg) w) else (w, (-1))) else (w, (-1))))
set_option maxRecDepth 100000 in
theorem r_ST_insert {fr lo sz : Nat} (G : List zC) (t v : Int32) (w : yW) (hI : zIx t 2 → yIn w (20 + 12 * t.toNatClampNeg)) (hR : yRk w G) (hlo : 117 ≤ lo) : zAns (fr + 4) lo 29 [.ref 0, .int t, .int v] (yhp w G sz) (some (.int ((e_ST_insert G t v w).2)), yhp ((e_ST_insert G t v w).1) G sz) := by
  unfold e_ST_insert
  refine zeb (fr := fr + 3) (M := M_ST_insert) rfl (Nat.le_trans (by decide) hlo) rfl ?_
  have e0 : mL M_ST_insert = 4 := rfl
  refine zeN (q := ((1, [(0, .ref 0), (1, .int t), (2, .int v)], [.int t]), yhp w G sz)) 1 rfl ?_
  refine zec 0 (M' := M_ST_isTable) (qq := ([.int t], [])) (s' := (4, [(0, .ref 0), (1, .int t), (2, .int v)], [.int (e_ST_isTable t)])) rfl rfl (fun _ => rfl) rfl rfl rfl (r_ST_isTable t (by omega)) rfl ?_
  refine zbc (q1 := (14, [(0, .ref 0), (1, .int t), (2, .int v)], [])) (q2 := (7, [(0, .ref 0), (1, .int t), (2, .int v)], [])) (cB := zc .eq (e_ST_isTable t) 0) (off := 10) (lv := [(0, .ref 0), (1, .int t), (2, .int v)]) (st := []) rfl rfl rfl rfl rfl (fun c4 => ?_) (fun c4 => ?_)
  · rw [c4]
    refine zeN (q := ((15, [(0, .ref 0), (1, .int t), (2, .int v)], [.int ((-1))]), yhp w G sz)) 1 rfl ?_
    exact zer rfl rfl
  · rw [c4]
    have ht := z_sTn (b := true) c4
    refine zeN (q := ((8, [(0, .ref 0), (1, .int t), (2, .int v)], [.ref 0]), yhp w G sz)) 1 rfl ?_
    refine ygf (kk := .inr 2) (v := yrv (w.2.2 0 5)) rfl rfl rfl rfl rfl rfl rfl ?_
    refine zbc (q1 := (16, [(0, .ref 0), (1, .int t), (2, .int v)], [])) (q2 := (14, [(0, .ref 0), (1, .int t), (2, .int v)], [])) (cB := yS (w.2.2 0 5)) (off := 5) (lv := [(0, .ref 0), (1, .int t), (2, .int v)]) (st := []) rfl rfl (ybns (w.2.2 0 5)) rfl rfl (fun c11 => ?_) (fun c11 => ?_)
    · rw [c11]
      have hFn := yNS c11
      refine zeN (q := ((17, [(0, .ref 0), (1, .int t), (2, .int v)], [.ref 0]), yhp w G sz)) 1 rfl ?_
      refine ygf (kk := .inl (.ref 1)) (v := .ref 1) rfl rfl rfl rfl rfl rfl rfl ?_
      refine zeN (q := ((21, [(0, .ref 0), (1, .int t), (2, .int v)], [.int t, .ref 1]), yhp w G sz)) 1 rfl ?_
      refine yfP rfl rfl ht ?_
      refine zec 1 (M' := M_Ta_leastFreeRow) (qq := ([.ref (14 + 12 * t.toNatClampNeg)], [])) (s' := (25, [(0, .ref 0), (1, .int t), (2, .int v)], [.int (e_Ta_leastFreeRow (14 + 12 * t.toNatClampNeg) w)])) rfl rfl (fun _ => rfl) rfl rfl (zhk rfl (zrc_ok (yhp_o (yTb_P ht).1)) rfl) (r_Ta_leastFreeRow _ _ (yTb_P ht) (by omega)) rfl ?_
      refine zeN (q := ((29, [(3, .int (e_Ta_leastFreeRow (14 + 12 * t.toNatClampNeg) w)), (0, .ref 0), (1, .int t), (2, .int v)], [.int 16, .int (e_Ta_leastFreeRow (14 + 12 * t.toNatClampNeg) w)]), yhp w G sz)) 3 rfl ?_
      refine zbc (q1 := (34, [(3, .int (e_Ta_leastFreeRow (14 + 12 * t.toNatClampNeg) w)), (0, .ref 0), (1, .int t), (2, .int v)], [])) (q2 := (32, [(3, .int (e_Ta_leastFreeRow (14 + 12 * t.toNatClampNeg) w)), (0, .ref 0), (1, .int t), (2, .int v)], [])) (cB := zc .ne (e_Ta_leastFreeRow (14 + 12 * t.toNatClampNeg) w) 16) (off := 5) (lv := [(3, .int (e_Ta_leastFreeRow (14 + 12 * t.toNatClampNeg) w)), (0, .ref 0), (1, .int t), (2, .int v)]) (st := []) rfl rfl rfl rfl rfl (fun c29 => ?_) (fun c29 => ?_)
      · rw [c29]
        refine zeN (q := ((35, [(3, .int (e_Ta_leastFreeRow (14 + 12 * t.toNatClampNeg) w)), (0, .ref 0), (1, .int t), (2, .int v)], [.ref 0]), yhp w G sz)) 1 rfl ?_
        refine ygf (kk := .inl (.ref 1)) (v := .ref 1) rfl rfl rfl rfl rfl rfl rfl ?_
        refine zeN (q := ((39, [(3, .int (e_Ta_leastFreeRow (14 + 12 * t.toNatClampNeg) w)), (0, .ref 0), (1, .int t), (2, .int v)], [.int t, .ref 1]), yhp w G sz)) 1 rfl ?_
        refine yfP rfl rfl ht ?_
        refine zeN (q := ((43, [(3, .int (e_Ta_leastFreeRow (14 + 12 * t.toNatClampNeg) w)), (0, .ref 0), (1, .int t), (2, .int v)], [.ref 0, .int v, .int (e_Ta_leastFreeRow (14 + 12 * t.toNatClampNeg) w), .ref (14 + 12 * t.toNatClampNeg)]), yhp w G sz)) 3 rfl ?_
        refine ygf (kk := .inr 2) (v := yrv (w.2.2 0 5)) rfl rfl rfl rfl rfl rfl rfl ?_
        refine zec 1 (M' := M_Ta_put) (qq := ([.ref (14 + 12 * t.toNatClampNeg), .int (e_Ta_leastFreeRow (14 + 12 * t.toNatClampNeg) w), .int v, yrv (w.2.2 0 5)], [])) (s' := (49, [(3, .int (e_Ta_leastFreeRow (14 + 12 * t.toNatClampNeg) w)), (0, .ref 0), (1, .int t), (2, .int v)], [])) rfl rfl (fun _ => rfl) rfl rfl (zhk rfl (zrc_ok (yhp_o (yTb_P ht).1)) rfl) (r_Ta_put _ _ _ (w.2.2 0 5) _ (yTb_P ht) (fun x h => hR _ _ x h) (by omega)) rfl ?_
        have hFn2 : yN ((e_Ta_put (14 + 12 * t.toNatClampNeg) (e_Ta_leastFreeRow (14 + 12 * t.toNatClampNeg) w) v (w.2.2 0 5) w).2.2 0 5) = false := by rw [put_f]; exact hFn
        have hF2 := yRk_n (yRk_put hR (fun x h => hR _ _ x h)) hFn2
        have hI2 : yIn (e_Ta_put (14 + 12 * t.toNatClampNeg) (e_Ta_leastFreeRow (14 + 12 * t.toNatClampNeg) w) v (w.2.2 0 5) w) (20 + 12 * t.toNatClampNeg) := yIn_put (hI ht) (by omega) (by omega)
        refine zeN (q := ((50, [(3, .int (e_Ta_leastFreeRow (14 + 12 * t.toNatClampNeg) w)), (0, .ref 0), (1, .int t), (2, .int v)], [.ref 0]), yhp (e_Ta_put (14 + 12 * t.toNatClampNeg) (e_Ta_leastFreeRow (14 + 12 * t.toNatClampNeg) w) v (w.2.2 0 5) w) G sz)) 1 rfl ?_
        refine ygf (kk := .inl (.ref 3)) (v := .ref 3) rfl rfl rfl rfl rfl rfl rfl ?_
        refine zeN (q := ((54, [(3, .int (e_Ta_leastFreeRow (14 + 12 * t.toNatClampNeg) w)), (0, .ref 0), (1, .int t), (2, .int v)], [.int t, .ref 3]), yhp (e_Ta_put (14 + 12 * t.toNatClampNeg) (e_Ta_leastFreeRow (14 + 12 * t.toNatClampNeg) w) v (w.2.2 0 5) w) G sz)) 1 rfl ?_
        refine yfI rfl rfl ht ?_
        refine zeN (q := ((56, [(3, .int (e_Ta_leastFreeRow (14 + 12 * t.toNatClampNeg) w)), (0, .ref 0), (1, .int t), (2, .int v)], [.ref 0, .ref (20 + 12 * t.toNatClampNeg)]), yhp (e_Ta_put (14 + 12 * t.toNatClampNeg) (e_Ta_leastFreeRow (14 + 12 * t.toNatClampNeg) w) v (w.2.2 0 5) w) G sz)) 1 rfl ?_
        refine ygf (kk := .inr 2) (v := yrv ((e_Ta_put (14 + 12 * t.toNatClampNeg) (e_Ta_leastFreeRow (14 + 12 * t.toNatClampNeg) w) v (w.2.2 0 5) w).2.2 0 5)) rfl rfl rfl rfl rfl rfl rfl ?_
        rw [yrv_nn hFn2]
        refine ygb rfl rfl rfl rfl hF2 ?_
        refine zec 1 (M' := M_In_add) (qq := ([.ref (20 + 12 * t.toNatClampNeg), .ref ((yd ((e_Ta_put (14 + 12 * t.toNatClampNeg) (e_Ta_leastFreeRow (14 + 12 * t.toNatClampNeg) w) v (w.2.2 0 5) w).2.2 0 5)) + 3)], [])) (s' := (65, [(3, .int (e_Ta_leastFreeRow (14 + 12 * t.toNatClampNeg) w)), (0, .ref 0), (1, .int t), (2, .int v)], [])) rfl rfl (fun _ => rfl) rfl rfl (zhk rfl (zrc_ok (yhp_o (yId_t ht).1)) rfl) (r_In_add G _ (yd ((e_Ta_put (14 + 12 * t.toNatClampNeg) (e_Ta_leastFreeRow (14 + 12 * t.toNatClampNeg) w) v (w.2.2 0 5) w).2.2 0 5)) _ (yId_t ht) hI2 hF2 (by omega)) rfl ?_
        refine zeN (q := ((66, [(3, .int (e_Ta_leastFreeRow (14 + 12 * t.toNatClampNeg) w)), (0, .ref 0), (1, .int t), (2, .int v)], [.int (e_Ta_leastFreeRow (14 + 12 * t.toNatClampNeg) w)]), yhp (e_In_add G (20 + 12 * t.toNatClampNeg) (yd ((e_Ta_put (14 + 12 * t.toNatClampNeg) (e_Ta_leastFreeRow (14 + 12 * t.toNatClampNeg) w) v (w.2.2 0 5) w).2.2 0 5)) (e_Ta_put (14 + 12 * t.toNatClampNeg) (e_Ta_leastFreeRow (14 + 12 * t.toNatClampNeg) w) v (w.2.2 0 5) w)) G sz)) 1 rfl ?_
        exact zer rfl rfl
      · rw [c29]
        refine zeN (q := ((33, [(3, .int (e_Ta_leastFreeRow (14 + 12 * t.toNatClampNeg) w)), (0, .ref 0), (1, .int t), (2, .int v)], [.int ((-1))]), yhp w G sz)) 1 rfl ?_
        exact zer rfl rfl
    · rw [c11]
      refine zeN (q := ((15, [(0, .ref 0), (1, .int t), (2, .int v)], [.int ((-1))]), yhp w G sz)) 1 rfl ?_
      exact zer rfl rfl
def e_ST_delete (G : List zC) (t q : Int32) (w : yW) : yW × Int32 := (bif yS (e_ST_placeOf t q w) then (e_In_rebuild G (20 + 12 * t.toNatClampNeg) (14 + 12 * t.toNatClampNeg) (e_Ta_put (14 + 12 * t.toNatClampNeg) q 0 none w), 1) else (w, 0))
set_option maxRecDepth 100000 in
theorem r_ST_delete {fr lo sz : Nat} (G : List zC) (t q : Int32) (w : yW) (hI : zIx t 2 → yIn w (20 + 12 * t.toNatClampNeg)) (hR : yRk w G) (hlo : 139 ≤ lo) : zAns (fr + 5) lo 39 [.ref 0, .int t, .int q] (yhp w G sz) (some (.int ((e_ST_delete G t q w).2)), yhp ((e_ST_delete G t q w).1) G sz) := by
  unfold e_ST_delete
  refine zeb (fr := fr + 4) (M := M_ST_delete) rfl (Nat.le_trans (by decide) hlo) rfl ?_
  have e0 : mL M_ST_delete = 3 := rfl
  refine zeN (q := ((3, [(0, .ref 0), (1, .int t), (2, .int q)], [.int q, .int t, .ref 0]), yhp w G sz)) 3 rfl ?_
  refine zec 1 (M' := M_ST_placeOf) (qq := ([.ref 0, .int t, .int q], [])) (s' := (6, [(0, .ref 0), (1, .int t), (2, .int q)], [yrv (e_ST_placeOf t q w)])) rfl rfl (fun _ => rfl) rfl rfl (zhk rfl (zrc_ok (yhp_o rfl)) rfl) (r_ST_placeOf t q _ (by omega)) rfl ?_
  refine zbc (q1 := (11, [(0, .ref 0), (1, .int t), (2, .int q)], [])) (q2 := (9, [(0, .ref 0), (1, .int t), (2, .int q)], [])) (cB := yS (e_ST_placeOf t q w)) (off := 5) (lv := [(0, .ref 0), (1, .int t), (2, .int q)]) (st := []) rfl rfl (ybns (e_ST_placeOf t q w)) rfl rfl (fun c6 => ?_) (fun c6 => ?_)
  · rw [c6]
    have ht := placeOf_t (yNS c6)
    refine zeN (q := ((12, [(0, .ref 0), (1, .int t), (2, .int q)], [.ref 0]), yhp w G sz)) 1 rfl ?_
    refine ygf (kk := .inl (.ref 1)) (v := .ref 1) rfl rfl rfl rfl rfl rfl rfl ?_
    refine zeN (q := ((16, [(0, .ref 0), (1, .int t), (2, .int q)], [.int t, .ref 1]), yhp w G sz)) 1 rfl ?_
    refine yfP rfl rfl ht ?_
    refine zeN (q := ((20, [(0, .ref 0), (1, .int t), (2, .int q)], [.null, .int 0, .int q, .ref (14 + 12 * t.toNatClampNeg)]), yhp w G sz)) 3 rfl ?_
    refine zec 1 (M' := M_Ta_put) (qq := ([.ref (14 + 12 * t.toNatClampNeg), .int q, .int 0, .null], [])) (s' := (23, [(0, .ref 0), (1, .int t), (2, .int q)], [])) rfl rfl (fun _ => rfl) rfl rfl (zhk rfl (zrc_ok (yhp_o (yTb_P ht).1)) rfl) (r_Ta_put _ _ _ none _ (yTb_P ht) (fun x h => by cases h) (by omega)) rfl ?_
    have hR2 : yRk (e_Ta_put (14 + 12 * t.toNatClampNeg) q 0 none w) G := yRk_put hR (fun x h => by cases h)
    have hI2 : yIn (e_Ta_put (14 + 12 * t.toNatClampNeg) q 0 none w) (20 + 12 * t.toNatClampNeg) := yIn_put (hI ht) (by omega) (by omega)
    refine zeN (q := ((24, [(0, .ref 0), (1, .int t), (2, .int q)], [.ref 0]), yhp (e_Ta_put (14 + 12 * t.toNatClampNeg) q 0 none w) G sz)) 1 rfl ?_
    refine ygf (kk := .inl (.ref 3)) (v := .ref 3) rfl rfl rfl rfl rfl rfl rfl ?_
    refine zeN (q := ((28, [(0, .ref 0), (1, .int t), (2, .int q)], [.int t, .ref 3]), yhp (e_Ta_put (14 + 12 * t.toNatClampNeg) q 0 none w) G sz)) 1 rfl ?_
    refine yfI rfl rfl ht ?_
    refine zeN (q := ((30, [(0, .ref 0), (1, .int t), (2, .int q)], [.ref 0, .ref (20 + 12 * t.toNatClampNeg)]), yhp (e_Ta_put (14 + 12 * t.toNatClampNeg) q 0 none w) G sz)) 1 rfl ?_
    refine ygf (kk := .inl (.ref 1)) (v := .ref 1) rfl rfl rfl rfl rfl rfl rfl ?_
    refine zeN (q := ((34, [(0, .ref 0), (1, .int t), (2, .int q)], [.int t, .ref 1, .ref (20 + 12 * t.toNatClampNeg)]), yhp (e_Ta_put (14 + 12 * t.toNatClampNeg) q 0 none w) G sz)) 1 rfl ?_
    refine yfP rfl rfl ht ?_
    refine zec 1 (M' := M_In_rebuild) (qq := ([.ref (20 + 12 * t.toNatClampNeg), .ref (14 + 12 * t.toNatClampNeg)], [])) (s' := (38, [(0, .ref 0), (1, .int t), (2, .int q)], [])) rfl rfl (fun _ => rfl) rfl rfl (zhk rfl (zrc_ok (yhp_o (yId_t ht).1)) rfl) (r_In_rebuild G _ _ _ (yId_t ht) (yTb_P ht) hI2 hR2 (by omega)) rfl ?_
    refine zeN (q := ((39, [(0, .ref 0), (1, .int t), (2, .int q)], [.int 1]), yhp (e_In_rebuild G (20 + 12 * t.toNatClampNeg) (14 + 12 * t.toNatClampNeg) (e_Ta_put (14 + 12 * t.toNatClampNeg) q 0 none w)) G sz)) 1 rfl ?_
    exact zer rfl rfl
  · rw [c6]
    refine zeN (q := ((10, [(0, .ref 0), (1, .int t), (2, .int q)], [.int 0]), yhp w G sz)) 1 rfl ?_
    exact zer rfl rfl
def e_ST_update (G : List zC) (t q v mv : Int32) (w : yW) : yW × Int32 := (bif yN (e_ST_placeOf t q w) then (w, 0) else (bif zc .eq mv 0 then (e_Ta_put (14 + 12 * t.toNatClampNeg) q v (some (yd (e_ST_placeOf t q w))) w, 1) else (bif yS (w.2.2 0 5) then (e_In_rebuild G (20 + 12 * t.toNatClampNeg) (14 + 12 * t.toNatClampNeg) (e_Ta_put (14 + 12 * t.toNatClampNeg) q v (w.2.2 0 5) w), 1) else (w, 0))))
set_option maxRecDepth 100000 in
theorem r_ST_update {fr lo sz : Nat} (G : List zC) (t q v mv : Int32) (w : yW) (hI : zIx t 2 → yIn w (20 + 12 * t.toNatClampNeg)) (hR : yRk w G) (hlo : 142 ≤ lo) : zAns (fr + 5) lo 43 [.ref 0, .int t, .int q, .int v, .int mv] (yhp w G sz) (some (.int ((e_ST_update G t q v mv w).2)), yhp ((e_ST_update G t q v mv w).1) G sz) := by
  unfold e_ST_update
  refine zeb (fr := fr + 4) (M := M_ST_update) rfl (Nat.le_trans (by decide) hlo) rfl ?_
  have e0 : mL M_ST_update = 6 := rfl
  refine zeN (q := ((3, [(0, .ref 0), (1, .int t), (2, .int q), (3, .int v), (4, .int mv)], [.int q, .int t, .ref 0]), yhp w G sz)) 3 rfl ?_
  refine zec 1 (M' := M_ST_placeOf) (qq := ([.ref 0, .int t, .int q], [])) (s' := (6, [(0, .ref 0), (1, .int t), (2, .int q), (3, .int v), (4, .int mv)], [yrv (e_ST_placeOf t q w)])) rfl rfl (fun _ => rfl) rfl rfl (zhk rfl (zrc_ok (yhp_o rfl)) rfl) (r_ST_placeOf t q _ (by omega)) rfl ?_
  refine ysp (fun c3 => ?_) (fun c3 => ?_)
  · rw [c3]
    refine zeN (q := ((26, [(5, .null), (0, .ref 0), (1, .int t), (2, .int q), (3, .int v), (4, .int mv)], [.int 0]), yhp w G sz)) 4 rfl ?_
    exact zer rfl rfl
  · rw [c3]
    refine zeN (q := ((13, [(5, .ref (yd (e_ST_placeOf t q w))), (0, .ref 0), (1, .int t), (2, .int q), (3, .int v), (4, .int mv)], []), yhp w G sz)) 3 rfl ?_
    have ht := placeOf_t c3
    refine zeN (q := ((15, [(5, .ref (yd (e_ST_placeOf t q w))), (0, .ref 0), (1, .int t), (2, .int q), (3, .int v), (4, .int mv)], [.int mv]), yhp w G sz)) 1 rfl ?_
    refine zbc (q1 := (27, [(5, .ref (yd (e_ST_placeOf t q w))), (0, .ref 0), (1, .int t), (2, .int q), (3, .int v), (4, .int mv)], [])) (q2 := (18, [(5, .ref (yd (e_ST_placeOf t q w))), (0, .ref 0), (1, .int t), (2, .int q), (3, .int v), (4, .int mv)], [])) (cB := zc .eq mv 0) (off := 12) (lv := [(5, .ref (yd (e_ST_placeOf t q w))), (0, .ref 0), (1, .int t), (2, .int q), (3, .int v), (4, .int mv)]) (st := []) rfl rfl rfl rfl rfl (fun c15 => ?_) (fun c15 => ?_)
    · rw [c15]
      refine zeN (q := ((28, [(5, .ref (yd (e_ST_placeOf t q w))), (0, .ref 0), (1, .int t), (2, .int q), (3, .int v), (4, .int mv)], [.ref 0]), yhp w G sz)) 1 rfl ?_
      refine ygf (kk := .inl (.ref 1)) (v := .ref 1) rfl rfl rfl rfl rfl rfl rfl ?_
      refine zeN (q := ((32, [(5, .ref (yd (e_ST_placeOf t q w))), (0, .ref 0), (1, .int t), (2, .int q), (3, .int v), (4, .int mv)], [.int t, .ref 1]), yhp w G sz)) 1 rfl ?_
      refine yfP rfl rfl ht ?_
      refine zeN (q := ((37, [(5, .ref (yd (e_ST_placeOf t q w))), (0, .ref 0), (1, .int t), (2, .int q), (3, .int v), (4, .int mv)], [.int mv, .int v, .int q, .ref (14 + 12 * t.toNatClampNeg)]), yhp w G sz)) 3 rfl ?_
      refine zbc (q1 := (47, [(5, .ref (yd (e_ST_placeOf t q w))), (0, .ref 0), (1, .int t), (2, .int q), (3, .int v), (4, .int mv)], [.int v, .int q, .ref (14 + 12 * t.toNatClampNeg)])) (q2 := (40, [(5, .ref (yd (e_ST_placeOf t q w))), (0, .ref 0), (1, .int t), (2, .int q), (3, .int v), (4, .int mv)], [.int v, .int q, .ref (14 + 12 * t.toNatClampNeg)])) (cB := zc .eq mv 0) (off := 10) (lv := [(5, .ref (yd (e_ST_placeOf t q w))), (0, .ref 0), (1, .int t), (2, .int q), (3, .int v), (4, .int mv)]) (st := [.int v, .int q, .ref (14 + 12 * t.toNatClampNeg)]) rfl rfl rfl rfl rfl (fun c37 => ?_) (fun c37 => absurd (c15.symm.trans c37) (by decide))
      refine zeN (q := ((49, [(5, .ref (yd (e_ST_placeOf t q w))), (0, .ref 0), (1, .int t), (2, .int q), (3, .int v), (4, .int mv)], [.ref (yd (e_ST_placeOf t q w)), .int v, .int q, .ref (14 + 12 * t.toNatClampNeg)]), yhp w G sz)) 1 rfl ?_
      refine zec 1 (M' := M_Ta_put) (qq := ([.ref (14 + 12 * t.toNatClampNeg), .int q, .int v, .ref (yd (e_ST_placeOf t q w))], [])) (s' := (52, [(5, .ref (yd (e_ST_placeOf t q w))), (0, .ref 0), (1, .int t), (2, .int q), (3, .int v), (4, .int mv)], [])) rfl rfl (fun _ => rfl) rfl rfl (zhk rfl (zrc_ok (yhp_o (yTb_P ht).1)) rfl) (r_Ta_put _ _ _ (some (yd (e_ST_placeOf t q w))) _ (yTb_P ht) (fun x h => by cases h; exact placeOf_n hR c3) (by omega)) rfl ?_
      refine zeN (q := ((54, [(5, .ref (yd (e_ST_placeOf t q w))), (0, .ref 0), (1, .int t), (2, .int q), (3, .int v), (4, .int mv)], [.int mv]), yhp (e_Ta_put (14 + 12 * t.toNatClampNeg) q v (some (yd (e_ST_placeOf t q w))) w) G sz)) 1 rfl ?_
      refine zbc (q1 := (72, [(5, .ref (yd (e_ST_placeOf t q w))), (0, .ref 0), (1, .int t), (2, .int q), (3, .int v), (4, .int mv)], [])) (q2 := (57, [(5, .ref (yd (e_ST_placeOf t q w))), (0, .ref 0), (1, .int t), (2, .int q), (3, .int v), (4, .int mv)], [])) (cB := zc .eq mv 0) (off := 18) (lv := [(5, .ref (yd (e_ST_placeOf t q w))), (0, .ref 0), (1, .int t), (2, .int q), (3, .int v), (4, .int mv)]) (st := []) rfl rfl rfl rfl rfl (fun c54 => ?_) (fun c54 => absurd (c15.symm.trans c54) (by decide))
      refine zeN (q := ((73, [(5, .ref (yd (e_ST_placeOf t q w))), (0, .ref 0), (1, .int t), (2, .int q), (3, .int v), (4, .int mv)], [.int 1]), yhp (e_Ta_put (14 + 12 * t.toNatClampNeg) q v (some (yd (e_ST_placeOf t q w))) w) G sz)) 1 rfl ?_
      exact zer rfl rfl
    · rw [c15]
      refine zeN (q := ((19, [(5, .ref (yd (e_ST_placeOf t q w))), (0, .ref 0), (1, .int t), (2, .int q), (3, .int v), (4, .int mv)], [.ref 0]), yhp w G sz)) 1 rfl ?_
      refine ygf (kk := .inr 2) (v := yrv (w.2.2 0 5)) rfl rfl rfl rfl rfl rfl rfl ?_
      refine zbc (q1 := (27, [(5, .ref (yd (e_ST_placeOf t q w))), (0, .ref 0), (1, .int t), (2, .int q), (3, .int v), (4, .int mv)], [])) (q2 := (25, [(5, .ref (yd (e_ST_placeOf t q w))), (0, .ref 0), (1, .int t), (2, .int q), (3, .int v), (4, .int mv)], [])) (cB := yS (w.2.2 0 5)) (off := 5) (lv := [(5, .ref (yd (e_ST_placeOf t q w))), (0, .ref 0), (1, .int t), (2, .int q), (3, .int v), (4, .int mv)]) (st := []) rfl rfl (ybns (w.2.2 0 5)) rfl rfl (fun c22 => ?_) (fun c22 => ?_)
      · rw [c22]
        refine zeN (q := ((28, [(5, .ref (yd (e_ST_placeOf t q w))), (0, .ref 0), (1, .int t), (2, .int q), (3, .int v), (4, .int mv)], [.ref 0]), yhp w G sz)) 1 rfl ?_
        refine ygf (kk := .inl (.ref 1)) (v := .ref 1) rfl rfl rfl rfl rfl rfl rfl ?_
        refine zeN (q := ((32, [(5, .ref (yd (e_ST_placeOf t q w))), (0, .ref 0), (1, .int t), (2, .int q), (3, .int v), (4, .int mv)], [.int t, .ref 1]), yhp w G sz)) 1 rfl ?_
        refine yfP rfl rfl ht ?_
        refine zeN (q := ((37, [(5, .ref (yd (e_ST_placeOf t q w))), (0, .ref 0), (1, .int t), (2, .int q), (3, .int v), (4, .int mv)], [.int mv, .int v, .int q, .ref (14 + 12 * t.toNatClampNeg)]), yhp w G sz)) 3 rfl ?_
        refine zbc (q1 := (47, [(5, .ref (yd (e_ST_placeOf t q w))), (0, .ref 0), (1, .int t), (2, .int q), (3, .int v), (4, .int mv)], [.int v, .int q, .ref (14 + 12 * t.toNatClampNeg)])) (q2 := (40, [(5, .ref (yd (e_ST_placeOf t q w))), (0, .ref 0), (1, .int t), (2, .int q), (3, .int v), (4, .int mv)], [.int v, .int q, .ref (14 + 12 * t.toNatClampNeg)])) (cB := zc .eq mv 0) (off := 10) (lv := [(5, .ref (yd (e_ST_placeOf t q w))), (0, .ref 0), (1, .int t), (2, .int q), (3, .int v), (4, .int mv)]) (st := [.int v, .int q, .ref (14 + 12 * t.toNatClampNeg)]) rfl rfl rfl rfl rfl (fun c37 => absurd (c15.symm.trans c37) (by decide)) (fun c37 => ?_)
        refine zeN (q := ((41, [(5, .ref (yd (e_ST_placeOf t q w))), (0, .ref 0), (1, .int t), (2, .int q), (3, .int v), (4, .int mv)], [.ref 0, .int v, .int q, .ref (14 + 12 * t.toNatClampNeg)]), yhp w G sz)) 1 rfl ?_
        refine ygf (kk := .inr 2) (v := yrv (w.2.2 0 5)) rfl rfl rfl rfl rfl rfl rfl ?_
        refine zeN (q := ((49, [(5, .ref (yd (e_ST_placeOf t q w))), (0, .ref 0), (1, .int t), (2, .int q), (3, .int v), (4, .int mv)], [yrv (w.2.2 0 5), .int v, .int q, .ref (14 + 12 * t.toNatClampNeg)]), yhp w G sz)) 1 rfl ?_
        refine zec 1 (M' := M_Ta_put) (qq := ([.ref (14 + 12 * t.toNatClampNeg), .int q, .int v, yrv (w.2.2 0 5)], [])) (s' := (52, [(5, .ref (yd (e_ST_placeOf t q w))), (0, .ref 0), (1, .int t), (2, .int q), (3, .int v), (4, .int mv)], [])) rfl rfl (fun _ => rfl) rfl rfl (zhk rfl (zrc_ok (yhp_o (yTb_P ht).1)) rfl) (r_Ta_put _ _ _ (w.2.2 0 5) _ (yTb_P ht) (fun x h => hR _ _ x h) (by omega)) rfl ?_
        refine zeN (q := ((54, [(5, .ref (yd (e_ST_placeOf t q w))), (0, .ref 0), (1, .int t), (2, .int q), (3, .int v), (4, .int mv)], [.int mv]), yhp (e_Ta_put (14 + 12 * t.toNatClampNeg) q v (w.2.2 0 5) w) G sz)) 1 rfl ?_
        refine zbc (q1 := (72, [(5, .ref (yd (e_ST_placeOf t q w))), (0, .ref 0), (1, .int t), (2, .int q), (3, .int v), (4, .int mv)], [])) (q2 := (57, [(5, .ref (yd (e_ST_placeOf t q w))), (0, .ref 0), (1, .int t), (2, .int q), (3, .int v), (4, .int mv)], [])) (cB := zc .eq mv 0) (off := 18) (lv := [(5, .ref (yd (e_ST_placeOf t q w))), (0, .ref 0), (1, .int t), (2, .int q), (3, .int v), (4, .int mv)]) (st := []) rfl rfl rfl rfl rfl (fun c54 => absurd (c15.symm.trans c54) (by decide)) (fun c54 => ?_)
        have hR2 : yRk (e_Ta_put (14 + 12 * t.toNatClampNeg) q v (w.2.2 0 5) w) G := yRk_put hR (by first | exact (fun x h => hR _ _ x h) | exact (fun x h => by cases h; exact placeOf_n hR c3))
        have hI2 : yIn (e_Ta_put (14 + 12 * t.toNatClampNeg) q v (w.2.2 0 5) w) (20 + 12 * t.toNatClampNeg) := yIn_put (hI ht) (by omega) (by omega)
        refine zeN (q := ((58, [(5, .ref (yd (e_ST_placeOf t q w))), (0, .ref 0), (1, .int t), (2, .int q), (3, .int v), (4, .int mv)], [.ref 0]), yhp (e_Ta_put (14 + 12 * t.toNatClampNeg) q v (w.2.2 0 5) w) G sz)) 1 rfl ?_
        refine ygf (kk := .inl (.ref 3)) (v := .ref 3) rfl rfl rfl rfl rfl rfl rfl ?_
        refine zeN (q := ((62, [(5, .ref (yd (e_ST_placeOf t q w))), (0, .ref 0), (1, .int t), (2, .int q), (3, .int v), (4, .int mv)], [.int t, .ref 3]), yhp (e_Ta_put (14 + 12 * t.toNatClampNeg) q v (w.2.2 0 5) w) G sz)) 1 rfl ?_
        refine yfI rfl rfl ht ?_
        refine zeN (q := ((64, [(5, .ref (yd (e_ST_placeOf t q w))), (0, .ref 0), (1, .int t), (2, .int q), (3, .int v), (4, .int mv)], [.ref 0, .ref (20 + 12 * t.toNatClampNeg)]), yhp (e_Ta_put (14 + 12 * t.toNatClampNeg) q v (w.2.2 0 5) w) G sz)) 1 rfl ?_
        refine ygf (kk := .inl (.ref 1)) (v := .ref 1) rfl rfl rfl rfl rfl rfl rfl ?_
        refine zeN (q := ((68, [(5, .ref (yd (e_ST_placeOf t q w))), (0, .ref 0), (1, .int t), (2, .int q), (3, .int v), (4, .int mv)], [.int t, .ref 1, .ref (20 + 12 * t.toNatClampNeg)]), yhp (e_Ta_put (14 + 12 * t.toNatClampNeg) q v (w.2.2 0 5) w) G sz)) 1 rfl ?_
        refine yfP rfl rfl ht ?_
        refine zec 1 (M' := M_In_rebuild) (qq := ([.ref (20 + 12 * t.toNatClampNeg), .ref (14 + 12 * t.toNatClampNeg)], [])) (s' := (72, [(5, .ref (yd (e_ST_placeOf t q w))), (0, .ref 0), (1, .int t), (2, .int q), (3, .int v), (4, .int mv)], [])) rfl rfl (fun _ => rfl) rfl rfl (zhk rfl (zrc_ok (yhp_o (yId_t ht).1)) rfl) (r_In_rebuild G _ _ _ (yId_t ht) (yTb_P ht) hI2 hR2 (by omega)) rfl ?_
        refine zeN (q := ((73, [(5, .ref (yd (e_ST_placeOf t q w))), (0, .ref 0), (1, .int t), (2, .int q), (3, .int v), (4, .int mv)], [.int 1]), yhp (e_In_rebuild G (20 + 12 * t.toNatClampNeg) (14 + 12 * t.toNatClampNeg) (e_Ta_put (14 + 12 * t.toNatClampNeg) q v (w.2.2 0 5) w)) G sz)) 1 rfl ?_
        exact zer rfl rfl
      · rw [c22]
        refine zeN (q := ((26, [(5, .ref (yd (e_ST_placeOf t q w))), (0, .ref 0), (1, .int t), (2, .int q), (3, .int v), (4, .int mv)], [.int 0]), yhp w G sz)) 1 rfl ?_
        exact zer rfl rfl
