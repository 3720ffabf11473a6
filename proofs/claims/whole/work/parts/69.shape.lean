def g_ST_shape_40 (G : List zC) (kd : Int32) (g : Nat) (w : yW)  : yW × Int32 := (bif zc .ne (f_Ge_fault (gX G g) (gY G g) (gK G g)) 0 then (e_Dr_clear w, f_Ge_fault (gX G g) (gY G g) (gK G g)) else (wR (e_Dr_clear w) 0 5 (some g), f_Ge_fault (gX G g) (gY G g) (gK G g)))
set_option maxRecDepth 100000 in
theorem t_ST_shape_40 {fr lo sz : Nat} (G : List zC) (kd : Int32) (g : Nat) (w : yW)  (hx : yOk G g) (hlo : 180 ≤ lo)  : zRun (fr + 6) lo none M_ST_shape (40, [(0, .ref 0), (1, .int kd), (2, .ref g)], []) (yhp w G sz) (some (.int ((g_ST_shape_40 G kd g w ).2)), yhp ((g_ST_shape_40 G kd g w ).1) G sz) := by
  unfold g_ST_shape_40
  refine zeN (q := ((41, [(0, .ref 0), (1, .int kd), (2, .ref g)], [.ref 0]), yhp w G sz)) 1 rfl ?_
  refine ygf (kk := .inl (.ref 6)) (v := .ref 6) rfl rfl rfl rfl rfl rfl rfl ?_
  refine zec 1 (M' := M_Dr_clear) (qq := ([.ref 6], [])) (s' := (47, [(0, .ref 0), (1, .int kd), (2, .ref g)], [])) rfl rfl (fun _ => rfl) rfl rfl (zhk rfl (zrc_ok (yhp_o rfl)) rfl) (r_Dr_clear _ (by omega)) rfl ?_
  refine zeN (q := ((48, [(0, .ref 0), (1, .int kd), (2, .ref g)], [.ref g]), yhp (e_Dr_clear w) G sz)) 1 rfl ?_
  refine zec 1 (M' := M_Ge_fault) (qq := ([.ref g], [])) (s' := (51, [(0, .ref 0), (1, .int kd), (2, .ref g)], [.int (f_Ge_fault (gX G g) (gY G g) (gK G g))])) rfl rfl (fun _ => rfl) rfl rfl (zhk rfl (zrc_ok (yGo hx)) rfl) (y_fault hx (by omega)) rfl ?_
  refine zeN (q := ((53, [(3, .int (f_Ge_fault (gX G g) (gY G g) (gK G g))), (0, .ref 0), (1, .int kd), (2, .ref g)], [.int (f_Ge_fault (gX G g) (gY G g) (gK G g))]), yhp (e_Dr_clear w) G sz)) 2 rfl ?_
  refine zbc (q1 := (61, [(3, .int (f_Ge_fault (gX G g) (gY G g) (gK G g))), (0, .ref 0), (1, .int kd), (2, .ref g)], [])) (q2 := (56, [(3, .int (f_Ge_fault (gX G g) (gY G g) (gK G g))), (0, .ref 0), (1, .int kd), (2, .ref g)], [])) (cB := zc .ne (f_Ge_fault (gX G g) (gY G g) (gK G g)) 0) (off := 8) (lv := [(3, .int (f_Ge_fault (gX G g) (gY G g) (gK G g))), (0, .ref 0), (1, .int kd), (2, .ref g)]) (st := []) rfl rfl rfl rfl rfl (fun c53 => ?_) (fun c53 => ?_)
  · rw [c53]
    refine zeN (q := ((62, [(3, .int (f_Ge_fault (gX G g) (gY G g) (gK G g))), (0, .ref 0), (1, .int kd), (2, .ref g)], [.int (f_Ge_fault (gX G g) (gY G g) (gK G g))]), yhp (e_Dr_clear w) G sz)) 1 rfl ?_
    exact zer rfl rfl
  · rw [c53]
    refine zeN (q := ((58, [(3, .int (f_Ge_fault (gX G g) (gY G g) (gK G g))), (0, .ref 0), (1, .int kd), (2, .ref g)], [.ref g, .ref 0]), yhp (e_Dr_clear w) G sz)) 2 rfl ?_
    refine ypR (v := some g) rfl rfl rfl rfl rfl rfl rfl ?_
    refine zeN (q := ((62, [(3, .int (f_Ge_fault (gX G g) (gY G g) (gK G g))), (0, .ref 0), (1, .int kd), (2, .ref g)], [.int (f_Ge_fault (gX G g) (gY G g) (gK G g))]), yhp (wR (e_Dr_clear w) 0 5 (some g)) G sz)) 1 rfl ?_
    exact zer rfl rfl
set_option maxRecDepth 100000 in
theorem r_ST_shape_a {fr lo sz : Nat} {G : List zC} (kd : Int32) (w : yW) (h1 : zc .lt kd 0 = true) (hlo : 223 ≤ lo) : zAns (fr + 7) lo 10 [.ref 0, .int kd] (yhp w G sz) (some (.int (-1)), yhp w G sz) := by
  refine zeb (fr := fr + 6) (M := M_ST_shape) rfl (Nat.le_trans (by decide) hlo) rfl ?_
  have e0 : mL M_ST_shape = 4 := rfl
  refine zeP (s' := (1, [(0, .ref 0), (1, .int kd)], [.int kd])) 1 (fun _ => rfl) ?_
  refine zbc (q1 := (9, [(0, .ref 0), (1, .int kd)], [])) (q2 := (4, [(0, .ref 0), (1, .int kd)], [])) (cB := zc .lt kd 0) (off := 8) (lv := [(0, .ref 0), (1, .int kd)]) (st := []) rfl rfl rfl rfl rfl (fun c => ?_) (fun c => absurd (c.symm.trans h1) (by decide))
  refine zeP (s' := (10, [(0, .ref 0), (1, .int kd)], [.int (-1)])) 1 (fun _ => rfl) ?_
  exact zer rfl rfl
set_option maxRecDepth 100000 in
theorem r_ST_shape_b {fr lo sz : Nat} {G : List zC} (kd : Int32) (w : yW) (h1 : zc .lt kd 0 = false) (h2 : zc .le kd 2 = false) (hlo : 223 ≤ lo) : zAns (fr + 7) lo 10 [.ref 0, .int kd] (yhp w G sz) (some (.int (-1)), yhp w G sz) := by
  refine zeb (fr := fr + 6) (M := M_ST_shape) rfl (Nat.le_trans (by decide) hlo) rfl ?_
  have e0 : mL M_ST_shape = 4 := rfl
  refine zeP (s' := (1, [(0, .ref 0), (1, .int kd)], [.int kd])) 1 (fun _ => rfl) ?_
  refine zbc (q1 := (9, [(0, .ref 0), (1, .int kd)], [])) (q2 := (4, [(0, .ref 0), (1, .int kd)], [])) (cB := zc .lt kd 0) (off := 8) (lv := [(0, .ref 0), (1, .int kd)]) (st := []) rfl rfl rfl rfl rfl (fun c => absurd (c.symm.trans h1) (by decide)) (fun c => ?_)
  refine zeP (s' := (6, [(0, .ref 0), (1, .int kd)], [.int 2, .int kd])) 2 (fun _ => rfl) ?_
  refine zbc (q1 := (11, [(0, .ref 0), (1, .int kd)], [])) (q2 := (9, [(0, .ref 0), (1, .int kd)], [])) (cB := zc .le kd 2) (off := 5) (lv := [(0, .ref 0), (1, .int kd)]) (st := []) rfl rfl rfl rfl rfl (fun c => absurd (c.symm.trans h2) (by decide)) (fun c => ?_)
  refine zeP (s' := (10, [(0, .ref 0), (1, .int kd)], [.int (-1)])) 1 (fun _ => rfl) ?_
  exact zer rfl rfl
set_option maxRecDepth 100000 in
theorem r_ST_shape_c {fr lo sz : Nat} {G : List zC} (kd : Int32) (w : yW) (h1 : zc .lt kd 0 = false) (h2 : zc .le kd 2 = true) (h3 : zc .ne (e_Dr_hasCountFor kd w) 0 = false) (hlo : 223 ≤ lo) : zAns (fr + 7) lo 10 [.ref 0, .int kd] (yhp w G sz) (some (.int 1), yhp (e_Dr_clear w) G sz) := by
  refine zeb (fr := fr + 6) (M := M_ST_shape) rfl (Nat.le_trans (by decide) hlo) rfl ?_
  have e0 : mL M_ST_shape = 4 := rfl
  refine zeP (s' := (1, [(0, .ref 0), (1, .int kd)], [.int kd])) 1 (fun _ => rfl) ?_
  refine zbc (q1 := (9, [(0, .ref 0), (1, .int kd)], [])) (q2 := (4, [(0, .ref 0), (1, .int kd)], [])) (cB := zc .lt kd 0) (off := 8) (lv := [(0, .ref 0), (1, .int kd)]) (st := []) rfl rfl rfl rfl rfl (fun c => absurd (c.symm.trans h1) (by decide)) (fun c => ?_)
  refine zeP (s' := (6, [(0, .ref 0), (1, .int kd)], [.int 2, .int kd])) 2 (fun _ => rfl) ?_
  refine zbc (q1 := (11, [(0, .ref 0), (1, .int kd)], [])) (q2 := (9, [(0, .ref 0), (1, .int kd)], [])) (cB := zc .le kd 2) (off := 5) (lv := [(0, .ref 0), (1, .int kd)]) (st := []) rfl rfl rfl rfl rfl (fun c => ?_) (fun c => absurd (c.symm.trans h2) (by decide))
  refine zeP (s' := (12, [(0, .ref 0), (1, .int kd)], [.ref 0])) 1 (fun _ => rfl) ?_
  refine ygf (kk := .inl (.ref 6)) (v := .ref 6) rfl rfl rfl rfl rfl rfl rfl ?_
  refine zeP (s' := (16, [(0, .ref 0), (1, .int kd)], [.int kd, .ref 6])) 1 (fun _ => rfl) ?_
  refine zec 1 (M' := M_Dr_hasCountFor) (qq := ([.ref 6, .int kd], [])) (s' := (19, [(0, .ref 0), (1, .int kd)], [.int (e_Dr_hasCountFor kd w)])) rfl rfl (fun _ => rfl) rfl rfl (zhk rfl (zrc_ok (yhp_o rfl)) rfl) (r_Dr_hasCountFor kd _ (by omega)) rfl ?_
  refine zbc (q1 := (31, [(0, .ref 0), (1, .int kd)], [])) (q2 := (22, [(0, .ref 0), (1, .int kd)], [])) (cB := zc .ne (e_Dr_hasCountFor kd w) 0) (off := 12) (lv := [(0, .ref 0), (1, .int kd)]) (st := []) rfl rfl rfl rfl rfl (fun c => absurd (c.symm.trans h3) (by decide)) (fun c => ?_)
  refine zeP (s' := (23, [(0, .ref 0), (1, .int kd)], [.ref 0])) 1 (fun _ => rfl) ?_
  refine ygf (kk := .inl (.ref 6)) (v := .ref 6) rfl rfl rfl rfl rfl rfl rfl ?_
  refine zec 1 (M' := M_Dr_clear) (qq := ([.ref 6], [])) (s' := (29, [(0, .ref 0), (1, .int kd)], [])) rfl rfl (fun _ => rfl) rfl rfl (zhk rfl (zrc_ok (yhp_o rfl)) rfl) (r_Dr_clear _ (by omega)) rfl ?_
  refine zeP (s' := (30, [(0, .ref 0), (1, .int kd)], [.int 1])) 1 (fun _ => rfl) ?_
  exact zer rfl rfl
set_option maxRecDepth 100000 in
theorem r_ST_shape_d {fr lo sz : Nat} {G : List zC} (kd : Int32) (w : yW) (g k : Nat) (hg : g = 72 + G.length) (hk : k ≤ 6) (hs : w.1 6 2 = Int32.ofNat k) (hx : yOk (G ++ dCells w k g kd) g) (h1 : zc .lt kd 0 = false) (h2 : zc .le kd 2 = true) (h3 : zc .ne (e_Dr_hasCountFor kd w) 0 = true) (hlo : 223 ≤ lo) : zAns (fr + 7) lo 10 [.ref 0, .int kd] (yhp w G sz) (some (.int (g_ST_shape_40 (G ++ dCells w k g kd) kd g w).2), yhp (g_ST_shape_40 (G ++ dCells w k g kd) kd g w).1 (G ++ dCells w k g kd) (sz + (8 + 2 * k))) := by
  refine zeb (fr := fr + 6) (M := M_ST_shape) rfl (Nat.le_trans (by decide) hlo) rfl ?_
  have e0 : mL M_ST_shape = 4 := rfl
  refine zeP (s' := (1, [(0, .ref 0), (1, .int kd)], [.int kd])) 1 (fun _ => rfl) ?_
  refine zbc (q1 := (9, [(0, .ref 0), (1, .int kd)], [])) (q2 := (4, [(0, .ref 0), (1, .int kd)], [])) (cB := zc .lt kd 0) (off := 8) (lv := [(0, .ref 0), (1, .int kd)]) (st := []) rfl rfl rfl rfl rfl (fun c => absurd (c.symm.trans h1) (by decide)) (fun c => ?_)
  refine zeP (s' := (6, [(0, .ref 0), (1, .int kd)], [.int 2, .int kd])) 2 (fun _ => rfl) ?_
  refine zbc (q1 := (11, [(0, .ref 0), (1, .int kd)], [])) (q2 := (9, [(0, .ref 0), (1, .int kd)], [])) (cB := zc .le kd 2) (off := 5) (lv := [(0, .ref 0), (1, .int kd)]) (st := []) rfl rfl rfl rfl rfl (fun c => ?_) (fun c => absurd (c.symm.trans h2) (by decide))
  refine zeP (s' := (12, [(0, .ref 0), (1, .int kd)], [.ref 0])) 1 (fun _ => rfl) ?_
  refine ygf (kk := .inl (.ref 6)) (v := .ref 6) rfl rfl rfl rfl rfl rfl rfl ?_
  refine zeP (s' := (16, [(0, .ref 0), (1, .int kd)], [.int kd, .ref 6])) 1 (fun _ => rfl) ?_
  refine zec 1 (M' := M_Dr_hasCountFor) (qq := ([.ref 6, .int kd], [])) (s' := (19, [(0, .ref 0), (1, .int kd)], [.int (e_Dr_hasCountFor kd w)])) rfl rfl (fun _ => rfl) rfl rfl (zhk rfl (zrc_ok (yhp_o rfl)) rfl) (r_Dr_hasCountFor kd _ (by omega)) rfl ?_
  refine zbc (q1 := (31, [(0, .ref 0), (1, .int kd)], [])) (q2 := (22, [(0, .ref 0), (1, .int kd)], [])) (cB := zc .ne (e_Dr_hasCountFor kd w) 0) (off := 12) (lv := [(0, .ref 0), (1, .int kd)]) (st := []) rfl rfl rfl rfl rfl (fun c => ?_) (fun c => absurd (c.symm.trans h3) (by decide))
  refine zeP (s' := (32, [(0, .ref 0), (1, .int kd)], [.ref 0])) 1 (fun _ => rfl) ?_
  refine ygf (kk := .inl (.ref 6)) (v := .ref 6) rfl rfl rfl rfl rfl rfl rfl ?_
  refine zeP (s' := (36, [(0, .ref 0), (1, .int kd)], [.int kd, .ref 6])) 1 (fun _ => rfl) ?_
  refine zec 1 (M' := M_Dr_drawn) (qq := ([.ref 6, .int kd], [])) (s' := (39, [(0, .ref 0), (1, .int kd)], [.ref g])) rfl rfl (fun _ => rfl) rfl rfl (zhk rfl (zrc_ok (yhp_o rfl)) rfl) (r_Dr_drawn g k kd hg hk hs (by omega)) rfl ?_
  refine zeP (s' := (40, [(2, .ref g), (0, .ref 0), (1, .int kd)], [])) 1 (fun _ => rfl) ?_
  refine zeS [(0, .ref 0), (1, .int kd), (2, .ref g)] (zsub_pick [1, 2, 0] rfl rfl) ?_
  exact t_ST_shape_40 (G ++ dCells w k g kd) kd g w hx (by omega)
