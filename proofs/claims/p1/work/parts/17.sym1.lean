set_option maxRecDepth 1000000 in
set_option maxHeartbeats 4000000 in
theorem zi_update_lt (t r v w : Int32) (h : t.toInt < 0) : zPair 42 113 [.int t, .int r, .int v, .int w] := by
  refine ⟨0, zh3, zh3, ?_, ?_, rfl, rfl, rfl⟩
  · refine (zcal_go (M := M_ST_update) rfl rfl rfl).trans ?_
    show zloop zmt (zcal zmt 100000 8 395) 9 395 none M_ST_update 100000 (0, [(0, .ref 0), (1, .int t), (2, .int r), (3, .int v), (4, .int w)], []) zh3 = _
    refine (zq1 (q := ((1, [(0, .ref 0), (1, .int t), (2, .int r), (3, .int v), (4, .int w)], [.ref 0]), zh3)) rfl rfl rfl).trans ?_
    refine (zq1 (q := ((2, [(0, .ref 0), (1, .int t), (2, .int r), (3, .int v), (4, .int w)], [.int t, .ref 0]), zh3)) rfl rfl rfl).trans ?_
    refine (zq1 (q := ((3, [(0, .ref 0), (1, .int t), (2, .int r), (3, .int v), (4, .int w)], [.int r, .int t, .ref 0]), zh3)) rfl rfl rfl).trans ?_
    have hc : zcal zmt 100000 8 395 39 [.ref 0, .int t, .int r] zh3 = some (some (.null), zh3) := by
      refine (zcal_go (M := M_ST_placeOf) rfl rfl rfl).trans ?_
      show zloop zmt (zcal zmt 100000 7 373) 8 373 none M_ST_placeOf 100000 (0, [(0, .ref 0), (1, .int t), (2, .int r)], []) zh3 = _
      refine (zq1 (q := ((1, [(0, .ref 0), (1, .int t), (2, .int r)], [.int t]), zh3)) rfl rfl rfl).trans ?_
      have hc : zcal zmt 100000 7 373 29 [.int t] zh3 = some (some (.int 0), zh3) := by
        refine (zcal_go (M := M_ST_isTable) rfl rfl rfl).trans ?_
        show zloop zmt (zcal zmt 100000 6 353) 7 353 none M_ST_isTable 100000 (0, [(0, .int t)], []) zh3 = _
        refine (zq1 (q := ((1, [(0, .int t)], [.int t]), zh3)) rfl rfl rfl).trans ?_
        refine (zqb (q := (13, [(0, .int t)], [])) (cB := zc .lt t (0)) (v := true) (off := 12) (lv := [(0, .int t)]) (r := []) rfl rfl rfl (zcb .lt (x := t) (y := (0)) (k := 0) (by decide) (decide_eq_true (by omega))) rfl).trans ?_
        refine (zq1 (q := ((14, [(0, .int t)], [.int 0]), zh3)) rfl rfl rfl).trans ?_
        exact zqr rfl rfl
      refine (zqc 0 (s' := (4, [(0, .ref 0), (1, .int t), (2, .int r)], [.int 0])) rfl rfl rfl rfl rfl rfl hc rfl).trans ?_
      refine (zq1 (q := ((20, [(0, .ref 0), (1, .int t), (2, .int r)], []), zh3)) rfl rfl rfl).trans ?_
      refine (zq1 (q := ((21, [(0, .ref 0), (1, .int t), (2, .int r)], [.null]), zh3)) rfl rfl rfl).trans ?_
      exact zqr rfl rfl
    refine (zqc 1 (s' := (6, [(0, .ref 0), (1, .int t), (2, .int r), (3, .int v), (4, .int w)], [.null])) rfl rfl rfl rfl rfl rfl hc rfl).trans ?_
    refine (zq1 (q := ((8, [(5, .null), (0, .ref 0), (1, .int t), (2, .int r), (3, .int v), (4, .int w)], []), zh3)) rfl rfl rfl).trans ?_
    refine (zq1 (q := ((10, [(5, .null), (0, .ref 0), (1, .int t), (2, .int r), (3, .int v), (4, .int w)], [.null]), zh3)) rfl rfl rfl).trans ?_
    refine (zq1 (q := ((25, [(5, .null), (0, .ref 0), (1, .int t), (2, .int r), (3, .int v), (4, .int w)], []), zh3)) rfl rfl rfl).trans ?_
    refine (zq1 (q := ((26, [(5, .null), (0, .ref 0), (1, .int t), (2, .int r), (3, .int v), (4, .int w)], [.int 0]), zh3)) rfl rfl rfl).trans ?_
    exact zqr rfl rfl
  · refine (zcal_go (M := M_Mo_update) rfl rfl rfl).trans ?_
    show zloop zmt (zcal zmt 100000 8 395) 9 395 none M_Mo_update 100000 (0, [(0, .ref 54), (1, .int t), (2, .int r), (3, .int v), (4, .int w)], []) zh3 = _
    refine (zq1 (q := ((1, [(0, .ref 54), (1, .int t), (2, .int r), (3, .int v), (4, .int w)], [.ref 54]), zh3)) rfl rfl rfl).trans ?_
    refine (zq1 (q := ((2, [(0, .ref 54), (1, .int t), (2, .int r), (3, .int v), (4, .int w)], [.int t, .ref 54]), zh3)) rfl rfl rfl).trans ?_
    refine (zq1 (q := ((3, [(0, .ref 54), (1, .int t), (2, .int r), (3, .int v), (4, .int w)], [.int r, .int t, .ref 54]), zh3)) rfl rfl rfl).trans ?_
    have hc : zcal zmt 100000 8 395 112 [.ref 54, .int t, .int r] zh3 = some (some (.int (-1)), zh3) := by
      refine (zcal_go (M := M_Mo_slot) rfl rfl rfl).trans ?_
      show zloop zmt (zcal zmt 100000 7 373) 8 373 none M_Mo_slot 100000 (0, [(0, .ref 54), (1, .int t), (2, .int r)], []) zh3 = _
      refine (zq1 (q := ((1, [(0, .ref 54), (1, .int t), (2, .int r)], [.int t]), zh3)) rfl rfl rfl).trans ?_
      have hc : zcal zmt 100000 7 373 108 [.int t] zh3 = some (some (.int 0), zh3) := by
        refine (zcal_go (M := M_Mo_isTable) rfl rfl rfl).trans ?_
        show zloop zmt (zcal zmt 100000 6 353) 7 353 none M_Mo_isTable 100000 (0, [(0, .int t)], []) zh3 = _
        refine (zq1 (q := ((1, [(0, .int t)], [.int t]), zh3)) rfl rfl rfl).trans ?_
        refine (zqb (q := (4, [(0, .int t)], [])) (cB := zc .eq t (0)) (v := false) (off := 8) (lv := [(0, .int t)]) (r := []) rfl rfl rfl (zcb .eq (x := t) (y := (0)) (k := 0) (by decide) (decide_eq_false (by omega))) rfl).trans ?_
        refine (zq1 (q := ((5, [(0, .int t)], [.int t]), zh3)) rfl rfl rfl).trans ?_
        refine (zq1 (q := ((6, [(0, .int t)], [.int 1, .int t]), zh3)) rfl rfl rfl).trans ?_
        refine (zqb (q := (13, [(0, .int t)], [])) (cB := zc .ne t (1)) (v := true) (off := 7) (lv := [(0, .int t)]) (r := []) rfl rfl rfl (zcb .ne (x := t) (y := (1)) (k := 1) (by decide) (decide_eq_true (by omega))) rfl).trans ?_
        refine (zq1 (q := ((14, [(0, .int t)], [.int 0]), zh3)) rfl rfl rfl).trans ?_
        exact zqr rfl rfl
      refine (zqc 0 (s' := (4, [(0, .ref 54), (1, .int t), (2, .int r)], [.int 0])) rfl rfl rfl rfl rfl rfl hc rfl).trans ?_
      refine (zq1 (q := ((40, [(0, .ref 54), (1, .int t), (2, .int r)], []), zh3)) rfl rfl rfl).trans ?_
      refine (zq1 (q := ((41, [(0, .ref 54), (1, .int t), (2, .int r)], [.int (-1)]), zh3)) rfl rfl rfl).trans ?_
      exact zqr rfl rfl
    refine (zqc 1 (s' := (6, [(0, .ref 54), (1, .int t), (2, .int r), (3, .int v), (4, .int w)], [.int (-1)])) rfl rfl rfl rfl rfl rfl hc rfl).trans ?_
    refine (zq1 (q := ((8, [(5, .int (-1)), (0, .ref 54), (1, .int t), (2, .int r), (3, .int v), (4, .int w)], []), zh3)) rfl rfl rfl).trans ?_
    refine (zq1 (q := ((10, [(5, .int (-1)), (0, .ref 54), (1, .int t), (2, .int r), (3, .int v), (4, .int w)], [.int (-1)]), zh3)) rfl rfl rfl).trans ?_
    refine (zq1 (q := ((28, [(5, .int (-1)), (0, .ref 54), (1, .int t), (2, .int r), (3, .int v), (4, .int w)], []), zh3)) rfl rfl rfl).trans ?_
    refine (zq1 (q := ((29, [(5, .int (-1)), (0, .ref 54), (1, .int t), (2, .int r), (3, .int v), (4, .int w)], [.int 0]), zh3)) rfl rfl rfl).trans ?_
    exact zqr rfl rfl
set_option maxRecDepth 1000000 in
set_option maxHeartbeats 4000000 in
theorem zi_update_ge (t r v w : Int32) (h : 2 ≤ t.toInt) : zPair 42 113 [.int t, .int r, .int v, .int w] := by
  refine ⟨0, zh3, zh3, ?_, ?_, rfl, rfl, rfl⟩
  · refine (zcal_go (M := M_ST_update) rfl rfl rfl).trans ?_
    show zloop zmt (zcal zmt 100000 8 395) 9 395 none M_ST_update 100000 (0, [(0, .ref 0), (1, .int t), (2, .int r), (3, .int v), (4, .int w)], []) zh3 = _
    refine (zq1 (q := ((1, [(0, .ref 0), (1, .int t), (2, .int r), (3, .int v), (4, .int w)], [.ref 0]), zh3)) rfl rfl rfl).trans ?_
    refine (zq1 (q := ((2, [(0, .ref 0), (1, .int t), (2, .int r), (3, .int v), (4, .int w)], [.int t, .ref 0]), zh3)) rfl rfl rfl).trans ?_
    refine (zq1 (q := ((3, [(0, .ref 0), (1, .int t), (2, .int r), (3, .int v), (4, .int w)], [.int r, .int t, .ref 0]), zh3)) rfl rfl rfl).trans ?_
    have hc : zcal zmt 100000 8 395 39 [.ref 0, .int t, .int r] zh3 = some (some (.null), zh3) := by
      refine (zcal_go (M := M_ST_placeOf) rfl rfl rfl).trans ?_
      show zloop zmt (zcal zmt 100000 7 373) 8 373 none M_ST_placeOf 100000 (0, [(0, .ref 0), (1, .int t), (2, .int r)], []) zh3 = _
      refine (zq1 (q := ((1, [(0, .ref 0), (1, .int t), (2, .int r)], [.int t]), zh3)) rfl rfl rfl).trans ?_
      have hc : zcal zmt 100000 7 373 29 [.int t] zh3 = some (some (.int 0), zh3) := by
        refine (zcal_go (M := M_ST_isTable) rfl rfl rfl).trans ?_
        show zloop zmt (zcal zmt 100000 6 353) 7 353 none M_ST_isTable 100000 (0, [(0, .int t)], []) zh3 = _
        refine (zq1 (q := ((1, [(0, .int t)], [.int t]), zh3)) rfl rfl rfl).trans ?_
        refine (zqb (q := (4, [(0, .int t)], [])) (cB := zc .lt t (0)) (v := false) (off := 12) (lv := [(0, .int t)]) (r := []) rfl rfl rfl (zcb .lt (x := t) (y := (0)) (k := 0) (by decide) (decide_eq_false (by omega))) rfl).trans ?_
        refine (zq1 (q := ((5, [(0, .int t)], [.int t]), zh3)) rfl rfl rfl).trans ?_
        refine (zq1 (q := ((6, [(0, .int t)], [.int 2, .int t]), zh3)) rfl rfl rfl).trans ?_
        refine (zqb (q := (13, [(0, .int t)], [])) (cB := zc .ge t (2)) (v := true) (off := 7) (lv := [(0, .int t)]) (r := []) rfl rfl rfl (zcb .ge (x := t) (y := (2)) (k := 2) (by decide) (decide_eq_true (by omega))) rfl).trans ?_
        refine (zq1 (q := ((14, [(0, .int t)], [.int 0]), zh3)) rfl rfl rfl).trans ?_
        exact zqr rfl rfl
      refine (zqc 0 (s' := (4, [(0, .ref 0), (1, .int t), (2, .int r)], [.int 0])) rfl rfl rfl rfl rfl rfl hc rfl).trans ?_
      refine (zq1 (q := ((20, [(0, .ref 0), (1, .int t), (2, .int r)], []), zh3)) rfl rfl rfl).trans ?_
      refine (zq1 (q := ((21, [(0, .ref 0), (1, .int t), (2, .int r)], [.null]), zh3)) rfl rfl rfl).trans ?_
      exact zqr rfl rfl
    refine (zqc 1 (s' := (6, [(0, .ref 0), (1, .int t), (2, .int r), (3, .int v), (4, .int w)], [.null])) rfl rfl rfl rfl rfl rfl hc rfl).trans ?_
    refine (zq1 (q := ((8, [(5, .null), (0, .ref 0), (1, .int t), (2, .int r), (3, .int v), (4, .int w)], []), zh3)) rfl rfl rfl).trans ?_
    refine (zq1 (q := ((10, [(5, .null), (0, .ref 0), (1, .int t), (2, .int r), (3, .int v), (4, .int w)], [.null]), zh3)) rfl rfl rfl).trans ?_
    refine (zq1 (q := ((25, [(5, .null), (0, .ref 0), (1, .int t), (2, .int r), (3, .int v), (4, .int w)], []), zh3)) rfl rfl rfl).trans ?_
    refine (zq1 (q := ((26, [(5, .null), (0, .ref 0), (1, .int t), (2, .int r), (3, .int v), (4, .int w)], [.int 0]), zh3)) rfl rfl rfl).trans ?_
    exact zqr rfl rfl
  · refine (zcal_go (M := M_Mo_update) rfl rfl rfl).trans ?_
    show zloop zmt (zcal zmt 100000 8 395) 9 395 none M_Mo_update 100000 (0, [(0, .ref 54), (1, .int t), (2, .int r), (3, .int v), (4, .int w)], []) zh3 = _
    refine (zq1 (q := ((1, [(0, .ref 54), (1, .int t), (2, .int r), (3, .int v), (4, .int w)], [.ref 54]), zh3)) rfl rfl rfl).trans ?_
    refine (zq1 (q := ((2, [(0, .ref 54), (1, .int t), (2, .int r), (3, .int v), (4, .int w)], [.int t, .ref 54]), zh3)) rfl rfl rfl).trans ?_
    refine (zq1 (q := ((3, [(0, .ref 54), (1, .int t), (2, .int r), (3, .int v), (4, .int w)], [.int r, .int t, .ref 54]), zh3)) rfl rfl rfl).trans ?_
    have hc : zcal zmt 100000 8 395 112 [.ref 54, .int t, .int r] zh3 = some (some (.int (-1)), zh3) := by
      refine (zcal_go (M := M_Mo_slot) rfl rfl rfl).trans ?_
      show zloop zmt (zcal zmt 100000 7 373) 8 373 none M_Mo_slot 100000 (0, [(0, .ref 54), (1, .int t), (2, .int r)], []) zh3 = _
      refine (zq1 (q := ((1, [(0, .ref 54), (1, .int t), (2, .int r)], [.int t]), zh3)) rfl rfl rfl).trans ?_
      have hc : zcal zmt 100000 7 373 108 [.int t] zh3 = some (some (.int 0), zh3) := by
        refine (zcal_go (M := M_Mo_isTable) rfl rfl rfl).trans ?_
        show zloop zmt (zcal zmt 100000 6 353) 7 353 none M_Mo_isTable 100000 (0, [(0, .int t)], []) zh3 = _
        refine (zq1 (q := ((1, [(0, .int t)], [.int t]), zh3)) rfl rfl rfl).trans ?_
        refine (zqb (q := (4, [(0, .int t)], [])) (cB := zc .eq t (0)) (v := false) (off := 8) (lv := [(0, .int t)]) (r := []) rfl rfl rfl (zcb .eq (x := t) (y := (0)) (k := 0) (by decide) (decide_eq_false (by omega))) rfl).trans ?_
        refine (zq1 (q := ((5, [(0, .int t)], [.int t]), zh3)) rfl rfl rfl).trans ?_
        refine (zq1 (q := ((6, [(0, .int t)], [.int 1, .int t]), zh3)) rfl rfl rfl).trans ?_
        refine (zqb (q := (13, [(0, .int t)], [])) (cB := zc .ne t (1)) (v := true) (off := 7) (lv := [(0, .int t)]) (r := []) rfl rfl rfl (zcb .ne (x := t) (y := (1)) (k := 1) (by decide) (decide_eq_true (by omega))) rfl).trans ?_
        refine (zq1 (q := ((14, [(0, .int t)], [.int 0]), zh3)) rfl rfl rfl).trans ?_
        exact zqr rfl rfl
      refine (zqc 0 (s' := (4, [(0, .ref 54), (1, .int t), (2, .int r)], [.int 0])) rfl rfl rfl rfl rfl rfl hc rfl).trans ?_
      refine (zq1 (q := ((40, [(0, .ref 54), (1, .int t), (2, .int r)], []), zh3)) rfl rfl rfl).trans ?_
      refine (zq1 (q := ((41, [(0, .ref 54), (1, .int t), (2, .int r)], [.int (-1)]), zh3)) rfl rfl rfl).trans ?_
      exact zqr rfl rfl
    refine (zqc 1 (s' := (6, [(0, .ref 54), (1, .int t), (2, .int r), (3, .int v), (4, .int w)], [.int (-1)])) rfl rfl rfl rfl rfl rfl hc rfl).trans ?_
    refine (zq1 (q := ((8, [(5, .int (-1)), (0, .ref 54), (1, .int t), (2, .int r), (3, .int v), (4, .int w)], []), zh3)) rfl rfl rfl).trans ?_
    refine (zq1 (q := ((10, [(5, .int (-1)), (0, .ref 54), (1, .int t), (2, .int r), (3, .int v), (4, .int w)], [.int (-1)]), zh3)) rfl rfl rfl).trans ?_
    refine (zq1 (q := ((28, [(5, .int (-1)), (0, .ref 54), (1, .int t), (2, .int r), (3, .int v), (4, .int w)], []), zh3)) rfl rfl rfl).trans ?_
    refine (zq1 (q := ((29, [(5, .int (-1)), (0, .ref 54), (1, .int t), (2, .int r), (3, .int v), (4, .int w)], [.int 0]), zh3)) rfl rfl rfl).trans ?_
    exact zqr rfl rfl
set_option maxRecDepth 1000000 in
set_option maxHeartbeats 4000000 in
theorem zi_update_0_lt (r v w : Int32) (h : r.toInt < 0) : zPair 42 113 [.int 0, .int r, .int v, .int w] := by
  refine ⟨0, zh3, zh3, ?_, ?_, rfl, rfl, rfl⟩
  · refine (zcal_go (M := M_ST_update) rfl rfl rfl).trans ?_
    show zloop zmt (zcal zmt 100000 8 395) 9 395 none M_ST_update 100000 (0, [(0, .ref 0), (1, .int 0), (2, .int r), (3, .int v), (4, .int w)], []) zh3 = _
    refine (zq1 (q := ((1, [(0, .ref 0), (1, .int 0), (2, .int r), (3, .int v), (4, .int w)], [.ref 0]), zh3)) rfl rfl rfl).trans ?_
    refine (zq1 (q := ((2, [(0, .ref 0), (1, .int 0), (2, .int r), (3, .int v), (4, .int w)], [.int 0, .ref 0]), zh3)) rfl rfl rfl).trans ?_
    refine (zq1 (q := ((3, [(0, .ref 0), (1, .int 0), (2, .int r), (3, .int v), (4, .int w)], [.int r, .int 0, .ref 0]), zh3)) rfl rfl rfl).trans ?_
    have hc : zcal zmt 100000 8 395 39 [.ref 0, .int 0, .int r] zh3 = some (some (.null), zh3) := by
      refine (zcal_go (M := M_ST_placeOf) rfl rfl rfl).trans ?_
      show zloop zmt (zcal zmt 100000 7 373) 8 373 none M_ST_placeOf 100000 (0, [(0, .ref 0), (1, .int 0), (2, .int r)], []) zh3 = _
      refine (zq1 (q := ((1, [(0, .ref 0), (1, .int 0), (2, .int r)], [.int 0]), zh3)) rfl rfl rfl).trans ?_
      have hc : zcal zmt 100000 7 373 29 [.int 0] zh3 = some (some (.int 1), zh3) := zreq_ok (by decide +kernel)
      refine (zqc 0 (s' := (4, [(0, .ref 0), (1, .int 0), (2, .int r)], [.int 1])) rfl rfl rfl rfl rfl rfl hc rfl).trans ?_
      refine (zq1 (q := ((7, [(0, .ref 0), (1, .int 0), (2, .int r)], []), zh3)) rfl rfl rfl).trans ?_
      refine (zq1 (q := ((8, [(0, .ref 0), (1, .int 0), (2, .int r)], [.ref 0]), zh3)) rfl rfl rfl).trans ?_
      refine (zq1 (q := ((11, [(0, .ref 0), (1, .int 0), (2, .int r)], [.ref 1]), zh3)) rfl rfl rfl).trans ?_
      refine (zq1 (q := ((12, [(0, .ref 0), (1, .int 0), (2, .int r)], [.int 0, .ref 1]), zh3)) rfl rfl rfl).trans ?_
      refine (zq1 (q := ((13, [(0, .ref 0), (1, .int 0), (2, .int r)], [.ref 14]), zh3)) rfl rfl rfl).trans ?_
      refine (zq1 (q := ((14, [(0, .ref 0), (1, .int 0), (2, .int r)], [.int r, .ref 14]), zh3)) rfl rfl rfl).trans ?_
      have hc : zcal zmt 100000 7 373 40 [.ref 14, .int r] zh3 = some (some (.null), zh3) := by
        refine (zcal_go (M := M_Ta_placeAt) rfl rfl rfl).trans ?_
        show zloop zmt (zcal zmt 100000 6 352) 7 352 none M_Ta_placeAt 100000 (0, [(0, .ref 14), (1, .int r)], []) zh3 = _
        refine (zq1 (q := ((1, [(0, .ref 14), (1, .int r)], [.int r]), zh3)) rfl rfl rfl).trans ?_
        refine (zqb (q := (19, [(0, .ref 14), (1, .int r)], [])) (cB := zc .lt r (0)) (v := true) (off := 18) (lv := [(0, .ref 14), (1, .int r)]) (r := []) rfl rfl rfl (zcb .lt (x := r) (y := (0)) (k := 0) (by decide) (decide_eq_true (by omega))) rfl).trans ?_
        refine (zq1 (q := ((20, [(0, .ref 14), (1, .int r)], [.null]), zh3)) rfl rfl rfl).trans ?_
        exact zqr rfl rfl
      refine (zqc 1 (s' := (17, [(0, .ref 0), (1, .int 0), (2, .int r)], [.null])) rfl rfl rfl rfl rfl rfl hc rfl).trans ?_
      refine (zq1 (q := ((21, [(0, .ref 0), (1, .int 0), (2, .int r)], [.null]), zh3)) rfl rfl rfl).trans ?_
      exact zqr rfl rfl
    refine (zqc 1 (s' := (6, [(0, .ref 0), (1, .int 0), (2, .int r), (3, .int v), (4, .int w)], [.null])) rfl rfl rfl rfl rfl rfl hc rfl).trans ?_
    refine (zq1 (q := ((8, [(5, .null), (0, .ref 0), (1, .int 0), (2, .int r), (3, .int v), (4, .int w)], []), zh3)) rfl rfl rfl).trans ?_
    refine (zq1 (q := ((10, [(5, .null), (0, .ref 0), (1, .int 0), (2, .int r), (3, .int v), (4, .int w)], [.null]), zh3)) rfl rfl rfl).trans ?_
    refine (zq1 (q := ((25, [(5, .null), (0, .ref 0), (1, .int 0), (2, .int r), (3, .int v), (4, .int w)], []), zh3)) rfl rfl rfl).trans ?_
    refine (zq1 (q := ((26, [(5, .null), (0, .ref 0), (1, .int 0), (2, .int r), (3, .int v), (4, .int w)], [.int 0]), zh3)) rfl rfl rfl).trans ?_
    exact zqr rfl rfl
  · refine (zcal_go (M := M_Mo_update) rfl rfl rfl).trans ?_
    show zloop zmt (zcal zmt 100000 8 395) 9 395 none M_Mo_update 100000 (0, [(0, .ref 54), (1, .int 0), (2, .int r), (3, .int v), (4, .int w)], []) zh3 = _
    refine (zq1 (q := ((1, [(0, .ref 54), (1, .int 0), (2, .int r), (3, .int v), (4, .int w)], [.ref 54]), zh3)) rfl rfl rfl).trans ?_
    refine (zq1 (q := ((2, [(0, .ref 54), (1, .int 0), (2, .int r), (3, .int v), (4, .int w)], [.int 0, .ref 54]), zh3)) rfl rfl rfl).trans ?_
    refine (zq1 (q := ((3, [(0, .ref 54), (1, .int 0), (2, .int r), (3, .int v), (4, .int w)], [.int r, .int 0, .ref 54]), zh3)) rfl rfl rfl).trans ?_
    have hc : zcal zmt 100000 8 395 112 [.ref 54, .int 0, .int r] zh3 = some (some (.int (-1)), zh3) := by
      refine (zcal_go (M := M_Mo_slot) rfl rfl rfl).trans ?_
      show zloop zmt (zcal zmt 100000 7 373) 8 373 none M_Mo_slot 100000 (0, [(0, .ref 54), (1, .int 0), (2, .int r)], []) zh3 = _
      refine (zq1 (q := ((1, [(0, .ref 54), (1, .int 0), (2, .int r)], [.int 0]), zh3)) rfl rfl rfl).trans ?_
      have hc : zcal zmt 100000 7 373 108 [.int 0] zh3 = some (some (.int 1), zh3) := zreq_ok (by decide +kernel)
      refine (zqc 0 (s' := (4, [(0, .ref 54), (1, .int 0), (2, .int r)], [.int 1])) rfl rfl rfl rfl rfl rfl hc rfl).trans ?_
      refine (zq1 (q := ((7, [(0, .ref 54), (1, .int 0), (2, .int r)], []), zh3)) rfl rfl rfl).trans ?_
      refine (zq1 (q := ((8, [(0, .ref 54), (1, .int 0), (2, .int r)], [.int r]), zh3)) rfl rfl rfl).trans ?_
      refine (zqb (q := (40, [(0, .ref 54), (1, .int 0), (2, .int r)], [])) (cB := zc .lt r (0)) (v := true) (off := 32) (lv := [(0, .ref 54), (1, .int 0), (2, .int r)]) (r := []) rfl rfl rfl (zcb .lt (x := r) (y := (0)) (k := 0) (by decide) (decide_eq_true (by omega))) rfl).trans ?_
      refine (zq1 (q := ((41, [(0, .ref 54), (1, .int 0), (2, .int r)], [.int (-1)]), zh3)) rfl rfl rfl).trans ?_
      exact zqr rfl rfl
    refine (zqc 1 (s' := (6, [(0, .ref 54), (1, .int 0), (2, .int r), (3, .int v), (4, .int w)], [.int (-1)])) rfl rfl rfl rfl rfl rfl hc rfl).trans ?_
    refine (zq1 (q := ((8, [(5, .int (-1)), (0, .ref 54), (1, .int 0), (2, .int r), (3, .int v), (4, .int w)], []), zh3)) rfl rfl rfl).trans ?_
    refine (zq1 (q := ((10, [(5, .int (-1)), (0, .ref 54), (1, .int 0), (2, .int r), (3, .int v), (4, .int w)], [.int (-1)]), zh3)) rfl rfl rfl).trans ?_
    refine (zq1 (q := ((28, [(5, .int (-1)), (0, .ref 54), (1, .int 0), (2, .int r), (3, .int v), (4, .int w)], []), zh3)) rfl rfl rfl).trans ?_
    refine (zq1 (q := ((29, [(5, .int (-1)), (0, .ref 54), (1, .int 0), (2, .int r), (3, .int v), (4, .int w)], [.int 0]), zh3)) rfl rfl rfl).trans ?_
    exact zqr rfl rfl
set_option maxRecDepth 1000000 in
set_option maxHeartbeats 4000000 in
theorem zi_update_0_ge (r v w : Int32) (h : 16 ≤ r.toInt) : zPair 42 113 [.int 0, .int r, .int v, .int w] := by
  refine ⟨0, zh3, zh3, ?_, ?_, rfl, rfl, rfl⟩
  · refine (zcal_go (M := M_ST_update) rfl rfl rfl).trans ?_
    show zloop zmt (zcal zmt 100000 8 395) 9 395 none M_ST_update 100000 (0, [(0, .ref 0), (1, .int 0), (2, .int r), (3, .int v), (4, .int w)], []) zh3 = _
    refine (zq1 (q := ((1, [(0, .ref 0), (1, .int 0), (2, .int r), (3, .int v), (4, .int w)], [.ref 0]), zh3)) rfl rfl rfl).trans ?_
    refine (zq1 (q := ((2, [(0, .ref 0), (1, .int 0), (2, .int r), (3, .int v), (4, .int w)], [.int 0, .ref 0]), zh3)) rfl rfl rfl).trans ?_
    refine (zq1 (q := ((3, [(0, .ref 0), (1, .int 0), (2, .int r), (3, .int v), (4, .int w)], [.int r, .int 0, .ref 0]), zh3)) rfl rfl rfl).trans ?_
    have hc : zcal zmt 100000 8 395 39 [.ref 0, .int 0, .int r] zh3 = some (some (.null), zh3) := by
      refine (zcal_go (M := M_ST_placeOf) rfl rfl rfl).trans ?_
      show zloop zmt (zcal zmt 100000 7 373) 8 373 none M_ST_placeOf 100000 (0, [(0, .ref 0), (1, .int 0), (2, .int r)], []) zh3 = _
      refine (zq1 (q := ((1, [(0, .ref 0), (1, .int 0), (2, .int r)], [.int 0]), zh3)) rfl rfl rfl).trans ?_
      have hc : zcal zmt 100000 7 373 29 [.int 0] zh3 = some (some (.int 1), zh3) := zreq_ok (by decide +kernel)
      refine (zqc 0 (s' := (4, [(0, .ref 0), (1, .int 0), (2, .int r)], [.int 1])) rfl rfl rfl rfl rfl rfl hc rfl).trans ?_
      refine (zq1 (q := ((7, [(0, .ref 0), (1, .int 0), (2, .int r)], []), zh3)) rfl rfl rfl).trans ?_
      refine (zq1 (q := ((8, [(0, .ref 0), (1, .int 0), (2, .int r)], [.ref 0]), zh3)) rfl rfl rfl).trans ?_
      refine (zq1 (q := ((11, [(0, .ref 0), (1, .int 0), (2, .int r)], [.ref 1]), zh3)) rfl rfl rfl).trans ?_
      refine (zq1 (q := ((12, [(0, .ref 0), (1, .int 0), (2, .int r)], [.int 0, .ref 1]), zh3)) rfl rfl rfl).trans ?_
      refine (zq1 (q := ((13, [(0, .ref 0), (1, .int 0), (2, .int r)], [.ref 14]), zh3)) rfl rfl rfl).trans ?_
      refine (zq1 (q := ((14, [(0, .ref 0), (1, .int 0), (2, .int r)], [.int r, .ref 14]), zh3)) rfl rfl rfl).trans ?_
      have hc : zcal zmt 100000 7 373 40 [.ref 14, .int r] zh3 = some (some (.null), zh3) := by
        refine (zcal_go (M := M_Ta_placeAt) rfl rfl rfl).trans ?_
        show zloop zmt (zcal zmt 100000 6 352) 7 352 none M_Ta_placeAt 100000 (0, [(0, .ref 14), (1, .int r)], []) zh3 = _
        refine (zq1 (q := ((1, [(0, .ref 14), (1, .int r)], [.int r]), zh3)) rfl rfl rfl).trans ?_
        refine (zqb (q := (4, [(0, .ref 14), (1, .int r)], [])) (cB := zc .lt r (0)) (v := false) (off := 18) (lv := [(0, .ref 14), (1, .int r)]) (r := []) rfl rfl rfl (zcb .lt (x := r) (y := (0)) (k := 0) (by decide) (decide_eq_false (by omega))) rfl).trans ?_
        refine (zq1 (q := ((5, [(0, .ref 14), (1, .int r)], [.int r]), zh3)) rfl rfl rfl).trans ?_
        refine (zq1 (q := ((7, [(0, .ref 14), (1, .int r)], [.int 16, .int r]), zh3)) rfl rfl rfl).trans ?_
        refine (zqb (q := (19, [(0, .ref 14), (1, .int r)], [])) (cB := zc .ge r (16)) (v := true) (off := 12) (lv := [(0, .ref 14), (1, .int r)]) (r := []) rfl rfl rfl (zcb .ge (x := r) (y := (16)) (k := 16) (by decide) (decide_eq_true (by omega))) rfl).trans ?_
        refine (zq1 (q := ((20, [(0, .ref 14), (1, .int r)], [.null]), zh3)) rfl rfl rfl).trans ?_
        exact zqr rfl rfl
      refine (zqc 1 (s' := (17, [(0, .ref 0), (1, .int 0), (2, .int r)], [.null])) rfl rfl rfl rfl rfl rfl hc rfl).trans ?_
      refine (zq1 (q := ((21, [(0, .ref 0), (1, .int 0), (2, .int r)], [.null]), zh3)) rfl rfl rfl).trans ?_
      exact zqr rfl rfl
    refine (zqc 1 (s' := (6, [(0, .ref 0), (1, .int 0), (2, .int r), (3, .int v), (4, .int w)], [.null])) rfl rfl rfl rfl rfl rfl hc rfl).trans ?_
    refine (zq1 (q := ((8, [(5, .null), (0, .ref 0), (1, .int 0), (2, .int r), (3, .int v), (4, .int w)], []), zh3)) rfl rfl rfl).trans ?_
    refine (zq1 (q := ((10, [(5, .null), (0, .ref 0), (1, .int 0), (2, .int r), (3, .int v), (4, .int w)], [.null]), zh3)) rfl rfl rfl).trans ?_
    refine (zq1 (q := ((25, [(5, .null), (0, .ref 0), (1, .int 0), (2, .int r), (3, .int v), (4, .int w)], []), zh3)) rfl rfl rfl).trans ?_
    refine (zq1 (q := ((26, [(5, .null), (0, .ref 0), (1, .int 0), (2, .int r), (3, .int v), (4, .int w)], [.int 0]), zh3)) rfl rfl rfl).trans ?_
    exact zqr rfl rfl
  · refine (zcal_go (M := M_Mo_update) rfl rfl rfl).trans ?_
    show zloop zmt (zcal zmt 100000 8 395) 9 395 none M_Mo_update 100000 (0, [(0, .ref 54), (1, .int 0), (2, .int r), (3, .int v), (4, .int w)], []) zh3 = _
    refine (zq1 (q := ((1, [(0, .ref 54), (1, .int 0), (2, .int r), (3, .int v), (4, .int w)], [.ref 54]), zh3)) rfl rfl rfl).trans ?_
    refine (zq1 (q := ((2, [(0, .ref 54), (1, .int 0), (2, .int r), (3, .int v), (4, .int w)], [.int 0, .ref 54]), zh3)) rfl rfl rfl).trans ?_
    refine (zq1 (q := ((3, [(0, .ref 54), (1, .int 0), (2, .int r), (3, .int v), (4, .int w)], [.int r, .int 0, .ref 54]), zh3)) rfl rfl rfl).trans ?_
    have hc : zcal zmt 100000 8 395 112 [.ref 54, .int 0, .int r] zh3 = some (some (.int (-1)), zh3) := by
      refine (zcal_go (M := M_Mo_slot) rfl rfl rfl).trans ?_
      show zloop zmt (zcal zmt 100000 7 373) 8 373 none M_Mo_slot 100000 (0, [(0, .ref 54), (1, .int 0), (2, .int r)], []) zh3 = _
      refine (zq1 (q := ((1, [(0, .ref 54), (1, .int 0), (2, .int r)], [.int 0]), zh3)) rfl rfl rfl).trans ?_
      have hc : zcal zmt 100000 7 373 108 [.int 0] zh3 = some (some (.int 1), zh3) := zreq_ok (by decide +kernel)
      refine (zqc 0 (s' := (4, [(0, .ref 54), (1, .int 0), (2, .int r)], [.int 1])) rfl rfl rfl rfl rfl rfl hc rfl).trans ?_
      refine (zq1 (q := ((7, [(0, .ref 54), (1, .int 0), (2, .int r)], []), zh3)) rfl rfl rfl).trans ?_
      refine (zq1 (q := ((8, [(0, .ref 54), (1, .int 0), (2, .int r)], [.int r]), zh3)) rfl rfl rfl).trans ?_
      refine (zqb (q := (11, [(0, .ref 54), (1, .int 0), (2, .int r)], [])) (cB := zc .lt r (0)) (v := false) (off := 32) (lv := [(0, .ref 54), (1, .int 0), (2, .int r)]) (r := []) rfl rfl rfl (zcb .lt (x := r) (y := (0)) (k := 0) (by decide) (decide_eq_false (by omega))) rfl).trans ?_
      refine (zq1 (q := ((12, [(0, .ref 54), (1, .int 0), (2, .int r)], [.int r]), zh3)) rfl rfl rfl).trans ?_
      refine (zq1 (q := ((14, [(0, .ref 54), (1, .int 0), (2, .int r)], [.int 15, .int r]), zh3)) rfl rfl rfl).trans ?_
      refine (zqb (q := (40, [(0, .ref 54), (1, .int 0), (2, .int r)], [])) (cB := zc .gt r (15)) (v := true) (off := 26) (lv := [(0, .ref 54), (1, .int 0), (2, .int r)]) (r := []) rfl rfl rfl (zcb .gt (x := r) (y := (15)) (k := 15) (by decide) (decide_eq_true (by omega))) rfl).trans ?_
      refine (zq1 (q := ((41, [(0, .ref 54), (1, .int 0), (2, .int r)], [.int (-1)]), zh3)) rfl rfl rfl).trans ?_
      exact zqr rfl rfl
    refine (zqc 1 (s' := (6, [(0, .ref 54), (1, .int 0), (2, .int r), (3, .int v), (4, .int w)], [.int (-1)])) rfl rfl rfl rfl rfl rfl hc rfl).trans ?_
    refine (zq1 (q := ((8, [(5, .int (-1)), (0, .ref 54), (1, .int 0), (2, .int r), (3, .int v), (4, .int w)], []), zh3)) rfl rfl rfl).trans ?_
    refine (zq1 (q := ((10, [(5, .int (-1)), (0, .ref 54), (1, .int 0), (2, .int r), (3, .int v), (4, .int w)], [.int (-1)]), zh3)) rfl rfl rfl).trans ?_
    refine (zq1 (q := ((28, [(5, .int (-1)), (0, .ref 54), (1, .int 0), (2, .int r), (3, .int v), (4, .int w)], []), zh3)) rfl rfl rfl).trans ?_
    refine (zq1 (q := ((29, [(5, .int (-1)), (0, .ref 54), (1, .int 0), (2, .int r), (3, .int v), (4, .int w)], [.int 0]), zh3)) rfl rfl rfl).trans ?_
    exact zqr rfl rfl
set_option maxRecDepth 1000000 in
set_option maxHeartbeats 4000000 in
theorem zi_update_0_0 (v w : Int32)  : zPair 42 113 [.int 0, .int 0, .int v, .int w] := by
  refine ⟨0, zh3, zh3, ?_, ?_, rfl, rfl, rfl⟩
  · refine (zcal_go (M := M_ST_update) rfl rfl rfl).trans ?_
    show zloop zmt (zcal zmt 100000 8 395) 9 395 none M_ST_update 100000 (0, [(0, .ref 0), (1, .int 0), (2, .int 0), (3, .int v), (4, .int w)], []) zh3 = _
    refine (zq1 (q := ((1, [(0, .ref 0), (1, .int 0), (2, .int 0), (3, .int v), (4, .int w)], [.ref 0]), zh3)) rfl rfl rfl).trans ?_
    refine (zq1 (q := ((2, [(0, .ref 0), (1, .int 0), (2, .int 0), (3, .int v), (4, .int w)], [.int 0, .ref 0]), zh3)) rfl rfl rfl).trans ?_
    refine (zq1 (q := ((3, [(0, .ref 0), (1, .int 0), (2, .int 0), (3, .int v), (4, .int w)], [.int 0, .int 0, .ref 0]), zh3)) rfl rfl rfl).trans ?_
    have hc : zcal zmt 100000 8 395 39 [.ref 0, .int 0, .int 0] zh3 = some (some (.null), zh3) := zreq_ok (by decide +kernel)
    refine (zqc 1 (s' := (6, [(0, .ref 0), (1, .int 0), (2, .int 0), (3, .int v), (4, .int w)], [.null])) rfl rfl rfl rfl rfl rfl hc rfl).trans ?_
    refine (zq1 (q := ((8, [(5, .null), (0, .ref 0), (1, .int 0), (2, .int 0), (3, .int v), (4, .int w)], []), zh3)) rfl rfl rfl).trans ?_
    refine (zq1 (q := ((10, [(5, .null), (0, .ref 0), (1, .int 0), (2, .int 0), (3, .int v), (4, .int w)], [.null]), zh3)) rfl rfl rfl).trans ?_
    refine (zq1 (q := ((25, [(5, .null), (0, .ref 0), (1, .int 0), (2, .int 0), (3, .int v), (4, .int w)], []), zh3)) rfl rfl rfl).trans ?_
    refine (zq1 (q := ((26, [(5, .null), (0, .ref 0), (1, .int 0), (2, .int 0), (3, .int v), (4, .int w)], [.int 0]), zh3)) rfl rfl rfl).trans ?_
    exact zqr rfl rfl
  · refine (zcal_go (M := M_Mo_update) rfl rfl rfl).trans ?_
    show zloop zmt (zcal zmt 100000 8 395) 9 395 none M_Mo_update 100000 (0, [(0, .ref 54), (1, .int 0), (2, .int 0), (3, .int v), (4, .int w)], []) zh3 = _
    refine (zq1 (q := ((1, [(0, .ref 54), (1, .int 0), (2, .int 0), (3, .int v), (4, .int w)], [.ref 54]), zh3)) rfl rfl rfl).trans ?_
    refine (zq1 (q := ((2, [(0, .ref 54), (1, .int 0), (2, .int 0), (3, .int v), (4, .int w)], [.int 0, .ref 54]), zh3)) rfl rfl rfl).trans ?_
    refine (zq1 (q := ((3, [(0, .ref 54), (1, .int 0), (2, .int 0), (3, .int v), (4, .int w)], [.int 0, .int 0, .ref 54]), zh3)) rfl rfl rfl).trans ?_
    have hc : zcal zmt 100000 8 395 112 [.ref 54, .int 0, .int 0] zh3 = some (some (.int (-1)), zh3) := zreq_ok (by decide +kernel)
    refine (zqc 1 (s' := (6, [(0, .ref 54), (1, .int 0), (2, .int 0), (3, .int v), (4, .int w)], [.int (-1)])) rfl rfl rfl rfl rfl rfl hc rfl).trans ?_
    refine (zq1 (q := ((8, [(5, .int (-1)), (0, .ref 54), (1, .int 0), (2, .int 0), (3, .int v), (4, .int w)], []), zh3)) rfl rfl rfl).trans ?_
    refine (zq1 (q := ((10, [(5, .int (-1)), (0, .ref 54), (1, .int 0), (2, .int 0), (3, .int v), (4, .int w)], [.int (-1)]), zh3)) rfl rfl rfl).trans ?_
    refine (zq1 (q := ((28, [(5, .int (-1)), (0, .ref 54), (1, .int 0), (2, .int 0), (3, .int v), (4, .int w)], []), zh3)) rfl rfl rfl).trans ?_
    refine (zq1 (q := ((29, [(5, .int (-1)), (0, .ref 54), (1, .int 0), (2, .int 0), (3, .int v), (4, .int w)], [.int 0]), zh3)) rfl rfl rfl).trans ?_
    exact zqr rfl rfl
set_option maxRecDepth 1000000 in
set_option maxHeartbeats 4000000 in
theorem zi_update_0_1 (v w : Int32)  : zPair 42 113 [.int 0, .int 1, .int v, .int w] := by
  refine ⟨0, zh3, zh3, ?_, ?_, rfl, rfl, rfl⟩
  · refine (zcal_go (M := M_ST_update) rfl rfl rfl).trans ?_
    show zloop zmt (zcal zmt 100000 8 395) 9 395 none M_ST_update 100000 (0, [(0, .ref 0), (1, .int 0), (2, .int 1), (3, .int v), (4, .int w)], []) zh3 = _
    refine (zq1 (q := ((1, [(0, .ref 0), (1, .int 0), (2, .int 1), (3, .int v), (4, .int w)], [.ref 0]), zh3)) rfl rfl rfl).trans ?_
    refine (zq1 (q := ((2, [(0, .ref 0), (1, .int 0), (2, .int 1), (3, .int v), (4, .int w)], [.int 0, .ref 0]), zh3)) rfl rfl rfl).trans ?_
    refine (zq1 (q := ((3, [(0, .ref 0), (1, .int 0), (2, .int 1), (3, .int v), (4, .int w)], [.int 1, .int 0, .ref 0]), zh3)) rfl rfl rfl).trans ?_
    have hc : zcal zmt 100000 8 395 39 [.ref 0, .int 0, .int 1] zh3 = some (some (.null), zh3) := zreq_ok (by decide +kernel)
    refine (zqc 1 (s' := (6, [(0, .ref 0), (1, .int 0), (2, .int 1), (3, .int v), (4, .int w)], [.null])) rfl rfl rfl rfl rfl rfl hc rfl).trans ?_
    refine (zq1 (q := ((8, [(5, .null), (0, .ref 0), (1, .int 0), (2, .int 1), (3, .int v), (4, .int w)], []), zh3)) rfl rfl rfl).trans ?_
    refine (zq1 (q := ((10, [(5, .null), (0, .ref 0), (1, .int 0), (2, .int 1), (3, .int v), (4, .int w)], [.null]), zh3)) rfl rfl rfl).trans ?_
    refine (zq1 (q := ((25, [(5, .null), (0, .ref 0), (1, .int 0), (2, .int 1), (3, .int v), (4, .int w)], []), zh3)) rfl rfl rfl).trans ?_
    refine (zq1 (q := ((26, [(5, .null), (0, .ref 0), (1, .int 0), (2, .int 1), (3, .int v), (4, .int w)], [.int 0]), zh3)) rfl rfl rfl).trans ?_
    exact zqr rfl rfl
  · refine (zcal_go (M := M_Mo_update) rfl rfl rfl).trans ?_
    show zloop zmt (zcal zmt 100000 8 395) 9 395 none M_Mo_update 100000 (0, [(0, .ref 54), (1, .int 0), (2, .int 1), (3, .int v), (4, .int w)], []) zh3 = _
    refine (zq1 (q := ((1, [(0, .ref 54), (1, .int 0), (2, .int 1), (3, .int v), (4, .int w)], [.ref 54]), zh3)) rfl rfl rfl).trans ?_
    refine (zq1 (q := ((2, [(0, .ref 54), (1, .int 0), (2, .int 1), (3, .int v), (4, .int w)], [.int 0, .ref 54]), zh3)) rfl rfl rfl).trans ?_
    refine (zq1 (q := ((3, [(0, .ref 54), (1, .int 0), (2, .int 1), (3, .int v), (4, .int w)], [.int 1, .int 0, .ref 54]), zh3)) rfl rfl rfl).trans ?_
    have hc : zcal zmt 100000 8 395 112 [.ref 54, .int 0, .int 1] zh3 = some (some (.int (-1)), zh3) := zreq_ok (by decide +kernel)
    refine (zqc 1 (s' := (6, [(0, .ref 54), (1, .int 0), (2, .int 1), (3, .int v), (4, .int w)], [.int (-1)])) rfl rfl rfl rfl rfl rfl hc rfl).trans ?_
    refine (zq1 (q := ((8, [(5, .int (-1)), (0, .ref 54), (1, .int 0), (2, .int 1), (3, .int v), (4, .int w)], []), zh3)) rfl rfl rfl).trans ?_
    refine (zq1 (q := ((10, [(5, .int (-1)), (0, .ref 54), (1, .int 0), (2, .int 1), (3, .int v), (4, .int w)], [.int (-1)]), zh3)) rfl rfl rfl).trans ?_
    refine (zq1 (q := ((28, [(5, .int (-1)), (0, .ref 54), (1, .int 0), (2, .int 1), (3, .int v), (4, .int w)], []), zh3)) rfl rfl rfl).trans ?_
    refine (zq1 (q := ((29, [(5, .int (-1)), (0, .ref 54), (1, .int 0), (2, .int 1), (3, .int v), (4, .int w)], [.int 0]), zh3)) rfl rfl rfl).trans ?_
    exact zqr rfl rfl
set_option maxRecDepth 1000000 in
set_option maxHeartbeats 4000000 in
theorem zi_update_0_2 (v w : Int32)  : zPair 42 113 [.int 0, .int 2, .int v, .int w] := by
  refine ⟨0, zh3, zh3, ?_, ?_, rfl, rfl, rfl⟩
  · refine (zcal_go (M := M_ST_update) rfl rfl rfl).trans ?_
    show zloop zmt (zcal zmt 100000 8 395) 9 395 none M_ST_update 100000 (0, [(0, .ref 0), (1, .int 0), (2, .int 2), (3, .int v), (4, .int w)], []) zh3 = _
    refine (zq1 (q := ((1, [(0, .ref 0), (1, .int 0), (2, .int 2), (3, .int v), (4, .int w)], [.ref 0]), zh3)) rfl rfl rfl).trans ?_
    refine (zq1 (q := ((2, [(0, .ref 0), (1, .int 0), (2, .int 2), (3, .int v), (4, .int w)], [.int 0, .ref 0]), zh3)) rfl rfl rfl).trans ?_
    refine (zq1 (q := ((3, [(0, .ref 0), (1, .int 0), (2, .int 2), (3, .int v), (4, .int w)], [.int 2, .int 0, .ref 0]), zh3)) rfl rfl rfl).trans ?_
    have hc : zcal zmt 100000 8 395 39 [.ref 0, .int 0, .int 2] zh3 = some (some (.null), zh3) := zreq_ok (by decide +kernel)
    refine (zqc 1 (s' := (6, [(0, .ref 0), (1, .int 0), (2, .int 2), (3, .int v), (4, .int w)], [.null])) rfl rfl rfl rfl rfl rfl hc rfl).trans ?_
    refine (zq1 (q := ((8, [(5, .null), (0, .ref 0), (1, .int 0), (2, .int 2), (3, .int v), (4, .int w)], []), zh3)) rfl rfl rfl).trans ?_
    refine (zq1 (q := ((10, [(5, .null), (0, .ref 0), (1, .int 0), (2, .int 2), (3, .int v), (4, .int w)], [.null]), zh3)) rfl rfl rfl).trans ?_
    refine (zq1 (q := ((25, [(5, .null), (0, .ref 0), (1, .int 0), (2, .int 2), (3, .int v), (4, .int w)], []), zh3)) rfl rfl rfl).trans ?_
    refine (zq1 (q := ((26, [(5, .null), (0, .ref 0), (1, .int 0), (2, .int 2), (3, .int v), (4, .int w)], [.int 0]), zh3)) rfl rfl rfl).trans ?_
    exact zqr rfl rfl
  · refine (zcal_go (M := M_Mo_update) rfl rfl rfl).trans ?_
    show zloop zmt (zcal zmt 100000 8 395) 9 395 none M_Mo_update 100000 (0, [(0, .ref 54), (1, .int 0), (2, .int 2), (3, .int v), (4, .int w)], []) zh3 = _
    refine (zq1 (q := ((1, [(0, .ref 54), (1, .int 0), (2, .int 2), (3, .int v), (4, .int w)], [.ref 54]), zh3)) rfl rfl rfl).trans ?_
    refine (zq1 (q := ((2, [(0, .ref 54), (1, .int 0), (2, .int 2), (3, .int v), (4, .int w)], [.int 0, .ref 54]), zh3)) rfl rfl rfl).trans ?_
    refine (zq1 (q := ((3, [(0, .ref 54), (1, .int 0), (2, .int 2), (3, .int v), (4, .int w)], [.int 2, .int 0, .ref 54]), zh3)) rfl rfl rfl).trans ?_
    have hc : zcal zmt 100000 8 395 112 [.ref 54, .int 0, .int 2] zh3 = some (some (.int (-1)), zh3) := zreq_ok (by decide +kernel)
    refine (zqc 1 (s' := (6, [(0, .ref 54), (1, .int 0), (2, .int 2), (3, .int v), (4, .int w)], [.int (-1)])) rfl rfl rfl rfl rfl rfl hc rfl).trans ?_
    refine (zq1 (q := ((8, [(5, .int (-1)), (0, .ref 54), (1, .int 0), (2, .int 2), (3, .int v), (4, .int w)], []), zh3)) rfl rfl rfl).trans ?_
    refine (zq1 (q := ((10, [(5, .int (-1)), (0, .ref 54), (1, .int 0), (2, .int 2), (3, .int v), (4, .int w)], [.int (-1)]), zh3)) rfl rfl rfl).trans ?_
    refine (zq1 (q := ((28, [(5, .int (-1)), (0, .ref 54), (1, .int 0), (2, .int 2), (3, .int v), (4, .int w)], []), zh3)) rfl rfl rfl).trans ?_
    refine (zq1 (q := ((29, [(5, .int (-1)), (0, .ref 54), (1, .int 0), (2, .int 2), (3, .int v), (4, .int w)], [.int 0]), zh3)) rfl rfl rfl).trans ?_
    exact zqr rfl rfl
set_option maxRecDepth 1000000 in
set_option maxHeartbeats 4000000 in
theorem zi_update_0_3 (v w : Int32)  : zPair 42 113 [.int 0, .int 3, .int v, .int w] := by
  refine ⟨0, zh3, zh3, ?_, ?_, rfl, rfl, rfl⟩
  · refine (zcal_go (M := M_ST_update) rfl rfl rfl).trans ?_
    show zloop zmt (zcal zmt 100000 8 395) 9 395 none M_ST_update 100000 (0, [(0, .ref 0), (1, .int 0), (2, .int 3), (3, .int v), (4, .int w)], []) zh3 = _
    refine (zq1 (q := ((1, [(0, .ref 0), (1, .int 0), (2, .int 3), (3, .int v), (4, .int w)], [.ref 0]), zh3)) rfl rfl rfl).trans ?_
    refine (zq1 (q := ((2, [(0, .ref 0), (1, .int 0), (2, .int 3), (3, .int v), (4, .int w)], [.int 0, .ref 0]), zh3)) rfl rfl rfl).trans ?_
    refine (zq1 (q := ((3, [(0, .ref 0), (1, .int 0), (2, .int 3), (3, .int v), (4, .int w)], [.int 3, .int 0, .ref 0]), zh3)) rfl rfl rfl).trans ?_
    have hc : zcal zmt 100000 8 395 39 [.ref 0, .int 0, .int 3] zh3 = some (some (.null), zh3) := zreq_ok (by decide +kernel)
    refine (zqc 1 (s' := (6, [(0, .ref 0), (1, .int 0), (2, .int 3), (3, .int v), (4, .int w)], [.null])) rfl rfl rfl rfl rfl rfl hc rfl).trans ?_
    refine (zq1 (q := ((8, [(5, .null), (0, .ref 0), (1, .int 0), (2, .int 3), (3, .int v), (4, .int w)], []), zh3)) rfl rfl rfl).trans ?_
    refine (zq1 (q := ((10, [(5, .null), (0, .ref 0), (1, .int 0), (2, .int 3), (3, .int v), (4, .int w)], [.null]), zh3)) rfl rfl rfl).trans ?_
    refine (zq1 (q := ((25, [(5, .null), (0, .ref 0), (1, .int 0), (2, .int 3), (3, .int v), (4, .int w)], []), zh3)) rfl rfl rfl).trans ?_
    refine (zq1 (q := ((26, [(5, .null), (0, .ref 0), (1, .int 0), (2, .int 3), (3, .int v), (4, .int w)], [.int 0]), zh3)) rfl rfl rfl).trans ?_
    exact zqr rfl rfl
  · refine (zcal_go (M := M_Mo_update) rfl rfl rfl).trans ?_
    show zloop zmt (zcal zmt 100000 8 395) 9 395 none M_Mo_update 100000 (0, [(0, .ref 54), (1, .int 0), (2, .int 3), (3, .int v), (4, .int w)], []) zh3 = _
    refine (zq1 (q := ((1, [(0, .ref 54), (1, .int 0), (2, .int 3), (3, .int v), (4, .int w)], [.ref 54]), zh3)) rfl rfl rfl).trans ?_
    refine (zq1 (q := ((2, [(0, .ref 54), (1, .int 0), (2, .int 3), (3, .int v), (4, .int w)], [.int 0, .ref 54]), zh3)) rfl rfl rfl).trans ?_
    refine (zq1 (q := ((3, [(0, .ref 54), (1, .int 0), (2, .int 3), (3, .int v), (4, .int w)], [.int 3, .int 0, .ref 54]), zh3)) rfl rfl rfl).trans ?_
    have hc : zcal zmt 100000 8 395 112 [.ref 54, .int 0, .int 3] zh3 = some (some (.int (-1)), zh3) := zreq_ok (by decide +kernel)
    refine (zqc 1 (s' := (6, [(0, .ref 54), (1, .int 0), (2, .int 3), (3, .int v), (4, .int w)], [.int (-1)])) rfl rfl rfl rfl rfl rfl hc rfl).trans ?_
    refine (zq1 (q := ((8, [(5, .int (-1)), (0, .ref 54), (1, .int 0), (2, .int 3), (3, .int v), (4, .int w)], []), zh3)) rfl rfl rfl).trans ?_
    refine (zq1 (q := ((10, [(5, .int (-1)), (0, .ref 54), (1, .int 0), (2, .int 3), (3, .int v), (4, .int w)], [.int (-1)]), zh3)) rfl rfl rfl).trans ?_
    refine (zq1 (q := ((28, [(5, .int (-1)), (0, .ref 54), (1, .int 0), (2, .int 3), (3, .int v), (4, .int w)], []), zh3)) rfl rfl rfl).trans ?_
    refine (zq1 (q := ((29, [(5, .int (-1)), (0, .ref 54), (1, .int 0), (2, .int 3), (3, .int v), (4, .int w)], [.int 0]), zh3)) rfl rfl rfl).trans ?_
    exact zqr rfl rfl
set_option maxRecDepth 1000000 in
set_option maxHeartbeats 4000000 in
theorem zi_update_0_4 (v w : Int32)  : zPair 42 113 [.int 0, .int 4, .int v, .int w] := by
  refine ⟨0, zh3, zh3, ?_, ?_, rfl, rfl, rfl⟩
  · refine (zcal_go (M := M_ST_update) rfl rfl rfl).trans ?_
    show zloop zmt (zcal zmt 100000 8 395) 9 395 none M_ST_update 100000 (0, [(0, .ref 0), (1, .int 0), (2, .int 4), (3, .int v), (4, .int w)], []) zh3 = _
    refine (zq1 (q := ((1, [(0, .ref 0), (1, .int 0), (2, .int 4), (3, .int v), (4, .int w)], [.ref 0]), zh3)) rfl rfl rfl).trans ?_
    refine (zq1 (q := ((2, [(0, .ref 0), (1, .int 0), (2, .int 4), (3, .int v), (4, .int w)], [.int 0, .ref 0]), zh3)) rfl rfl rfl).trans ?_
    refine (zq1 (q := ((3, [(0, .ref 0), (1, .int 0), (2, .int 4), (3, .int v), (4, .int w)], [.int 4, .int 0, .ref 0]), zh3)) rfl rfl rfl).trans ?_
    have hc : zcal zmt 100000 8 395 39 [.ref 0, .int 0, .int 4] zh3 = some (some (.null), zh3) := zreq_ok (by decide +kernel)
    refine (zqc 1 (s' := (6, [(0, .ref 0), (1, .int 0), (2, .int 4), (3, .int v), (4, .int w)], [.null])) rfl rfl rfl rfl rfl rfl hc rfl).trans ?_
    refine (zq1 (q := ((8, [(5, .null), (0, .ref 0), (1, .int 0), (2, .int 4), (3, .int v), (4, .int w)], []), zh3)) rfl rfl rfl).trans ?_
    refine (zq1 (q := ((10, [(5, .null), (0, .ref 0), (1, .int 0), (2, .int 4), (3, .int v), (4, .int w)], [.null]), zh3)) rfl rfl rfl).trans ?_
    refine (zq1 (q := ((25, [(5, .null), (0, .ref 0), (1, .int 0), (2, .int 4), (3, .int v), (4, .int w)], []), zh3)) rfl rfl rfl).trans ?_
    refine (zq1 (q := ((26, [(5, .null), (0, .ref 0), (1, .int 0), (2, .int 4), (3, .int v), (4, .int w)], [.int 0]), zh3)) rfl rfl rfl).trans ?_
    exact zqr rfl rfl
  · refine (zcal_go (M := M_Mo_update) rfl rfl rfl).trans ?_
    show zloop zmt (zcal zmt 100000 8 395) 9 395 none M_Mo_update 100000 (0, [(0, .ref 54), (1, .int 0), (2, .int 4), (3, .int v), (4, .int w)], []) zh3 = _
    refine (zq1 (q := ((1, [(0, .ref 54), (1, .int 0), (2, .int 4), (3, .int v), (4, .int w)], [.ref 54]), zh3)) rfl rfl rfl).trans ?_
    refine (zq1 (q := ((2, [(0, .ref 54), (1, .int 0), (2, .int 4), (3, .int v), (4, .int w)], [.int 0, .ref 54]), zh3)) rfl rfl rfl).trans ?_
    refine (zq1 (q := ((3, [(0, .ref 54), (1, .int 0), (2, .int 4), (3, .int v), (4, .int w)], [.int 4, .int 0, .ref 54]), zh3)) rfl rfl rfl).trans ?_
    have hc : zcal zmt 100000 8 395 112 [.ref 54, .int 0, .int 4] zh3 = some (some (.int (-1)), zh3) := zreq_ok (by decide +kernel)
    refine (zqc 1 (s' := (6, [(0, .ref 54), (1, .int 0), (2, .int 4), (3, .int v), (4, .int w)], [.int (-1)])) rfl rfl rfl rfl rfl rfl hc rfl).trans ?_
    refine (zq1 (q := ((8, [(5, .int (-1)), (0, .ref 54), (1, .int 0), (2, .int 4), (3, .int v), (4, .int w)], []), zh3)) rfl rfl rfl).trans ?_
    refine (zq1 (q := ((10, [(5, .int (-1)), (0, .ref 54), (1, .int 0), (2, .int 4), (3, .int v), (4, .int w)], [.int (-1)]), zh3)) rfl rfl rfl).trans ?_
    refine (zq1 (q := ((28, [(5, .int (-1)), (0, .ref 54), (1, .int 0), (2, .int 4), (3, .int v), (4, .int w)], []), zh3)) rfl rfl rfl).trans ?_
    refine (zq1 (q := ((29, [(5, .int (-1)), (0, .ref 54), (1, .int 0), (2, .int 4), (3, .int v), (4, .int w)], [.int 0]), zh3)) rfl rfl rfl).trans ?_
    exact zqr rfl rfl
set_option maxRecDepth 1000000 in
set_option maxHeartbeats 4000000 in
theorem zi_update_0_5 (v w : Int32)  : zPair 42 113 [.int 0, .int 5, .int v, .int w] := by
  refine ⟨0, zh3, zh3, ?_, ?_, rfl, rfl, rfl⟩
  · refine (zcal_go (M := M_ST_update) rfl rfl rfl).trans ?_
    show zloop zmt (zcal zmt 100000 8 395) 9 395 none M_ST_update 100000 (0, [(0, .ref 0), (1, .int 0), (2, .int 5), (3, .int v), (4, .int w)], []) zh3 = _
    refine (zq1 (q := ((1, [(0, .ref 0), (1, .int 0), (2, .int 5), (3, .int v), (4, .int w)], [.ref 0]), zh3)) rfl rfl rfl).trans ?_
    refine (zq1 (q := ((2, [(0, .ref 0), (1, .int 0), (2, .int 5), (3, .int v), (4, .int w)], [.int 0, .ref 0]), zh3)) rfl rfl rfl).trans ?_
    refine (zq1 (q := ((3, [(0, .ref 0), (1, .int 0), (2, .int 5), (3, .int v), (4, .int w)], [.int 5, .int 0, .ref 0]), zh3)) rfl rfl rfl).trans ?_
    have hc : zcal zmt 100000 8 395 39 [.ref 0, .int 0, .int 5] zh3 = some (some (.null), zh3) := zreq_ok (by decide +kernel)
    refine (zqc 1 (s' := (6, [(0, .ref 0), (1, .int 0), (2, .int 5), (3, .int v), (4, .int w)], [.null])) rfl rfl rfl rfl rfl rfl hc rfl).trans ?_
    refine (zq1 (q := ((8, [(5, .null), (0, .ref 0), (1, .int 0), (2, .int 5), (3, .int v), (4, .int w)], []), zh3)) rfl rfl rfl).trans ?_
    refine (zq1 (q := ((10, [(5, .null), (0, .ref 0), (1, .int 0), (2, .int 5), (3, .int v), (4, .int w)], [.null]), zh3)) rfl rfl rfl).trans ?_
    refine (zq1 (q := ((25, [(5, .null), (0, .ref 0), (1, .int 0), (2, .int 5), (3, .int v), (4, .int w)], []), zh3)) rfl rfl rfl).trans ?_
    refine (zq1 (q := ((26, [(5, .null), (0, .ref 0), (1, .int 0), (2, .int 5), (3, .int v), (4, .int w)], [.int 0]), zh3)) rfl rfl rfl).trans ?_
    exact zqr rfl rfl
  · refine (zcal_go (M := M_Mo_update) rfl rfl rfl).trans ?_
    show zloop zmt (zcal zmt 100000 8 395) 9 395 none M_Mo_update 100000 (0, [(0, .ref 54), (1, .int 0), (2, .int 5), (3, .int v), (4, .int w)], []) zh3 = _
    refine (zq1 (q := ((1, [(0, .ref 54), (1, .int 0), (2, .int 5), (3, .int v), (4, .int w)], [.ref 54]), zh3)) rfl rfl rfl).trans ?_
    refine (zq1 (q := ((2, [(0, .ref 54), (1, .int 0), (2, .int 5), (3, .int v), (4, .int w)], [.int 0, .ref 54]), zh3)) rfl rfl rfl).trans ?_
    refine (zq1 (q := ((3, [(0, .ref 54), (1, .int 0), (2, .int 5), (3, .int v), (4, .int w)], [.int 5, .int 0, .ref 54]), zh3)) rfl rfl rfl).trans ?_
    have hc : zcal zmt 100000 8 395 112 [.ref 54, .int 0, .int 5] zh3 = some (some (.int (-1)), zh3) := zreq_ok (by decide +kernel)
    refine (zqc 1 (s' := (6, [(0, .ref 54), (1, .int 0), (2, .int 5), (3, .int v), (4, .int w)], [.int (-1)])) rfl rfl rfl rfl rfl rfl hc rfl).trans ?_
    refine (zq1 (q := ((8, [(5, .int (-1)), (0, .ref 54), (1, .int 0), (2, .int 5), (3, .int v), (4, .int w)], []), zh3)) rfl rfl rfl).trans ?_
    refine (zq1 (q := ((10, [(5, .int (-1)), (0, .ref 54), (1, .int 0), (2, .int 5), (3, .int v), (4, .int w)], [.int (-1)]), zh3)) rfl rfl rfl).trans ?_
    refine (zq1 (q := ((28, [(5, .int (-1)), (0, .ref 54), (1, .int 0), (2, .int 5), (3, .int v), (4, .int w)], []), zh3)) rfl rfl rfl).trans ?_
    refine (zq1 (q := ((29, [(5, .int (-1)), (0, .ref 54), (1, .int 0), (2, .int 5), (3, .int v), (4, .int w)], [.int 0]), zh3)) rfl rfl rfl).trans ?_
    exact zqr rfl rfl
set_option maxRecDepth 1000000 in
set_option maxHeartbeats 4000000 in
theorem zi_update_0_6 (v w : Int32)  : zPair 42 113 [.int 0, .int 6, .int v, .int w] := by
  refine ⟨0, zh3, zh3, ?_, ?_, rfl, rfl, rfl⟩
  · refine (zcal_go (M := M_ST_update) rfl rfl rfl).trans ?_
    show zloop zmt (zcal zmt 100000 8 395) 9 395 none M_ST_update 100000 (0, [(0, .ref 0), (1, .int 0), (2, .int 6), (3, .int v), (4, .int w)], []) zh3 = _
    refine (zq1 (q := ((1, [(0, .ref 0), (1, .int 0), (2, .int 6), (3, .int v), (4, .int w)], [.ref 0]), zh3)) rfl rfl rfl).trans ?_
    refine (zq1 (q := ((2, [(0, .ref 0), (1, .int 0), (2, .int 6), (3, .int v), (4, .int w)], [.int 0, .ref 0]), zh3)) rfl rfl rfl).trans ?_
    refine (zq1 (q := ((3, [(0, .ref 0), (1, .int 0), (2, .int 6), (3, .int v), (4, .int w)], [.int 6, .int 0, .ref 0]), zh3)) rfl rfl rfl).trans ?_
    have hc : zcal zmt 100000 8 395 39 [.ref 0, .int 0, .int 6] zh3 = some (some (.null), zh3) := zreq_ok (by decide +kernel)
    refine (zqc 1 (s' := (6, [(0, .ref 0), (1, .int 0), (2, .int 6), (3, .int v), (4, .int w)], [.null])) rfl rfl rfl rfl rfl rfl hc rfl).trans ?_
    refine (zq1 (q := ((8, [(5, .null), (0, .ref 0), (1, .int 0), (2, .int 6), (3, .int v), (4, .int w)], []), zh3)) rfl rfl rfl).trans ?_
    refine (zq1 (q := ((10, [(5, .null), (0, .ref 0), (1, .int 0), (2, .int 6), (3, .int v), (4, .int w)], [.null]), zh3)) rfl rfl rfl).trans ?_
    refine (zq1 (q := ((25, [(5, .null), (0, .ref 0), (1, .int 0), (2, .int 6), (3, .int v), (4, .int w)], []), zh3)) rfl rfl rfl).trans ?_
    refine (zq1 (q := ((26, [(5, .null), (0, .ref 0), (1, .int 0), (2, .int 6), (3, .int v), (4, .int w)], [.int 0]), zh3)) rfl rfl rfl).trans ?_
    exact zqr rfl rfl
  · refine (zcal_go (M := M_Mo_update) rfl rfl rfl).trans ?_
    show zloop zmt (zcal zmt 100000 8 395) 9 395 none M_Mo_update 100000 (0, [(0, .ref 54), (1, .int 0), (2, .int 6), (3, .int v), (4, .int w)], []) zh3 = _
    refine (zq1 (q := ((1, [(0, .ref 54), (1, .int 0), (2, .int 6), (3, .int v), (4, .int w)], [.ref 54]), zh3)) rfl rfl rfl).trans ?_
    refine (zq1 (q := ((2, [(0, .ref 54), (1, .int 0), (2, .int 6), (3, .int v), (4, .int w)], [.int 0, .ref 54]), zh3)) rfl rfl rfl).trans ?_
    refine (zq1 (q := ((3, [(0, .ref 54), (1, .int 0), (2, .int 6), (3, .int v), (4, .int w)], [.int 6, .int 0, .ref 54]), zh3)) rfl rfl rfl).trans ?_
    have hc : zcal zmt 100000 8 395 112 [.ref 54, .int 0, .int 6] zh3 = some (some (.int (-1)), zh3) := zreq_ok (by decide +kernel)
    refine (zqc 1 (s' := (6, [(0, .ref 54), (1, .int 0), (2, .int 6), (3, .int v), (4, .int w)], [.int (-1)])) rfl rfl rfl rfl rfl rfl hc rfl).trans ?_
    refine (zq1 (q := ((8, [(5, .int (-1)), (0, .ref 54), (1, .int 0), (2, .int 6), (3, .int v), (4, .int w)], []), zh3)) rfl rfl rfl).trans ?_
    refine (zq1 (q := ((10, [(5, .int (-1)), (0, .ref 54), (1, .int 0), (2, .int 6), (3, .int v), (4, .int w)], [.int (-1)]), zh3)) rfl rfl rfl).trans ?_
    refine (zq1 (q := ((28, [(5, .int (-1)), (0, .ref 54), (1, .int 0), (2, .int 6), (3, .int v), (4, .int w)], []), zh3)) rfl rfl rfl).trans ?_
    refine (zq1 (q := ((29, [(5, .int (-1)), (0, .ref 54), (1, .int 0), (2, .int 6), (3, .int v), (4, .int w)], [.int 0]), zh3)) rfl rfl rfl).trans ?_
    exact zqr rfl rfl
set_option maxRecDepth 1000000 in
set_option maxHeartbeats 4000000 in
theorem zi_update_0_7 (v w : Int32)  : zPair 42 113 [.int 0, .int 7, .int v, .int w] := by
  refine ⟨0, zh3, zh3, ?_, ?_, rfl, rfl, rfl⟩
  · refine (zcal_go (M := M_ST_update) rfl rfl rfl).trans ?_
    show zloop zmt (zcal zmt 100000 8 395) 9 395 none M_ST_update 100000 (0, [(0, .ref 0), (1, .int 0), (2, .int 7), (3, .int v), (4, .int w)], []) zh3 = _
    refine (zq1 (q := ((1, [(0, .ref 0), (1, .int 0), (2, .int 7), (3, .int v), (4, .int w)], [.ref 0]), zh3)) rfl rfl rfl).trans ?_
    refine (zq1 (q := ((2, [(0, .ref 0), (1, .int 0), (2, .int 7), (3, .int v), (4, .int w)], [.int 0, .ref 0]), zh3)) rfl rfl rfl).trans ?_
    refine (zq1 (q := ((3, [(0, .ref 0), (1, .int 0), (2, .int 7), (3, .int v), (4, .int w)], [.int 7, .int 0, .ref 0]), zh3)) rfl rfl rfl).trans ?_
    have hc : zcal zmt 100000 8 395 39 [.ref 0, .int 0, .int 7] zh3 = some (some (.null), zh3) := zreq_ok (by decide +kernel)
    refine (zqc 1 (s' := (6, [(0, .ref 0), (1, .int 0), (2, .int 7), (3, .int v), (4, .int w)], [.null])) rfl rfl rfl rfl rfl rfl hc rfl).trans ?_
    refine (zq1 (q := ((8, [(5, .null), (0, .ref 0), (1, .int 0), (2, .int 7), (3, .int v), (4, .int w)], []), zh3)) rfl rfl rfl).trans ?_
    refine (zq1 (q := ((10, [(5, .null), (0, .ref 0), (1, .int 0), (2, .int 7), (3, .int v), (4, .int w)], [.null]), zh3)) rfl rfl rfl).trans ?_
    refine (zq1 (q := ((25, [(5, .null), (0, .ref 0), (1, .int 0), (2, .int 7), (3, .int v), (4, .int w)], []), zh3)) rfl rfl rfl).trans ?_
    refine (zq1 (q := ((26, [(5, .null), (0, .ref 0), (1, .int 0), (2, .int 7), (3, .int v), (4, .int w)], [.int 0]), zh3)) rfl rfl rfl).trans ?_
    exact zqr rfl rfl
  · refine (zcal_go (M := M_Mo_update) rfl rfl rfl).trans ?_
    show zloop zmt (zcal zmt 100000 8 395) 9 395 none M_Mo_update 100000 (0, [(0, .ref 54), (1, .int 0), (2, .int 7), (3, .int v), (4, .int w)], []) zh3 = _
    refine (zq1 (q := ((1, [(0, .ref 54), (1, .int 0), (2, .int 7), (3, .int v), (4, .int w)], [.ref 54]), zh3)) rfl rfl rfl).trans ?_
    refine (zq1 (q := ((2, [(0, .ref 54), (1, .int 0), (2, .int 7), (3, .int v), (4, .int w)], [.int 0, .ref 54]), zh3)) rfl rfl rfl).trans ?_
    refine (zq1 (q := ((3, [(0, .ref 54), (1, .int 0), (2, .int 7), (3, .int v), (4, .int w)], [.int 7, .int 0, .ref 54]), zh3)) rfl rfl rfl).trans ?_
    have hc : zcal zmt 100000 8 395 112 [.ref 54, .int 0, .int 7] zh3 = some (some (.int (-1)), zh3) := zreq_ok (by decide +kernel)
    refine (zqc 1 (s' := (6, [(0, .ref 54), (1, .int 0), (2, .int 7), (3, .int v), (4, .int w)], [.int (-1)])) rfl rfl rfl rfl rfl rfl hc rfl).trans ?_
    refine (zq1 (q := ((8, [(5, .int (-1)), (0, .ref 54), (1, .int 0), (2, .int 7), (3, .int v), (4, .int w)], []), zh3)) rfl rfl rfl).trans ?_
    refine (zq1 (q := ((10, [(5, .int (-1)), (0, .ref 54), (1, .int 0), (2, .int 7), (3, .int v), (4, .int w)], [.int (-1)]), zh3)) rfl rfl rfl).trans ?_
    refine (zq1 (q := ((28, [(5, .int (-1)), (0, .ref 54), (1, .int 0), (2, .int 7), (3, .int v), (4, .int w)], []), zh3)) rfl rfl rfl).trans ?_
    refine (zq1 (q := ((29, [(5, .int (-1)), (0, .ref 54), (1, .int 0), (2, .int 7), (3, .int v), (4, .int w)], [.int 0]), zh3)) rfl rfl rfl).trans ?_
    exact zqr rfl rfl
set_option maxRecDepth 1000000 in
set_option maxHeartbeats 4000000 in
theorem zi_update_0_8 (v w : Int32)  : zPair 42 113 [.int 0, .int 8, .int v, .int w] := by
  refine ⟨0, zh3, zh3, ?_, ?_, rfl, rfl, rfl⟩
  · refine (zcal_go (M := M_ST_update) rfl rfl rfl).trans ?_
    show zloop zmt (zcal zmt 100000 8 395) 9 395 none M_ST_update 100000 (0, [(0, .ref 0), (1, .int 0), (2, .int 8), (3, .int v), (4, .int w)], []) zh3 = _
    refine (zq1 (q := ((1, [(0, .ref 0), (1, .int 0), (2, .int 8), (3, .int v), (4, .int w)], [.ref 0]), zh3)) rfl rfl rfl).trans ?_
    refine (zq1 (q := ((2, [(0, .ref 0), (1, .int 0), (2, .int 8), (3, .int v), (4, .int w)], [.int 0, .ref 0]), zh3)) rfl rfl rfl).trans ?_
    refine (zq1 (q := ((3, [(0, .ref 0), (1, .int 0), (2, .int 8), (3, .int v), (4, .int w)], [.int 8, .int 0, .ref 0]), zh3)) rfl rfl rfl).trans ?_
    have hc : zcal zmt 100000 8 395 39 [.ref 0, .int 0, .int 8] zh3 = some (some (.null), zh3) := zreq_ok (by decide +kernel)
    refine (zqc 1 (s' := (6, [(0, .ref 0), (1, .int 0), (2, .int 8), (3, .int v), (4, .int w)], [.null])) rfl rfl rfl rfl rfl rfl hc rfl).trans ?_
    refine (zq1 (q := ((8, [(5, .null), (0, .ref 0), (1, .int 0), (2, .int 8), (3, .int v), (4, .int w)], []), zh3)) rfl rfl rfl).trans ?_
    refine (zq1 (q := ((10, [(5, .null), (0, .ref 0), (1, .int 0), (2, .int 8), (3, .int v), (4, .int w)], [.null]), zh3)) rfl rfl rfl).trans ?_
    refine (zq1 (q := ((25, [(5, .null), (0, .ref 0), (1, .int 0), (2, .int 8), (3, .int v), (4, .int w)], []), zh3)) rfl rfl rfl).trans ?_
    refine (zq1 (q := ((26, [(5, .null), (0, .ref 0), (1, .int 0), (2, .int 8), (3, .int v), (4, .int w)], [.int 0]), zh3)) rfl rfl rfl).trans ?_
    exact zqr rfl rfl
  · refine (zcal_go (M := M_Mo_update) rfl rfl rfl).trans ?_
    show zloop zmt (zcal zmt 100000 8 395) 9 395 none M_Mo_update 100000 (0, [(0, .ref 54), (1, .int 0), (2, .int 8), (3, .int v), (4, .int w)], []) zh3 = _
    refine (zq1 (q := ((1, [(0, .ref 54), (1, .int 0), (2, .int 8), (3, .int v), (4, .int w)], [.ref 54]), zh3)) rfl rfl rfl).trans ?_
    refine (zq1 (q := ((2, [(0, .ref 54), (1, .int 0), (2, .int 8), (3, .int v), (4, .int w)], [.int 0, .ref 54]), zh3)) rfl rfl rfl).trans ?_
    refine (zq1 (q := ((3, [(0, .ref 54), (1, .int 0), (2, .int 8), (3, .int v), (4, .int w)], [.int 8, .int 0, .ref 54]), zh3)) rfl rfl rfl).trans ?_
    have hc : zcal zmt 100000 8 395 112 [.ref 54, .int 0, .int 8] zh3 = some (some (.int (-1)), zh3) := zreq_ok (by decide +kernel)
    refine (zqc 1 (s' := (6, [(0, .ref 54), (1, .int 0), (2, .int 8), (3, .int v), (4, .int w)], [.int (-1)])) rfl rfl rfl rfl rfl rfl hc rfl).trans ?_
    refine (zq1 (q := ((8, [(5, .int (-1)), (0, .ref 54), (1, .int 0), (2, .int 8), (3, .int v), (4, .int w)], []), zh3)) rfl rfl rfl).trans ?_
    refine (zq1 (q := ((10, [(5, .int (-1)), (0, .ref 54), (1, .int 0), (2, .int 8), (3, .int v), (4, .int w)], [.int (-1)]), zh3)) rfl rfl rfl).trans ?_
    refine (zq1 (q := ((28, [(5, .int (-1)), (0, .ref 54), (1, .int 0), (2, .int 8), (3, .int v), (4, .int w)], []), zh3)) rfl rfl rfl).trans ?_
    refine (zq1 (q := ((29, [(5, .int (-1)), (0, .ref 54), (1, .int 0), (2, .int 8), (3, .int v), (4, .int w)], [.int 0]), zh3)) rfl rfl rfl).trans ?_
    exact zqr rfl rfl
set_option maxRecDepth 1000000 in
set_option maxHeartbeats 4000000 in
theorem zi_update_0_9 (v w : Int32)  : zPair 42 113 [.int 0, .int 9, .int v, .int w] := by
  refine ⟨0, zh3, zh3, ?_, ?_, rfl, rfl, rfl⟩
  · refine (zcal_go (M := M_ST_update) rfl rfl rfl).trans ?_
    show zloop zmt (zcal zmt 100000 8 395) 9 395 none M_ST_update 100000 (0, [(0, .ref 0), (1, .int 0), (2, .int 9), (3, .int v), (4, .int w)], []) zh3 = _
    refine (zq1 (q := ((1, [(0, .ref 0), (1, .int 0), (2, .int 9), (3, .int v), (4, .int w)], [.ref 0]), zh3)) rfl rfl rfl).trans ?_
    refine (zq1 (q := ((2, [(0, .ref 0), (1, .int 0), (2, .int 9), (3, .int v), (4, .int w)], [.int 0, .ref 0]), zh3)) rfl rfl rfl).trans ?_
    refine (zq1 (q := ((3, [(0, .ref 0), (1, .int 0), (2, .int 9), (3, .int v), (4, .int w)], [.int 9, .int 0, .ref 0]), zh3)) rfl rfl rfl).trans ?_
    have hc : zcal zmt 100000 8 395 39 [.ref 0, .int 0, .int 9] zh3 = some (some (.null), zh3) := zreq_ok (by decide +kernel)
    refine (zqc 1 (s' := (6, [(0, .ref 0), (1, .int 0), (2, .int 9), (3, .int v), (4, .int w)], [.null])) rfl rfl rfl rfl rfl rfl hc rfl).trans ?_
    refine (zq1 (q := ((8, [(5, .null), (0, .ref 0), (1, .int 0), (2, .int 9), (3, .int v), (4, .int w)], []), zh3)) rfl rfl rfl).trans ?_
    refine (zq1 (q := ((10, [(5, .null), (0, .ref 0), (1, .int 0), (2, .int 9), (3, .int v), (4, .int w)], [.null]), zh3)) rfl rfl rfl).trans ?_
    refine (zq1 (q := ((25, [(5, .null), (0, .ref 0), (1, .int 0), (2, .int 9), (3, .int v), (4, .int w)], []), zh3)) rfl rfl rfl).trans ?_
    refine (zq1 (q := ((26, [(5, .null), (0, .ref 0), (1, .int 0), (2, .int 9), (3, .int v), (4, .int w)], [.int 0]), zh3)) rfl rfl rfl).trans ?_
    exact zqr rfl rfl
  · refine (zcal_go (M := M_Mo_update) rfl rfl rfl).trans ?_
    show zloop zmt (zcal zmt 100000 8 395) 9 395 none M_Mo_update 100000 (0, [(0, .ref 54), (1, .int 0), (2, .int 9), (3, .int v), (4, .int w)], []) zh3 = _
    refine (zq1 (q := ((1, [(0, .ref 54), (1, .int 0), (2, .int 9), (3, .int v), (4, .int w)], [.ref 54]), zh3)) rfl rfl rfl).trans ?_
    refine (zq1 (q := ((2, [(0, .ref 54), (1, .int 0), (2, .int 9), (3, .int v), (4, .int w)], [.int 0, .ref 54]), zh3)) rfl rfl rfl).trans ?_
    refine (zq1 (q := ((3, [(0, .ref 54), (1, .int 0), (2, .int 9), (3, .int v), (4, .int w)], [.int 9, .int 0, .ref 54]), zh3)) rfl rfl rfl).trans ?_
    have hc : zcal zmt 100000 8 395 112 [.ref 54, .int 0, .int 9] zh3 = some (some (.int (-1)), zh3) := zreq_ok (by decide +kernel)
    refine (zqc 1 (s' := (6, [(0, .ref 54), (1, .int 0), (2, .int 9), (3, .int v), (4, .int w)], [.int (-1)])) rfl rfl rfl rfl rfl rfl hc rfl).trans ?_
    refine (zq1 (q := ((8, [(5, .int (-1)), (0, .ref 54), (1, .int 0), (2, .int 9), (3, .int v), (4, .int w)], []), zh3)) rfl rfl rfl).trans ?_
    refine (zq1 (q := ((10, [(5, .int (-1)), (0, .ref 54), (1, .int 0), (2, .int 9), (3, .int v), (4, .int w)], [.int (-1)]), zh3)) rfl rfl rfl).trans ?_
    refine (zq1 (q := ((28, [(5, .int (-1)), (0, .ref 54), (1, .int 0), (2, .int 9), (3, .int v), (4, .int w)], []), zh3)) rfl rfl rfl).trans ?_
    refine (zq1 (q := ((29, [(5, .int (-1)), (0, .ref 54), (1, .int 0), (2, .int 9), (3, .int v), (4, .int w)], [.int 0]), zh3)) rfl rfl rfl).trans ?_
    exact zqr rfl rfl
set_option maxRecDepth 1000000 in
set_option maxHeartbeats 4000000 in
theorem zi_update_0_10 (v w : Int32)  : zPair 42 113 [.int 0, .int 10, .int v, .int w] := by
  refine ⟨0, zh3, zh3, ?_, ?_, rfl, rfl, rfl⟩
  · refine (zcal_go (M := M_ST_update) rfl rfl rfl).trans ?_
    show zloop zmt (zcal zmt 100000 8 395) 9 395 none M_ST_update 100000 (0, [(0, .ref 0), (1, .int 0), (2, .int 10), (3, .int v), (4, .int w)], []) zh3 = _
    refine (zq1 (q := ((1, [(0, .ref 0), (1, .int 0), (2, .int 10), (3, .int v), (4, .int w)], [.ref 0]), zh3)) rfl rfl rfl).trans ?_
    refine (zq1 (q := ((2, [(0, .ref 0), (1, .int 0), (2, .int 10), (3, .int v), (4, .int w)], [.int 0, .ref 0]), zh3)) rfl rfl rfl).trans ?_
    refine (zq1 (q := ((3, [(0, .ref 0), (1, .int 0), (2, .int 10), (3, .int v), (4, .int w)], [.int 10, .int 0, .ref 0]), zh3)) rfl rfl rfl).trans ?_
    have hc : zcal zmt 100000 8 395 39 [.ref 0, .int 0, .int 10] zh3 = some (some (.null), zh3) := zreq_ok (by decide +kernel)
    refine (zqc 1 (s' := (6, [(0, .ref 0), (1, .int 0), (2, .int 10), (3, .int v), (4, .int w)], [.null])) rfl rfl rfl rfl rfl rfl hc rfl).trans ?_
    refine (zq1 (q := ((8, [(5, .null), (0, .ref 0), (1, .int 0), (2, .int 10), (3, .int v), (4, .int w)], []), zh3)) rfl rfl rfl).trans ?_
    refine (zq1 (q := ((10, [(5, .null), (0, .ref 0), (1, .int 0), (2, .int 10), (3, .int v), (4, .int w)], [.null]), zh3)) rfl rfl rfl).trans ?_
    refine (zq1 (q := ((25, [(5, .null), (0, .ref 0), (1, .int 0), (2, .int 10), (3, .int v), (4, .int w)], []), zh3)) rfl rfl rfl).trans ?_
    refine (zq1 (q := ((26, [(5, .null), (0, .ref 0), (1, .int 0), (2, .int 10), (3, .int v), (4, .int w)], [.int 0]), zh3)) rfl rfl rfl).trans ?_
    exact zqr rfl rfl
  · refine (zcal_go (M := M_Mo_update) rfl rfl rfl).trans ?_
    show zloop zmt (zcal zmt 100000 8 395) 9 395 none M_Mo_update 100000 (0, [(0, .ref 54), (1, .int 0), (2, .int 10), (3, .int v), (4, .int w)], []) zh3 = _
    refine (zq1 (q := ((1, [(0, .ref 54), (1, .int 0), (2, .int 10), (3, .int v), (4, .int w)], [.ref 54]), zh3)) rfl rfl rfl).trans ?_
    refine (zq1 (q := ((2, [(0, .ref 54), (1, .int 0), (2, .int 10), (3, .int v), (4, .int w)], [.int 0, .ref 54]), zh3)) rfl rfl rfl).trans ?_
    refine (zq1 (q := ((3, [(0, .ref 54), (1, .int 0), (2, .int 10), (3, .int v), (4, .int w)], [.int 10, .int 0, .ref 54]), zh3)) rfl rfl rfl).trans ?_
    have hc : zcal zmt 100000 8 395 112 [.ref 54, .int 0, .int 10] zh3 = some (some (.int (-1)), zh3) := zreq_ok (by decide +kernel)
    refine (zqc 1 (s' := (6, [(0, .ref 54), (1, .int 0), (2, .int 10), (3, .int v), (4, .int w)], [.int (-1)])) rfl rfl rfl rfl rfl rfl hc rfl).trans ?_
    refine (zq1 (q := ((8, [(5, .int (-1)), (0, .ref 54), (1, .int 0), (2, .int 10), (3, .int v), (4, .int w)], []), zh3)) rfl rfl rfl).trans ?_
    refine (zq1 (q := ((10, [(5, .int (-1)), (0, .ref 54), (1, .int 0), (2, .int 10), (3, .int v), (4, .int w)], [.int (-1)]), zh3)) rfl rfl rfl).trans ?_
    refine (zq1 (q := ((28, [(5, .int (-1)), (0, .ref 54), (1, .int 0), (2, .int 10), (3, .int v), (4, .int w)], []), zh3)) rfl rfl rfl).trans ?_
    refine (zq1 (q := ((29, [(5, .int (-1)), (0, .ref 54), (1, .int 0), (2, .int 10), (3, .int v), (4, .int w)], [.int 0]), zh3)) rfl rfl rfl).trans ?_
    exact zqr rfl rfl
set_option maxRecDepth 1000000 in
set_option maxHeartbeats 4000000 in
theorem zi_update_0_11 (v w : Int32)  : zPair 42 113 [.int 0, .int 11, .int v, .int w] := by
  refine ⟨0, zh3, zh3, ?_, ?_, rfl, rfl, rfl⟩
  · refine (zcal_go (M := M_ST_update) rfl rfl rfl).trans ?_
    show zloop zmt (zcal zmt 100000 8 395) 9 395 none M_ST_update 100000 (0, [(0, .ref 0), (1, .int 0), (2, .int 11), (3, .int v), (4, .int w)], []) zh3 = _
    refine (zq1 (q := ((1, [(0, .ref 0), (1, .int 0), (2, .int 11), (3, .int v), (4, .int w)], [.ref 0]), zh3)) rfl rfl rfl).trans ?_
    refine (zq1 (q := ((2, [(0, .ref 0), (1, .int 0), (2, .int 11), (3, .int v), (4, .int w)], [.int 0, .ref 0]), zh3)) rfl rfl rfl).trans ?_
    refine (zq1 (q := ((3, [(0, .ref 0), (1, .int 0), (2, .int 11), (3, .int v), (4, .int w)], [.int 11, .int 0, .ref 0]), zh3)) rfl rfl rfl).trans ?_
    have hc : zcal zmt 100000 8 395 39 [.ref 0, .int 0, .int 11] zh3 = some (some (.null), zh3) := zreq_ok (by decide +kernel)
    refine (zqc 1 (s' := (6, [(0, .ref 0), (1, .int 0), (2, .int 11), (3, .int v), (4, .int w)], [.null])) rfl rfl rfl rfl rfl rfl hc rfl).trans ?_
    refine (zq1 (q := ((8, [(5, .null), (0, .ref 0), (1, .int 0), (2, .int 11), (3, .int v), (4, .int w)], []), zh3)) rfl rfl rfl).trans ?_
    refine (zq1 (q := ((10, [(5, .null), (0, .ref 0), (1, .int 0), (2, .int 11), (3, .int v), (4, .int w)], [.null]), zh3)) rfl rfl rfl).trans ?_
    refine (zq1 (q := ((25, [(5, .null), (0, .ref 0), (1, .int 0), (2, .int 11), (3, .int v), (4, .int w)], []), zh3)) rfl rfl rfl).trans ?_
    refine (zq1 (q := ((26, [(5, .null), (0, .ref 0), (1, .int 0), (2, .int 11), (3, .int v), (4, .int w)], [.int 0]), zh3)) rfl rfl rfl).trans ?_
    exact zqr rfl rfl
  · refine (zcal_go (M := M_Mo_update) rfl rfl rfl).trans ?_
    show zloop zmt (zcal zmt 100000 8 395) 9 395 none M_Mo_update 100000 (0, [(0, .ref 54), (1, .int 0), (2, .int 11), (3, .int v), (4, .int w)], []) zh3 = _
    refine (zq1 (q := ((1, [(0, .ref 54), (1, .int 0), (2, .int 11), (3, .int v), (4, .int w)], [.ref 54]), zh3)) rfl rfl rfl).trans ?_
    refine (zq1 (q := ((2, [(0, .ref 54), (1, .int 0), (2, .int 11), (3, .int v), (4, .int w)], [.int 0, .ref 54]), zh3)) rfl rfl rfl).trans ?_
    refine (zq1 (q := ((3, [(0, .ref 54), (1, .int 0), (2, .int 11), (3, .int v), (4, .int w)], [.int 11, .int 0, .ref 54]), zh3)) rfl rfl rfl).trans ?_
    have hc : zcal zmt 100000 8 395 112 [.ref 54, .int 0, .int 11] zh3 = some (some (.int (-1)), zh3) := zreq_ok (by decide +kernel)
    refine (zqc 1 (s' := (6, [(0, .ref 54), (1, .int 0), (2, .int 11), (3, .int v), (4, .int w)], [.int (-1)])) rfl rfl rfl rfl rfl rfl hc rfl).trans ?_
    refine (zq1 (q := ((8, [(5, .int (-1)), (0, .ref 54), (1, .int 0), (2, .int 11), (3, .int v), (4, .int w)], []), zh3)) rfl rfl rfl).trans ?_
    refine (zq1 (q := ((10, [(5, .int (-1)), (0, .ref 54), (1, .int 0), (2, .int 11), (3, .int v), (4, .int w)], [.int (-1)]), zh3)) rfl rfl rfl).trans ?_
    refine (zq1 (q := ((28, [(5, .int (-1)), (0, .ref 54), (1, .int 0), (2, .int 11), (3, .int v), (4, .int w)], []), zh3)) rfl rfl rfl).trans ?_
    refine (zq1 (q := ((29, [(5, .int (-1)), (0, .ref 54), (1, .int 0), (2, .int 11), (3, .int v), (4, .int w)], [.int 0]), zh3)) rfl rfl rfl).trans ?_
    exact zqr rfl rfl
set_option maxRecDepth 1000000 in
set_option maxHeartbeats 4000000 in
theorem zi_update_0_12 (v w : Int32)  : zPair 42 113 [.int 0, .int 12, .int v, .int w] := by
  refine ⟨0, zh3, zh3, ?_, ?_, rfl, rfl, rfl⟩
  · refine (zcal_go (M := M_ST_update) rfl rfl rfl).trans ?_
    show zloop zmt (zcal zmt 100000 8 395) 9 395 none M_ST_update 100000 (0, [(0, .ref 0), (1, .int 0), (2, .int 12), (3, .int v), (4, .int w)], []) zh3 = _
    refine (zq1 (q := ((1, [(0, .ref 0), (1, .int 0), (2, .int 12), (3, .int v), (4, .int w)], [.ref 0]), zh3)) rfl rfl rfl).trans ?_
    refine (zq1 (q := ((2, [(0, .ref 0), (1, .int 0), (2, .int 12), (3, .int v), (4, .int w)], [.int 0, .ref 0]), zh3)) rfl rfl rfl).trans ?_
    refine (zq1 (q := ((3, [(0, .ref 0), (1, .int 0), (2, .int 12), (3, .int v), (4, .int w)], [.int 12, .int 0, .ref 0]), zh3)) rfl rfl rfl).trans ?_
    have hc : zcal zmt 100000 8 395 39 [.ref 0, .int 0, .int 12] zh3 = some (some (.null), zh3) := zreq_ok (by decide +kernel)
    refine (zqc 1 (s' := (6, [(0, .ref 0), (1, .int 0), (2, .int 12), (3, .int v), (4, .int w)], [.null])) rfl rfl rfl rfl rfl rfl hc rfl).trans ?_
    refine (zq1 (q := ((8, [(5, .null), (0, .ref 0), (1, .int 0), (2, .int 12), (3, .int v), (4, .int w)], []), zh3)) rfl rfl rfl).trans ?_
    refine (zq1 (q := ((10, [(5, .null), (0, .ref 0), (1, .int 0), (2, .int 12), (3, .int v), (4, .int w)], [.null]), zh3)) rfl rfl rfl).trans ?_
    refine (zq1 (q := ((25, [(5, .null), (0, .ref 0), (1, .int 0), (2, .int 12), (3, .int v), (4, .int w)], []), zh3)) rfl rfl rfl).trans ?_
    refine (zq1 (q := ((26, [(5, .null), (0, .ref 0), (1, .int 0), (2, .int 12), (3, .int v), (4, .int w)], [.int 0]), zh3)) rfl rfl rfl).trans ?_
    exact zqr rfl rfl
  · refine (zcal_go (M := M_Mo_update) rfl rfl rfl).trans ?_
    show zloop zmt (zcal zmt 100000 8 395) 9 395 none M_Mo_update 100000 (0, [(0, .ref 54), (1, .int 0), (2, .int 12), (3, .int v), (4, .int w)], []) zh3 = _
    refine (zq1 (q := ((1, [(0, .ref 54), (1, .int 0), (2, .int 12), (3, .int v), (4, .int w)], [.ref 54]), zh3)) rfl rfl rfl).trans ?_
    refine (zq1 (q := ((2, [(0, .ref 54), (1, .int 0), (2, .int 12), (3, .int v), (4, .int w)], [.int 0, .ref 54]), zh3)) rfl rfl rfl).trans ?_
    refine (zq1 (q := ((3, [(0, .ref 54), (1, .int 0), (2, .int 12), (3, .int v), (4, .int w)], [.int 12, .int 0, .ref 54]), zh3)) rfl rfl rfl).trans ?_
    have hc : zcal zmt 100000 8 395 112 [.ref 54, .int 0, .int 12] zh3 = some (some (.int (-1)), zh3) := zreq_ok (by decide +kernel)
    refine (zqc 1 (s' := (6, [(0, .ref 54), (1, .int 0), (2, .int 12), (3, .int v), (4, .int w)], [.int (-1)])) rfl rfl rfl rfl rfl rfl hc rfl).trans ?_
    refine (zq1 (q := ((8, [(5, .int (-1)), (0, .ref 54), (1, .int 0), (2, .int 12), (3, .int v), (4, .int w)], []), zh3)) rfl rfl rfl).trans ?_
    refine (zq1 (q := ((10, [(5, .int (-1)), (0, .ref 54), (1, .int 0), (2, .int 12), (3, .int v), (4, .int w)], [.int (-1)]), zh3)) rfl rfl rfl).trans ?_
    refine (zq1 (q := ((28, [(5, .int (-1)), (0, .ref 54), (1, .int 0), (2, .int 12), (3, .int v), (4, .int w)], []), zh3)) rfl rfl rfl).trans ?_
    refine (zq1 (q := ((29, [(5, .int (-1)), (0, .ref 54), (1, .int 0), (2, .int 12), (3, .int v), (4, .int w)], [.int 0]), zh3)) rfl rfl rfl).trans ?_
    exact zqr rfl rfl
set_option maxRecDepth 1000000 in
set_option maxHeartbeats 4000000 in
theorem zi_update_0_13 (v w : Int32)  : zPair 42 113 [.int 0, .int 13, .int v, .int w] := by
  refine ⟨0, zh3, zh3, ?_, ?_, rfl, rfl, rfl⟩
  · refine (zcal_go (M := M_ST_update) rfl rfl rfl).trans ?_
    show zloop zmt (zcal zmt 100000 8 395) 9 395 none M_ST_update 100000 (0, [(0, .ref 0), (1, .int 0), (2, .int 13), (3, .int v), (4, .int w)], []) zh3 = _
    refine (zq1 (q := ((1, [(0, .ref 0), (1, .int 0), (2, .int 13), (3, .int v), (4, .int w)], [.ref 0]), zh3)) rfl rfl rfl).trans ?_
    refine (zq1 (q := ((2, [(0, .ref 0), (1, .int 0), (2, .int 13), (3, .int v), (4, .int w)], [.int 0, .ref 0]), zh3)) rfl rfl rfl).trans ?_
    refine (zq1 (q := ((3, [(0, .ref 0), (1, .int 0), (2, .int 13), (3, .int v), (4, .int w)], [.int 13, .int 0, .ref 0]), zh3)) rfl rfl rfl).trans ?_
    have hc : zcal zmt 100000 8 395 39 [.ref 0, .int 0, .int 13] zh3 = some (some (.null), zh3) := zreq_ok (by decide +kernel)
    refine (zqc 1 (s' := (6, [(0, .ref 0), (1, .int 0), (2, .int 13), (3, .int v), (4, .int w)], [.null])) rfl rfl rfl rfl rfl rfl hc rfl).trans ?_
    refine (zq1 (q := ((8, [(5, .null), (0, .ref 0), (1, .int 0), (2, .int 13), (3, .int v), (4, .int w)], []), zh3)) rfl rfl rfl).trans ?_
    refine (zq1 (q := ((10, [(5, .null), (0, .ref 0), (1, .int 0), (2, .int 13), (3, .int v), (4, .int w)], [.null]), zh3)) rfl rfl rfl).trans ?_
    refine (zq1 (q := ((25, [(5, .null), (0, .ref 0), (1, .int 0), (2, .int 13), (3, .int v), (4, .int w)], []), zh3)) rfl rfl rfl).trans ?_
    refine (zq1 (q := ((26, [(5, .null), (0, .ref 0), (1, .int 0), (2, .int 13), (3, .int v), (4, .int w)], [.int 0]), zh3)) rfl rfl rfl).trans ?_
    exact zqr rfl rfl
  · refine (zcal_go (M := M_Mo_update) rfl rfl rfl).trans ?_
    show zloop zmt (zcal zmt 100000 8 395) 9 395 none M_Mo_update 100000 (0, [(0, .ref 54), (1, .int 0), (2, .int 13), (3, .int v), (4, .int w)], []) zh3 = _
    refine (zq1 (q := ((1, [(0, .ref 54), (1, .int 0), (2, .int 13), (3, .int v), (4, .int w)], [.ref 54]), zh3)) rfl rfl rfl).trans ?_
    refine (zq1 (q := ((2, [(0, .ref 54), (1, .int 0), (2, .int 13), (3, .int v), (4, .int w)], [.int 0, .ref 54]), zh3)) rfl rfl rfl).trans ?_
    refine (zq1 (q := ((3, [(0, .ref 54), (1, .int 0), (2, .int 13), (3, .int v), (4, .int w)], [.int 13, .int 0, .ref 54]), zh3)) rfl rfl rfl).trans ?_
    have hc : zcal zmt 100000 8 395 112 [.ref 54, .int 0, .int 13] zh3 = some (some (.int (-1)), zh3) := zreq_ok (by decide +kernel)
    refine (zqc 1 (s' := (6, [(0, .ref 54), (1, .int 0), (2, .int 13), (3, .int v), (4, .int w)], [.int (-1)])) rfl rfl rfl rfl rfl rfl hc rfl).trans ?_
    refine (zq1 (q := ((8, [(5, .int (-1)), (0, .ref 54), (1, .int 0), (2, .int 13), (3, .int v), (4, .int w)], []), zh3)) rfl rfl rfl).trans ?_
    refine (zq1 (q := ((10, [(5, .int (-1)), (0, .ref 54), (1, .int 0), (2, .int 13), (3, .int v), (4, .int w)], [.int (-1)]), zh3)) rfl rfl rfl).trans ?_
    refine (zq1 (q := ((28, [(5, .int (-1)), (0, .ref 54), (1, .int 0), (2, .int 13), (3, .int v), (4, .int w)], []), zh3)) rfl rfl rfl).trans ?_
    refine (zq1 (q := ((29, [(5, .int (-1)), (0, .ref 54), (1, .int 0), (2, .int 13), (3, .int v), (4, .int w)], [.int 0]), zh3)) rfl rfl rfl).trans ?_
    exact zqr rfl rfl
set_option maxRecDepth 1000000 in
set_option maxHeartbeats 4000000 in
theorem zi_update_0_14 (v w : Int32)  : zPair 42 113 [.int 0, .int 14, .int v, .int w] := by
  refine ⟨0, zh3, zh3, ?_, ?_, rfl, rfl, rfl⟩
  · refine (zcal_go (M := M_ST_update) rfl rfl rfl).trans ?_
    show zloop zmt (zcal zmt 100000 8 395) 9 395 none M_ST_update 100000 (0, [(0, .ref 0), (1, .int 0), (2, .int 14), (3, .int v), (4, .int w)], []) zh3 = _
    refine (zq1 (q := ((1, [(0, .ref 0), (1, .int 0), (2, .int 14), (3, .int v), (4, .int w)], [.ref 0]), zh3)) rfl rfl rfl).trans ?_
    refine (zq1 (q := ((2, [(0, .ref 0), (1, .int 0), (2, .int 14), (3, .int v), (4, .int w)], [.int 0, .ref 0]), zh3)) rfl rfl rfl).trans ?_
    refine (zq1 (q := ((3, [(0, .ref 0), (1, .int 0), (2, .int 14), (3, .int v), (4, .int w)], [.int 14, .int 0, .ref 0]), zh3)) rfl rfl rfl).trans ?_
    have hc : zcal zmt 100000 8 395 39 [.ref 0, .int 0, .int 14] zh3 = some (some (.null), zh3) := zreq_ok (by decide +kernel)
    refine (zqc 1 (s' := (6, [(0, .ref 0), (1, .int 0), (2, .int 14), (3, .int v), (4, .int w)], [.null])) rfl rfl rfl rfl rfl rfl hc rfl).trans ?_
    refine (zq1 (q := ((8, [(5, .null), (0, .ref 0), (1, .int 0), (2, .int 14), (3, .int v), (4, .int w)], []), zh3)) rfl rfl rfl).trans ?_
    refine (zq1 (q := ((10, [(5, .null), (0, .ref 0), (1, .int 0), (2, .int 14), (3, .int v), (4, .int w)], [.null]), zh3)) rfl rfl rfl).trans ?_
    refine (zq1 (q := ((25, [(5, .null), (0, .ref 0), (1, .int 0), (2, .int 14), (3, .int v), (4, .int w)], []), zh3)) rfl rfl rfl).trans ?_
    refine (zq1 (q := ((26, [(5, .null), (0, .ref 0), (1, .int 0), (2, .int 14), (3, .int v), (4, .int w)], [.int 0]), zh3)) rfl rfl rfl).trans ?_
    exact zqr rfl rfl
  · refine (zcal_go (M := M_Mo_update) rfl rfl rfl).trans ?_
    show zloop zmt (zcal zmt 100000 8 395) 9 395 none M_Mo_update 100000 (0, [(0, .ref 54), (1, .int 0), (2, .int 14), (3, .int v), (4, .int w)], []) zh3 = _
    refine (zq1 (q := ((1, [(0, .ref 54), (1, .int 0), (2, .int 14), (3, .int v), (4, .int w)], [.ref 54]), zh3)) rfl rfl rfl).trans ?_
    refine (zq1 (q := ((2, [(0, .ref 54), (1, .int 0), (2, .int 14), (3, .int v), (4, .int w)], [.int 0, .ref 54]), zh3)) rfl rfl rfl).trans ?_
    refine (zq1 (q := ((3, [(0, .ref 54), (1, .int 0), (2, .int 14), (3, .int v), (4, .int w)], [.int 14, .int 0, .ref 54]), zh3)) rfl rfl rfl).trans ?_
    have hc : zcal zmt 100000 8 395 112 [.ref 54, .int 0, .int 14] zh3 = some (some (.int (-1)), zh3) := zreq_ok (by decide +kernel)
    refine (zqc 1 (s' := (6, [(0, .ref 54), (1, .int 0), (2, .int 14), (3, .int v), (4, .int w)], [.int (-1)])) rfl rfl rfl rfl rfl rfl hc rfl).trans ?_
    refine (zq1 (q := ((8, [(5, .int (-1)), (0, .ref 54), (1, .int 0), (2, .int 14), (3, .int v), (4, .int w)], []), zh3)) rfl rfl rfl).trans ?_
    refine (zq1 (q := ((10, [(5, .int (-1)), (0, .ref 54), (1, .int 0), (2, .int 14), (3, .int v), (4, .int w)], [.int (-1)]), zh3)) rfl rfl rfl).trans ?_
    refine (zq1 (q := ((28, [(5, .int (-1)), (0, .ref 54), (1, .int 0), (2, .int 14), (3, .int v), (4, .int w)], []), zh3)) rfl rfl rfl).trans ?_
    refine (zq1 (q := ((29, [(5, .int (-1)), (0, .ref 54), (1, .int 0), (2, .int 14), (3, .int v), (4, .int w)], [.int 0]), zh3)) rfl rfl rfl).trans ?_
    exact zqr rfl rfl
set_option maxRecDepth 1000000 in
set_option maxHeartbeats 4000000 in
theorem zi_update_0_15 (v w : Int32)  : zPair 42 113 [.int 0, .int 15, .int v, .int w] := by
  refine ⟨0, zh3, zh3, ?_, ?_, rfl, rfl, rfl⟩
  · refine (zcal_go (M := M_ST_update) rfl rfl rfl).trans ?_
    show zloop zmt (zcal zmt 100000 8 395) 9 395 none M_ST_update 100000 (0, [(0, .ref 0), (1, .int 0), (2, .int 15), (3, .int v), (4, .int w)], []) zh3 = _
    refine (zq1 (q := ((1, [(0, .ref 0), (1, .int 0), (2, .int 15), (3, .int v), (4, .int w)], [.ref 0]), zh3)) rfl rfl rfl).trans ?_
    refine (zq1 (q := ((2, [(0, .ref 0), (1, .int 0), (2, .int 15), (3, .int v), (4, .int w)], [.int 0, .ref 0]), zh3)) rfl rfl rfl).trans ?_
    refine (zq1 (q := ((3, [(0, .ref 0), (1, .int 0), (2, .int 15), (3, .int v), (4, .int w)], [.int 15, .int 0, .ref 0]), zh3)) rfl rfl rfl).trans ?_
    have hc : zcal zmt 100000 8 395 39 [.ref 0, .int 0, .int 15] zh3 = some (some (.null), zh3) := zreq_ok (by decide +kernel)
    refine (zqc 1 (s' := (6, [(0, .ref 0), (1, .int 0), (2, .int 15), (3, .int v), (4, .int w)], [.null])) rfl rfl rfl rfl rfl rfl hc rfl).trans ?_
    refine (zq1 (q := ((8, [(5, .null), (0, .ref 0), (1, .int 0), (2, .int 15), (3, .int v), (4, .int w)], []), zh3)) rfl rfl rfl).trans ?_
    refine (zq1 (q := ((10, [(5, .null), (0, .ref 0), (1, .int 0), (2, .int 15), (3, .int v), (4, .int w)], [.null]), zh3)) rfl rfl rfl).trans ?_
    refine (zq1 (q := ((25, [(5, .null), (0, .ref 0), (1, .int 0), (2, .int 15), (3, .int v), (4, .int w)], []), zh3)) rfl rfl rfl).trans ?_
    refine (zq1 (q := ((26, [(5, .null), (0, .ref 0), (1, .int 0), (2, .int 15), (3, .int v), (4, .int w)], [.int 0]), zh3)) rfl rfl rfl).trans ?_
    exact zqr rfl rfl
  · refine (zcal_go (M := M_Mo_update) rfl rfl rfl).trans ?_
    show zloop zmt (zcal zmt 100000 8 395) 9 395 none M_Mo_update 100000 (0, [(0, .ref 54), (1, .int 0), (2, .int 15), (3, .int v), (4, .int w)], []) zh3 = _
    refine (zq1 (q := ((1, [(0, .ref 54), (1, .int 0), (2, .int 15), (3, .int v), (4, .int w)], [.ref 54]), zh3)) rfl rfl rfl).trans ?_
    refine (zq1 (q := ((2, [(0, .ref 54), (1, .int 0), (2, .int 15), (3, .int v), (4, .int w)], [.int 0, .ref 54]), zh3)) rfl rfl rfl).trans ?_
    refine (zq1 (q := ((3, [(0, .ref 54), (1, .int 0), (2, .int 15), (3, .int v), (4, .int w)], [.int 15, .int 0, .ref 54]), zh3)) rfl rfl rfl).trans ?_
    have hc : zcal zmt 100000 8 395 112 [.ref 54, .int 0, .int 15] zh3 = some (some (.int (-1)), zh3) := zreq_ok (by decide +kernel)
    refine (zqc 1 (s' := (6, [(0, .ref 54), (1, .int 0), (2, .int 15), (3, .int v), (4, .int w)], [.int (-1)])) rfl rfl rfl rfl rfl rfl hc rfl).trans ?_
    refine (zq1 (q := ((8, [(5, .int (-1)), (0, .ref 54), (1, .int 0), (2, .int 15), (3, .int v), (4, .int w)], []), zh3)) rfl rfl rfl).trans ?_
    refine (zq1 (q := ((10, [(5, .int (-1)), (0, .ref 54), (1, .int 0), (2, .int 15), (3, .int v), (4, .int w)], [.int (-1)]), zh3)) rfl rfl rfl).trans ?_
    refine (zq1 (q := ((28, [(5, .int (-1)), (0, .ref 54), (1, .int 0), (2, .int 15), (3, .int v), (4, .int w)], []), zh3)) rfl rfl rfl).trans ?_
    refine (zq1 (q := ((29, [(5, .int (-1)), (0, .ref 54), (1, .int 0), (2, .int 15), (3, .int v), (4, .int w)], [.int 0]), zh3)) rfl rfl rfl).trans ?_
    exact zqr rfl rfl
set_option maxRecDepth 1000000 in
set_option maxHeartbeats 4000000 in
theorem zi_update_1_lt (r v w : Int32) (h : r.toInt < 0) : zPair 42 113 [.int 1, .int r, .int v, .int w] := by
  refine ⟨0, zh3, zh3, ?_, ?_, rfl, rfl, rfl⟩
  · refine (zcal_go (M := M_ST_update) rfl rfl rfl).trans ?_
    show zloop zmt (zcal zmt 100000 8 395) 9 395 none M_ST_update 100000 (0, [(0, .ref 0), (1, .int 1), (2, .int r), (3, .int v), (4, .int w)], []) zh3 = _
    refine (zq1 (q := ((1, [(0, .ref 0), (1, .int 1), (2, .int r), (3, .int v), (4, .int w)], [.ref 0]), zh3)) rfl rfl rfl).trans ?_
    refine (zq1 (q := ((2, [(0, .ref 0), (1, .int 1), (2, .int r), (3, .int v), (4, .int w)], [.int 1, .ref 0]), zh3)) rfl rfl rfl).trans ?_
    refine (zq1 (q := ((3, [(0, .ref 0), (1, .int 1), (2, .int r), (3, .int v), (4, .int w)], [.int r, .int 1, .ref 0]), zh3)) rfl rfl rfl).trans ?_
    have hc : zcal zmt 100000 8 395 39 [.ref 0, .int 1, .int r] zh3 = some (some (.null), zh3) := by
      refine (zcal_go (M := M_ST_placeOf) rfl rfl rfl).trans ?_
      show zloop zmt (zcal zmt 100000 7 373) 8 373 none M_ST_placeOf 100000 (0, [(0, .ref 0), (1, .int 1), (2, .int r)], []) zh3 = _
      refine (zq1 (q := ((1, [(0, .ref 0), (1, .int 1), (2, .int r)], [.int 1]), zh3)) rfl rfl rfl).trans ?_
      have hc : zcal zmt 100000 7 373 29 [.int 1] zh3 = some (some (.int 1), zh3) := zreq_ok (by decide +kernel)
      refine (zqc 0 (s' := (4, [(0, .ref 0), (1, .int 1), (2, .int r)], [.int 1])) rfl rfl rfl rfl rfl rfl hc rfl).trans ?_
      refine (zq1 (q := ((7, [(0, .ref 0), (1, .int 1), (2, .int r)], []), zh3)) rfl rfl rfl).trans ?_
      refine (zq1 (q := ((8, [(0, .ref 0), (1, .int 1), (2, .int r)], [.ref 0]), zh3)) rfl rfl rfl).trans ?_
      refine (zq1 (q := ((11, [(0, .ref 0), (1, .int 1), (2, .int r)], [.ref 1]), zh3)) rfl rfl rfl).trans ?_
      refine (zq1 (q := ((12, [(0, .ref 0), (1, .int 1), (2, .int r)], [.int 1, .ref 1]), zh3)) rfl rfl rfl).trans ?_
      refine (zq1 (q := ((13, [(0, .ref 0), (1, .int 1), (2, .int r)], [.ref 26]), zh3)) rfl rfl rfl).trans ?_
      refine (zq1 (q := ((14, [(0, .ref 0), (1, .int 1), (2, .int r)], [.int r, .ref 26]), zh3)) rfl rfl rfl).trans ?_
      have hc : zcal zmt 100000 7 373 40 [.ref 26, .int r] zh3 = some (some (.null), zh3) := by
        refine (zcal_go (M := M_Ta_placeAt) rfl rfl rfl).trans ?_
        show zloop zmt (zcal zmt 100000 6 352) 7 352 none M_Ta_placeAt 100000 (0, [(0, .ref 26), (1, .int r)], []) zh3 = _
        refine (zq1 (q := ((1, [(0, .ref 26), (1, .int r)], [.int r]), zh3)) rfl rfl rfl).trans ?_
        refine (zqb (q := (19, [(0, .ref 26), (1, .int r)], [])) (cB := zc .lt r (0)) (v := true) (off := 18) (lv := [(0, .ref 26), (1, .int r)]) (r := []) rfl rfl rfl (zcb .lt (x := r) (y := (0)) (k := 0) (by decide) (decide_eq_true (by omega))) rfl).trans ?_
        refine (zq1 (q := ((20, [(0, .ref 26), (1, .int r)], [.null]), zh3)) rfl rfl rfl).trans ?_
        exact zqr rfl rfl
      refine (zqc 1 (s' := (17, [(0, .ref 0), (1, .int 1), (2, .int r)], [.null])) rfl rfl rfl rfl rfl rfl hc rfl).trans ?_
      refine (zq1 (q := ((21, [(0, .ref 0), (1, .int 1), (2, .int r)], [.null]), zh3)) rfl rfl rfl).trans ?_
      exact zqr rfl rfl
    refine (zqc 1 (s' := (6, [(0, .ref 0), (1, .int 1), (2, .int r), (3, .int v), (4, .int w)], [.null])) rfl rfl rfl rfl rfl rfl hc rfl).trans ?_
    refine (zq1 (q := ((8, [(5, .null), (0, .ref 0), (1, .int 1), (2, .int r), (3, .int v), (4, .int w)], []), zh3)) rfl rfl rfl).trans ?_
    refine (zq1 (q := ((10, [(5, .null), (0, .ref 0), (1, .int 1), (2, .int r), (3, .int v), (4, .int w)], [.null]), zh3)) rfl rfl rfl).trans ?_
    refine (zq1 (q := ((25, [(5, .null), (0, .ref 0), (1, .int 1), (2, .int r), (3, .int v), (4, .int w)], []), zh3)) rfl rfl rfl).trans ?_
    refine (zq1 (q := ((26, [(5, .null), (0, .ref 0), (1, .int 1), (2, .int r), (3, .int v), (4, .int w)], [.int 0]), zh3)) rfl rfl rfl).trans ?_
    exact zqr rfl rfl
  · refine (zcal_go (M := M_Mo_update) rfl rfl rfl).trans ?_
    show zloop zmt (zcal zmt 100000 8 395) 9 395 none M_Mo_update 100000 (0, [(0, .ref 54), (1, .int 1), (2, .int r), (3, .int v), (4, .int w)], []) zh3 = _
    refine (zq1 (q := ((1, [(0, .ref 54), (1, .int 1), (2, .int r), (3, .int v), (4, .int w)], [.ref 54]), zh3)) rfl rfl rfl).trans ?_
    refine (zq1 (q := ((2, [(0, .ref 54), (1, .int 1), (2, .int r), (3, .int v), (4, .int w)], [.int 1, .ref 54]), zh3)) rfl rfl rfl).trans ?_
    refine (zq1 (q := ((3, [(0, .ref 54), (1, .int 1), (2, .int r), (3, .int v), (4, .int w)], [.int r, .int 1, .ref 54]), zh3)) rfl rfl rfl).trans ?_
    have hc : zcal zmt 100000 8 395 112 [.ref 54, .int 1, .int r] zh3 = some (some (.int (-1)), zh3) := by
      refine (zcal_go (M := M_Mo_slot) rfl rfl rfl).trans ?_
      show zloop zmt (zcal zmt 100000 7 373) 8 373 none M_Mo_slot 100000 (0, [(0, .ref 54), (1, .int 1), (2, .int r)], []) zh3 = _
      refine (zq1 (q := ((1, [(0, .ref 54), (1, .int 1), (2, .int r)], [.int 1]), zh3)) rfl rfl rfl).trans ?_
      have hc : zcal zmt 100000 7 373 108 [.int 1] zh3 = some (some (.int 1), zh3) := zreq_ok (by decide +kernel)
      refine (zqc 0 (s' := (4, [(0, .ref 54), (1, .int 1), (2, .int r)], [.int 1])) rfl rfl rfl rfl rfl rfl hc rfl).trans ?_
      refine (zq1 (q := ((7, [(0, .ref 54), (1, .int 1), (2, .int r)], []), zh3)) rfl rfl rfl).trans ?_
      refine (zq1 (q := ((8, [(0, .ref 54), (1, .int 1), (2, .int r)], [.int r]), zh3)) rfl rfl rfl).trans ?_
      refine (zqb (q := (40, [(0, .ref 54), (1, .int 1), (2, .int r)], [])) (cB := zc .lt r (0)) (v := true) (off := 32) (lv := [(0, .ref 54), (1, .int 1), (2, .int r)]) (r := []) rfl rfl rfl (zcb .lt (x := r) (y := (0)) (k := 0) (by decide) (decide_eq_true (by omega))) rfl).trans ?_
      refine (zq1 (q := ((41, [(0, .ref 54), (1, .int 1), (2, .int r)], [.int (-1)]), zh3)) rfl rfl rfl).trans ?_
      exact zqr rfl rfl
    refine (zqc 1 (s' := (6, [(0, .ref 54), (1, .int 1), (2, .int r), (3, .int v), (4, .int w)], [.int (-1)])) rfl rfl rfl rfl rfl rfl hc rfl).trans ?_
    refine (zq1 (q := ((8, [(5, .int (-1)), (0, .ref 54), (1, .int 1), (2, .int r), (3, .int v), (4, .int w)], []), zh3)) rfl rfl rfl).trans ?_
    refine (zq1 (q := ((10, [(5, .int (-1)), (0, .ref 54), (1, .int 1), (2, .int r), (3, .int v), (4, .int w)], [.int (-1)]), zh3)) rfl rfl rfl).trans ?_
    refine (zq1 (q := ((28, [(5, .int (-1)), (0, .ref 54), (1, .int 1), (2, .int r), (3, .int v), (4, .int w)], []), zh3)) rfl rfl rfl).trans ?_
    refine (zq1 (q := ((29, [(5, .int (-1)), (0, .ref 54), (1, .int 1), (2, .int r), (3, .int v), (4, .int w)], [.int 0]), zh3)) rfl rfl rfl).trans ?_
    exact zqr rfl rfl
set_option maxRecDepth 1000000 in
set_option maxHeartbeats 4000000 in
theorem zi_update_1_ge (r v w : Int32) (h : 16 ≤ r.toInt) : zPair 42 113 [.int 1, .int r, .int v, .int w] := by
  refine ⟨0, zh3, zh3, ?_, ?_, rfl, rfl, rfl⟩
  · refine (zcal_go (M := M_ST_update) rfl rfl rfl).trans ?_
    show zloop zmt (zcal zmt 100000 8 395) 9 395 none M_ST_update 100000 (0, [(0, .ref 0), (1, .int 1), (2, .int r), (3, .int v), (4, .int w)], []) zh3 = _
    refine (zq1 (q := ((1, [(0, .ref 0), (1, .int 1), (2, .int r), (3, .int v), (4, .int w)], [.ref 0]), zh3)) rfl rfl rfl).trans ?_
    refine (zq1 (q := ((2, [(0, .ref 0), (1, .int 1), (2, .int r), (3, .int v), (4, .int w)], [.int 1, .ref 0]), zh3)) rfl rfl rfl).trans ?_
    refine (zq1 (q := ((3, [(0, .ref 0), (1, .int 1), (2, .int r), (3, .int v), (4, .int w)], [.int r, .int 1, .ref 0]), zh3)) rfl rfl rfl).trans ?_
    have hc : zcal zmt 100000 8 395 39 [.ref 0, .int 1, .int r] zh3 = some (some (.null), zh3) := by
      refine (zcal_go (M := M_ST_placeOf) rfl rfl rfl).trans ?_
      show zloop zmt (zcal zmt 100000 7 373) 8 373 none M_ST_placeOf 100000 (0, [(0, .ref 0), (1, .int 1), (2, .int r)], []) zh3 = _
      refine (zq1 (q := ((1, [(0, .ref 0), (1, .int 1), (2, .int r)], [.int 1]), zh3)) rfl rfl rfl).trans ?_
      have hc : zcal zmt 100000 7 373 29 [.int 1] zh3 = some (some (.int 1), zh3) := zreq_ok (by decide +kernel)
      refine (zqc 0 (s' := (4, [(0, .ref 0), (1, .int 1), (2, .int r)], [.int 1])) rfl rfl rfl rfl rfl rfl hc rfl).trans ?_
      refine (zq1 (q := ((7, [(0, .ref 0), (1, .int 1), (2, .int r)], []), zh3)) rfl rfl rfl).trans ?_
      refine (zq1 (q := ((8, [(0, .ref 0), (1, .int 1), (2, .int r)], [.ref 0]), zh3)) rfl rfl rfl).trans ?_
      refine (zq1 (q := ((11, [(0, .ref 0), (1, .int 1), (2, .int r)], [.ref 1]), zh3)) rfl rfl rfl).trans ?_
      refine (zq1 (q := ((12, [(0, .ref 0), (1, .int 1), (2, .int r)], [.int 1, .ref 1]), zh3)) rfl rfl rfl).trans ?_
      refine (zq1 (q := ((13, [(0, .ref 0), (1, .int 1), (2, .int r)], [.ref 26]), zh3)) rfl rfl rfl).trans ?_
      refine (zq1 (q := ((14, [(0, .ref 0), (1, .int 1), (2, .int r)], [.int r, .ref 26]), zh3)) rfl rfl rfl).trans ?_
      have hc : zcal zmt 100000 7 373 40 [.ref 26, .int r] zh3 = some (some (.null), zh3) := by
        refine (zcal_go (M := M_Ta_placeAt) rfl rfl rfl).trans ?_
        show zloop zmt (zcal zmt 100000 6 352) 7 352 none M_Ta_placeAt 100000 (0, [(0, .ref 26), (1, .int r)], []) zh3 = _
        refine (zq1 (q := ((1, [(0, .ref 26), (1, .int r)], [.int r]), zh3)) rfl rfl rfl).trans ?_
        refine (zqb (q := (4, [(0, .ref 26), (1, .int r)], [])) (cB := zc .lt r (0)) (v := false) (off := 18) (lv := [(0, .ref 26), (1, .int r)]) (r := []) rfl rfl rfl (zcb .lt (x := r) (y := (0)) (k := 0) (by decide) (decide_eq_false (by omega))) rfl).trans ?_
        refine (zq1 (q := ((5, [(0, .ref 26), (1, .int r)], [.int r]), zh3)) rfl rfl rfl).trans ?_
        refine (zq1 (q := ((7, [(0, .ref 26), (1, .int r)], [.int 16, .int r]), zh3)) rfl rfl rfl).trans ?_
        refine (zqb (q := (19, [(0, .ref 26), (1, .int r)], [])) (cB := zc .ge r (16)) (v := true) (off := 12) (lv := [(0, .ref 26), (1, .int r)]) (r := []) rfl rfl rfl (zcb .ge (x := r) (y := (16)) (k := 16) (by decide) (decide_eq_true (by omega))) rfl).trans ?_
        refine (zq1 (q := ((20, [(0, .ref 26), (1, .int r)], [.null]), zh3)) rfl rfl rfl).trans ?_
        exact zqr rfl rfl
      refine (zqc 1 (s' := (17, [(0, .ref 0), (1, .int 1), (2, .int r)], [.null])) rfl rfl rfl rfl rfl rfl hc rfl).trans ?_
      refine (zq1 (q := ((21, [(0, .ref 0), (1, .int 1), (2, .int r)], [.null]), zh3)) rfl rfl rfl).trans ?_
      exact zqr rfl rfl
    refine (zqc 1 (s' := (6, [(0, .ref 0), (1, .int 1), (2, .int r), (3, .int v), (4, .int w)], [.null])) rfl rfl rfl rfl rfl rfl hc rfl).trans ?_
    refine (zq1 (q := ((8, [(5, .null), (0, .ref 0), (1, .int 1), (2, .int r), (3, .int v), (4, .int w)], []), zh3)) rfl rfl rfl).trans ?_
    refine (zq1 (q := ((10, [(5, .null), (0, .ref 0), (1, .int 1), (2, .int r), (3, .int v), (4, .int w)], [.null]), zh3)) rfl rfl rfl).trans ?_
    refine (zq1 (q := ((25, [(5, .null), (0, .ref 0), (1, .int 1), (2, .int r), (3, .int v), (4, .int w)], []), zh3)) rfl rfl rfl).trans ?_
    refine (zq1 (q := ((26, [(5, .null), (0, .ref 0), (1, .int 1), (2, .int r), (3, .int v), (4, .int w)], [.int 0]), zh3)) rfl rfl rfl).trans ?_
    exact zqr rfl rfl
  · refine (zcal_go (M := M_Mo_update) rfl rfl rfl).trans ?_
    show zloop zmt (zcal zmt 100000 8 395) 9 395 none M_Mo_update 100000 (0, [(0, .ref 54), (1, .int 1), (2, .int r), (3, .int v), (4, .int w)], []) zh3 = _
    refine (zq1 (q := ((1, [(0, .ref 54), (1, .int 1), (2, .int r), (3, .int v), (4, .int w)], [.ref 54]), zh3)) rfl rfl rfl).trans ?_
    refine (zq1 (q := ((2, [(0, .ref 54), (1, .int 1), (2, .int r), (3, .int v), (4, .int w)], [.int 1, .ref 54]), zh3)) rfl rfl rfl).trans ?_
    refine (zq1 (q := ((3, [(0, .ref 54), (1, .int 1), (2, .int r), (3, .int v), (4, .int w)], [.int r, .int 1, .ref 54]), zh3)) rfl rfl rfl).trans ?_
    have hc : zcal zmt 100000 8 395 112 [.ref 54, .int 1, .int r] zh3 = some (some (.int (-1)), zh3) := by
      refine (zcal_go (M := M_Mo_slot) rfl rfl rfl).trans ?_
      show zloop zmt (zcal zmt 100000 7 373) 8 373 none M_Mo_slot 100000 (0, [(0, .ref 54), (1, .int 1), (2, .int r)], []) zh3 = _
      refine (zq1 (q := ((1, [(0, .ref 54), (1, .int 1), (2, .int r)], [.int 1]), zh3)) rfl rfl rfl).trans ?_
      have hc : zcal zmt 100000 7 373 108 [.int 1] zh3 = some (some (.int 1), zh3) := zreq_ok (by decide +kernel)
      refine (zqc 0 (s' := (4, [(0, .ref 54), (1, .int 1), (2, .int r)], [.int 1])) rfl rfl rfl rfl rfl rfl hc rfl).trans ?_
      refine (zq1 (q := ((7, [(0, .ref 54), (1, .int 1), (2, .int r)], []), zh3)) rfl rfl rfl).trans ?_
      refine (zq1 (q := ((8, [(0, .ref 54), (1, .int 1), (2, .int r)], [.int r]), zh3)) rfl rfl rfl).trans ?_
      refine (zqb (q := (11, [(0, .ref 54), (1, .int 1), (2, .int r)], [])) (cB := zc .lt r (0)) (v := false) (off := 32) (lv := [(0, .ref 54), (1, .int 1), (2, .int r)]) (r := []) rfl rfl rfl (zcb .lt (x := r) (y := (0)) (k := 0) (by decide) (decide_eq_false (by omega))) rfl).trans ?_
      refine (zq1 (q := ((12, [(0, .ref 54), (1, .int 1), (2, .int r)], [.int r]), zh3)) rfl rfl rfl).trans ?_
      refine (zq1 (q := ((14, [(0, .ref 54), (1, .int 1), (2, .int r)], [.int 15, .int r]), zh3)) rfl rfl rfl).trans ?_
      refine (zqb (q := (40, [(0, .ref 54), (1, .int 1), (2, .int r)], [])) (cB := zc .gt r (15)) (v := true) (off := 26) (lv := [(0, .ref 54), (1, .int 1), (2, .int r)]) (r := []) rfl rfl rfl (zcb .gt (x := r) (y := (15)) (k := 15) (by decide) (decide_eq_true (by omega))) rfl).trans ?_
      refine (zq1 (q := ((41, [(0, .ref 54), (1, .int 1), (2, .int r)], [.int (-1)]), zh3)) rfl rfl rfl).trans ?_
      exact zqr rfl rfl
    refine (zqc 1 (s' := (6, [(0, .ref 54), (1, .int 1), (2, .int r), (3, .int v), (4, .int w)], [.int (-1)])) rfl rfl rfl rfl rfl rfl hc rfl).trans ?_
    refine (zq1 (q := ((8, [(5, .int (-1)), (0, .ref 54), (1, .int 1), (2, .int r), (3, .int v), (4, .int w)], []), zh3)) rfl rfl rfl).trans ?_
    refine (zq1 (q := ((10, [(5, .int (-1)), (0, .ref 54), (1, .int 1), (2, .int r), (3, .int v), (4, .int w)], [.int (-1)]), zh3)) rfl rfl rfl).trans ?_
    refine (zq1 (q := ((28, [(5, .int (-1)), (0, .ref 54), (1, .int 1), (2, .int r), (3, .int v), (4, .int w)], []), zh3)) rfl rfl rfl).trans ?_
    refine (zq1 (q := ((29, [(5, .int (-1)), (0, .ref 54), (1, .int 1), (2, .int r), (3, .int v), (4, .int w)], [.int 0]), zh3)) rfl rfl rfl).trans ?_
    exact zqr rfl rfl
set_option maxRecDepth 1000000 in
set_option maxHeartbeats 4000000 in
theorem zi_update_1_0 (v w : Int32)  : zPair 42 113 [.int 1, .int 0, .int v, .int w] := by
  refine ⟨0, zh3, zh3, ?_, ?_, rfl, rfl, rfl⟩
  · refine (zcal_go (M := M_ST_update) rfl rfl rfl).trans ?_
    show zloop zmt (zcal zmt 100000 8 395) 9 395 none M_ST_update 100000 (0, [(0, .ref 0), (1, .int 1), (2, .int 0), (3, .int v), (4, .int w)], []) zh3 = _
    refine (zq1 (q := ((1, [(0, .ref 0), (1, .int 1), (2, .int 0), (3, .int v), (4, .int w)], [.ref 0]), zh3)) rfl rfl rfl).trans ?_
    refine (zq1 (q := ((2, [(0, .ref 0), (1, .int 1), (2, .int 0), (3, .int v), (4, .int w)], [.int 1, .ref 0]), zh3)) rfl rfl rfl).trans ?_
    refine (zq1 (q := ((3, [(0, .ref 0), (1, .int 1), (2, .int 0), (3, .int v), (4, .int w)], [.int 0, .int 1, .ref 0]), zh3)) rfl rfl rfl).trans ?_
    have hc : zcal zmt 100000 8 395 39 [.ref 0, .int 1, .int 0] zh3 = some (some (.null), zh3) := zreq_ok (by decide +kernel)
    refine (zqc 1 (s' := (6, [(0, .ref 0), (1, .int 1), (2, .int 0), (3, .int v), (4, .int w)], [.null])) rfl rfl rfl rfl rfl rfl hc rfl).trans ?_
    refine (zq1 (q := ((8, [(5, .null), (0, .ref 0), (1, .int 1), (2, .int 0), (3, .int v), (4, .int w)], []), zh3)) rfl rfl rfl).trans ?_
    refine (zq1 (q := ((10, [(5, .null), (0, .ref 0), (1, .int 1), (2, .int 0), (3, .int v), (4, .int w)], [.null]), zh3)) rfl rfl rfl).trans ?_
    refine (zq1 (q := ((25, [(5, .null), (0, .ref 0), (1, .int 1), (2, .int 0), (3, .int v), (4, .int w)], []), zh3)) rfl rfl rfl).trans ?_
    refine (zq1 (q := ((26, [(5, .null), (0, .ref 0), (1, .int 1), (2, .int 0), (3, .int v), (4, .int w)], [.int 0]), zh3)) rfl rfl rfl).trans ?_
    exact zqr rfl rfl
  · refine (zcal_go (M := M_Mo_update) rfl rfl rfl).trans ?_
    show zloop zmt (zcal zmt 100000 8 395) 9 395 none M_Mo_update 100000 (0, [(0, .ref 54), (1, .int 1), (2, .int 0), (3, .int v), (4, .int w)], []) zh3 = _
    refine (zq1 (q := ((1, [(0, .ref 54), (1, .int 1), (2, .int 0), (3, .int v), (4, .int w)], [.ref 54]), zh3)) rfl rfl rfl).trans ?_
    refine (zq1 (q := ((2, [(0, .ref 54), (1, .int 1), (2, .int 0), (3, .int v), (4, .int w)], [.int 1, .ref 54]), zh3)) rfl rfl rfl).trans ?_
    refine (zq1 (q := ((3, [(0, .ref 54), (1, .int 1), (2, .int 0), (3, .int v), (4, .int w)], [.int 0, .int 1, .ref 54]), zh3)) rfl rfl rfl).trans ?_
    have hc : zcal zmt 100000 8 395 112 [.ref 54, .int 1, .int 0] zh3 = some (some (.int (-1)), zh3) := zreq_ok (by decide +kernel)
    refine (zqc 1 (s' := (6, [(0, .ref 54), (1, .int 1), (2, .int 0), (3, .int v), (4, .int w)], [.int (-1)])) rfl rfl rfl rfl rfl rfl hc rfl).trans ?_
    refine (zq1 (q := ((8, [(5, .int (-1)), (0, .ref 54), (1, .int 1), (2, .int 0), (3, .int v), (4, .int w)], []), zh3)) rfl rfl rfl).trans ?_
    refine (zq1 (q := ((10, [(5, .int (-1)), (0, .ref 54), (1, .int 1), (2, .int 0), (3, .int v), (4, .int w)], [.int (-1)]), zh3)) rfl rfl rfl).trans ?_
    refine (zq1 (q := ((28, [(5, .int (-1)), (0, .ref 54), (1, .int 1), (2, .int 0), (3, .int v), (4, .int w)], []), zh3)) rfl rfl rfl).trans ?_
    refine (zq1 (q := ((29, [(5, .int (-1)), (0, .ref 54), (1, .int 1), (2, .int 0), (3, .int v), (4, .int w)], [.int 0]), zh3)) rfl rfl rfl).trans ?_
    exact zqr rfl rfl
set_option maxRecDepth 1000000 in
set_option maxHeartbeats 4000000 in
theorem zi_update_1_1 (v w : Int32)  : zPair 42 113 [.int 1, .int 1, .int v, .int w] := by
  refine ⟨0, zh3, zh3, ?_, ?_, rfl, rfl, rfl⟩
  · refine (zcal_go (M := M_ST_update) rfl rfl rfl).trans ?_
    show zloop zmt (zcal zmt 100000 8 395) 9 395 none M_ST_update 100000 (0, [(0, .ref 0), (1, .int 1), (2, .int 1), (3, .int v), (4, .int w)], []) zh3 = _
    refine (zq1 (q := ((1, [(0, .ref 0), (1, .int 1), (2, .int 1), (3, .int v), (4, .int w)], [.ref 0]), zh3)) rfl rfl rfl).trans ?_
    refine (zq1 (q := ((2, [(0, .ref 0), (1, .int 1), (2, .int 1), (3, .int v), (4, .int w)], [.int 1, .ref 0]), zh3)) rfl rfl rfl).trans ?_
    refine (zq1 (q := ((3, [(0, .ref 0), (1, .int 1), (2, .int 1), (3, .int v), (4, .int w)], [.int 1, .int 1, .ref 0]), zh3)) rfl rfl rfl).trans ?_
    have hc : zcal zmt 100000 8 395 39 [.ref 0, .int 1, .int 1] zh3 = some (some (.null), zh3) := zreq_ok (by decide +kernel)
    refine (zqc 1 (s' := (6, [(0, .ref 0), (1, .int 1), (2, .int 1), (3, .int v), (4, .int w)], [.null])) rfl rfl rfl rfl rfl rfl hc rfl).trans ?_
    refine (zq1 (q := ((8, [(5, .null), (0, .ref 0), (1, .int 1), (2, .int 1), (3, .int v), (4, .int w)], []), zh3)) rfl rfl rfl).trans ?_
    refine (zq1 (q := ((10, [(5, .null), (0, .ref 0), (1, .int 1), (2, .int 1), (3, .int v), (4, .int w)], [.null]), zh3)) rfl rfl rfl).trans ?_
    refine (zq1 (q := ((25, [(5, .null), (0, .ref 0), (1, .int 1), (2, .int 1), (3, .int v), (4, .int w)], []), zh3)) rfl rfl rfl).trans ?_
    refine (zq1 (q := ((26, [(5, .null), (0, .ref 0), (1, .int 1), (2, .int 1), (3, .int v), (4, .int w)], [.int 0]), zh3)) rfl rfl rfl).trans ?_
    exact zqr rfl rfl
  · refine (zcal_go (M := M_Mo_update) rfl rfl rfl).trans ?_
    show zloop zmt (zcal zmt 100000 8 395) 9 395 none M_Mo_update 100000 (0, [(0, .ref 54), (1, .int 1), (2, .int 1), (3, .int v), (4, .int w)], []) zh3 = _
    refine (zq1 (q := ((1, [(0, .ref 54), (1, .int 1), (2, .int 1), (3, .int v), (4, .int w)], [.ref 54]), zh3)) rfl rfl rfl).trans ?_
    refine (zq1 (q := ((2, [(0, .ref 54), (1, .int 1), (2, .int 1), (3, .int v), (4, .int w)], [.int 1, .ref 54]), zh3)) rfl rfl rfl).trans ?_
    refine (zq1 (q := ((3, [(0, .ref 54), (1, .int 1), (2, .int 1), (3, .int v), (4, .int w)], [.int 1, .int 1, .ref 54]), zh3)) rfl rfl rfl).trans ?_
    have hc : zcal zmt 100000 8 395 112 [.ref 54, .int 1, .int 1] zh3 = some (some (.int (-1)), zh3) := zreq_ok (by decide +kernel)
    refine (zqc 1 (s' := (6, [(0, .ref 54), (1, .int 1), (2, .int 1), (3, .int v), (4, .int w)], [.int (-1)])) rfl rfl rfl rfl rfl rfl hc rfl).trans ?_
    refine (zq1 (q := ((8, [(5, .int (-1)), (0, .ref 54), (1, .int 1), (2, .int 1), (3, .int v), (4, .int w)], []), zh3)) rfl rfl rfl).trans ?_
    refine (zq1 (q := ((10, [(5, .int (-1)), (0, .ref 54), (1, .int 1), (2, .int 1), (3, .int v), (4, .int w)], [.int (-1)]), zh3)) rfl rfl rfl).trans ?_
    refine (zq1 (q := ((28, [(5, .int (-1)), (0, .ref 54), (1, .int 1), (2, .int 1), (3, .int v), (4, .int w)], []), zh3)) rfl rfl rfl).trans ?_
    refine (zq1 (q := ((29, [(5, .int (-1)), (0, .ref 54), (1, .int 1), (2, .int 1), (3, .int v), (4, .int w)], [.int 0]), zh3)) rfl rfl rfl).trans ?_
    exact zqr rfl rfl
set_option maxRecDepth 1000000 in
set_option maxHeartbeats 4000000 in
theorem zi_update_1_2 (v w : Int32)  : zPair 42 113 [.int 1, .int 2, .int v, .int w] := by
  refine ⟨0, zh3, zh3, ?_, ?_, rfl, rfl, rfl⟩
  · refine (zcal_go (M := M_ST_update) rfl rfl rfl).trans ?_
    show zloop zmt (zcal zmt 100000 8 395) 9 395 none M_ST_update 100000 (0, [(0, .ref 0), (1, .int 1), (2, .int 2), (3, .int v), (4, .int w)], []) zh3 = _
    refine (zq1 (q := ((1, [(0, .ref 0), (1, .int 1), (2, .int 2), (3, .int v), (4, .int w)], [.ref 0]), zh3)) rfl rfl rfl).trans ?_
    refine (zq1 (q := ((2, [(0, .ref 0), (1, .int 1), (2, .int 2), (3, .int v), (4, .int w)], [.int 1, .ref 0]), zh3)) rfl rfl rfl).trans ?_
    refine (zq1 (q := ((3, [(0, .ref 0), (1, .int 1), (2, .int 2), (3, .int v), (4, .int w)], [.int 2, .int 1, .ref 0]), zh3)) rfl rfl rfl).trans ?_
    have hc : zcal zmt 100000 8 395 39 [.ref 0, .int 1, .int 2] zh3 = some (some (.null), zh3) := zreq_ok (by decide +kernel)
    refine (zqc 1 (s' := (6, [(0, .ref 0), (1, .int 1), (2, .int 2), (3, .int v), (4, .int w)], [.null])) rfl rfl rfl rfl rfl rfl hc rfl).trans ?_
    refine (zq1 (q := ((8, [(5, .null), (0, .ref 0), (1, .int 1), (2, .int 2), (3, .int v), (4, .int w)], []), zh3)) rfl rfl rfl).trans ?_
    refine (zq1 (q := ((10, [(5, .null), (0, .ref 0), (1, .int 1), (2, .int 2), (3, .int v), (4, .int w)], [.null]), zh3)) rfl rfl rfl).trans ?_
    refine (zq1 (q := ((25, [(5, .null), (0, .ref 0), (1, .int 1), (2, .int 2), (3, .int v), (4, .int w)], []), zh3)) rfl rfl rfl).trans ?_
    refine (zq1 (q := ((26, [(5, .null), (0, .ref 0), (1, .int 1), (2, .int 2), (3, .int v), (4, .int w)], [.int 0]), zh3)) rfl rfl rfl).trans ?_
    exact zqr rfl rfl
  · refine (zcal_go (M := M_Mo_update) rfl rfl rfl).trans ?_
    show zloop zmt (zcal zmt 100000 8 395) 9 395 none M_Mo_update 100000 (0, [(0, .ref 54), (1, .int 1), (2, .int 2), (3, .int v), (4, .int w)], []) zh3 = _
    refine (zq1 (q := ((1, [(0, .ref 54), (1, .int 1), (2, .int 2), (3, .int v), (4, .int w)], [.ref 54]), zh3)) rfl rfl rfl).trans ?_
    refine (zq1 (q := ((2, [(0, .ref 54), (1, .int 1), (2, .int 2), (3, .int v), (4, .int w)], [.int 1, .ref 54]), zh3)) rfl rfl rfl).trans ?_
    refine (zq1 (q := ((3, [(0, .ref 54), (1, .int 1), (2, .int 2), (3, .int v), (4, .int w)], [.int 2, .int 1, .ref 54]), zh3)) rfl rfl rfl).trans ?_
    have hc : zcal zmt 100000 8 395 112 [.ref 54, .int 1, .int 2] zh3 = some (some (.int (-1)), zh3) := zreq_ok (by decide +kernel)
    refine (zqc 1 (s' := (6, [(0, .ref 54), (1, .int 1), (2, .int 2), (3, .int v), (4, .int w)], [.int (-1)])) rfl rfl rfl rfl rfl rfl hc rfl).trans ?_
    refine (zq1 (q := ((8, [(5, .int (-1)), (0, .ref 54), (1, .int 1), (2, .int 2), (3, .int v), (4, .int w)], []), zh3)) rfl rfl rfl).trans ?_
    refine (zq1 (q := ((10, [(5, .int (-1)), (0, .ref 54), (1, .int 1), (2, .int 2), (3, .int v), (4, .int w)], [.int (-1)]), zh3)) rfl rfl rfl).trans ?_
    refine (zq1 (q := ((28, [(5, .int (-1)), (0, .ref 54), (1, .int 1), (2, .int 2), (3, .int v), (4, .int w)], []), zh3)) rfl rfl rfl).trans ?_
    refine (zq1 (q := ((29, [(5, .int (-1)), (0, .ref 54), (1, .int 1), (2, .int 2), (3, .int v), (4, .int w)], [.int 0]), zh3)) rfl rfl rfl).trans ?_
    exact zqr rfl rfl
set_option maxRecDepth 1000000 in
set_option maxHeartbeats 4000000 in
theorem zi_update_1_3 (v w : Int32)  : zPair 42 113 [.int 1, .int 3, .int v, .int w] := by
  refine ⟨0, zh3, zh3, ?_, ?_, rfl, rfl, rfl⟩
  · refine (zcal_go (M := M_ST_update) rfl rfl rfl).trans ?_
    show zloop zmt (zcal zmt 100000 8 395) 9 395 none M_ST_update 100000 (0, [(0, .ref 0), (1, .int 1), (2, .int 3), (3, .int v), (4, .int w)], []) zh3 = _
    refine (zq1 (q := ((1, [(0, .ref 0), (1, .int 1), (2, .int 3), (3, .int v), (4, .int w)], [.ref 0]), zh3)) rfl rfl rfl).trans ?_
    refine (zq1 (q := ((2, [(0, .ref 0), (1, .int 1), (2, .int 3), (3, .int v), (4, .int w)], [.int 1, .ref 0]), zh3)) rfl rfl rfl).trans ?_
    refine (zq1 (q := ((3, [(0, .ref 0), (1, .int 1), (2, .int 3), (3, .int v), (4, .int w)], [.int 3, .int 1, .ref 0]), zh3)) rfl rfl rfl).trans ?_
    have hc : zcal zmt 100000 8 395 39 [.ref 0, .int 1, .int 3] zh3 = some (some (.null), zh3) := zreq_ok (by decide +kernel)
    refine (zqc 1 (s' := (6, [(0, .ref 0), (1, .int 1), (2, .int 3), (3, .int v), (4, .int w)], [.null])) rfl rfl rfl rfl rfl rfl hc rfl).trans ?_
    refine (zq1 (q := ((8, [(5, .null), (0, .ref 0), (1, .int 1), (2, .int 3), (3, .int v), (4, .int w)], []), zh3)) rfl rfl rfl).trans ?_
    refine (zq1 (q := ((10, [(5, .null), (0, .ref 0), (1, .int 1), (2, .int 3), (3, .int v), (4, .int w)], [.null]), zh3)) rfl rfl rfl).trans ?_
    refine (zq1 (q := ((25, [(5, .null), (0, .ref 0), (1, .int 1), (2, .int 3), (3, .int v), (4, .int w)], []), zh3)) rfl rfl rfl).trans ?_
    refine (zq1 (q := ((26, [(5, .null), (0, .ref 0), (1, .int 1), (2, .int 3), (3, .int v), (4, .int w)], [.int 0]), zh3)) rfl rfl rfl).trans ?_
    exact zqr rfl rfl
  · refine (zcal_go (M := M_Mo_update) rfl rfl rfl).trans ?_
    show zloop zmt (zcal zmt 100000 8 395) 9 395 none M_Mo_update 100000 (0, [(0, .ref 54), (1, .int 1), (2, .int 3), (3, .int v), (4, .int w)], []) zh3 = _
    refine (zq1 (q := ((1, [(0, .ref 54), (1, .int 1), (2, .int 3), (3, .int v), (4, .int w)], [.ref 54]), zh3)) rfl rfl rfl).trans ?_
    refine (zq1 (q := ((2, [(0, .ref 54), (1, .int 1), (2, .int 3), (3, .int v), (4, .int w)], [.int 1, .ref 54]), zh3)) rfl rfl rfl).trans ?_
    refine (zq1 (q := ((3, [(0, .ref 54), (1, .int 1), (2, .int 3), (3, .int v), (4, .int w)], [.int 3, .int 1, .ref 54]), zh3)) rfl rfl rfl).trans ?_
    have hc : zcal zmt 100000 8 395 112 [.ref 54, .int 1, .int 3] zh3 = some (some (.int (-1)), zh3) := zreq_ok (by decide +kernel)
    refine (zqc 1 (s' := (6, [(0, .ref 54), (1, .int 1), (2, .int 3), (3, .int v), (4, .int w)], [.int (-1)])) rfl rfl rfl rfl rfl rfl hc rfl).trans ?_
    refine (zq1 (q := ((8, [(5, .int (-1)), (0, .ref 54), (1, .int 1), (2, .int 3), (3, .int v), (4, .int w)], []), zh3)) rfl rfl rfl).trans ?_
    refine (zq1 (q := ((10, [(5, .int (-1)), (0, .ref 54), (1, .int 1), (2, .int 3), (3, .int v), (4, .int w)], [.int (-1)]), zh3)) rfl rfl rfl).trans ?_
    refine (zq1 (q := ((28, [(5, .int (-1)), (0, .ref 54), (1, .int 1), (2, .int 3), (3, .int v), (4, .int w)], []), zh3)) rfl rfl rfl).trans ?_
    refine (zq1 (q := ((29, [(5, .int (-1)), (0, .ref 54), (1, .int 1), (2, .int 3), (3, .int v), (4, .int w)], [.int 0]), zh3)) rfl rfl rfl).trans ?_
    exact zqr rfl rfl
set_option maxRecDepth 1000000 in
set_option maxHeartbeats 4000000 in
theorem zi_update_1_4 (v w : Int32)  : zPair 42 113 [.int 1, .int 4, .int v, .int w] := by
  refine ⟨0, zh3, zh3, ?_, ?_, rfl, rfl, rfl⟩
  · refine (zcal_go (M := M_ST_update) rfl rfl rfl).trans ?_
    show zloop zmt (zcal zmt 100000 8 395) 9 395 none M_ST_update 100000 (0, [(0, .ref 0), (1, .int 1), (2, .int 4), (3, .int v), (4, .int w)], []) zh3 = _
    refine (zq1 (q := ((1, [(0, .ref 0), (1, .int 1), (2, .int 4), (3, .int v), (4, .int w)], [.ref 0]), zh3)) rfl rfl rfl).trans ?_
    refine (zq1 (q := ((2, [(0, .ref 0), (1, .int 1), (2, .int 4), (3, .int v), (4, .int w)], [.int 1, .ref 0]), zh3)) rfl rfl rfl).trans ?_
    refine (zq1 (q := ((3, [(0, .ref 0), (1, .int 1), (2, .int 4), (3, .int v), (4, .int w)], [.int 4, .int 1, .ref 0]), zh3)) rfl rfl rfl).trans ?_
    have hc : zcal zmt 100000 8 395 39 [.ref 0, .int 1, .int 4] zh3 = some (some (.null), zh3) := zreq_ok (by decide +kernel)
    refine (zqc 1 (s' := (6, [(0, .ref 0), (1, .int 1), (2, .int 4), (3, .int v), (4, .int w)], [.null])) rfl rfl rfl rfl rfl rfl hc rfl).trans ?_
    refine (zq1 (q := ((8, [(5, .null), (0, .ref 0), (1, .int 1), (2, .int 4), (3, .int v), (4, .int w)], []), zh3)) rfl rfl rfl).trans ?_
    refine (zq1 (q := ((10, [(5, .null), (0, .ref 0), (1, .int 1), (2, .int 4), (3, .int v), (4, .int w)], [.null]), zh3)) rfl rfl rfl).trans ?_
    refine (zq1 (q := ((25, [(5, .null), (0, .ref 0), (1, .int 1), (2, .int 4), (3, .int v), (4, .int w)], []), zh3)) rfl rfl rfl).trans ?_
    refine (zq1 (q := ((26, [(5, .null), (0, .ref 0), (1, .int 1), (2, .int 4), (3, .int v), (4, .int w)], [.int 0]), zh3)) rfl rfl rfl).trans ?_
    exact zqr rfl rfl
  · refine (zcal_go (M := M_Mo_update) rfl rfl rfl).trans ?_
    show zloop zmt (zcal zmt 100000 8 395) 9 395 none M_Mo_update 100000 (0, [(0, .ref 54), (1, .int 1), (2, .int 4), (3, .int v), (4, .int w)], []) zh3 = _
    refine (zq1 (q := ((1, [(0, .ref 54), (1, .int 1), (2, .int 4), (3, .int v), (4, .int w)], [.ref 54]), zh3)) rfl rfl rfl).trans ?_
    refine (zq1 (q := ((2, [(0, .ref 54), (1, .int 1), (2, .int 4), (3, .int v), (4, .int w)], [.int 1, .ref 54]), zh3)) rfl rfl rfl).trans ?_
    refine (zq1 (q := ((3, [(0, .ref 54), (1, .int 1), (2, .int 4), (3, .int v), (4, .int w)], [.int 4, .int 1, .ref 54]), zh3)) rfl rfl rfl).trans ?_
    have hc : zcal zmt 100000 8 395 112 [.ref 54, .int 1, .int 4] zh3 = some (some (.int (-1)), zh3) := zreq_ok (by decide +kernel)
    refine (zqc 1 (s' := (6, [(0, .ref 54), (1, .int 1), (2, .int 4), (3, .int v), (4, .int w)], [.int (-1)])) rfl rfl rfl rfl rfl rfl hc rfl).trans ?_
    refine (zq1 (q := ((8, [(5, .int (-1)), (0, .ref 54), (1, .int 1), (2, .int 4), (3, .int v), (4, .int w)], []), zh3)) rfl rfl rfl).trans ?_
    refine (zq1 (q := ((10, [(5, .int (-1)), (0, .ref 54), (1, .int 1), (2, .int 4), (3, .int v), (4, .int w)], [.int (-1)]), zh3)) rfl rfl rfl).trans ?_
    refine (zq1 (q := ((28, [(5, .int (-1)), (0, .ref 54), (1, .int 1), (2, .int 4), (3, .int v), (4, .int w)], []), zh3)) rfl rfl rfl).trans ?_
    refine (zq1 (q := ((29, [(5, .int (-1)), (0, .ref 54), (1, .int 1), (2, .int 4), (3, .int v), (4, .int w)], [.int 0]), zh3)) rfl rfl rfl).trans ?_
    exact zqr rfl rfl
set_option maxRecDepth 1000000 in
set_option maxHeartbeats 4000000 in
theorem zi_update_1_5 (v w : Int32)  : zPair 42 113 [.int 1, .int 5, .int v, .int w] := by
  refine ⟨0, zh3, zh3, ?_, ?_, rfl, rfl, rfl⟩
  · refine (zcal_go (M := M_ST_update) rfl rfl rfl).trans ?_
    show zloop zmt (zcal zmt 100000 8 395) 9 395 none M_ST_update 100000 (0, [(0, .ref 0), (1, .int 1), (2, .int 5), (3, .int v), (4, .int w)], []) zh3 = _
    refine (zq1 (q := ((1, [(0, .ref 0), (1, .int 1), (2, .int 5), (3, .int v), (4, .int w)], [.ref 0]), zh3)) rfl rfl rfl).trans ?_
    refine (zq1 (q := ((2, [(0, .ref 0), (1, .int 1), (2, .int 5), (3, .int v), (4, .int w)], [.int 1, .ref 0]), zh3)) rfl rfl rfl).trans ?_
    refine (zq1 (q := ((3, [(0, .ref 0), (1, .int 1), (2, .int 5), (3, .int v), (4, .int w)], [.int 5, .int 1, .ref 0]), zh3)) rfl rfl rfl).trans ?_
    have hc : zcal zmt 100000 8 395 39 [.ref 0, .int 1, .int 5] zh3 = some (some (.null), zh3) := zreq_ok (by decide +kernel)
    refine (zqc 1 (s' := (6, [(0, .ref 0), (1, .int 1), (2, .int 5), (3, .int v), (4, .int w)], [.null])) rfl rfl rfl rfl rfl rfl hc rfl).trans ?_
    refine (zq1 (q := ((8, [(5, .null), (0, .ref 0), (1, .int 1), (2, .int 5), (3, .int v), (4, .int w)], []), zh3)) rfl rfl rfl).trans ?_
    refine (zq1 (q := ((10, [(5, .null), (0, .ref 0), (1, .int 1), (2, .int 5), (3, .int v), (4, .int w)], [.null]), zh3)) rfl rfl rfl).trans ?_
    refine (zq1 (q := ((25, [(5, .null), (0, .ref 0), (1, .int 1), (2, .int 5), (3, .int v), (4, .int w)], []), zh3)) rfl rfl rfl).trans ?_
    refine (zq1 (q := ((26, [(5, .null), (0, .ref 0), (1, .int 1), (2, .int 5), (3, .int v), (4, .int w)], [.int 0]), zh3)) rfl rfl rfl).trans ?_
    exact zqr rfl rfl
  · refine (zcal_go (M := M_Mo_update) rfl rfl rfl).trans ?_
    show zloop zmt (zcal zmt 100000 8 395) 9 395 none M_Mo_update 100000 (0, [(0, .ref 54), (1, .int 1), (2, .int 5), (3, .int v), (4, .int w)], []) zh3 = _
    refine (zq1 (q := ((1, [(0, .ref 54), (1, .int 1), (2, .int 5), (3, .int v), (4, .int w)], [.ref 54]), zh3)) rfl rfl rfl).trans ?_
    refine (zq1 (q := ((2, [(0, .ref 54), (1, .int 1), (2, .int 5), (3, .int v), (4, .int w)], [.int 1, .ref 54]), zh3)) rfl rfl rfl).trans ?_
    refine (zq1 (q := ((3, [(0, .ref 54), (1, .int 1), (2, .int 5), (3, .int v), (4, .int w)], [.int 5, .int 1, .ref 54]), zh3)) rfl rfl rfl).trans ?_
    have hc : zcal zmt 100000 8 395 112 [.ref 54, .int 1, .int 5] zh3 = some (some (.int (-1)), zh3) := zreq_ok (by decide +kernel)
    refine (zqc 1 (s' := (6, [(0, .ref 54), (1, .int 1), (2, .int 5), (3, .int v), (4, .int w)], [.int (-1)])) rfl rfl rfl rfl rfl rfl hc rfl).trans ?_
    refine (zq1 (q := ((8, [(5, .int (-1)), (0, .ref 54), (1, .int 1), (2, .int 5), (3, .int v), (4, .int w)], []), zh3)) rfl rfl rfl).trans ?_
    refine (zq1 (q := ((10, [(5, .int (-1)), (0, .ref 54), (1, .int 1), (2, .int 5), (3, .int v), (4, .int w)], [.int (-1)]), zh3)) rfl rfl rfl).trans ?_
    refine (zq1 (q := ((28, [(5, .int (-1)), (0, .ref 54), (1, .int 1), (2, .int 5), (3, .int v), (4, .int w)], []), zh3)) rfl rfl rfl).trans ?_
    refine (zq1 (q := ((29, [(5, .int (-1)), (0, .ref 54), (1, .int 1), (2, .int 5), (3, .int v), (4, .int w)], [.int 0]), zh3)) rfl rfl rfl).trans ?_
    exact zqr rfl rfl
set_option maxRecDepth 1000000 in
set_option maxHeartbeats 4000000 in
theorem zi_update_1_6 (v w : Int32)  : zPair 42 113 [.int 1, .int 6, .int v, .int w] := by
  refine ⟨0, zh3, zh3, ?_, ?_, rfl, rfl, rfl⟩
  · refine (zcal_go (M := M_ST_update) rfl rfl rfl).trans ?_
    show zloop zmt (zcal zmt 100000 8 395) 9 395 none M_ST_update 100000 (0, [(0, .ref 0), (1, .int 1), (2, .int 6), (3, .int v), (4, .int w)], []) zh3 = _
    refine (zq1 (q := ((1, [(0, .ref 0), (1, .int 1), (2, .int 6), (3, .int v), (4, .int w)], [.ref 0]), zh3)) rfl rfl rfl).trans ?_
    refine (zq1 (q := ((2, [(0, .ref 0), (1, .int 1), (2, .int 6), (3, .int v), (4, .int w)], [.int 1, .ref 0]), zh3)) rfl rfl rfl).trans ?_
    refine (zq1 (q := ((3, [(0, .ref 0), (1, .int 1), (2, .int 6), (3, .int v), (4, .int w)], [.int 6, .int 1, .ref 0]), zh3)) rfl rfl rfl).trans ?_
    have hc : zcal zmt 100000 8 395 39 [.ref 0, .int 1, .int 6] zh3 = some (some (.null), zh3) := zreq_ok (by decide +kernel)
    refine (zqc 1 (s' := (6, [(0, .ref 0), (1, .int 1), (2, .int 6), (3, .int v), (4, .int w)], [.null])) rfl rfl rfl rfl rfl rfl hc rfl).trans ?_
    refine (zq1 (q := ((8, [(5, .null), (0, .ref 0), (1, .int 1), (2, .int 6), (3, .int v), (4, .int w)], []), zh3)) rfl rfl rfl).trans ?_
    refine (zq1 (q := ((10, [(5, .null), (0, .ref 0), (1, .int 1), (2, .int 6), (3, .int v), (4, .int w)], [.null]), zh3)) rfl rfl rfl).trans ?_
    refine (zq1 (q := ((25, [(5, .null), (0, .ref 0), (1, .int 1), (2, .int 6), (3, .int v), (4, .int w)], []), zh3)) rfl rfl rfl).trans ?_
    refine (zq1 (q := ((26, [(5, .null), (0, .ref 0), (1, .int 1), (2, .int 6), (3, .int v), (4, .int w)], [.int 0]), zh3)) rfl rfl rfl).trans ?_
    exact zqr rfl rfl
  · refine (zcal_go (M := M_Mo_update) rfl rfl rfl).trans ?_
    show zloop zmt (zcal zmt 100000 8 395) 9 395 none M_Mo_update 100000 (0, [(0, .ref 54), (1, .int 1), (2, .int 6), (3, .int v), (4, .int w)], []) zh3 = _
    refine (zq1 (q := ((1, [(0, .ref 54), (1, .int 1), (2, .int 6), (3, .int v), (4, .int w)], [.ref 54]), zh3)) rfl rfl rfl).trans ?_
    refine (zq1 (q := ((2, [(0, .ref 54), (1, .int 1), (2, .int 6), (3, .int v), (4, .int w)], [.int 1, .ref 54]), zh3)) rfl rfl rfl).trans ?_
    refine (zq1 (q := ((3, [(0, .ref 54), (1, .int 1), (2, .int 6), (3, .int v), (4, .int w)], [.int 6, .int 1, .ref 54]), zh3)) rfl rfl rfl).trans ?_
    have hc : zcal zmt 100000 8 395 112 [.ref 54, .int 1, .int 6] zh3 = some (some (.int (-1)), zh3) := zreq_ok (by decide +kernel)
    refine (zqc 1 (s' := (6, [(0, .ref 54), (1, .int 1), (2, .int 6), (3, .int v), (4, .int w)], [.int (-1)])) rfl rfl rfl rfl rfl rfl hc rfl).trans ?_
    refine (zq1 (q := ((8, [(5, .int (-1)), (0, .ref 54), (1, .int 1), (2, .int 6), (3, .int v), (4, .int w)], []), zh3)) rfl rfl rfl).trans ?_
    refine (zq1 (q := ((10, [(5, .int (-1)), (0, .ref 54), (1, .int 1), (2, .int 6), (3, .int v), (4, .int w)], [.int (-1)]), zh3)) rfl rfl rfl).trans ?_
    refine (zq1 (q := ((28, [(5, .int (-1)), (0, .ref 54), (1, .int 1), (2, .int 6), (3, .int v), (4, .int w)], []), zh3)) rfl rfl rfl).trans ?_
    refine (zq1 (q := ((29, [(5, .int (-1)), (0, .ref 54), (1, .int 1), (2, .int 6), (3, .int v), (4, .int w)], [.int 0]), zh3)) rfl rfl rfl).trans ?_
    exact zqr rfl rfl
set_option maxRecDepth 1000000 in
set_option maxHeartbeats 4000000 in
theorem zi_update_1_7 (v w : Int32)  : zPair 42 113 [.int 1, .int 7, .int v, .int w] := by
  refine ⟨0, zh3, zh3, ?_, ?_, rfl, rfl, rfl⟩
  · refine (zcal_go (M := M_ST_update) rfl rfl rfl).trans ?_
    show zloop zmt (zcal zmt 100000 8 395) 9 395 none M_ST_update 100000 (0, [(0, .ref 0), (1, .int 1), (2, .int 7), (3, .int v), (4, .int w)], []) zh3 = _
    refine (zq1 (q := ((1, [(0, .ref 0), (1, .int 1), (2, .int 7), (3, .int v), (4, .int w)], [.ref 0]), zh3)) rfl rfl rfl).trans ?_
    refine (zq1 (q := ((2, [(0, .ref 0), (1, .int 1), (2, .int 7), (3, .int v), (4, .int w)], [.int 1, .ref 0]), zh3)) rfl rfl rfl).trans ?_
    refine (zq1 (q := ((3, [(0, .ref 0), (1, .int 1), (2, .int 7), (3, .int v), (4, .int w)], [.int 7, .int 1, .ref 0]), zh3)) rfl rfl rfl).trans ?_
    have hc : zcal zmt 100000 8 395 39 [.ref 0, .int 1, .int 7] zh3 = some (some (.null), zh3) := zreq_ok (by decide +kernel)
    refine (zqc 1 (s' := (6, [(0, .ref 0), (1, .int 1), (2, .int 7), (3, .int v), (4, .int w)], [.null])) rfl rfl rfl rfl rfl rfl hc rfl).trans ?_
    refine (zq1 (q := ((8, [(5, .null), (0, .ref 0), (1, .int 1), (2, .int 7), (3, .int v), (4, .int w)], []), zh3)) rfl rfl rfl).trans ?_
    refine (zq1 (q := ((10, [(5, .null), (0, .ref 0), (1, .int 1), (2, .int 7), (3, .int v), (4, .int w)], [.null]), zh3)) rfl rfl rfl).trans ?_
    refine (zq1 (q := ((25, [(5, .null), (0, .ref 0), (1, .int 1), (2, .int 7), (3, .int v), (4, .int w)], []), zh3)) rfl rfl rfl).trans ?_
    refine (zq1 (q := ((26, [(5, .null), (0, .ref 0), (1, .int 1), (2, .int 7), (3, .int v), (4, .int w)], [.int 0]), zh3)) rfl rfl rfl).trans ?_
    exact zqr rfl rfl
  · refine (zcal_go (M := M_Mo_update) rfl rfl rfl).trans ?_
    show zloop zmt (zcal zmt 100000 8 395) 9 395 none M_Mo_update 100000 (0, [(0, .ref 54), (1, .int 1), (2, .int 7), (3, .int v), (4, .int w)], []) zh3 = _
    refine (zq1 (q := ((1, [(0, .ref 54), (1, .int 1), (2, .int 7), (3, .int v), (4, .int w)], [.ref 54]), zh3)) rfl rfl rfl).trans ?_
    refine (zq1 (q := ((2, [(0, .ref 54), (1, .int 1), (2, .int 7), (3, .int v), (4, .int w)], [.int 1, .ref 54]), zh3)) rfl rfl rfl).trans ?_
    refine (zq1 (q := ((3, [(0, .ref 54), (1, .int 1), (2, .int 7), (3, .int v), (4, .int w)], [.int 7, .int 1, .ref 54]), zh3)) rfl rfl rfl).trans ?_
    have hc : zcal zmt 100000 8 395 112 [.ref 54, .int 1, .int 7] zh3 = some (some (.int (-1)), zh3) := zreq_ok (by decide +kernel)
    refine (zqc 1 (s' := (6, [(0, .ref 54), (1, .int 1), (2, .int 7), (3, .int v), (4, .int w)], [.int (-1)])) rfl rfl rfl rfl rfl rfl hc rfl).trans ?_
    refine (zq1 (q := ((8, [(5, .int (-1)), (0, .ref 54), (1, .int 1), (2, .int 7), (3, .int v), (4, .int w)], []), zh3)) rfl rfl rfl).trans ?_
    refine (zq1 (q := ((10, [(5, .int (-1)), (0, .ref 54), (1, .int 1), (2, .int 7), (3, .int v), (4, .int w)], [.int (-1)]), zh3)) rfl rfl rfl).trans ?_
    refine (zq1 (q := ((28, [(5, .int (-1)), (0, .ref 54), (1, .int 1), (2, .int 7), (3, .int v), (4, .int w)], []), zh3)) rfl rfl rfl).trans ?_
    refine (zq1 (q := ((29, [(5, .int (-1)), (0, .ref 54), (1, .int 1), (2, .int 7), (3, .int v), (4, .int w)], [.int 0]), zh3)) rfl rfl rfl).trans ?_
    exact zqr rfl rfl
set_option maxRecDepth 1000000 in
set_option maxHeartbeats 4000000 in
theorem zi_update_1_8 (v w : Int32)  : zPair 42 113 [.int 1, .int 8, .int v, .int w] := by
  refine ⟨0, zh3, zh3, ?_, ?_, rfl, rfl, rfl⟩
  · refine (zcal_go (M := M_ST_update) rfl rfl rfl).trans ?_
    show zloop zmt (zcal zmt 100000 8 395) 9 395 none M_ST_update 100000 (0, [(0, .ref 0), (1, .int 1), (2, .int 8), (3, .int v), (4, .int w)], []) zh3 = _
    refine (zq1 (q := ((1, [(0, .ref 0), (1, .int 1), (2, .int 8), (3, .int v), (4, .int w)], [.ref 0]), zh3)) rfl rfl rfl).trans ?_
    refine (zq1 (q := ((2, [(0, .ref 0), (1, .int 1), (2, .int 8), (3, .int v), (4, .int w)], [.int 1, .ref 0]), zh3)) rfl rfl rfl).trans ?_
    refine (zq1 (q := ((3, [(0, .ref 0), (1, .int 1), (2, .int 8), (3, .int v), (4, .int w)], [.int 8, .int 1, .ref 0]), zh3)) rfl rfl rfl).trans ?_
    have hc : zcal zmt 100000 8 395 39 [.ref 0, .int 1, .int 8] zh3 = some (some (.null), zh3) := zreq_ok (by decide +kernel)
    refine (zqc 1 (s' := (6, [(0, .ref 0), (1, .int 1), (2, .int 8), (3, .int v), (4, .int w)], [.null])) rfl rfl rfl rfl rfl rfl hc rfl).trans ?_
    refine (zq1 (q := ((8, [(5, .null), (0, .ref 0), (1, .int 1), (2, .int 8), (3, .int v), (4, .int w)], []), zh3)) rfl rfl rfl).trans ?_
    refine (zq1 (q := ((10, [(5, .null), (0, .ref 0), (1, .int 1), (2, .int 8), (3, .int v), (4, .int w)], [.null]), zh3)) rfl rfl rfl).trans ?_
    refine (zq1 (q := ((25, [(5, .null), (0, .ref 0), (1, .int 1), (2, .int 8), (3, .int v), (4, .int w)], []), zh3)) rfl rfl rfl).trans ?_
    refine (zq1 (q := ((26, [(5, .null), (0, .ref 0), (1, .int 1), (2, .int 8), (3, .int v), (4, .int w)], [.int 0]), zh3)) rfl rfl rfl).trans ?_
    exact zqr rfl rfl
  · refine (zcal_go (M := M_Mo_update) rfl rfl rfl).trans ?_
    show zloop zmt (zcal zmt 100000 8 395) 9 395 none M_Mo_update 100000 (0, [(0, .ref 54), (1, .int 1), (2, .int 8), (3, .int v), (4, .int w)], []) zh3 = _
    refine (zq1 (q := ((1, [(0, .ref 54), (1, .int 1), (2, .int 8), (3, .int v), (4, .int w)], [.ref 54]), zh3)) rfl rfl rfl).trans ?_
    refine (zq1 (q := ((2, [(0, .ref 54), (1, .int 1), (2, .int 8), (3, .int v), (4, .int w)], [.int 1, .ref 54]), zh3)) rfl rfl rfl).trans ?_
    refine (zq1 (q := ((3, [(0, .ref 54), (1, .int 1), (2, .int 8), (3, .int v), (4, .int w)], [.int 8, .int 1, .ref 54]), zh3)) rfl rfl rfl).trans ?_
    have hc : zcal zmt 100000 8 395 112 [.ref 54, .int 1, .int 8] zh3 = some (some (.int (-1)), zh3) := zreq_ok (by decide +kernel)
    refine (zqc 1 (s' := (6, [(0, .ref 54), (1, .int 1), (2, .int 8), (3, .int v), (4, .int w)], [.int (-1)])) rfl rfl rfl rfl rfl rfl hc rfl).trans ?_
    refine (zq1 (q := ((8, [(5, .int (-1)), (0, .ref 54), (1, .int 1), (2, .int 8), (3, .int v), (4, .int w)], []), zh3)) rfl rfl rfl).trans ?_
    refine (zq1 (q := ((10, [(5, .int (-1)), (0, .ref 54), (1, .int 1), (2, .int 8), (3, .int v), (4, .int w)], [.int (-1)]), zh3)) rfl rfl rfl).trans ?_
    refine (zq1 (q := ((28, [(5, .int (-1)), (0, .ref 54), (1, .int 1), (2, .int 8), (3, .int v), (4, .int w)], []), zh3)) rfl rfl rfl).trans ?_
    refine (zq1 (q := ((29, [(5, .int (-1)), (0, .ref 54), (1, .int 1), (2, .int 8), (3, .int v), (4, .int w)], [.int 0]), zh3)) rfl rfl rfl).trans ?_
    exact zqr rfl rfl
set_option maxRecDepth 1000000 in
set_option maxHeartbeats 4000000 in
theorem zi_update_1_9 (v w : Int32)  : zPair 42 113 [.int 1, .int 9, .int v, .int w] := by
  refine ⟨0, zh3, zh3, ?_, ?_, rfl, rfl, rfl⟩
  · refine (zcal_go (M := M_ST_update) rfl rfl rfl).trans ?_
    show zloop zmt (zcal zmt 100000 8 395) 9 395 none M_ST_update 100000 (0, [(0, .ref 0), (1, .int 1), (2, .int 9), (3, .int v), (4, .int w)], []) zh3 = _
    refine (zq1 (q := ((1, [(0, .ref 0), (1, .int 1), (2, .int 9), (3, .int v), (4, .int w)], [.ref 0]), zh3)) rfl rfl rfl).trans ?_
    refine (zq1 (q := ((2, [(0, .ref 0), (1, .int 1), (2, .int 9), (3, .int v), (4, .int w)], [.int 1, .ref 0]), zh3)) rfl rfl rfl).trans ?_
    refine (zq1 (q := ((3, [(0, .ref 0), (1, .int 1), (2, .int 9), (3, .int v), (4, .int w)], [.int 9, .int 1, .ref 0]), zh3)) rfl rfl rfl).trans ?_
    have hc : zcal zmt 100000 8 395 39 [.ref 0, .int 1, .int 9] zh3 = some (some (.null), zh3) := zreq_ok (by decide +kernel)
    refine (zqc 1 (s' := (6, [(0, .ref 0), (1, .int 1), (2, .int 9), (3, .int v), (4, .int w)], [.null])) rfl rfl rfl rfl rfl rfl hc rfl).trans ?_
    refine (zq1 (q := ((8, [(5, .null), (0, .ref 0), (1, .int 1), (2, .int 9), (3, .int v), (4, .int w)], []), zh3)) rfl rfl rfl).trans ?_
    refine (zq1 (q := ((10, [(5, .null), (0, .ref 0), (1, .int 1), (2, .int 9), (3, .int v), (4, .int w)], [.null]), zh3)) rfl rfl rfl).trans ?_
    refine (zq1 (q := ((25, [(5, .null), (0, .ref 0), (1, .int 1), (2, .int 9), (3, .int v), (4, .int w)], []), zh3)) rfl rfl rfl).trans ?_
    refine (zq1 (q := ((26, [(5, .null), (0, .ref 0), (1, .int 1), (2, .int 9), (3, .int v), (4, .int w)], [.int 0]), zh3)) rfl rfl rfl).trans ?_
    exact zqr rfl rfl
  · refine (zcal_go (M := M_Mo_update) rfl rfl rfl).trans ?_
    show zloop zmt (zcal zmt 100000 8 395) 9 395 none M_Mo_update 100000 (0, [(0, .ref 54), (1, .int 1), (2, .int 9), (3, .int v), (4, .int w)], []) zh3 = _
    refine (zq1 (q := ((1, [(0, .ref 54), (1, .int 1), (2, .int 9), (3, .int v), (4, .int w)], [.ref 54]), zh3)) rfl rfl rfl).trans ?_
    refine (zq1 (q := ((2, [(0, .ref 54), (1, .int 1), (2, .int 9), (3, .int v), (4, .int w)], [.int 1, .ref 54]), zh3)) rfl rfl rfl).trans ?_
    refine (zq1 (q := ((3, [(0, .ref 54), (1, .int 1), (2, .int 9), (3, .int v), (4, .int w)], [.int 9, .int 1, .ref 54]), zh3)) rfl rfl rfl).trans ?_
    have hc : zcal zmt 100000 8 395 112 [.ref 54, .int 1, .int 9] zh3 = some (some (.int (-1)), zh3) := zreq_ok (by decide +kernel)
    refine (zqc 1 (s' := (6, [(0, .ref 54), (1, .int 1), (2, .int 9), (3, .int v), (4, .int w)], [.int (-1)])) rfl rfl rfl rfl rfl rfl hc rfl).trans ?_
    refine (zq1 (q := ((8, [(5, .int (-1)), (0, .ref 54), (1, .int 1), (2, .int 9), (3, .int v), (4, .int w)], []), zh3)) rfl rfl rfl).trans ?_
    refine (zq1 (q := ((10, [(5, .int (-1)), (0, .ref 54), (1, .int 1), (2, .int 9), (3, .int v), (4, .int w)], [.int (-1)]), zh3)) rfl rfl rfl).trans ?_
    refine (zq1 (q := ((28, [(5, .int (-1)), (0, .ref 54), (1, .int 1), (2, .int 9), (3, .int v), (4, .int w)], []), zh3)) rfl rfl rfl).trans ?_
    refine (zq1 (q := ((29, [(5, .int (-1)), (0, .ref 54), (1, .int 1), (2, .int 9), (3, .int v), (4, .int w)], [.int 0]), zh3)) rfl rfl rfl).trans ?_
    exact zqr rfl rfl
set_option maxRecDepth 1000000 in
set_option maxHeartbeats 4000000 in
theorem zi_update_1_10 (v w : Int32)  : zPair 42 113 [.int 1, .int 10, .int v, .int w] := by
  refine ⟨0, zh3, zh3, ?_, ?_, rfl, rfl, rfl⟩
  · refine (zcal_go (M := M_ST_update) rfl rfl rfl).trans ?_
    show zloop zmt (zcal zmt 100000 8 395) 9 395 none M_ST_update 100000 (0, [(0, .ref 0), (1, .int 1), (2, .int 10), (3, .int v), (4, .int w)], []) zh3 = _
    refine (zq1 (q := ((1, [(0, .ref 0), (1, .int 1), (2, .int 10), (3, .int v), (4, .int w)], [.ref 0]), zh3)) rfl rfl rfl).trans ?_
    refine (zq1 (q := ((2, [(0, .ref 0), (1, .int 1), (2, .int 10), (3, .int v), (4, .int w)], [.int 1, .ref 0]), zh3)) rfl rfl rfl).trans ?_
    refine (zq1 (q := ((3, [(0, .ref 0), (1, .int 1), (2, .int 10), (3, .int v), (4, .int w)], [.int 10, .int 1, .ref 0]), zh3)) rfl rfl rfl).trans ?_
    have hc : zcal zmt 100000 8 395 39 [.ref 0, .int 1, .int 10] zh3 = some (some (.null), zh3) := zreq_ok (by decide +kernel)
    refine (zqc 1 (s' := (6, [(0, .ref 0), (1, .int 1), (2, .int 10), (3, .int v), (4, .int w)], [.null])) rfl rfl rfl rfl rfl rfl hc rfl).trans ?_
    refine (zq1 (q := ((8, [(5, .null), (0, .ref 0), (1, .int 1), (2, .int 10), (3, .int v), (4, .int w)], []), zh3)) rfl rfl rfl).trans ?_
    refine (zq1 (q := ((10, [(5, .null), (0, .ref 0), (1, .int 1), (2, .int 10), (3, .int v), (4, .int w)], [.null]), zh3)) rfl rfl rfl).trans ?_
    refine (zq1 (q := ((25, [(5, .null), (0, .ref 0), (1, .int 1), (2, .int 10), (3, .int v), (4, .int w)], []), zh3)) rfl rfl rfl).trans ?_
    refine (zq1 (q := ((26, [(5, .null), (0, .ref 0), (1, .int 1), (2, .int 10), (3, .int v), (4, .int w)], [.int 0]), zh3)) rfl rfl rfl).trans ?_
    exact zqr rfl rfl
  · refine (zcal_go (M := M_Mo_update) rfl rfl rfl).trans ?_
    show zloop zmt (zcal zmt 100000 8 395) 9 395 none M_Mo_update 100000 (0, [(0, .ref 54), (1, .int 1), (2, .int 10), (3, .int v), (4, .int w)], []) zh3 = _
    refine (zq1 (q := ((1, [(0, .ref 54), (1, .int 1), (2, .int 10), (3, .int v), (4, .int w)], [.ref 54]), zh3)) rfl rfl rfl).trans ?_
    refine (zq1 (q := ((2, [(0, .ref 54), (1, .int 1), (2, .int 10), (3, .int v), (4, .int w)], [.int 1, .ref 54]), zh3)) rfl rfl rfl).trans ?_
    refine (zq1 (q := ((3, [(0, .ref 54), (1, .int 1), (2, .int 10), (3, .int v), (4, .int w)], [.int 10, .int 1, .ref 54]), zh3)) rfl rfl rfl).trans ?_
    have hc : zcal zmt 100000 8 395 112 [.ref 54, .int 1, .int 10] zh3 = some (some (.int (-1)), zh3) := zreq_ok (by decide +kernel)
    refine (zqc 1 (s' := (6, [(0, .ref 54), (1, .int 1), (2, .int 10), (3, .int v), (4, .int w)], [.int (-1)])) rfl rfl rfl rfl rfl rfl hc rfl).trans ?_
    refine (zq1 (q := ((8, [(5, .int (-1)), (0, .ref 54), (1, .int 1), (2, .int 10), (3, .int v), (4, .int w)], []), zh3)) rfl rfl rfl).trans ?_
    refine (zq1 (q := ((10, [(5, .int (-1)), (0, .ref 54), (1, .int 1), (2, .int 10), (3, .int v), (4, .int w)], [.int (-1)]), zh3)) rfl rfl rfl).trans ?_
    refine (zq1 (q := ((28, [(5, .int (-1)), (0, .ref 54), (1, .int 1), (2, .int 10), (3, .int v), (4, .int w)], []), zh3)) rfl rfl rfl).trans ?_
    refine (zq1 (q := ((29, [(5, .int (-1)), (0, .ref 54), (1, .int 1), (2, .int 10), (3, .int v), (4, .int w)], [.int 0]), zh3)) rfl rfl rfl).trans ?_
    exact zqr rfl rfl
set_option maxRecDepth 1000000 in
set_option maxHeartbeats 4000000 in
theorem zi_update_1_11 (v w : Int32)  : zPair 42 113 [.int 1, .int 11, .int v, .int w] := by
  refine ⟨0, zh3, zh3, ?_, ?_, rfl, rfl, rfl⟩
  · refine (zcal_go (M := M_ST_update) rfl rfl rfl).trans ?_
    show zloop zmt (zcal zmt 100000 8 395) 9 395 none M_ST_update 100000 (0, [(0, .ref 0), (1, .int 1), (2, .int 11), (3, .int v), (4, .int w)], []) zh3 = _
    refine (zq1 (q := ((1, [(0, .ref 0), (1, .int 1), (2, .int 11), (3, .int v), (4, .int w)], [.ref 0]), zh3)) rfl rfl rfl).trans ?_
    refine (zq1 (q := ((2, [(0, .ref 0), (1, .int 1), (2, .int 11), (3, .int v), (4, .int w)], [.int 1, .ref 0]), zh3)) rfl rfl rfl).trans ?_
    refine (zq1 (q := ((3, [(0, .ref 0), (1, .int 1), (2, .int 11), (3, .int v), (4, .int w)], [.int 11, .int 1, .ref 0]), zh3)) rfl rfl rfl).trans ?_
    have hc : zcal zmt 100000 8 395 39 [.ref 0, .int 1, .int 11] zh3 = some (some (.null), zh3) := zreq_ok (by decide +kernel)
    refine (zqc 1 (s' := (6, [(0, .ref 0), (1, .int 1), (2, .int 11), (3, .int v), (4, .int w)], [.null])) rfl rfl rfl rfl rfl rfl hc rfl).trans ?_
    refine (zq1 (q := ((8, [(5, .null), (0, .ref 0), (1, .int 1), (2, .int 11), (3, .int v), (4, .int w)], []), zh3)) rfl rfl rfl).trans ?_
    refine (zq1 (q := ((10, [(5, .null), (0, .ref 0), (1, .int 1), (2, .int 11), (3, .int v), (4, .int w)], [.null]), zh3)) rfl rfl rfl).trans ?_
    refine (zq1 (q := ((25, [(5, .null), (0, .ref 0), (1, .int 1), (2, .int 11), (3, .int v), (4, .int w)], []), zh3)) rfl rfl rfl).trans ?_
    refine (zq1 (q := ((26, [(5, .null), (0, .ref 0), (1, .int 1), (2, .int 11), (3, .int v), (4, .int w)], [.int 0]), zh3)) rfl rfl rfl).trans ?_
    exact zqr rfl rfl
  · refine (zcal_go (M := M_Mo_update) rfl rfl rfl).trans ?_
    show zloop zmt (zcal zmt 100000 8 395) 9 395 none M_Mo_update 100000 (0, [(0, .ref 54), (1, .int 1), (2, .int 11), (3, .int v), (4, .int w)], []) zh3 = _
    refine (zq1 (q := ((1, [(0, .ref 54), (1, .int 1), (2, .int 11), (3, .int v), (4, .int w)], [.ref 54]), zh3)) rfl rfl rfl).trans ?_
    refine (zq1 (q := ((2, [(0, .ref 54), (1, .int 1), (2, .int 11), (3, .int v), (4, .int w)], [.int 1, .ref 54]), zh3)) rfl rfl rfl).trans ?_
    refine (zq1 (q := ((3, [(0, .ref 54), (1, .int 1), (2, .int 11), (3, .int v), (4, .int w)], [.int 11, .int 1, .ref 54]), zh3)) rfl rfl rfl).trans ?_
    have hc : zcal zmt 100000 8 395 112 [.ref 54, .int 1, .int 11] zh3 = some (some (.int (-1)), zh3) := zreq_ok (by decide +kernel)
    refine (zqc 1 (s' := (6, [(0, .ref 54), (1, .int 1), (2, .int 11), (3, .int v), (4, .int w)], [.int (-1)])) rfl rfl rfl rfl rfl rfl hc rfl).trans ?_
    refine (zq1 (q := ((8, [(5, .int (-1)), (0, .ref 54), (1, .int 1), (2, .int 11), (3, .int v), (4, .int w)], []), zh3)) rfl rfl rfl).trans ?_
    refine (zq1 (q := ((10, [(5, .int (-1)), (0, .ref 54), (1, .int 1), (2, .int 11), (3, .int v), (4, .int w)], [.int (-1)]), zh3)) rfl rfl rfl).trans ?_
    refine (zq1 (q := ((28, [(5, .int (-1)), (0, .ref 54), (1, .int 1), (2, .int 11), (3, .int v), (4, .int w)], []), zh3)) rfl rfl rfl).trans ?_
    refine (zq1 (q := ((29, [(5, .int (-1)), (0, .ref 54), (1, .int 1), (2, .int 11), (3, .int v), (4, .int w)], [.int 0]), zh3)) rfl rfl rfl).trans ?_
    exact zqr rfl rfl
set_option maxRecDepth 1000000 in
set_option maxHeartbeats 4000000 in
theorem zi_update_1_12 (v w : Int32)  : zPair 42 113 [.int 1, .int 12, .int v, .int w] := by
  refine ⟨0, zh3, zh3, ?_, ?_, rfl, rfl, rfl⟩
  · refine (zcal_go (M := M_ST_update) rfl rfl rfl).trans ?_
    show zloop zmt (zcal zmt 100000 8 395) 9 395 none M_ST_update 100000 (0, [(0, .ref 0), (1, .int 1), (2, .int 12), (3, .int v), (4, .int w)], []) zh3 = _
    refine (zq1 (q := ((1, [(0, .ref 0), (1, .int 1), (2, .int 12), (3, .int v), (4, .int w)], [.ref 0]), zh3)) rfl rfl rfl).trans ?_
    refine (zq1 (q := ((2, [(0, .ref 0), (1, .int 1), (2, .int 12), (3, .int v), (4, .int w)], [.int 1, .ref 0]), zh3)) rfl rfl rfl).trans ?_
    refine (zq1 (q := ((3, [(0, .ref 0), (1, .int 1), (2, .int 12), (3, .int v), (4, .int w)], [.int 12, .int 1, .ref 0]), zh3)) rfl rfl rfl).trans ?_
    have hc : zcal zmt 100000 8 395 39 [.ref 0, .int 1, .int 12] zh3 = some (some (.null), zh3) := zreq_ok (by decide +kernel)
    refine (zqc 1 (s' := (6, [(0, .ref 0), (1, .int 1), (2, .int 12), (3, .int v), (4, .int w)], [.null])) rfl rfl rfl rfl rfl rfl hc rfl).trans ?_
    refine (zq1 (q := ((8, [(5, .null), (0, .ref 0), (1, .int 1), (2, .int 12), (3, .int v), (4, .int w)], []), zh3)) rfl rfl rfl).trans ?_
    refine (zq1 (q := ((10, [(5, .null), (0, .ref 0), (1, .int 1), (2, .int 12), (3, .int v), (4, .int w)], [.null]), zh3)) rfl rfl rfl).trans ?_
    refine (zq1 (q := ((25, [(5, .null), (0, .ref 0), (1, .int 1), (2, .int 12), (3, .int v), (4, .int w)], []), zh3)) rfl rfl rfl).trans ?_
    refine (zq1 (q := ((26, [(5, .null), (0, .ref 0), (1, .int 1), (2, .int 12), (3, .int v), (4, .int w)], [.int 0]), zh3)) rfl rfl rfl).trans ?_
    exact zqr rfl rfl
  · refine (zcal_go (M := M_Mo_update) rfl rfl rfl).trans ?_
    show zloop zmt (zcal zmt 100000 8 395) 9 395 none M_Mo_update 100000 (0, [(0, .ref 54), (1, .int 1), (2, .int 12), (3, .int v), (4, .int w)], []) zh3 = _
    refine (zq1 (q := ((1, [(0, .ref 54), (1, .int 1), (2, .int 12), (3, .int v), (4, .int w)], [.ref 54]), zh3)) rfl rfl rfl).trans ?_
    refine (zq1 (q := ((2, [(0, .ref 54), (1, .int 1), (2, .int 12), (3, .int v), (4, .int w)], [.int 1, .ref 54]), zh3)) rfl rfl rfl).trans ?_
    refine (zq1 (q := ((3, [(0, .ref 54), (1, .int 1), (2, .int 12), (3, .int v), (4, .int w)], [.int 12, .int 1, .ref 54]), zh3)) rfl rfl rfl).trans ?_
    have hc : zcal zmt 100000 8 395 112 [.ref 54, .int 1, .int 12] zh3 = some (some (.int (-1)), zh3) := zreq_ok (by decide +kernel)
    refine (zqc 1 (s' := (6, [(0, .ref 54), (1, .int 1), (2, .int 12), (3, .int v), (4, .int w)], [.int (-1)])) rfl rfl rfl rfl rfl rfl hc rfl).trans ?_
    refine (zq1 (q := ((8, [(5, .int (-1)), (0, .ref 54), (1, .int 1), (2, .int 12), (3, .int v), (4, .int w)], []), zh3)) rfl rfl rfl).trans ?_
    refine (zq1 (q := ((10, [(5, .int (-1)), (0, .ref 54), (1, .int 1), (2, .int 12), (3, .int v), (4, .int w)], [.int (-1)]), zh3)) rfl rfl rfl).trans ?_
    refine (zq1 (q := ((28, [(5, .int (-1)), (0, .ref 54), (1, .int 1), (2, .int 12), (3, .int v), (4, .int w)], []), zh3)) rfl rfl rfl).trans ?_
    refine (zq1 (q := ((29, [(5, .int (-1)), (0, .ref 54), (1, .int 1), (2, .int 12), (3, .int v), (4, .int w)], [.int 0]), zh3)) rfl rfl rfl).trans ?_
    exact zqr rfl rfl
set_option maxRecDepth 1000000 in
set_option maxHeartbeats 4000000 in
theorem zi_update_1_13 (v w : Int32)  : zPair 42 113 [.int 1, .int 13, .int v, .int w] := by
  refine ⟨0, zh3, zh3, ?_, ?_, rfl, rfl, rfl⟩
  · refine (zcal_go (M := M_ST_update) rfl rfl rfl).trans ?_
    show zloop zmt (zcal zmt 100000 8 395) 9 395 none M_ST_update 100000 (0, [(0, .ref 0), (1, .int 1), (2, .int 13), (3, .int v), (4, .int w)], []) zh3 = _
    refine (zq1 (q := ((1, [(0, .ref 0), (1, .int 1), (2, .int 13), (3, .int v), (4, .int w)], [.ref 0]), zh3)) rfl rfl rfl).trans ?_
    refine (zq1 (q := ((2, [(0, .ref 0), (1, .int 1), (2, .int 13), (3, .int v), (4, .int w)], [.int 1, .ref 0]), zh3)) rfl rfl rfl).trans ?_
    refine (zq1 (q := ((3, [(0, .ref 0), (1, .int 1), (2, .int 13), (3, .int v), (4, .int w)], [.int 13, .int 1, .ref 0]), zh3)) rfl rfl rfl).trans ?_
    have hc : zcal zmt 100000 8 395 39 [.ref 0, .int 1, .int 13] zh3 = some (some (.null), zh3) := zreq_ok (by decide +kernel)
    refine (zqc 1 (s' := (6, [(0, .ref 0), (1, .int 1), (2, .int 13), (3, .int v), (4, .int w)], [.null])) rfl rfl rfl rfl rfl rfl hc rfl).trans ?_
    refine (zq1 (q := ((8, [(5, .null), (0, .ref 0), (1, .int 1), (2, .int 13), (3, .int v), (4, .int w)], []), zh3)) rfl rfl rfl).trans ?_
    refine (zq1 (q := ((10, [(5, .null), (0, .ref 0), (1, .int 1), (2, .int 13), (3, .int v), (4, .int w)], [.null]), zh3)) rfl rfl rfl).trans ?_
    refine (zq1 (q := ((25, [(5, .null), (0, .ref 0), (1, .int 1), (2, .int 13), (3, .int v), (4, .int w)], []), zh3)) rfl rfl rfl).trans ?_
    refine (zq1 (q := ((26, [(5, .null), (0, .ref 0), (1, .int 1), (2, .int 13), (3, .int v), (4, .int w)], [.int 0]), zh3)) rfl rfl rfl).trans ?_
    exact zqr rfl rfl
  · refine (zcal_go (M := M_Mo_update) rfl rfl rfl).trans ?_
    show zloop zmt (zcal zmt 100000 8 395) 9 395 none M_Mo_update 100000 (0, [(0, .ref 54), (1, .int 1), (2, .int 13), (3, .int v), (4, .int w)], []) zh3 = _
    refine (zq1 (q := ((1, [(0, .ref 54), (1, .int 1), (2, .int 13), (3, .int v), (4, .int w)], [.ref 54]), zh3)) rfl rfl rfl).trans ?_
    refine (zq1 (q := ((2, [(0, .ref 54), (1, .int 1), (2, .int 13), (3, .int v), (4, .int w)], [.int 1, .ref 54]), zh3)) rfl rfl rfl).trans ?_
    refine (zq1 (q := ((3, [(0, .ref 54), (1, .int 1), (2, .int 13), (3, .int v), (4, .int w)], [.int 13, .int 1, .ref 54]), zh3)) rfl rfl rfl).trans ?_
    have hc : zcal zmt 100000 8 395 112 [.ref 54, .int 1, .int 13] zh3 = some (some (.int (-1)), zh3) := zreq_ok (by decide +kernel)
    refine (zqc 1 (s' := (6, [(0, .ref 54), (1, .int 1), (2, .int 13), (3, .int v), (4, .int w)], [.int (-1)])) rfl rfl rfl rfl rfl rfl hc rfl).trans ?_
    refine (zq1 (q := ((8, [(5, .int (-1)), (0, .ref 54), (1, .int 1), (2, .int 13), (3, .int v), (4, .int w)], []), zh3)) rfl rfl rfl).trans ?_
    refine (zq1 (q := ((10, [(5, .int (-1)), (0, .ref 54), (1, .int 1), (2, .int 13), (3, .int v), (4, .int w)], [.int (-1)]), zh3)) rfl rfl rfl).trans ?_
    refine (zq1 (q := ((28, [(5, .int (-1)), (0, .ref 54), (1, .int 1), (2, .int 13), (3, .int v), (4, .int w)], []), zh3)) rfl rfl rfl).trans ?_
    refine (zq1 (q := ((29, [(5, .int (-1)), (0, .ref 54), (1, .int 1), (2, .int 13), (3, .int v), (4, .int w)], [.int 0]), zh3)) rfl rfl rfl).trans ?_
    exact zqr rfl rfl
set_option maxRecDepth 1000000 in
set_option maxHeartbeats 4000000 in
theorem zi_update_1_14 (v w : Int32)  : zPair 42 113 [.int 1, .int 14, .int v, .int w] := by
  refine ⟨0, zh3, zh3, ?_, ?_, rfl, rfl, rfl⟩
  · refine (zcal_go (M := M_ST_update) rfl rfl rfl).trans ?_
    show zloop zmt (zcal zmt 100000 8 395) 9 395 none M_ST_update 100000 (0, [(0, .ref 0), (1, .int 1), (2, .int 14), (3, .int v), (4, .int w)], []) zh3 = _
    refine (zq1 (q := ((1, [(0, .ref 0), (1, .int 1), (2, .int 14), (3, .int v), (4, .int w)], [.ref 0]), zh3)) rfl rfl rfl).trans ?_
    refine (zq1 (q := ((2, [(0, .ref 0), (1, .int 1), (2, .int 14), (3, .int v), (4, .int w)], [.int 1, .ref 0]), zh3)) rfl rfl rfl).trans ?_
    refine (zq1 (q := ((3, [(0, .ref 0), (1, .int 1), (2, .int 14), (3, .int v), (4, .int w)], [.int 14, .int 1, .ref 0]), zh3)) rfl rfl rfl).trans ?_
    have hc : zcal zmt 100000 8 395 39 [.ref 0, .int 1, .int 14] zh3 = some (some (.null), zh3) := zreq_ok (by decide +kernel)
    refine (zqc 1 (s' := (6, [(0, .ref 0), (1, .int 1), (2, .int 14), (3, .int v), (4, .int w)], [.null])) rfl rfl rfl rfl rfl rfl hc rfl).trans ?_
    refine (zq1 (q := ((8, [(5, .null), (0, .ref 0), (1, .int 1), (2, .int 14), (3, .int v), (4, .int w)], []), zh3)) rfl rfl rfl).trans ?_
    refine (zq1 (q := ((10, [(5, .null), (0, .ref 0), (1, .int 1), (2, .int 14), (3, .int v), (4, .int w)], [.null]), zh3)) rfl rfl rfl).trans ?_
    refine (zq1 (q := ((25, [(5, .null), (0, .ref 0), (1, .int 1), (2, .int 14), (3, .int v), (4, .int w)], []), zh3)) rfl rfl rfl).trans ?_
    refine (zq1 (q := ((26, [(5, .null), (0, .ref 0), (1, .int 1), (2, .int 14), (3, .int v), (4, .int w)], [.int 0]), zh3)) rfl rfl rfl).trans ?_
    exact zqr rfl rfl
  · refine (zcal_go (M := M_Mo_update) rfl rfl rfl).trans ?_
    show zloop zmt (zcal zmt 100000 8 395) 9 395 none M_Mo_update 100000 (0, [(0, .ref 54), (1, .int 1), (2, .int 14), (3, .int v), (4, .int w)], []) zh3 = _
    refine (zq1 (q := ((1, [(0, .ref 54), (1, .int 1), (2, .int 14), (3, .int v), (4, .int w)], [.ref 54]), zh3)) rfl rfl rfl).trans ?_
    refine (zq1 (q := ((2, [(0, .ref 54), (1, .int 1), (2, .int 14), (3, .int v), (4, .int w)], [.int 1, .ref 54]), zh3)) rfl rfl rfl).trans ?_
    refine (zq1 (q := ((3, [(0, .ref 54), (1, .int 1), (2, .int 14), (3, .int v), (4, .int w)], [.int 14, .int 1, .ref 54]), zh3)) rfl rfl rfl).trans ?_
    have hc : zcal zmt 100000 8 395 112 [.ref 54, .int 1, .int 14] zh3 = some (some (.int (-1)), zh3) := zreq_ok (by decide +kernel)
    refine (zqc 1 (s' := (6, [(0, .ref 54), (1, .int 1), (2, .int 14), (3, .int v), (4, .int w)], [.int (-1)])) rfl rfl rfl rfl rfl rfl hc rfl).trans ?_
    refine (zq1 (q := ((8, [(5, .int (-1)), (0, .ref 54), (1, .int 1), (2, .int 14), (3, .int v), (4, .int w)], []), zh3)) rfl rfl rfl).trans ?_
    refine (zq1 (q := ((10, [(5, .int (-1)), (0, .ref 54), (1, .int 1), (2, .int 14), (3, .int v), (4, .int w)], [.int (-1)]), zh3)) rfl rfl rfl).trans ?_
    refine (zq1 (q := ((28, [(5, .int (-1)), (0, .ref 54), (1, .int 1), (2, .int 14), (3, .int v), (4, .int w)], []), zh3)) rfl rfl rfl).trans ?_
    refine (zq1 (q := ((29, [(5, .int (-1)), (0, .ref 54), (1, .int 1), (2, .int 14), (3, .int v), (4, .int w)], [.int 0]), zh3)) rfl rfl rfl).trans ?_
    exact zqr rfl rfl
set_option maxRecDepth 1000000 in
set_option maxHeartbeats 4000000 in
theorem zi_update_1_15 (v w : Int32)  : zPair 42 113 [.int 1, .int 15, .int v, .int w] := by
  refine ⟨0, zh3, zh3, ?_, ?_, rfl, rfl, rfl⟩
  · refine (zcal_go (M := M_ST_update) rfl rfl rfl).trans ?_
    show zloop zmt (zcal zmt 100000 8 395) 9 395 none M_ST_update 100000 (0, [(0, .ref 0), (1, .int 1), (2, .int 15), (3, .int v), (4, .int w)], []) zh3 = _
    refine (zq1 (q := ((1, [(0, .ref 0), (1, .int 1), (2, .int 15), (3, .int v), (4, .int w)], [.ref 0]), zh3)) rfl rfl rfl).trans ?_
    refine (zq1 (q := ((2, [(0, .ref 0), (1, .int 1), (2, .int 15), (3, .int v), (4, .int w)], [.int 1, .ref 0]), zh3)) rfl rfl rfl).trans ?_
    refine (zq1 (q := ((3, [(0, .ref 0), (1, .int 1), (2, .int 15), (3, .int v), (4, .int w)], [.int 15, .int 1, .ref 0]), zh3)) rfl rfl rfl).trans ?_
    have hc : zcal zmt 100000 8 395 39 [.ref 0, .int 1, .int 15] zh3 = some (some (.null), zh3) := zreq_ok (by decide +kernel)
    refine (zqc 1 (s' := (6, [(0, .ref 0), (1, .int 1), (2, .int 15), (3, .int v), (4, .int w)], [.null])) rfl rfl rfl rfl rfl rfl hc rfl).trans ?_
    refine (zq1 (q := ((8, [(5, .null), (0, .ref 0), (1, .int 1), (2, .int 15), (3, .int v), (4, .int w)], []), zh3)) rfl rfl rfl).trans ?_
    refine (zq1 (q := ((10, [(5, .null), (0, .ref 0), (1, .int 1), (2, .int 15), (3, .int v), (4, .int w)], [.null]), zh3)) rfl rfl rfl).trans ?_
    refine (zq1 (q := ((25, [(5, .null), (0, .ref 0), (1, .int 1), (2, .int 15), (3, .int v), (4, .int w)], []), zh3)) rfl rfl rfl).trans ?_
    refine (zq1 (q := ((26, [(5, .null), (0, .ref 0), (1, .int 1), (2, .int 15), (3, .int v), (4, .int w)], [.int 0]), zh3)) rfl rfl rfl).trans ?_
    exact zqr rfl rfl
  · refine (zcal_go (M := M_Mo_update) rfl rfl rfl).trans ?_
    show zloop zmt (zcal zmt 100000 8 395) 9 395 none M_Mo_update 100000 (0, [(0, .ref 54), (1, .int 1), (2, .int 15), (3, .int v), (4, .int w)], []) zh3 = _
    refine (zq1 (q := ((1, [(0, .ref 54), (1, .int 1), (2, .int 15), (3, .int v), (4, .int w)], [.ref 54]), zh3)) rfl rfl rfl).trans ?_
    refine (zq1 (q := ((2, [(0, .ref 54), (1, .int 1), (2, .int 15), (3, .int v), (4, .int w)], [.int 1, .ref 54]), zh3)) rfl rfl rfl).trans ?_
    refine (zq1 (q := ((3, [(0, .ref 54), (1, .int 1), (2, .int 15), (3, .int v), (4, .int w)], [.int 15, .int 1, .ref 54]), zh3)) rfl rfl rfl).trans ?_
    have hc : zcal zmt 100000 8 395 112 [.ref 54, .int 1, .int 15] zh3 = some (some (.int (-1)), zh3) := zreq_ok (by decide +kernel)
    refine (zqc 1 (s' := (6, [(0, .ref 54), (1, .int 1), (2, .int 15), (3, .int v), (4, .int w)], [.int (-1)])) rfl rfl rfl rfl rfl rfl hc rfl).trans ?_
    refine (zq1 (q := ((8, [(5, .int (-1)), (0, .ref 54), (1, .int 1), (2, .int 15), (3, .int v), (4, .int w)], []), zh3)) rfl rfl rfl).trans ?_
    refine (zq1 (q := ((10, [(5, .int (-1)), (0, .ref 54), (1, .int 1), (2, .int 15), (3, .int v), (4, .int w)], [.int (-1)]), zh3)) rfl rfl rfl).trans ?_
    refine (zq1 (q := ((28, [(5, .int (-1)), (0, .ref 54), (1, .int 1), (2, .int 15), (3, .int v), (4, .int w)], []), zh3)) rfl rfl rfl).trans ?_
    refine (zq1 (q := ((29, [(5, .int (-1)), (0, .ref 54), (1, .int 1), (2, .int 15), (3, .int v), (4, .int w)], [.int 0]), zh3)) rfl rfl rfl).trans ?_
    exact zqr rfl rfl
