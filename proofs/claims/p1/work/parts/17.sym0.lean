set_option maxRecDepth 1000000 in
set_option maxHeartbeats 4000000 in
theorem zi_insert_lt (t v : Int32) (h : t.toInt < 0) : zPair 28 107 [.int t, .int v] := by
  refine ⟨(-1), zh3, zh3, ?_, ?_, rfl, rfl, rfl⟩
  · refine (zcal_go (M := M_ST_insert) rfl rfl rfl).trans ?_
    show zloop zmt (zcal zmt 100000 8 397) 9 397 none M_ST_insert 100000 (0, [(0, .ref 0), (1, .int t), (2, .int v)], []) zh3 = _
    refine (zq1 (q := ((1, [(0, .ref 0), (1, .int t), (2, .int v)], [.int t]), zh3)) rfl rfl rfl).trans ?_
    have hc : zcal zmt 100000 8 397 29 [.int t] zh3 = some (some (.int 0), zh3) := by
      refine (zcal_go (M := M_ST_isTable) rfl rfl rfl).trans ?_
      show zloop zmt (zcal zmt 100000 7 377) 8 377 none M_ST_isTable 100000 (0, [(0, .int t)], []) zh3 = _
      refine (zq1 (q := ((1, [(0, .int t)], [.int t]), zh3)) rfl rfl rfl).trans ?_
      refine (zqb (q := (13, [(0, .int t)], [])) (cB := zc .lt t (0)) (v := true) (off := 12) (lv := [(0, .int t)]) (r := []) rfl rfl rfl (zcb .lt (x := t) (y := (0)) (k := 0) (by decide) (decide_eq_true (by omega))) rfl).trans ?_
      refine (zq1 (q := ((14, [(0, .int t)], [.int 0]), zh3)) rfl rfl rfl).trans ?_
      exact zqr rfl rfl
    refine (zqc 0 (s' := (4, [(0, .ref 0), (1, .int t), (2, .int v)], [.int 0])) rfl rfl rfl rfl rfl rfl hc rfl).trans ?_
    refine (zq1 (q := ((14, [(0, .ref 0), (1, .int t), (2, .int v)], []), zh3)) rfl rfl rfl).trans ?_
    refine (zq1 (q := ((15, [(0, .ref 0), (1, .int t), (2, .int v)], [.int (-1)]), zh3)) rfl rfl rfl).trans ?_
    exact zqr rfl rfl
  · refine (zcal_go (M := M_Mo_insert) rfl rfl rfl).trans ?_
    show zloop zmt (zcal zmt 100000 8 396) 9 396 none M_Mo_insert 100000 (0, [(0, .ref 54), (1, .int t), (2, .int v)], []) zh3 = _
    refine (zq1 (q := ((1, [(0, .ref 54), (1, .int t), (2, .int v)], [.int t]), zh3)) rfl rfl rfl).trans ?_
    have hc : zcal zmt 100000 8 396 108 [.int t] zh3 = some (some (.int 0), zh3) := by
      refine (zcal_go (M := M_Mo_isTable) rfl rfl rfl).trans ?_
      show zloop zmt (zcal zmt 100000 7 376) 8 376 none M_Mo_isTable 100000 (0, [(0, .int t)], []) zh3 = _
      refine (zq1 (q := ((1, [(0, .int t)], [.int t]), zh3)) rfl rfl rfl).trans ?_
      refine (zqb (q := (4, [(0, .int t)], [])) (cB := zc .eq t (0)) (v := false) (off := 8) (lv := [(0, .int t)]) (r := []) rfl rfl rfl (zcb .eq (x := t) (y := (0)) (k := 0) (by decide) (decide_eq_false (by omega))) rfl).trans ?_
      refine (zq1 (q := ((5, [(0, .int t)], [.int t]), zh3)) rfl rfl rfl).trans ?_
      refine (zq1 (q := ((6, [(0, .int t)], [.int 1, .int t]), zh3)) rfl rfl rfl).trans ?_
      refine (zqb (q := (13, [(0, .int t)], [])) (cB := zc .ne t (1)) (v := true) (off := 7) (lv := [(0, .int t)]) (r := []) rfl rfl rfl (zcb .ne (x := t) (y := (1)) (k := 1) (by decide) (decide_eq_true (by omega))) rfl).trans ?_
      refine (zq1 (q := ((14, [(0, .int t)], [.int 0]), zh3)) rfl rfl rfl).trans ?_
      exact zqr rfl rfl
    refine (zqc 0 (s' := (4, [(0, .ref 54), (1, .int t), (2, .int v)], [.int 0])) rfl rfl rfl rfl rfl rfl hc rfl).trans ?_
    refine (zq1 (q := ((27, [(0, .ref 54), (1, .int t), (2, .int v)], []), zh3)) rfl rfl rfl).trans ?_
    refine (zq1 (q := ((28, [(0, .ref 54), (1, .int t), (2, .int v)], [.int (-1)]), zh3)) rfl rfl rfl).trans ?_
    exact zqr rfl rfl
set_option maxRecDepth 1000000 in
set_option maxHeartbeats 4000000 in
theorem zi_insert_ge (t v : Int32) (h : 2 ≤ t.toInt) : zPair 28 107 [.int t, .int v] := by
  refine ⟨(-1), zh3, zh3, ?_, ?_, rfl, rfl, rfl⟩
  · refine (zcal_go (M := M_ST_insert) rfl rfl rfl).trans ?_
    show zloop zmt (zcal zmt 100000 8 397) 9 397 none M_ST_insert 100000 (0, [(0, .ref 0), (1, .int t), (2, .int v)], []) zh3 = _
    refine (zq1 (q := ((1, [(0, .ref 0), (1, .int t), (2, .int v)], [.int t]), zh3)) rfl rfl rfl).trans ?_
    have hc : zcal zmt 100000 8 397 29 [.int t] zh3 = some (some (.int 0), zh3) := by
      refine (zcal_go (M := M_ST_isTable) rfl rfl rfl).trans ?_
      show zloop zmt (zcal zmt 100000 7 377) 8 377 none M_ST_isTable 100000 (0, [(0, .int t)], []) zh3 = _
      refine (zq1 (q := ((1, [(0, .int t)], [.int t]), zh3)) rfl rfl rfl).trans ?_
      refine (zqb (q := (4, [(0, .int t)], [])) (cB := zc .lt t (0)) (v := false) (off := 12) (lv := [(0, .int t)]) (r := []) rfl rfl rfl (zcb .lt (x := t) (y := (0)) (k := 0) (by decide) (decide_eq_false (by omega))) rfl).trans ?_
      refine (zq1 (q := ((5, [(0, .int t)], [.int t]), zh3)) rfl rfl rfl).trans ?_
      refine (zq1 (q := ((6, [(0, .int t)], [.int 2, .int t]), zh3)) rfl rfl rfl).trans ?_
      refine (zqb (q := (13, [(0, .int t)], [])) (cB := zc .ge t (2)) (v := true) (off := 7) (lv := [(0, .int t)]) (r := []) rfl rfl rfl (zcb .ge (x := t) (y := (2)) (k := 2) (by decide) (decide_eq_true (by omega))) rfl).trans ?_
      refine (zq1 (q := ((14, [(0, .int t)], [.int 0]), zh3)) rfl rfl rfl).trans ?_
      exact zqr rfl rfl
    refine (zqc 0 (s' := (4, [(0, .ref 0), (1, .int t), (2, .int v)], [.int 0])) rfl rfl rfl rfl rfl rfl hc rfl).trans ?_
    refine (zq1 (q := ((14, [(0, .ref 0), (1, .int t), (2, .int v)], []), zh3)) rfl rfl rfl).trans ?_
    refine (zq1 (q := ((15, [(0, .ref 0), (1, .int t), (2, .int v)], [.int (-1)]), zh3)) rfl rfl rfl).trans ?_
    exact zqr rfl rfl
  · refine (zcal_go (M := M_Mo_insert) rfl rfl rfl).trans ?_
    show zloop zmt (zcal zmt 100000 8 396) 9 396 none M_Mo_insert 100000 (0, [(0, .ref 54), (1, .int t), (2, .int v)], []) zh3 = _
    refine (zq1 (q := ((1, [(0, .ref 54), (1, .int t), (2, .int v)], [.int t]), zh3)) rfl rfl rfl).trans ?_
    have hc : zcal zmt 100000 8 396 108 [.int t] zh3 = some (some (.int 0), zh3) := by
      refine (zcal_go (M := M_Mo_isTable) rfl rfl rfl).trans ?_
      show zloop zmt (zcal zmt 100000 7 376) 8 376 none M_Mo_isTable 100000 (0, [(0, .int t)], []) zh3 = _
      refine (zq1 (q := ((1, [(0, .int t)], [.int t]), zh3)) rfl rfl rfl).trans ?_
      refine (zqb (q := (4, [(0, .int t)], [])) (cB := zc .eq t (0)) (v := false) (off := 8) (lv := [(0, .int t)]) (r := []) rfl rfl rfl (zcb .eq (x := t) (y := (0)) (k := 0) (by decide) (decide_eq_false (by omega))) rfl).trans ?_
      refine (zq1 (q := ((5, [(0, .int t)], [.int t]), zh3)) rfl rfl rfl).trans ?_
      refine (zq1 (q := ((6, [(0, .int t)], [.int 1, .int t]), zh3)) rfl rfl rfl).trans ?_
      refine (zqb (q := (13, [(0, .int t)], [])) (cB := zc .ne t (1)) (v := true) (off := 7) (lv := [(0, .int t)]) (r := []) rfl rfl rfl (zcb .ne (x := t) (y := (1)) (k := 1) (by decide) (decide_eq_true (by omega))) rfl).trans ?_
      refine (zq1 (q := ((14, [(0, .int t)], [.int 0]), zh3)) rfl rfl rfl).trans ?_
      exact zqr rfl rfl
    refine (zqc 0 (s' := (4, [(0, .ref 54), (1, .int t), (2, .int v)], [.int 0])) rfl rfl rfl rfl rfl rfl hc rfl).trans ?_
    refine (zq1 (q := ((27, [(0, .ref 54), (1, .int t), (2, .int v)], []), zh3)) rfl rfl rfl).trans ?_
    refine (zq1 (q := ((28, [(0, .ref 54), (1, .int t), (2, .int v)], [.int (-1)]), zh3)) rfl rfl rfl).trans ?_
    exact zqr rfl rfl
set_option maxRecDepth 1000000 in
set_option maxHeartbeats 4000000 in
theorem zi_insert_0 (v : Int32)  : zPair 28 107 [.int 0, .int v] := by
  refine ⟨(-1), zh3, zh3, ?_, ?_, rfl, rfl, rfl⟩
  · refine (zcal_go (M := M_ST_insert) rfl rfl rfl).trans ?_
    show zloop zmt (zcal zmt 100000 8 397) 9 397 none M_ST_insert 100000 (0, [(0, .ref 0), (1, .int 0), (2, .int v)], []) zh3 = _
    refine (zq1 (q := ((1, [(0, .ref 0), (1, .int 0), (2, .int v)], [.int 0]), zh3)) rfl rfl rfl).trans ?_
    have hc : zcal zmt 100000 8 397 29 [.int 0] zh3 = some (some (.int 1), zh3) := zreq_ok (by decide +kernel)
    refine (zqc 0 (s' := (4, [(0, .ref 0), (1, .int 0), (2, .int v)], [.int 1])) rfl rfl rfl rfl rfl rfl hc rfl).trans ?_
    refine (zq1 (q := ((7, [(0, .ref 0), (1, .int 0), (2, .int v)], []), zh3)) rfl rfl rfl).trans ?_
    refine (zq1 (q := ((8, [(0, .ref 0), (1, .int 0), (2, .int v)], [.ref 0]), zh3)) rfl rfl rfl).trans ?_
    refine (zq1 (q := ((11, [(0, .ref 0), (1, .int 0), (2, .int v)], [.null]), zh3)) rfl rfl rfl).trans ?_
    refine (zq1 (q := ((14, [(0, .ref 0), (1, .int 0), (2, .int v)], []), zh3)) rfl rfl rfl).trans ?_
    refine (zq1 (q := ((15, [(0, .ref 0), (1, .int 0), (2, .int v)], [.int (-1)]), zh3)) rfl rfl rfl).trans ?_
    exact zqr rfl rfl
  · refine (zcal_go (M := M_Mo_insert) rfl rfl rfl).trans ?_
    show zloop zmt (zcal zmt 100000 8 396) 9 396 none M_Mo_insert 100000 (0, [(0, .ref 54), (1, .int 0), (2, .int v)], []) zh3 = _
    refine (zq1 (q := ((1, [(0, .ref 54), (1, .int 0), (2, .int v)], [.int 0]), zh3)) rfl rfl rfl).trans ?_
    have hc : zcal zmt 100000 8 396 108 [.int 0] zh3 = some (some (.int 1), zh3) := zreq_ok (by decide +kernel)
    refine (zqc 0 (s' := (4, [(0, .ref 54), (1, .int 0), (2, .int v)], [.int 1])) rfl rfl rfl rfl rfl rfl hc rfl).trans ?_
    refine (zq1 (q := ((7, [(0, .ref 54), (1, .int 0), (2, .int v)], []), zh3)) rfl rfl rfl).trans ?_
    refine (zq1 (q := ((8, [(0, .ref 54), (1, .int 0), (2, .int v)], [.ref 54]), zh3)) rfl rfl rfl).trans ?_
    refine (zq1 (q := ((11, [(0, .ref 54), (1, .int 0), (2, .int v)], [.ref 55]), zh3)) rfl rfl rfl).trans ?_
    refine (zq1 (q := ((13, [(0, .ref 54), (1, .int 0), (2, .int v)], [.int 64, .ref 55]), zh3)) rfl rfl rfl).trans ?_
    refine (zq1 (q := ((14, [(0, .ref 54), (1, .int 0), (2, .int v)], [.int 0]), zh3)) rfl rfl rfl).trans ?_
    refine (zq1 (q := ((27, [(0, .ref 54), (1, .int 0), (2, .int v)], []), zh3)) rfl rfl rfl).trans ?_
    refine (zq1 (q := ((28, [(0, .ref 54), (1, .int 0), (2, .int v)], [.int (-1)]), zh3)) rfl rfl rfl).trans ?_
    exact zqr rfl rfl
set_option maxRecDepth 1000000 in
set_option maxHeartbeats 4000000 in
theorem zi_insert_1 (v : Int32)  : zPair 28 107 [.int 1, .int v] := by
  refine ⟨(-1), zh3, zh3, ?_, ?_, rfl, rfl, rfl⟩
  · refine (zcal_go (M := M_ST_insert) rfl rfl rfl).trans ?_
    show zloop zmt (zcal zmt 100000 8 397) 9 397 none M_ST_insert 100000 (0, [(0, .ref 0), (1, .int 1), (2, .int v)], []) zh3 = _
    refine (zq1 (q := ((1, [(0, .ref 0), (1, .int 1), (2, .int v)], [.int 1]), zh3)) rfl rfl rfl).trans ?_
    have hc : zcal zmt 100000 8 397 29 [.int 1] zh3 = some (some (.int 1), zh3) := zreq_ok (by decide +kernel)
    refine (zqc 0 (s' := (4, [(0, .ref 0), (1, .int 1), (2, .int v)], [.int 1])) rfl rfl rfl rfl rfl rfl hc rfl).trans ?_
    refine (zq1 (q := ((7, [(0, .ref 0), (1, .int 1), (2, .int v)], []), zh3)) rfl rfl rfl).trans ?_
    refine (zq1 (q := ((8, [(0, .ref 0), (1, .int 1), (2, .int v)], [.ref 0]), zh3)) rfl rfl rfl).trans ?_
    refine (zq1 (q := ((11, [(0, .ref 0), (1, .int 1), (2, .int v)], [.null]), zh3)) rfl rfl rfl).trans ?_
    refine (zq1 (q := ((14, [(0, .ref 0), (1, .int 1), (2, .int v)], []), zh3)) rfl rfl rfl).trans ?_
    refine (zq1 (q := ((15, [(0, .ref 0), (1, .int 1), (2, .int v)], [.int (-1)]), zh3)) rfl rfl rfl).trans ?_
    exact zqr rfl rfl
  · refine (zcal_go (M := M_Mo_insert) rfl rfl rfl).trans ?_
    show zloop zmt (zcal zmt 100000 8 396) 9 396 none M_Mo_insert 100000 (0, [(0, .ref 54), (1, .int 1), (2, .int v)], []) zh3 = _
    refine (zq1 (q := ((1, [(0, .ref 54), (1, .int 1), (2, .int v)], [.int 1]), zh3)) rfl rfl rfl).trans ?_
    have hc : zcal zmt 100000 8 396 108 [.int 1] zh3 = some (some (.int 1), zh3) := zreq_ok (by decide +kernel)
    refine (zqc 0 (s' := (4, [(0, .ref 54), (1, .int 1), (2, .int v)], [.int 1])) rfl rfl rfl rfl rfl rfl hc rfl).trans ?_
    refine (zq1 (q := ((7, [(0, .ref 54), (1, .int 1), (2, .int v)], []), zh3)) rfl rfl rfl).trans ?_
    refine (zq1 (q := ((8, [(0, .ref 54), (1, .int 1), (2, .int v)], [.ref 54]), zh3)) rfl rfl rfl).trans ?_
    refine (zq1 (q := ((11, [(0, .ref 54), (1, .int 1), (2, .int v)], [.ref 55]), zh3)) rfl rfl rfl).trans ?_
    refine (zq1 (q := ((13, [(0, .ref 54), (1, .int 1), (2, .int v)], [.int 64, .ref 55]), zh3)) rfl rfl rfl).trans ?_
    refine (zq1 (q := ((14, [(0, .ref 54), (1, .int 1), (2, .int v)], [.int 0]), zh3)) rfl rfl rfl).trans ?_
    refine (zq1 (q := ((27, [(0, .ref 54), (1, .int 1), (2, .int v)], []), zh3)) rfl rfl rfl).trans ?_
    refine (zq1 (q := ((28, [(0, .ref 54), (1, .int 1), (2, .int v)], [.int (-1)]), zh3)) rfl rfl rfl).trans ?_
    exact zqr rfl rfl
set_option maxRecDepth 1000000 in
set_option maxHeartbeats 4000000 in
theorem zi_select_lt (t l p q : Int32) (h : t.toInt < 0) : zPair 43 114 [.int t, .int l, .int p, .int q] := by
  refine ⟨(-1), zh3, zh3, ?_, ?_, rfl, rfl, rfl⟩
  · refine (zcal_go (M := M_ST_select) rfl rfl rfl).trans ?_
    show zloop zmt (zcal zmt 100000 8 393) 9 393 none M_ST_select 100000 (0, [(0, .ref 0), (1, .int t), (2, .int l), (3, .int p), (4, .int q)], []) zh3 = _
    refine (zq1 (q := ((1, [(0, .ref 0), (1, .int t), (2, .int l), (3, .int p), (4, .int q)], [.int t]), zh3)) rfl rfl rfl).trans ?_
    have hc : zcal zmt 100000 8 393 29 [.int t] zh3 = some (some (.int 0), zh3) := by
      refine (zcal_go (M := M_ST_isTable) rfl rfl rfl).trans ?_
      show zloop zmt (zcal zmt 100000 7 373) 8 373 none M_ST_isTable 100000 (0, [(0, .int t)], []) zh3 = _
      refine (zq1 (q := ((1, [(0, .int t)], [.int t]), zh3)) rfl rfl rfl).trans ?_
      refine (zqb (q := (13, [(0, .int t)], [])) (cB := zc .lt t (0)) (v := true) (off := 12) (lv := [(0, .int t)]) (r := []) rfl rfl rfl (zcb .lt (x := t) (y := (0)) (k := 0) (by decide) (decide_eq_true (by omega))) rfl).trans ?_
      refine (zq1 (q := ((14, [(0, .int t)], [.int 0]), zh3)) rfl rfl rfl).trans ?_
      exact zqr rfl rfl
    refine (zqc 0 (s' := (4, [(0, .ref 0), (1, .int t), (2, .int l), (3, .int p), (4, .int q)], [.int 0])) rfl rfl rfl rfl rfl rfl hc rfl).trans ?_
    refine (zq1 (q := ((18, [(0, .ref 0), (1, .int t), (2, .int l), (3, .int p), (4, .int q)], []), zh3)) rfl rfl rfl).trans ?_
    refine (zq1 (q := ((19, [(0, .ref 0), (1, .int t), (2, .int l), (3, .int p), (4, .int q)], [.int (-1)]), zh3)) rfl rfl rfl).trans ?_
    exact zqr rfl rfl
  · refine (zcal_go (M := M_Mo_select) rfl rfl rfl).trans ?_
    show zloop zmt (zcal zmt 100000 8 394) 9 394 none M_Mo_select 100000 (0, [(0, .ref 54), (1, .int t), (2, .int l), (3, .int p), (4, .int q)], []) zh3 = _
    refine (zq1 (q := ((1, [(0, .ref 54), (1, .int t), (2, .int l), (3, .int p), (4, .int q)], [.int t]), zh3)) rfl rfl rfl).trans ?_
    have hc : zcal zmt 100000 8 394 108 [.int t] zh3 = some (some (.int 0), zh3) := by
      refine (zcal_go (M := M_Mo_isTable) rfl rfl rfl).trans ?_
      show zloop zmt (zcal zmt 100000 7 374) 8 374 none M_Mo_isTable 100000 (0, [(0, .int t)], []) zh3 = _
      refine (zq1 (q := ((1, [(0, .int t)], [.int t]), zh3)) rfl rfl rfl).trans ?_
      refine (zqb (q := (4, [(0, .int t)], [])) (cB := zc .eq t (0)) (v := false) (off := 8) (lv := [(0, .int t)]) (r := []) rfl rfl rfl (zcb .eq (x := t) (y := (0)) (k := 0) (by decide) (decide_eq_false (by omega))) rfl).trans ?_
      refine (zq1 (q := ((5, [(0, .int t)], [.int t]), zh3)) rfl rfl rfl).trans ?_
      refine (zq1 (q := ((6, [(0, .int t)], [.int 1, .int t]), zh3)) rfl rfl rfl).trans ?_
      refine (zqb (q := (13, [(0, .int t)], [])) (cB := zc .ne t (1)) (v := true) (off := 7) (lv := [(0, .int t)]) (r := []) rfl rfl rfl (zcb .ne (x := t) (y := (1)) (k := 1) (by decide) (decide_eq_true (by omega))) rfl).trans ?_
      refine (zq1 (q := ((14, [(0, .int t)], [.int 0]), zh3)) rfl rfl rfl).trans ?_
      exact zqr rfl rfl
    refine (zqc 0 (s' := (4, [(0, .ref 54), (1, .int t), (2, .int l), (3, .int p), (4, .int q)], [.int 0])) rfl rfl rfl rfl rfl rfl hc rfl).trans ?_
    refine (zq1 (q := ((21, [(0, .ref 54), (1, .int t), (2, .int l), (3, .int p), (4, .int q)], []), zh3)) rfl rfl rfl).trans ?_
    refine (zq1 (q := ((22, [(0, .ref 54), (1, .int t), (2, .int l), (3, .int p), (4, .int q)], [.int (-1)]), zh3)) rfl rfl rfl).trans ?_
    exact zqr rfl rfl
set_option maxRecDepth 1000000 in
set_option maxHeartbeats 4000000 in
theorem zi_select_ge (t l p q : Int32) (h : 2 ≤ t.toInt) : zPair 43 114 [.int t, .int l, .int p, .int q] := by
  refine ⟨(-1), zh3, zh3, ?_, ?_, rfl, rfl, rfl⟩
  · refine (zcal_go (M := M_ST_select) rfl rfl rfl).trans ?_
    show zloop zmt (zcal zmt 100000 8 393) 9 393 none M_ST_select 100000 (0, [(0, .ref 0), (1, .int t), (2, .int l), (3, .int p), (4, .int q)], []) zh3 = _
    refine (zq1 (q := ((1, [(0, .ref 0), (1, .int t), (2, .int l), (3, .int p), (4, .int q)], [.int t]), zh3)) rfl rfl rfl).trans ?_
    have hc : zcal zmt 100000 8 393 29 [.int t] zh3 = some (some (.int 0), zh3) := by
      refine (zcal_go (M := M_ST_isTable) rfl rfl rfl).trans ?_
      show zloop zmt (zcal zmt 100000 7 373) 8 373 none M_ST_isTable 100000 (0, [(0, .int t)], []) zh3 = _
      refine (zq1 (q := ((1, [(0, .int t)], [.int t]), zh3)) rfl rfl rfl).trans ?_
      refine (zqb (q := (4, [(0, .int t)], [])) (cB := zc .lt t (0)) (v := false) (off := 12) (lv := [(0, .int t)]) (r := []) rfl rfl rfl (zcb .lt (x := t) (y := (0)) (k := 0) (by decide) (decide_eq_false (by omega))) rfl).trans ?_
      refine (zq1 (q := ((5, [(0, .int t)], [.int t]), zh3)) rfl rfl rfl).trans ?_
      refine (zq1 (q := ((6, [(0, .int t)], [.int 2, .int t]), zh3)) rfl rfl rfl).trans ?_
      refine (zqb (q := (13, [(0, .int t)], [])) (cB := zc .ge t (2)) (v := true) (off := 7) (lv := [(0, .int t)]) (r := []) rfl rfl rfl (zcb .ge (x := t) (y := (2)) (k := 2) (by decide) (decide_eq_true (by omega))) rfl).trans ?_
      refine (zq1 (q := ((14, [(0, .int t)], [.int 0]), zh3)) rfl rfl rfl).trans ?_
      exact zqr rfl rfl
    refine (zqc 0 (s' := (4, [(0, .ref 0), (1, .int t), (2, .int l), (3, .int p), (4, .int q)], [.int 0])) rfl rfl rfl rfl rfl rfl hc rfl).trans ?_
    refine (zq1 (q := ((18, [(0, .ref 0), (1, .int t), (2, .int l), (3, .int p), (4, .int q)], []), zh3)) rfl rfl rfl).trans ?_
    refine (zq1 (q := ((19, [(0, .ref 0), (1, .int t), (2, .int l), (3, .int p), (4, .int q)], [.int (-1)]), zh3)) rfl rfl rfl).trans ?_
    exact zqr rfl rfl
  · refine (zcal_go (M := M_Mo_select) rfl rfl rfl).trans ?_
    show zloop zmt (zcal zmt 100000 8 394) 9 394 none M_Mo_select 100000 (0, [(0, .ref 54), (1, .int t), (2, .int l), (3, .int p), (4, .int q)], []) zh3 = _
    refine (zq1 (q := ((1, [(0, .ref 54), (1, .int t), (2, .int l), (3, .int p), (4, .int q)], [.int t]), zh3)) rfl rfl rfl).trans ?_
    have hc : zcal zmt 100000 8 394 108 [.int t] zh3 = some (some (.int 0), zh3) := by
      refine (zcal_go (M := M_Mo_isTable) rfl rfl rfl).trans ?_
      show zloop zmt (zcal zmt 100000 7 374) 8 374 none M_Mo_isTable 100000 (0, [(0, .int t)], []) zh3 = _
      refine (zq1 (q := ((1, [(0, .int t)], [.int t]), zh3)) rfl rfl rfl).trans ?_
      refine (zqb (q := (4, [(0, .int t)], [])) (cB := zc .eq t (0)) (v := false) (off := 8) (lv := [(0, .int t)]) (r := []) rfl rfl rfl (zcb .eq (x := t) (y := (0)) (k := 0) (by decide) (decide_eq_false (by omega))) rfl).trans ?_
      refine (zq1 (q := ((5, [(0, .int t)], [.int t]), zh3)) rfl rfl rfl).trans ?_
      refine (zq1 (q := ((6, [(0, .int t)], [.int 1, .int t]), zh3)) rfl rfl rfl).trans ?_
      refine (zqb (q := (13, [(0, .int t)], [])) (cB := zc .ne t (1)) (v := true) (off := 7) (lv := [(0, .int t)]) (r := []) rfl rfl rfl (zcb .ne (x := t) (y := (1)) (k := 1) (by decide) (decide_eq_true (by omega))) rfl).trans ?_
      refine (zq1 (q := ((14, [(0, .int t)], [.int 0]), zh3)) rfl rfl rfl).trans ?_
      exact zqr rfl rfl
    refine (zqc 0 (s' := (4, [(0, .ref 54), (1, .int t), (2, .int l), (3, .int p), (4, .int q)], [.int 0])) rfl rfl rfl rfl rfl rfl hc rfl).trans ?_
    refine (zq1 (q := ((21, [(0, .ref 54), (1, .int t), (2, .int l), (3, .int p), (4, .int q)], []), zh3)) rfl rfl rfl).trans ?_
    refine (zq1 (q := ((22, [(0, .ref 54), (1, .int t), (2, .int l), (3, .int p), (4, .int q)], [.int (-1)]), zh3)) rfl rfl rfl).trans ?_
    exact zqr rfl rfl
set_option maxRecDepth 1000000 in
set_option maxHeartbeats 4000000 in
theorem zi_select_0 (l p q : Int32)  : zPair 43 114 [.int 0, .int l, .int p, .int q] := by
  refine ⟨(-1), zh3, zh3, ?_, ?_, rfl, rfl, rfl⟩
  · refine (zcal_go (M := M_ST_select) rfl rfl rfl).trans ?_
    show zloop zmt (zcal zmt 100000 8 393) 9 393 none M_ST_select 100000 (0, [(0, .ref 0), (1, .int 0), (2, .int l), (3, .int p), (4, .int q)], []) zh3 = _
    refine (zq1 (q := ((1, [(0, .ref 0), (1, .int 0), (2, .int l), (3, .int p), (4, .int q)], [.int 0]), zh3)) rfl rfl rfl).trans ?_
    have hc : zcal zmt 100000 8 393 29 [.int 0] zh3 = some (some (.int 1), zh3) := zreq_ok (by decide +kernel)
    refine (zqc 0 (s' := (4, [(0, .ref 0), (1, .int 0), (2, .int l), (3, .int p), (4, .int q)], [.int 1])) rfl rfl rfl rfl rfl rfl hc rfl).trans ?_
    refine (zq1 (q := ((7, [(0, .ref 0), (1, .int 0), (2, .int l), (3, .int p), (4, .int q)], []), zh3)) rfl rfl rfl).trans ?_
    refine (zq1 (q := ((8, [(0, .ref 0), (1, .int 0), (2, .int l), (3, .int p), (4, .int q)], [.ref 0]), zh3)) rfl rfl rfl).trans ?_
    refine (zq1 (q := ((11, [(0, .ref 0), (1, .int 0), (2, .int l), (3, .int p), (4, .int q)], [.null]), zh3)) rfl rfl rfl).trans ?_
    refine (zq1 (q := ((18, [(0, .ref 0), (1, .int 0), (2, .int l), (3, .int p), (4, .int q)], []), zh3)) rfl rfl rfl).trans ?_
    refine (zq1 (q := ((19, [(0, .ref 0), (1, .int 0), (2, .int l), (3, .int p), (4, .int q)], [.int (-1)]), zh3)) rfl rfl rfl).trans ?_
    exact zqr rfl rfl
  · refine (zcal_go (M := M_Mo_select) rfl rfl rfl).trans ?_
    show zloop zmt (zcal zmt 100000 8 394) 9 394 none M_Mo_select 100000 (0, [(0, .ref 54), (1, .int 0), (2, .int l), (3, .int p), (4, .int q)], []) zh3 = _
    refine (zq1 (q := ((1, [(0, .ref 54), (1, .int 0), (2, .int l), (3, .int p), (4, .int q)], [.int 0]), zh3)) rfl rfl rfl).trans ?_
    have hc : zcal zmt 100000 8 394 108 [.int 0] zh3 = some (some (.int 1), zh3) := zreq_ok (by decide +kernel)
    refine (zqc 0 (s' := (4, [(0, .ref 54), (1, .int 0), (2, .int l), (3, .int p), (4, .int q)], [.int 1])) rfl rfl rfl rfl rfl rfl hc rfl).trans ?_
    refine (zq1 (q := ((7, [(0, .ref 54), (1, .int 0), (2, .int l), (3, .int p), (4, .int q)], []), zh3)) rfl rfl rfl).trans ?_
    refine (zq1 (q := ((8, [(0, .ref 54), (1, .int 0), (2, .int l), (3, .int p), (4, .int q)], [.ref 54]), zh3)) rfl rfl rfl).trans ?_
    refine (zq1 (q := ((11, [(0, .ref 54), (1, .int 0), (2, .int l), (3, .int p), (4, .int q)], [.ref 55]), zh3)) rfl rfl rfl).trans ?_
    refine (zq1 (q := ((13, [(0, .ref 54), (1, .int 0), (2, .int l), (3, .int p), (4, .int q)], [.int 64, .ref 55]), zh3)) rfl rfl rfl).trans ?_
    refine (zq1 (q := ((14, [(0, .ref 54), (1, .int 0), (2, .int l), (3, .int p), (4, .int q)], [.int 0]), zh3)) rfl rfl rfl).trans ?_
    refine (zq1 (q := ((21, [(0, .ref 54), (1, .int 0), (2, .int l), (3, .int p), (4, .int q)], []), zh3)) rfl rfl rfl).trans ?_
    refine (zq1 (q := ((22, [(0, .ref 54), (1, .int 0), (2, .int l), (3, .int p), (4, .int q)], [.int (-1)]), zh3)) rfl rfl rfl).trans ?_
    exact zqr rfl rfl
set_option maxRecDepth 1000000 in
set_option maxHeartbeats 4000000 in
theorem zi_select_1 (l p q : Int32)  : zPair 43 114 [.int 1, .int l, .int p, .int q] := by
  refine ⟨(-1), zh3, zh3, ?_, ?_, rfl, rfl, rfl⟩
  · refine (zcal_go (M := M_ST_select) rfl rfl rfl).trans ?_
    show zloop zmt (zcal zmt 100000 8 393) 9 393 none M_ST_select 100000 (0, [(0, .ref 0), (1, .int 1), (2, .int l), (3, .int p), (4, .int q)], []) zh3 = _
    refine (zq1 (q := ((1, [(0, .ref 0), (1, .int 1), (2, .int l), (3, .int p), (4, .int q)], [.int 1]), zh3)) rfl rfl rfl).trans ?_
    have hc : zcal zmt 100000 8 393 29 [.int 1] zh3 = some (some (.int 1), zh3) := zreq_ok (by decide +kernel)
    refine (zqc 0 (s' := (4, [(0, .ref 0), (1, .int 1), (2, .int l), (3, .int p), (4, .int q)], [.int 1])) rfl rfl rfl rfl rfl rfl hc rfl).trans ?_
    refine (zq1 (q := ((7, [(0, .ref 0), (1, .int 1), (2, .int l), (3, .int p), (4, .int q)], []), zh3)) rfl rfl rfl).trans ?_
    refine (zq1 (q := ((8, [(0, .ref 0), (1, .int 1), (2, .int l), (3, .int p), (4, .int q)], [.ref 0]), zh3)) rfl rfl rfl).trans ?_
    refine (zq1 (q := ((11, [(0, .ref 0), (1, .int 1), (2, .int l), (3, .int p), (4, .int q)], [.null]), zh3)) rfl rfl rfl).trans ?_
    refine (zq1 (q := ((18, [(0, .ref 0), (1, .int 1), (2, .int l), (3, .int p), (4, .int q)], []), zh3)) rfl rfl rfl).trans ?_
    refine (zq1 (q := ((19, [(0, .ref 0), (1, .int 1), (2, .int l), (3, .int p), (4, .int q)], [.int (-1)]), zh3)) rfl rfl rfl).trans ?_
    exact zqr rfl rfl
  · refine (zcal_go (M := M_Mo_select) rfl rfl rfl).trans ?_
    show zloop zmt (zcal zmt 100000 8 394) 9 394 none M_Mo_select 100000 (0, [(0, .ref 54), (1, .int 1), (2, .int l), (3, .int p), (4, .int q)], []) zh3 = _
    refine (zq1 (q := ((1, [(0, .ref 54), (1, .int 1), (2, .int l), (3, .int p), (4, .int q)], [.int 1]), zh3)) rfl rfl rfl).trans ?_
    have hc : zcal zmt 100000 8 394 108 [.int 1] zh3 = some (some (.int 1), zh3) := zreq_ok (by decide +kernel)
    refine (zqc 0 (s' := (4, [(0, .ref 54), (1, .int 1), (2, .int l), (3, .int p), (4, .int q)], [.int 1])) rfl rfl rfl rfl rfl rfl hc rfl).trans ?_
    refine (zq1 (q := ((7, [(0, .ref 54), (1, .int 1), (2, .int l), (3, .int p), (4, .int q)], []), zh3)) rfl rfl rfl).trans ?_
    refine (zq1 (q := ((8, [(0, .ref 54), (1, .int 1), (2, .int l), (3, .int p), (4, .int q)], [.ref 54]), zh3)) rfl rfl rfl).trans ?_
    refine (zq1 (q := ((11, [(0, .ref 54), (1, .int 1), (2, .int l), (3, .int p), (4, .int q)], [.ref 55]), zh3)) rfl rfl rfl).trans ?_
    refine (zq1 (q := ((13, [(0, .ref 54), (1, .int 1), (2, .int l), (3, .int p), (4, .int q)], [.int 64, .ref 55]), zh3)) rfl rfl rfl).trans ?_
    refine (zq1 (q := ((14, [(0, .ref 54), (1, .int 1), (2, .int l), (3, .int p), (4, .int q)], [.int 0]), zh3)) rfl rfl rfl).trans ?_
    refine (zq1 (q := ((21, [(0, .ref 54), (1, .int 1), (2, .int l), (3, .int p), (4, .int q)], []), zh3)) rfl rfl rfl).trans ?_
    refine (zq1 (q := ((22, [(0, .ref 54), (1, .int 1), (2, .int l), (3, .int p), (4, .int q)], [.int (-1)]), zh3)) rfl rfl rfl).trans ?_
    exact zqr rfl rfl
set_option maxRecDepth 1000000 in
set_option maxHeartbeats 4000000 in
theorem zi_nearest_lt (t k : Int32) (h : t.toInt < 0) : zPair 66 134 [.int t, .int k] := by
  refine ⟨(-1), zh3, zh3, ?_, ?_, rfl, rfl, rfl⟩
  · refine (zcal_go (M := M_ST_nearest) rfl rfl rfl).trans ?_
    show zloop zmt (zcal zmt 100000 8 396) 9 396 none M_ST_nearest 100000 (0, [(0, .ref 0), (1, .int t), (2, .int k)], []) zh3 = _
    refine (zq1 (q := ((1, [(0, .ref 0), (1, .int t), (2, .int k)], [.int t]), zh3)) rfl rfl rfl).trans ?_
    have hc : zcal zmt 100000 8 396 29 [.int t] zh3 = some (some (.int 0), zh3) := by
      refine (zcal_go (M := M_ST_isTable) rfl rfl rfl).trans ?_
      show zloop zmt (zcal zmt 100000 7 376) 8 376 none M_ST_isTable 100000 (0, [(0, .int t)], []) zh3 = _
      refine (zq1 (q := ((1, [(0, .int t)], [.int t]), zh3)) rfl rfl rfl).trans ?_
      refine (zqb (q := (13, [(0, .int t)], [])) (cB := zc .lt t (0)) (v := true) (off := 12) (lv := [(0, .int t)]) (r := []) rfl rfl rfl (zcb .lt (x := t) (y := (0)) (k := 0) (by decide) (decide_eq_true (by omega))) rfl).trans ?_
      refine (zq1 (q := ((14, [(0, .int t)], [.int 0]), zh3)) rfl rfl rfl).trans ?_
      exact zqr rfl rfl
    refine (zqc 0 (s' := (4, [(0, .ref 0), (1, .int t), (2, .int k)], [.int 0])) rfl rfl rfl rfl rfl rfl hc rfl).trans ?_
    refine (zq1 (q := ((25, [(0, .ref 0), (1, .int t), (2, .int k)], []), zh3)) rfl rfl rfl).trans ?_
    refine (zq1 (q := ((26, [(0, .ref 0), (1, .int t), (2, .int k)], [.int (-1)]), zh3)) rfl rfl rfl).trans ?_
    exact zqr rfl rfl
  · refine (zcal_go (M := M_Mo_nearest) rfl rfl rfl).trans ?_
    show zloop zmt (zcal zmt 100000 8 394) 9 394 none M_Mo_nearest 100000 (0, [(0, .ref 54), (1, .int t), (2, .int k)], []) zh3 = _
    refine (zq1 (q := ((1, [(0, .ref 54), (1, .int t), (2, .int k)], [.int t]), zh3)) rfl rfl rfl).trans ?_
    have hc : zcal zmt 100000 8 394 108 [.int t] zh3 = some (some (.int 0), zh3) := by
      refine (zcal_go (M := M_Mo_isTable) rfl rfl rfl).trans ?_
      show zloop zmt (zcal zmt 100000 7 374) 8 374 none M_Mo_isTable 100000 (0, [(0, .int t)], []) zh3 = _
      refine (zq1 (q := ((1, [(0, .int t)], [.int t]), zh3)) rfl rfl rfl).trans ?_
      refine (zqb (q := (4, [(0, .int t)], [])) (cB := zc .eq t (0)) (v := false) (off := 8) (lv := [(0, .int t)]) (r := []) rfl rfl rfl (zcb .eq (x := t) (y := (0)) (k := 0) (by decide) (decide_eq_false (by omega))) rfl).trans ?_
      refine (zq1 (q := ((5, [(0, .int t)], [.int t]), zh3)) rfl rfl rfl).trans ?_
      refine (zq1 (q := ((6, [(0, .int t)], [.int 1, .int t]), zh3)) rfl rfl rfl).trans ?_
      refine (zqb (q := (13, [(0, .int t)], [])) (cB := zc .ne t (1)) (v := true) (off := 7) (lv := [(0, .int t)]) (r := []) rfl rfl rfl (zcb .ne (x := t) (y := (1)) (k := 1) (by decide) (decide_eq_true (by omega))) rfl).trans ?_
      refine (zq1 (q := ((14, [(0, .int t)], [.int 0]), zh3)) rfl rfl rfl).trans ?_
      exact zqr rfl rfl
    refine (zqc 0 (s' := (4, [(0, .ref 54), (1, .int t), (2, .int k)], [.int 0])) rfl rfl rfl rfl rfl rfl hc rfl).trans ?_
    refine (zq1 (q := ((28, [(0, .ref 54), (1, .int t), (2, .int k)], []), zh3)) rfl rfl rfl).trans ?_
    refine (zq1 (q := ((29, [(0, .ref 54), (1, .int t), (2, .int k)], [.int (-1)]), zh3)) rfl rfl rfl).trans ?_
    exact zqr rfl rfl
set_option maxRecDepth 1000000 in
set_option maxHeartbeats 4000000 in
theorem zi_nearest_ge (t k : Int32) (h : 2 ≤ t.toInt) : zPair 66 134 [.int t, .int k] := by
  refine ⟨(-1), zh3, zh3, ?_, ?_, rfl, rfl, rfl⟩
  · refine (zcal_go (M := M_ST_nearest) rfl rfl rfl).trans ?_
    show zloop zmt (zcal zmt 100000 8 396) 9 396 none M_ST_nearest 100000 (0, [(0, .ref 0), (1, .int t), (2, .int k)], []) zh3 = _
    refine (zq1 (q := ((1, [(0, .ref 0), (1, .int t), (2, .int k)], [.int t]), zh3)) rfl rfl rfl).trans ?_
    have hc : zcal zmt 100000 8 396 29 [.int t] zh3 = some (some (.int 0), zh3) := by
      refine (zcal_go (M := M_ST_isTable) rfl rfl rfl).trans ?_
      show zloop zmt (zcal zmt 100000 7 376) 8 376 none M_ST_isTable 100000 (0, [(0, .int t)], []) zh3 = _
      refine (zq1 (q := ((1, [(0, .int t)], [.int t]), zh3)) rfl rfl rfl).trans ?_
      refine (zqb (q := (4, [(0, .int t)], [])) (cB := zc .lt t (0)) (v := false) (off := 12) (lv := [(0, .int t)]) (r := []) rfl rfl rfl (zcb .lt (x := t) (y := (0)) (k := 0) (by decide) (decide_eq_false (by omega))) rfl).trans ?_
      refine (zq1 (q := ((5, [(0, .int t)], [.int t]), zh3)) rfl rfl rfl).trans ?_
      refine (zq1 (q := ((6, [(0, .int t)], [.int 2, .int t]), zh3)) rfl rfl rfl).trans ?_
      refine (zqb (q := (13, [(0, .int t)], [])) (cB := zc .ge t (2)) (v := true) (off := 7) (lv := [(0, .int t)]) (r := []) rfl rfl rfl (zcb .ge (x := t) (y := (2)) (k := 2) (by decide) (decide_eq_true (by omega))) rfl).trans ?_
      refine (zq1 (q := ((14, [(0, .int t)], [.int 0]), zh3)) rfl rfl rfl).trans ?_
      exact zqr rfl rfl
    refine (zqc 0 (s' := (4, [(0, .ref 0), (1, .int t), (2, .int k)], [.int 0])) rfl rfl rfl rfl rfl rfl hc rfl).trans ?_
    refine (zq1 (q := ((25, [(0, .ref 0), (1, .int t), (2, .int k)], []), zh3)) rfl rfl rfl).trans ?_
    refine (zq1 (q := ((26, [(0, .ref 0), (1, .int t), (2, .int k)], [.int (-1)]), zh3)) rfl rfl rfl).trans ?_
    exact zqr rfl rfl
  · refine (zcal_go (M := M_Mo_nearest) rfl rfl rfl).trans ?_
    show zloop zmt (zcal zmt 100000 8 394) 9 394 none M_Mo_nearest 100000 (0, [(0, .ref 54), (1, .int t), (2, .int k)], []) zh3 = _
    refine (zq1 (q := ((1, [(0, .ref 54), (1, .int t), (2, .int k)], [.int t]), zh3)) rfl rfl rfl).trans ?_
    have hc : zcal zmt 100000 8 394 108 [.int t] zh3 = some (some (.int 0), zh3) := by
      refine (zcal_go (M := M_Mo_isTable) rfl rfl rfl).trans ?_
      show zloop zmt (zcal zmt 100000 7 374) 8 374 none M_Mo_isTable 100000 (0, [(0, .int t)], []) zh3 = _
      refine (zq1 (q := ((1, [(0, .int t)], [.int t]), zh3)) rfl rfl rfl).trans ?_
      refine (zqb (q := (4, [(0, .int t)], [])) (cB := zc .eq t (0)) (v := false) (off := 8) (lv := [(0, .int t)]) (r := []) rfl rfl rfl (zcb .eq (x := t) (y := (0)) (k := 0) (by decide) (decide_eq_false (by omega))) rfl).trans ?_
      refine (zq1 (q := ((5, [(0, .int t)], [.int t]), zh3)) rfl rfl rfl).trans ?_
      refine (zq1 (q := ((6, [(0, .int t)], [.int 1, .int t]), zh3)) rfl rfl rfl).trans ?_
      refine (zqb (q := (13, [(0, .int t)], [])) (cB := zc .ne t (1)) (v := true) (off := 7) (lv := [(0, .int t)]) (r := []) rfl rfl rfl (zcb .ne (x := t) (y := (1)) (k := 1) (by decide) (decide_eq_true (by omega))) rfl).trans ?_
      refine (zq1 (q := ((14, [(0, .int t)], [.int 0]), zh3)) rfl rfl rfl).trans ?_
      exact zqr rfl rfl
    refine (zqc 0 (s' := (4, [(0, .ref 54), (1, .int t), (2, .int k)], [.int 0])) rfl rfl rfl rfl rfl rfl hc rfl).trans ?_
    refine (zq1 (q := ((28, [(0, .ref 54), (1, .int t), (2, .int k)], []), zh3)) rfl rfl rfl).trans ?_
    refine (zq1 (q := ((29, [(0, .ref 54), (1, .int t), (2, .int k)], [.int (-1)]), zh3)) rfl rfl rfl).trans ?_
    exact zqr rfl rfl
set_option maxRecDepth 1000000 in
set_option maxHeartbeats 4000000 in
theorem zi_nearest_0 (k : Int32)  : zPair 66 134 [.int 0, .int k] := by
  refine ⟨(-1), zh3, zh3, ?_, ?_, rfl, rfl, rfl⟩
  · refine (zcal_go (M := M_ST_nearest) rfl rfl rfl).trans ?_
    show zloop zmt (zcal zmt 100000 8 396) 9 396 none M_ST_nearest 100000 (0, [(0, .ref 0), (1, .int 0), (2, .int k)], []) zh3 = _
    refine (zq1 (q := ((1, [(0, .ref 0), (1, .int 0), (2, .int k)], [.int 0]), zh3)) rfl rfl rfl).trans ?_
    have hc : zcal zmt 100000 8 396 29 [.int 0] zh3 = some (some (.int 1), zh3) := zreq_ok (by decide +kernel)
    refine (zqc 0 (s' := (4, [(0, .ref 0), (1, .int 0), (2, .int k)], [.int 1])) rfl rfl rfl rfl rfl rfl hc rfl).trans ?_
    refine (zq1 (q := ((7, [(0, .ref 0), (1, .int 0), (2, .int k)], []), zh3)) rfl rfl rfl).trans ?_
    refine (zq1 (q := ((8, [(0, .ref 0), (1, .int 0), (2, .int k)], [.ref 0]), zh3)) rfl rfl rfl).trans ?_
    refine (zq1 (q := ((11, [(0, .ref 0), (1, .int 0), (2, .int k)], [.null]), zh3)) rfl rfl rfl).trans ?_
    refine (zq1 (q := ((25, [(0, .ref 0), (1, .int 0), (2, .int k)], []), zh3)) rfl rfl rfl).trans ?_
    refine (zq1 (q := ((26, [(0, .ref 0), (1, .int 0), (2, .int k)], [.int (-1)]), zh3)) rfl rfl rfl).trans ?_
    exact zqr rfl rfl
  · refine (zcal_go (M := M_Mo_nearest) rfl rfl rfl).trans ?_
    show zloop zmt (zcal zmt 100000 8 394) 9 394 none M_Mo_nearest 100000 (0, [(0, .ref 54), (1, .int 0), (2, .int k)], []) zh3 = _
    refine (zq1 (q := ((1, [(0, .ref 54), (1, .int 0), (2, .int k)], [.int 0]), zh3)) rfl rfl rfl).trans ?_
    have hc : zcal zmt 100000 8 394 108 [.int 0] zh3 = some (some (.int 1), zh3) := zreq_ok (by decide +kernel)
    refine (zqc 0 (s' := (4, [(0, .ref 54), (1, .int 0), (2, .int k)], [.int 1])) rfl rfl rfl rfl rfl rfl hc rfl).trans ?_
    refine (zq1 (q := ((7, [(0, .ref 54), (1, .int 0), (2, .int k)], []), zh3)) rfl rfl rfl).trans ?_
    refine (zq1 (q := ((8, [(0, .ref 54), (1, .int 0), (2, .int k)], [.ref 54]), zh3)) rfl rfl rfl).trans ?_
    refine (zq1 (q := ((11, [(0, .ref 54), (1, .int 0), (2, .int k)], [.ref 55]), zh3)) rfl rfl rfl).trans ?_
    refine (zq1 (q := ((13, [(0, .ref 54), (1, .int 0), (2, .int k)], [.int 64, .ref 55]), zh3)) rfl rfl rfl).trans ?_
    refine (zq1 (q := ((14, [(0, .ref 54), (1, .int 0), (2, .int k)], [.int 0]), zh3)) rfl rfl rfl).trans ?_
    refine (zq1 (q := ((28, [(0, .ref 54), (1, .int 0), (2, .int k)], []), zh3)) rfl rfl rfl).trans ?_
    refine (zq1 (q := ((29, [(0, .ref 54), (1, .int 0), (2, .int k)], [.int (-1)]), zh3)) rfl rfl rfl).trans ?_
    exact zqr rfl rfl
set_option maxRecDepth 1000000 in
set_option maxHeartbeats 4000000 in
theorem zi_nearest_1 (k : Int32)  : zPair 66 134 [.int 1, .int k] := by
  refine ⟨(-1), zh3, zh3, ?_, ?_, rfl, rfl, rfl⟩
  · refine (zcal_go (M := M_ST_nearest) rfl rfl rfl).trans ?_
    show zloop zmt (zcal zmt 100000 8 396) 9 396 none M_ST_nearest 100000 (0, [(0, .ref 0), (1, .int 1), (2, .int k)], []) zh3 = _
    refine (zq1 (q := ((1, [(0, .ref 0), (1, .int 1), (2, .int k)], [.int 1]), zh3)) rfl rfl rfl).trans ?_
    have hc : zcal zmt 100000 8 396 29 [.int 1] zh3 = some (some (.int 1), zh3) := zreq_ok (by decide +kernel)
    refine (zqc 0 (s' := (4, [(0, .ref 0), (1, .int 1), (2, .int k)], [.int 1])) rfl rfl rfl rfl rfl rfl hc rfl).trans ?_
    refine (zq1 (q := ((7, [(0, .ref 0), (1, .int 1), (2, .int k)], []), zh3)) rfl rfl rfl).trans ?_
    refine (zq1 (q := ((8, [(0, .ref 0), (1, .int 1), (2, .int k)], [.ref 0]), zh3)) rfl rfl rfl).trans ?_
    refine (zq1 (q := ((11, [(0, .ref 0), (1, .int 1), (2, .int k)], [.null]), zh3)) rfl rfl rfl).trans ?_
    refine (zq1 (q := ((25, [(0, .ref 0), (1, .int 1), (2, .int k)], []), zh3)) rfl rfl rfl).trans ?_
    refine (zq1 (q := ((26, [(0, .ref 0), (1, .int 1), (2, .int k)], [.int (-1)]), zh3)) rfl rfl rfl).trans ?_
    exact zqr rfl rfl
  · refine (zcal_go (M := M_Mo_nearest) rfl rfl rfl).trans ?_
    show zloop zmt (zcal zmt 100000 8 394) 9 394 none M_Mo_nearest 100000 (0, [(0, .ref 54), (1, .int 1), (2, .int k)], []) zh3 = _
    refine (zq1 (q := ((1, [(0, .ref 54), (1, .int 1), (2, .int k)], [.int 1]), zh3)) rfl rfl rfl).trans ?_
    have hc : zcal zmt 100000 8 394 108 [.int 1] zh3 = some (some (.int 1), zh3) := zreq_ok (by decide +kernel)
    refine (zqc 0 (s' := (4, [(0, .ref 54), (1, .int 1), (2, .int k)], [.int 1])) rfl rfl rfl rfl rfl rfl hc rfl).trans ?_
    refine (zq1 (q := ((7, [(0, .ref 54), (1, .int 1), (2, .int k)], []), zh3)) rfl rfl rfl).trans ?_
    refine (zq1 (q := ((8, [(0, .ref 54), (1, .int 1), (2, .int k)], [.ref 54]), zh3)) rfl rfl rfl).trans ?_
    refine (zq1 (q := ((11, [(0, .ref 54), (1, .int 1), (2, .int k)], [.ref 55]), zh3)) rfl rfl rfl).trans ?_
    refine (zq1 (q := ((13, [(0, .ref 54), (1, .int 1), (2, .int k)], [.int 64, .ref 55]), zh3)) rfl rfl rfl).trans ?_
    refine (zq1 (q := ((14, [(0, .ref 54), (1, .int 1), (2, .int k)], [.int 0]), zh3)) rfl rfl rfl).trans ?_
    refine (zq1 (q := ((28, [(0, .ref 54), (1, .int 1), (2, .int k)], []), zh3)) rfl rfl rfl).trans ?_
    refine (zq1 (q := ((29, [(0, .ref 54), (1, .int 1), (2, .int k)], [.int (-1)]), zh3)) rfl rfl rfl).trans ?_
    exact zqr rfl rfl
set_option maxRecDepth 1000000 in
set_option maxHeartbeats 4000000 in
theorem zi_rows_lt (t : Int32) (h : t.toInt < 0) : zPair 78 141 [.int t] := by
  refine ⟨(-1), zh3, zh3, ?_, ?_, rfl, rfl, rfl⟩
  · refine (zcal_go (M := M_ST_rows) rfl rfl rfl).trans ?_
    show zloop zmt (zcal zmt 100000 8 399) 9 399 none M_ST_rows 100000 (0, [(0, .ref 0), (1, .int t)], []) zh3 = _
    refine (zq1 (q := ((1, [(0, .ref 0), (1, .int t)], [.int t]), zh3)) rfl rfl rfl).trans ?_
    have hc : zcal zmt 100000 8 399 29 [.int t] zh3 = some (some (.int 0), zh3) := by
      refine (zcal_go (M := M_ST_isTable) rfl rfl rfl).trans ?_
      show zloop zmt (zcal zmt 100000 7 379) 8 379 none M_ST_isTable 100000 (0, [(0, .int t)], []) zh3 = _
      refine (zq1 (q := ((1, [(0, .int t)], [.int t]), zh3)) rfl rfl rfl).trans ?_
      refine (zqb (q := (13, [(0, .int t)], [])) (cB := zc .lt t (0)) (v := true) (off := 12) (lv := [(0, .int t)]) (r := []) rfl rfl rfl (zcb .lt (x := t) (y := (0)) (k := 0) (by decide) (decide_eq_true (by omega))) rfl).trans ?_
      refine (zq1 (q := ((14, [(0, .int t)], [.int 0]), zh3)) rfl rfl rfl).trans ?_
      exact zqr rfl rfl
    refine (zqc 0 (s' := (4, [(0, .ref 0), (1, .int t)], [.int 0])) rfl rfl rfl rfl rfl rfl hc rfl).trans ?_
    refine (zq1 (q := ((19, [(0, .ref 0), (1, .int t)], []), zh3)) rfl rfl rfl).trans ?_
    refine (zq1 (q := ((20, [(0, .ref 0), (1, .int t)], [.int (-1)]), zh3)) rfl rfl rfl).trans ?_
    exact zqr rfl rfl
  · refine (zcal_go (M := M_Mo_rows) rfl rfl rfl).trans ?_
    show zloop zmt (zcal zmt 100000 8 397) 9 397 none M_Mo_rows 100000 (0, [(0, .ref 54), (1, .int t)], []) zh3 = _
    refine (zq1 (q := ((1, [(0, .ref 54), (1, .int t)], [.int t]), zh3)) rfl rfl rfl).trans ?_
    have hc : zcal zmt 100000 8 397 108 [.int t] zh3 = some (some (.int 0), zh3) := by
      refine (zcal_go (M := M_Mo_isTable) rfl rfl rfl).trans ?_
      show zloop zmt (zcal zmt 100000 7 377) 8 377 none M_Mo_isTable 100000 (0, [(0, .int t)], []) zh3 = _
      refine (zq1 (q := ((1, [(0, .int t)], [.int t]), zh3)) rfl rfl rfl).trans ?_
      refine (zqb (q := (4, [(0, .int t)], [])) (cB := zc .eq t (0)) (v := false) (off := 8) (lv := [(0, .int t)]) (r := []) rfl rfl rfl (zcb .eq (x := t) (y := (0)) (k := 0) (by decide) (decide_eq_false (by omega))) rfl).trans ?_
      refine (zq1 (q := ((5, [(0, .int t)], [.int t]), zh3)) rfl rfl rfl).trans ?_
      refine (zq1 (q := ((6, [(0, .int t)], [.int 1, .int t]), zh3)) rfl rfl rfl).trans ?_
      refine (zqb (q := (13, [(0, .int t)], [])) (cB := zc .ne t (1)) (v := true) (off := 7) (lv := [(0, .int t)]) (r := []) rfl rfl rfl (zcb .ne (x := t) (y := (1)) (k := 1) (by decide) (decide_eq_true (by omega))) rfl).trans ?_
      refine (zq1 (q := ((14, [(0, .int t)], [.int 0]), zh3)) rfl rfl rfl).trans ?_
      exact zqr rfl rfl
    refine (zqc 0 (s' := (4, [(0, .ref 54), (1, .int t)], [.int 0])) rfl rfl rfl rfl rfl rfl hc rfl).trans ?_
    refine (zq1 (q := ((7, [(0, .ref 54), (1, .int t)], []), zh3)) rfl rfl rfl).trans ?_
    refine (zq1 (q := ((8, [(0, .ref 54), (1, .int t)], [.int (-1)]), zh3)) rfl rfl rfl).trans ?_
    exact zqr rfl rfl
set_option maxRecDepth 1000000 in
set_option maxHeartbeats 4000000 in
theorem zi_rows_ge (t : Int32) (h : 2 ≤ t.toInt) : zPair 78 141 [.int t] := by
  refine ⟨(-1), zh3, zh3, ?_, ?_, rfl, rfl, rfl⟩
  · refine (zcal_go (M := M_ST_rows) rfl rfl rfl).trans ?_
    show zloop zmt (zcal zmt 100000 8 399) 9 399 none M_ST_rows 100000 (0, [(0, .ref 0), (1, .int t)], []) zh3 = _
    refine (zq1 (q := ((1, [(0, .ref 0), (1, .int t)], [.int t]), zh3)) rfl rfl rfl).trans ?_
    have hc : zcal zmt 100000 8 399 29 [.int t] zh3 = some (some (.int 0), zh3) := by
      refine (zcal_go (M := M_ST_isTable) rfl rfl rfl).trans ?_
      show zloop zmt (zcal zmt 100000 7 379) 8 379 none M_ST_isTable 100000 (0, [(0, .int t)], []) zh3 = _
      refine (zq1 (q := ((1, [(0, .int t)], [.int t]), zh3)) rfl rfl rfl).trans ?_
      refine (zqb (q := (4, [(0, .int t)], [])) (cB := zc .lt t (0)) (v := false) (off := 12) (lv := [(0, .int t)]) (r := []) rfl rfl rfl (zcb .lt (x := t) (y := (0)) (k := 0) (by decide) (decide_eq_false (by omega))) rfl).trans ?_
      refine (zq1 (q := ((5, [(0, .int t)], [.int t]), zh3)) rfl rfl rfl).trans ?_
      refine (zq1 (q := ((6, [(0, .int t)], [.int 2, .int t]), zh3)) rfl rfl rfl).trans ?_
      refine (zqb (q := (13, [(0, .int t)], [])) (cB := zc .ge t (2)) (v := true) (off := 7) (lv := [(0, .int t)]) (r := []) rfl rfl rfl (zcb .ge (x := t) (y := (2)) (k := 2) (by decide) (decide_eq_true (by omega))) rfl).trans ?_
      refine (zq1 (q := ((14, [(0, .int t)], [.int 0]), zh3)) rfl rfl rfl).trans ?_
      exact zqr rfl rfl
    refine (zqc 0 (s' := (4, [(0, .ref 0), (1, .int t)], [.int 0])) rfl rfl rfl rfl rfl rfl hc rfl).trans ?_
    refine (zq1 (q := ((19, [(0, .ref 0), (1, .int t)], []), zh3)) rfl rfl rfl).trans ?_
    refine (zq1 (q := ((20, [(0, .ref 0), (1, .int t)], [.int (-1)]), zh3)) rfl rfl rfl).trans ?_
    exact zqr rfl rfl
  · refine (zcal_go (M := M_Mo_rows) rfl rfl rfl).trans ?_
    show zloop zmt (zcal zmt 100000 8 397) 9 397 none M_Mo_rows 100000 (0, [(0, .ref 54), (1, .int t)], []) zh3 = _
    refine (zq1 (q := ((1, [(0, .ref 54), (1, .int t)], [.int t]), zh3)) rfl rfl rfl).trans ?_
    have hc : zcal zmt 100000 8 397 108 [.int t] zh3 = some (some (.int 0), zh3) := by
      refine (zcal_go (M := M_Mo_isTable) rfl rfl rfl).trans ?_
      show zloop zmt (zcal zmt 100000 7 377) 8 377 none M_Mo_isTable 100000 (0, [(0, .int t)], []) zh3 = _
      refine (zq1 (q := ((1, [(0, .int t)], [.int t]), zh3)) rfl rfl rfl).trans ?_
      refine (zqb (q := (4, [(0, .int t)], [])) (cB := zc .eq t (0)) (v := false) (off := 8) (lv := [(0, .int t)]) (r := []) rfl rfl rfl (zcb .eq (x := t) (y := (0)) (k := 0) (by decide) (decide_eq_false (by omega))) rfl).trans ?_
      refine (zq1 (q := ((5, [(0, .int t)], [.int t]), zh3)) rfl rfl rfl).trans ?_
      refine (zq1 (q := ((6, [(0, .int t)], [.int 1, .int t]), zh3)) rfl rfl rfl).trans ?_
      refine (zqb (q := (13, [(0, .int t)], [])) (cB := zc .ne t (1)) (v := true) (off := 7) (lv := [(0, .int t)]) (r := []) rfl rfl rfl (zcb .ne (x := t) (y := (1)) (k := 1) (by decide) (decide_eq_true (by omega))) rfl).trans ?_
      refine (zq1 (q := ((14, [(0, .int t)], [.int 0]), zh3)) rfl rfl rfl).trans ?_
      exact zqr rfl rfl
    refine (zqc 0 (s' := (4, [(0, .ref 54), (1, .int t)], [.int 0])) rfl rfl rfl rfl rfl rfl hc rfl).trans ?_
    refine (zq1 (q := ((7, [(0, .ref 54), (1, .int t)], []), zh3)) rfl rfl rfl).trans ?_
    refine (zq1 (q := ((8, [(0, .ref 54), (1, .int t)], [.int (-1)]), zh3)) rfl rfl rfl).trans ?_
    exact zqr rfl rfl
set_option maxRecDepth 1000000 in
set_option maxHeartbeats 4000000 in
theorem zi_nodes_lt (t : Int32) (h : t.toInt < 0) : zPair 79 142 [.int t] := by
  refine ⟨(-1), zh3, zh3, ?_, ?_, rfl, rfl, rfl⟩
  · refine (zcal_go (M := M_ST_nodes) rfl rfl rfl).trans ?_
    show zloop zmt (zcal zmt 100000 8 399) 9 399 none M_ST_nodes 100000 (0, [(0, .ref 0), (1, .int t)], []) zh3 = _
    refine (zq1 (q := ((1, [(0, .ref 0), (1, .int t)], [.int t]), zh3)) rfl rfl rfl).trans ?_
    have hc : zcal zmt 100000 8 399 29 [.int t] zh3 = some (some (.int 0), zh3) := by
      refine (zcal_go (M := M_ST_isTable) rfl rfl rfl).trans ?_
      show zloop zmt (zcal zmt 100000 7 379) 8 379 none M_ST_isTable 100000 (0, [(0, .int t)], []) zh3 = _
      refine (zq1 (q := ((1, [(0, .int t)], [.int t]), zh3)) rfl rfl rfl).trans ?_
      refine (zqb (q := (13, [(0, .int t)], [])) (cB := zc .lt t (0)) (v := true) (off := 12) (lv := [(0, .int t)]) (r := []) rfl rfl rfl (zcb .lt (x := t) (y := (0)) (k := 0) (by decide) (decide_eq_true (by omega))) rfl).trans ?_
      refine (zq1 (q := ((14, [(0, .int t)], [.int 0]), zh3)) rfl rfl rfl).trans ?_
      exact zqr rfl rfl
    refine (zqc 0 (s' := (4, [(0, .ref 0), (1, .int t)], [.int 0])) rfl rfl rfl rfl rfl rfl hc rfl).trans ?_
    refine (zq1 (q := ((19, [(0, .ref 0), (1, .int t)], []), zh3)) rfl rfl rfl).trans ?_
    refine (zq1 (q := ((20, [(0, .ref 0), (1, .int t)], [.int (-1)]), zh3)) rfl rfl rfl).trans ?_
    exact zqr rfl rfl
  · refine (zcal_go (M := M_Mo_nodes) rfl rfl rfl).trans ?_
    show zloop zmt (zcal zmt 100000 8 398) 9 398 none M_Mo_nodes 100000 (0, [(0, .ref 54), (1, .int t)], []) zh3 = _
    refine (zq1 (q := ((1, [(0, .ref 54), (1, .int t)], [.int t]), zh3)) rfl rfl rfl).trans ?_
    have hc : zcal zmt 100000 8 398 108 [.int t] zh3 = some (some (.int 0), zh3) := by
      refine (zcal_go (M := M_Mo_isTable) rfl rfl rfl).trans ?_
      show zloop zmt (zcal zmt 100000 7 378) 8 378 none M_Mo_isTable 100000 (0, [(0, .int t)], []) zh3 = _
      refine (zq1 (q := ((1, [(0, .int t)], [.int t]), zh3)) rfl rfl rfl).trans ?_
      refine (zqb (q := (4, [(0, .int t)], [])) (cB := zc .eq t (0)) (v := false) (off := 8) (lv := [(0, .int t)]) (r := []) rfl rfl rfl (zcb .eq (x := t) (y := (0)) (k := 0) (by decide) (decide_eq_false (by omega))) rfl).trans ?_
      refine (zq1 (q := ((5, [(0, .int t)], [.int t]), zh3)) rfl rfl rfl).trans ?_
      refine (zq1 (q := ((6, [(0, .int t)], [.int 1, .int t]), zh3)) rfl rfl rfl).trans ?_
      refine (zqb (q := (13, [(0, .int t)], [])) (cB := zc .ne t (1)) (v := true) (off := 7) (lv := [(0, .int t)]) (r := []) rfl rfl rfl (zcb .ne (x := t) (y := (1)) (k := 1) (by decide) (decide_eq_true (by omega))) rfl).trans ?_
      refine (zq1 (q := ((14, [(0, .int t)], [.int 0]), zh3)) rfl rfl rfl).trans ?_
      exact zqr rfl rfl
    refine (zqc 0 (s' := (4, [(0, .ref 54), (1, .int t)], [.int 0])) rfl rfl rfl rfl rfl rfl hc rfl).trans ?_
    refine (zq1 (q := ((7, [(0, .ref 54), (1, .int t)], []), zh3)) rfl rfl rfl).trans ?_
    refine (zq1 (q := ((8, [(0, .ref 54), (1, .int t)], [.int (-1)]), zh3)) rfl rfl rfl).trans ?_
    exact zqr rfl rfl
set_option maxRecDepth 1000000 in
set_option maxHeartbeats 4000000 in
theorem zi_nodes_ge (t : Int32) (h : 2 ≤ t.toInt) : zPair 79 142 [.int t] := by
  refine ⟨(-1), zh3, zh3, ?_, ?_, rfl, rfl, rfl⟩
  · refine (zcal_go (M := M_ST_nodes) rfl rfl rfl).trans ?_
    show zloop zmt (zcal zmt 100000 8 399) 9 399 none M_ST_nodes 100000 (0, [(0, .ref 0), (1, .int t)], []) zh3 = _
    refine (zq1 (q := ((1, [(0, .ref 0), (1, .int t)], [.int t]), zh3)) rfl rfl rfl).trans ?_
    have hc : zcal zmt 100000 8 399 29 [.int t] zh3 = some (some (.int 0), zh3) := by
      refine (zcal_go (M := M_ST_isTable) rfl rfl rfl).trans ?_
      show zloop zmt (zcal zmt 100000 7 379) 8 379 none M_ST_isTable 100000 (0, [(0, .int t)], []) zh3 = _
      refine (zq1 (q := ((1, [(0, .int t)], [.int t]), zh3)) rfl rfl rfl).trans ?_
      refine (zqb (q := (4, [(0, .int t)], [])) (cB := zc .lt t (0)) (v := false) (off := 12) (lv := [(0, .int t)]) (r := []) rfl rfl rfl (zcb .lt (x := t) (y := (0)) (k := 0) (by decide) (decide_eq_false (by omega))) rfl).trans ?_
      refine (zq1 (q := ((5, [(0, .int t)], [.int t]), zh3)) rfl rfl rfl).trans ?_
      refine (zq1 (q := ((6, [(0, .int t)], [.int 2, .int t]), zh3)) rfl rfl rfl).trans ?_
      refine (zqb (q := (13, [(0, .int t)], [])) (cB := zc .ge t (2)) (v := true) (off := 7) (lv := [(0, .int t)]) (r := []) rfl rfl rfl (zcb .ge (x := t) (y := (2)) (k := 2) (by decide) (decide_eq_true (by omega))) rfl).trans ?_
      refine (zq1 (q := ((14, [(0, .int t)], [.int 0]), zh3)) rfl rfl rfl).trans ?_
      exact zqr rfl rfl
    refine (zqc 0 (s' := (4, [(0, .ref 0), (1, .int t)], [.int 0])) rfl rfl rfl rfl rfl rfl hc rfl).trans ?_
    refine (zq1 (q := ((19, [(0, .ref 0), (1, .int t)], []), zh3)) rfl rfl rfl).trans ?_
    refine (zq1 (q := ((20, [(0, .ref 0), (1, .int t)], [.int (-1)]), zh3)) rfl rfl rfl).trans ?_
    exact zqr rfl rfl
  · refine (zcal_go (M := M_Mo_nodes) rfl rfl rfl).trans ?_
    show zloop zmt (zcal zmt 100000 8 398) 9 398 none M_Mo_nodes 100000 (0, [(0, .ref 54), (1, .int t)], []) zh3 = _
    refine (zq1 (q := ((1, [(0, .ref 54), (1, .int t)], [.int t]), zh3)) rfl rfl rfl).trans ?_
    have hc : zcal zmt 100000 8 398 108 [.int t] zh3 = some (some (.int 0), zh3) := by
      refine (zcal_go (M := M_Mo_isTable) rfl rfl rfl).trans ?_
      show zloop zmt (zcal zmt 100000 7 378) 8 378 none M_Mo_isTable 100000 (0, [(0, .int t)], []) zh3 = _
      refine (zq1 (q := ((1, [(0, .int t)], [.int t]), zh3)) rfl rfl rfl).trans ?_
      refine (zqb (q := (4, [(0, .int t)], [])) (cB := zc .eq t (0)) (v := false) (off := 8) (lv := [(0, .int t)]) (r := []) rfl rfl rfl (zcb .eq (x := t) (y := (0)) (k := 0) (by decide) (decide_eq_false (by omega))) rfl).trans ?_
      refine (zq1 (q := ((5, [(0, .int t)], [.int t]), zh3)) rfl rfl rfl).trans ?_
      refine (zq1 (q := ((6, [(0, .int t)], [.int 1, .int t]), zh3)) rfl rfl rfl).trans ?_
      refine (zqb (q := (13, [(0, .int t)], [])) (cB := zc .ne t (1)) (v := true) (off := 7) (lv := [(0, .int t)]) (r := []) rfl rfl rfl (zcb .ne (x := t) (y := (1)) (k := 1) (by decide) (decide_eq_true (by omega))) rfl).trans ?_
      refine (zq1 (q := ((14, [(0, .int t)], [.int 0]), zh3)) rfl rfl rfl).trans ?_
      exact zqr rfl rfl
    refine (zqc 0 (s' := (4, [(0, .ref 54), (1, .int t)], [.int 0])) rfl rfl rfl rfl rfl rfl hc rfl).trans ?_
    refine (zq1 (q := ((7, [(0, .ref 54), (1, .int t)], []), zh3)) rfl rfl rfl).trans ?_
    refine (zq1 (q := ((8, [(0, .ref 54), (1, .int t)], [.int (-1)]), zh3)) rfl rfl rfl).trans ?_
    exact zqr rfl rfl
set_option maxRecDepth 1000000 in
set_option maxHeartbeats 4000000 in
theorem zi_delete_lt (t r : Int32) (h : t.toInt < 0) : zPair 38 111 [.int t, .int r] := by
  refine ⟨0, zh3, zh3, ?_, ?_, rfl, rfl, rfl⟩
  · refine (zcal_go (M := M_ST_delete) rfl rfl rfl).trans ?_
    show zloop zmt (zcal zmt 100000 8 398) 9 398 none M_ST_delete 100000 (0, [(0, .ref 0), (1, .int t), (2, .int r)], []) zh3 = _
    refine (zq1 (q := ((1, [(0, .ref 0), (1, .int t), (2, .int r)], [.ref 0]), zh3)) rfl rfl rfl).trans ?_
    refine (zq1 (q := ((2, [(0, .ref 0), (1, .int t), (2, .int r)], [.int t, .ref 0]), zh3)) rfl rfl rfl).trans ?_
    refine (zq1 (q := ((3, [(0, .ref 0), (1, .int t), (2, .int r)], [.int r, .int t, .ref 0]), zh3)) rfl rfl rfl).trans ?_
    have hc : zcal zmt 100000 8 398 39 [.ref 0, .int t, .int r] zh3 = some (some (.null), zh3) := by
      refine (zcal_go (M := M_ST_placeOf) rfl rfl rfl).trans ?_
      show zloop zmt (zcal zmt 100000 7 376) 8 376 none M_ST_placeOf 100000 (0, [(0, .ref 0), (1, .int t), (2, .int r)], []) zh3 = _
      refine (zq1 (q := ((1, [(0, .ref 0), (1, .int t), (2, .int r)], [.int t]), zh3)) rfl rfl rfl).trans ?_
      have hc : zcal zmt 100000 7 376 29 [.int t] zh3 = some (some (.int 0), zh3) := by
        refine (zcal_go (M := M_ST_isTable) rfl rfl rfl).trans ?_
        show zloop zmt (zcal zmt 100000 6 356) 7 356 none M_ST_isTable 100000 (0, [(0, .int t)], []) zh3 = _
        refine (zq1 (q := ((1, [(0, .int t)], [.int t]), zh3)) rfl rfl rfl).trans ?_
        refine (zqb (q := (13, [(0, .int t)], [])) (cB := zc .lt t (0)) (v := true) (off := 12) (lv := [(0, .int t)]) (r := []) rfl rfl rfl (zcb .lt (x := t) (y := (0)) (k := 0) (by decide) (decide_eq_true (by omega))) rfl).trans ?_
        refine (zq1 (q := ((14, [(0, .int t)], [.int 0]), zh3)) rfl rfl rfl).trans ?_
        exact zqr rfl rfl
      refine (zqc 0 (s' := (4, [(0, .ref 0), (1, .int t), (2, .int r)], [.int 0])) rfl rfl rfl rfl rfl rfl hc rfl).trans ?_
      refine (zq1 (q := ((20, [(0, .ref 0), (1, .int t), (2, .int r)], []), zh3)) rfl rfl rfl).trans ?_
      refine (zq1 (q := ((21, [(0, .ref 0), (1, .int t), (2, .int r)], [.null]), zh3)) rfl rfl rfl).trans ?_
      exact zqr rfl rfl
    refine (zqc 1 (s' := (6, [(0, .ref 0), (1, .int t), (2, .int r)], [.null])) rfl rfl rfl rfl rfl rfl hc rfl).trans ?_
    refine (zq1 (q := ((9, [(0, .ref 0), (1, .int t), (2, .int r)], []), zh3)) rfl rfl rfl).trans ?_
    refine (zq1 (q := ((10, [(0, .ref 0), (1, .int t), (2, .int r)], [.int 0]), zh3)) rfl rfl rfl).trans ?_
    exact zqr rfl rfl
  · refine (zcal_go (M := M_Mo_delete) rfl rfl rfl).trans ?_
    show zloop zmt (zcal zmt 100000 8 397) 9 397 none M_Mo_delete 100000 (0, [(0, .ref 54), (1, .int t), (2, .int r)], []) zh3 = _
    refine (zq1 (q := ((1, [(0, .ref 54), (1, .int t), (2, .int r)], [.ref 54]), zh3)) rfl rfl rfl).trans ?_
    refine (zq1 (q := ((2, [(0, .ref 54), (1, .int t), (2, .int r)], [.int t, .ref 54]), zh3)) rfl rfl rfl).trans ?_
    refine (zq1 (q := ((3, [(0, .ref 54), (1, .int t), (2, .int r)], [.int r, .int t, .ref 54]), zh3)) rfl rfl rfl).trans ?_
    have hc : zcal zmt 100000 8 397 112 [.ref 54, .int t, .int r] zh3 = some (some (.int (-1)), zh3) := by
      refine (zcal_go (M := M_Mo_slot) rfl rfl rfl).trans ?_
      show zloop zmt (zcal zmt 100000 7 375) 8 375 none M_Mo_slot 100000 (0, [(0, .ref 54), (1, .int t), (2, .int r)], []) zh3 = _
      refine (zq1 (q := ((1, [(0, .ref 54), (1, .int t), (2, .int r)], [.int t]), zh3)) rfl rfl rfl).trans ?_
      have hc : zcal zmt 100000 7 375 108 [.int t] zh3 = some (some (.int 0), zh3) := by
        refine (zcal_go (M := M_Mo_isTable) rfl rfl rfl).trans ?_
        show zloop zmt (zcal zmt 100000 6 355) 7 355 none M_Mo_isTable 100000 (0, [(0, .int t)], []) zh3 = _
        refine (zq1 (q := ((1, [(0, .int t)], [.int t]), zh3)) rfl rfl rfl).trans ?_
        refine (zqb (q := (4, [(0, .int t)], [])) (cB := zc .eq t (0)) (v := false) (off := 8) (lv := [(0, .int t)]) (r := []) rfl rfl rfl (zcb .eq (x := t) (y := (0)) (k := 0) (by decide) (decide_eq_false (by omega))) rfl).trans ?_
        refine (zq1 (q := ((5, [(0, .int t)], [.int t]), zh3)) rfl rfl rfl).trans ?_
        refine (zq1 (q := ((6, [(0, .int t)], [.int 1, .int t]), zh3)) rfl rfl rfl).trans ?_
        refine (zqb (q := (13, [(0, .int t)], [])) (cB := zc .ne t (1)) (v := true) (off := 7) (lv := [(0, .int t)]) (r := []) rfl rfl rfl (zcb .ne (x := t) (y := (1)) (k := 1) (by decide) (decide_eq_true (by omega))) rfl).trans ?_
        refine (zq1 (q := ((14, [(0, .int t)], [.int 0]), zh3)) rfl rfl rfl).trans ?_
        exact zqr rfl rfl
      refine (zqc 0 (s' := (4, [(0, .ref 54), (1, .int t), (2, .int r)], [.int 0])) rfl rfl rfl rfl rfl rfl hc rfl).trans ?_
      refine (zq1 (q := ((40, [(0, .ref 54), (1, .int t), (2, .int r)], []), zh3)) rfl rfl rfl).trans ?_
      refine (zq1 (q := ((41, [(0, .ref 54), (1, .int t), (2, .int r)], [.int (-1)]), zh3)) rfl rfl rfl).trans ?_
      exact zqr rfl rfl
    refine (zqc 1 (s' := (6, [(0, .ref 54), (1, .int t), (2, .int r)], [.int (-1)])) rfl rfl rfl rfl rfl rfl hc rfl).trans ?_
    refine (zq1 (q := ((7, [(3, .int (-1)), (0, .ref 54), (1, .int t), (2, .int r)], []), zh3)) rfl rfl rfl).trans ?_
    refine (zq1 (q := ((8, [(3, .int (-1)), (0, .ref 54), (1, .int t), (2, .int r)], [.int (-1)]), zh3)) rfl rfl rfl).trans ?_
    refine (zq1 (q := ((11, [(3, .int (-1)), (0, .ref 54), (1, .int t), (2, .int r)], []), zh3)) rfl rfl rfl).trans ?_
    refine (zq1 (q := ((12, [(3, .int (-1)), (0, .ref 54), (1, .int t), (2, .int r)], [.int 0]), zh3)) rfl rfl rfl).trans ?_
    exact zqr rfl rfl
set_option maxRecDepth 1000000 in
set_option maxHeartbeats 4000000 in
theorem zi_delete_ge (t r : Int32) (h : 2 ≤ t.toInt) : zPair 38 111 [.int t, .int r] := by
  refine ⟨0, zh3, zh3, ?_, ?_, rfl, rfl, rfl⟩
  · refine (zcal_go (M := M_ST_delete) rfl rfl rfl).trans ?_
    show zloop zmt (zcal zmt 100000 8 398) 9 398 none M_ST_delete 100000 (0, [(0, .ref 0), (1, .int t), (2, .int r)], []) zh3 = _
    refine (zq1 (q := ((1, [(0, .ref 0), (1, .int t), (2, .int r)], [.ref 0]), zh3)) rfl rfl rfl).trans ?_
    refine (zq1 (q := ((2, [(0, .ref 0), (1, .int t), (2, .int r)], [.int t, .ref 0]), zh3)) rfl rfl rfl).trans ?_
    refine (zq1 (q := ((3, [(0, .ref 0), (1, .int t), (2, .int r)], [.int r, .int t, .ref 0]), zh3)) rfl rfl rfl).trans ?_
    have hc : zcal zmt 100000 8 398 39 [.ref 0, .int t, .int r] zh3 = some (some (.null), zh3) := by
      refine (zcal_go (M := M_ST_placeOf) rfl rfl rfl).trans ?_
      show zloop zmt (zcal zmt 100000 7 376) 8 376 none M_ST_placeOf 100000 (0, [(0, .ref 0), (1, .int t), (2, .int r)], []) zh3 = _
      refine (zq1 (q := ((1, [(0, .ref 0), (1, .int t), (2, .int r)], [.int t]), zh3)) rfl rfl rfl).trans ?_
      have hc : zcal zmt 100000 7 376 29 [.int t] zh3 = some (some (.int 0), zh3) := by
        refine (zcal_go (M := M_ST_isTable) rfl rfl rfl).trans ?_
        show zloop zmt (zcal zmt 100000 6 356) 7 356 none M_ST_isTable 100000 (0, [(0, .int t)], []) zh3 = _
        refine (zq1 (q := ((1, [(0, .int t)], [.int t]), zh3)) rfl rfl rfl).trans ?_
        refine (zqb (q := (4, [(0, .int t)], [])) (cB := zc .lt t (0)) (v := false) (off := 12) (lv := [(0, .int t)]) (r := []) rfl rfl rfl (zcb .lt (x := t) (y := (0)) (k := 0) (by decide) (decide_eq_false (by omega))) rfl).trans ?_
        refine (zq1 (q := ((5, [(0, .int t)], [.int t]), zh3)) rfl rfl rfl).trans ?_
        refine (zq1 (q := ((6, [(0, .int t)], [.int 2, .int t]), zh3)) rfl rfl rfl).trans ?_
        refine (zqb (q := (13, [(0, .int t)], [])) (cB := zc .ge t (2)) (v := true) (off := 7) (lv := [(0, .int t)]) (r := []) rfl rfl rfl (zcb .ge (x := t) (y := (2)) (k := 2) (by decide) (decide_eq_true (by omega))) rfl).trans ?_
        refine (zq1 (q := ((14, [(0, .int t)], [.int 0]), zh3)) rfl rfl rfl).trans ?_
        exact zqr rfl rfl
      refine (zqc 0 (s' := (4, [(0, .ref 0), (1, .int t), (2, .int r)], [.int 0])) rfl rfl rfl rfl rfl rfl hc rfl).trans ?_
      refine (zq1 (q := ((20, [(0, .ref 0), (1, .int t), (2, .int r)], []), zh3)) rfl rfl rfl).trans ?_
      refine (zq1 (q := ((21, [(0, .ref 0), (1, .int t), (2, .int r)], [.null]), zh3)) rfl rfl rfl).trans ?_
      exact zqr rfl rfl
    refine (zqc 1 (s' := (6, [(0, .ref 0), (1, .int t), (2, .int r)], [.null])) rfl rfl rfl rfl rfl rfl hc rfl).trans ?_
    refine (zq1 (q := ((9, [(0, .ref 0), (1, .int t), (2, .int r)], []), zh3)) rfl rfl rfl).trans ?_
    refine (zq1 (q := ((10, [(0, .ref 0), (1, .int t), (2, .int r)], [.int 0]), zh3)) rfl rfl rfl).trans ?_
    exact zqr rfl rfl
  · refine (zcal_go (M := M_Mo_delete) rfl rfl rfl).trans ?_
    show zloop zmt (zcal zmt 100000 8 397) 9 397 none M_Mo_delete 100000 (0, [(0, .ref 54), (1, .int t), (2, .int r)], []) zh3 = _
    refine (zq1 (q := ((1, [(0, .ref 54), (1, .int t), (2, .int r)], [.ref 54]), zh3)) rfl rfl rfl).trans ?_
    refine (zq1 (q := ((2, [(0, .ref 54), (1, .int t), (2, .int r)], [.int t, .ref 54]), zh3)) rfl rfl rfl).trans ?_
    refine (zq1 (q := ((3, [(0, .ref 54), (1, .int t), (2, .int r)], [.int r, .int t, .ref 54]), zh3)) rfl rfl rfl).trans ?_
    have hc : zcal zmt 100000 8 397 112 [.ref 54, .int t, .int r] zh3 = some (some (.int (-1)), zh3) := by
      refine (zcal_go (M := M_Mo_slot) rfl rfl rfl).trans ?_
      show zloop zmt (zcal zmt 100000 7 375) 8 375 none M_Mo_slot 100000 (0, [(0, .ref 54), (1, .int t), (2, .int r)], []) zh3 = _
      refine (zq1 (q := ((1, [(0, .ref 54), (1, .int t), (2, .int r)], [.int t]), zh3)) rfl rfl rfl).trans ?_
      have hc : zcal zmt 100000 7 375 108 [.int t] zh3 = some (some (.int 0), zh3) := by
        refine (zcal_go (M := M_Mo_isTable) rfl rfl rfl).trans ?_
        show zloop zmt (zcal zmt 100000 6 355) 7 355 none M_Mo_isTable 100000 (0, [(0, .int t)], []) zh3 = _
        refine (zq1 (q := ((1, [(0, .int t)], [.int t]), zh3)) rfl rfl rfl).trans ?_
        refine (zqb (q := (4, [(0, .int t)], [])) (cB := zc .eq t (0)) (v := false) (off := 8) (lv := [(0, .int t)]) (r := []) rfl rfl rfl (zcb .eq (x := t) (y := (0)) (k := 0) (by decide) (decide_eq_false (by omega))) rfl).trans ?_
        refine (zq1 (q := ((5, [(0, .int t)], [.int t]), zh3)) rfl rfl rfl).trans ?_
        refine (zq1 (q := ((6, [(0, .int t)], [.int 1, .int t]), zh3)) rfl rfl rfl).trans ?_
        refine (zqb (q := (13, [(0, .int t)], [])) (cB := zc .ne t (1)) (v := true) (off := 7) (lv := [(0, .int t)]) (r := []) rfl rfl rfl (zcb .ne (x := t) (y := (1)) (k := 1) (by decide) (decide_eq_true (by omega))) rfl).trans ?_
        refine (zq1 (q := ((14, [(0, .int t)], [.int 0]), zh3)) rfl rfl rfl).trans ?_
        exact zqr rfl rfl
      refine (zqc 0 (s' := (4, [(0, .ref 54), (1, .int t), (2, .int r)], [.int 0])) rfl rfl rfl rfl rfl rfl hc rfl).trans ?_
      refine (zq1 (q := ((40, [(0, .ref 54), (1, .int t), (2, .int r)], []), zh3)) rfl rfl rfl).trans ?_
      refine (zq1 (q := ((41, [(0, .ref 54), (1, .int t), (2, .int r)], [.int (-1)]), zh3)) rfl rfl rfl).trans ?_
      exact zqr rfl rfl
    refine (zqc 1 (s' := (6, [(0, .ref 54), (1, .int t), (2, .int r)], [.int (-1)])) rfl rfl rfl rfl rfl rfl hc rfl).trans ?_
    refine (zq1 (q := ((7, [(3, .int (-1)), (0, .ref 54), (1, .int t), (2, .int r)], []), zh3)) rfl rfl rfl).trans ?_
    refine (zq1 (q := ((8, [(3, .int (-1)), (0, .ref 54), (1, .int t), (2, .int r)], [.int (-1)]), zh3)) rfl rfl rfl).trans ?_
    refine (zq1 (q := ((11, [(3, .int (-1)), (0, .ref 54), (1, .int t), (2, .int r)], []), zh3)) rfl rfl rfl).trans ?_
    refine (zq1 (q := ((12, [(3, .int (-1)), (0, .ref 54), (1, .int t), (2, .int r)], [.int 0]), zh3)) rfl rfl rfl).trans ?_
    exact zqr rfl rfl
set_option maxRecDepth 1000000 in
set_option maxHeartbeats 4000000 in
theorem zi_delete_0_lt (r : Int32) (h : r.toInt < 0) : zPair 38 111 [.int 0, .int r] := by
  refine ⟨0, zh3, zh3, ?_, ?_, rfl, rfl, rfl⟩
  · refine (zcal_go (M := M_ST_delete) rfl rfl rfl).trans ?_
    show zloop zmt (zcal zmt 100000 8 398) 9 398 none M_ST_delete 100000 (0, [(0, .ref 0), (1, .int 0), (2, .int r)], []) zh3 = _
    refine (zq1 (q := ((1, [(0, .ref 0), (1, .int 0), (2, .int r)], [.ref 0]), zh3)) rfl rfl rfl).trans ?_
    refine (zq1 (q := ((2, [(0, .ref 0), (1, .int 0), (2, .int r)], [.int 0, .ref 0]), zh3)) rfl rfl rfl).trans ?_
    refine (zq1 (q := ((3, [(0, .ref 0), (1, .int 0), (2, .int r)], [.int r, .int 0, .ref 0]), zh3)) rfl rfl rfl).trans ?_
    have hc : zcal zmt 100000 8 398 39 [.ref 0, .int 0, .int r] zh3 = some (some (.null), zh3) := by
      refine (zcal_go (M := M_ST_placeOf) rfl rfl rfl).trans ?_
      show zloop zmt (zcal zmt 100000 7 376) 8 376 none M_ST_placeOf 100000 (0, [(0, .ref 0), (1, .int 0), (2, .int r)], []) zh3 = _
      refine (zq1 (q := ((1, [(0, .ref 0), (1, .int 0), (2, .int r)], [.int 0]), zh3)) rfl rfl rfl).trans ?_
      have hc : zcal zmt 100000 7 376 29 [.int 0] zh3 = some (some (.int 1), zh3) := zreq_ok (by decide +kernel)
      refine (zqc 0 (s' := (4, [(0, .ref 0), (1, .int 0), (2, .int r)], [.int 1])) rfl rfl rfl rfl rfl rfl hc rfl).trans ?_
      refine (zq1 (q := ((7, [(0, .ref 0), (1, .int 0), (2, .int r)], []), zh3)) rfl rfl rfl).trans ?_
      refine (zq1 (q := ((8, [(0, .ref 0), (1, .int 0), (2, .int r)], [.ref 0]), zh3)) rfl rfl rfl).trans ?_
      refine (zq1 (q := ((11, [(0, .ref 0), (1, .int 0), (2, .int r)], [.ref 1]), zh3)) rfl rfl rfl).trans ?_
      refine (zq1 (q := ((12, [(0, .ref 0), (1, .int 0), (2, .int r)], [.int 0, .ref 1]), zh3)) rfl rfl rfl).trans ?_
      refine (zq1 (q := ((13, [(0, .ref 0), (1, .int 0), (2, .int r)], [.ref 14]), zh3)) rfl rfl rfl).trans ?_
      refine (zq1 (q := ((14, [(0, .ref 0), (1, .int 0), (2, .int r)], [.int r, .ref 14]), zh3)) rfl rfl rfl).trans ?_
      have hc : zcal zmt 100000 7 376 40 [.ref 14, .int r] zh3 = some (some (.null), zh3) := by
        refine (zcal_go (M := M_Ta_placeAt) rfl rfl rfl).trans ?_
        show zloop zmt (zcal zmt 100000 6 355) 7 355 none M_Ta_placeAt 100000 (0, [(0, .ref 14), (1, .int r)], []) zh3 = _
        refine (zq1 (q := ((1, [(0, .ref 14), (1, .int r)], [.int r]), zh3)) rfl rfl rfl).trans ?_
        refine (zqb (q := (19, [(0, .ref 14), (1, .int r)], [])) (cB := zc .lt r (0)) (v := true) (off := 18) (lv := [(0, .ref 14), (1, .int r)]) (r := []) rfl rfl rfl (zcb .lt (x := r) (y := (0)) (k := 0) (by decide) (decide_eq_true (by omega))) rfl).trans ?_
        refine (zq1 (q := ((20, [(0, .ref 14), (1, .int r)], [.null]), zh3)) rfl rfl rfl).trans ?_
        exact zqr rfl rfl
      refine (zqc 1 (s' := (17, [(0, .ref 0), (1, .int 0), (2, .int r)], [.null])) rfl rfl rfl rfl rfl rfl hc rfl).trans ?_
      refine (zq1 (q := ((21, [(0, .ref 0), (1, .int 0), (2, .int r)], [.null]), zh3)) rfl rfl rfl).trans ?_
      exact zqr rfl rfl
    refine (zqc 1 (s' := (6, [(0, .ref 0), (1, .int 0), (2, .int r)], [.null])) rfl rfl rfl rfl rfl rfl hc rfl).trans ?_
    refine (zq1 (q := ((9, [(0, .ref 0), (1, .int 0), (2, .int r)], []), zh3)) rfl rfl rfl).trans ?_
    refine (zq1 (q := ((10, [(0, .ref 0), (1, .int 0), (2, .int r)], [.int 0]), zh3)) rfl rfl rfl).trans ?_
    exact zqr rfl rfl
  · refine (zcal_go (M := M_Mo_delete) rfl rfl rfl).trans ?_
    show zloop zmt (zcal zmt 100000 8 397) 9 397 none M_Mo_delete 100000 (0, [(0, .ref 54), (1, .int 0), (2, .int r)], []) zh3 = _
    refine (zq1 (q := ((1, [(0, .ref 54), (1, .int 0), (2, .int r)], [.ref 54]), zh3)) rfl rfl rfl).trans ?_
    refine (zq1 (q := ((2, [(0, .ref 54), (1, .int 0), (2, .int r)], [.int 0, .ref 54]), zh3)) rfl rfl rfl).trans ?_
    refine (zq1 (q := ((3, [(0, .ref 54), (1, .int 0), (2, .int r)], [.int r, .int 0, .ref 54]), zh3)) rfl rfl rfl).trans ?_
    have hc : zcal zmt 100000 8 397 112 [.ref 54, .int 0, .int r] zh3 = some (some (.int (-1)), zh3) := by
      refine (zcal_go (M := M_Mo_slot) rfl rfl rfl).trans ?_
      show zloop zmt (zcal zmt 100000 7 375) 8 375 none M_Mo_slot 100000 (0, [(0, .ref 54), (1, .int 0), (2, .int r)], []) zh3 = _
      refine (zq1 (q := ((1, [(0, .ref 54), (1, .int 0), (2, .int r)], [.int 0]), zh3)) rfl rfl rfl).trans ?_
      have hc : zcal zmt 100000 7 375 108 [.int 0] zh3 = some (some (.int 1), zh3) := zreq_ok (by decide +kernel)
      refine (zqc 0 (s' := (4, [(0, .ref 54), (1, .int 0), (2, .int r)], [.int 1])) rfl rfl rfl rfl rfl rfl hc rfl).trans ?_
      refine (zq1 (q := ((7, [(0, .ref 54), (1, .int 0), (2, .int r)], []), zh3)) rfl rfl rfl).trans ?_
      refine (zq1 (q := ((8, [(0, .ref 54), (1, .int 0), (2, .int r)], [.int r]), zh3)) rfl rfl rfl).trans ?_
      refine (zqb (q := (40, [(0, .ref 54), (1, .int 0), (2, .int r)], [])) (cB := zc .lt r (0)) (v := true) (off := 32) (lv := [(0, .ref 54), (1, .int 0), (2, .int r)]) (r := []) rfl rfl rfl (zcb .lt (x := r) (y := (0)) (k := 0) (by decide) (decide_eq_true (by omega))) rfl).trans ?_
      refine (zq1 (q := ((41, [(0, .ref 54), (1, .int 0), (2, .int r)], [.int (-1)]), zh3)) rfl rfl rfl).trans ?_
      exact zqr rfl rfl
    refine (zqc 1 (s' := (6, [(0, .ref 54), (1, .int 0), (2, .int r)], [.int (-1)])) rfl rfl rfl rfl rfl rfl hc rfl).trans ?_
    refine (zq1 (q := ((7, [(3, .int (-1)), (0, .ref 54), (1, .int 0), (2, .int r)], []), zh3)) rfl rfl rfl).trans ?_
    refine (zq1 (q := ((8, [(3, .int (-1)), (0, .ref 54), (1, .int 0), (2, .int r)], [.int (-1)]), zh3)) rfl rfl rfl).trans ?_
    refine (zq1 (q := ((11, [(3, .int (-1)), (0, .ref 54), (1, .int 0), (2, .int r)], []), zh3)) rfl rfl rfl).trans ?_
    refine (zq1 (q := ((12, [(3, .int (-1)), (0, .ref 54), (1, .int 0), (2, .int r)], [.int 0]), zh3)) rfl rfl rfl).trans ?_
    exact zqr rfl rfl
set_option maxRecDepth 1000000 in
set_option maxHeartbeats 4000000 in
theorem zi_delete_0_ge (r : Int32) (h : 16 ≤ r.toInt) : zPair 38 111 [.int 0, .int r] := by
  refine ⟨0, zh3, zh3, ?_, ?_, rfl, rfl, rfl⟩
  · refine (zcal_go (M := M_ST_delete) rfl rfl rfl).trans ?_
    show zloop zmt (zcal zmt 100000 8 398) 9 398 none M_ST_delete 100000 (0, [(0, .ref 0), (1, .int 0), (2, .int r)], []) zh3 = _
    refine (zq1 (q := ((1, [(0, .ref 0), (1, .int 0), (2, .int r)], [.ref 0]), zh3)) rfl rfl rfl).trans ?_
    refine (zq1 (q := ((2, [(0, .ref 0), (1, .int 0), (2, .int r)], [.int 0, .ref 0]), zh3)) rfl rfl rfl).trans ?_
    refine (zq1 (q := ((3, [(0, .ref 0), (1, .int 0), (2, .int r)], [.int r, .int 0, .ref 0]), zh3)) rfl rfl rfl).trans ?_
    have hc : zcal zmt 100000 8 398 39 [.ref 0, .int 0, .int r] zh3 = some (some (.null), zh3) := by
      refine (zcal_go (M := M_ST_placeOf) rfl rfl rfl).trans ?_
      show zloop zmt (zcal zmt 100000 7 376) 8 376 none M_ST_placeOf 100000 (0, [(0, .ref 0), (1, .int 0), (2, .int r)], []) zh3 = _
      refine (zq1 (q := ((1, [(0, .ref 0), (1, .int 0), (2, .int r)], [.int 0]), zh3)) rfl rfl rfl).trans ?_
      have hc : zcal zmt 100000 7 376 29 [.int 0] zh3 = some (some (.int 1), zh3) := zreq_ok (by decide +kernel)
      refine (zqc 0 (s' := (4, [(0, .ref 0), (1, .int 0), (2, .int r)], [.int 1])) rfl rfl rfl rfl rfl rfl hc rfl).trans ?_
      refine (zq1 (q := ((7, [(0, .ref 0), (1, .int 0), (2, .int r)], []), zh3)) rfl rfl rfl).trans ?_
      refine (zq1 (q := ((8, [(0, .ref 0), (1, .int 0), (2, .int r)], [.ref 0]), zh3)) rfl rfl rfl).trans ?_
      refine (zq1 (q := ((11, [(0, .ref 0), (1, .int 0), (2, .int r)], [.ref 1]), zh3)) rfl rfl rfl).trans ?_
      refine (zq1 (q := ((12, [(0, .ref 0), (1, .int 0), (2, .int r)], [.int 0, .ref 1]), zh3)) rfl rfl rfl).trans ?_
      refine (zq1 (q := ((13, [(0, .ref 0), (1, .int 0), (2, .int r)], [.ref 14]), zh3)) rfl rfl rfl).trans ?_
      refine (zq1 (q := ((14, [(0, .ref 0), (1, .int 0), (2, .int r)], [.int r, .ref 14]), zh3)) rfl rfl rfl).trans ?_
      have hc : zcal zmt 100000 7 376 40 [.ref 14, .int r] zh3 = some (some (.null), zh3) := by
        refine (zcal_go (M := M_Ta_placeAt) rfl rfl rfl).trans ?_
        show zloop zmt (zcal zmt 100000 6 355) 7 355 none M_Ta_placeAt 100000 (0, [(0, .ref 14), (1, .int r)], []) zh3 = _
        refine (zq1 (q := ((1, [(0, .ref 14), (1, .int r)], [.int r]), zh3)) rfl rfl rfl).trans ?_
        refine (zqb (q := (4, [(0, .ref 14), (1, .int r)], [])) (cB := zc .lt r (0)) (v := false) (off := 18) (lv := [(0, .ref 14), (1, .int r)]) (r := []) rfl rfl rfl (zcb .lt (x := r) (y := (0)) (k := 0) (by decide) (decide_eq_false (by omega))) rfl).trans ?_
        refine (zq1 (q := ((5, [(0, .ref 14), (1, .int r)], [.int r]), zh3)) rfl rfl rfl).trans ?_
        refine (zq1 (q := ((7, [(0, .ref 14), (1, .int r)], [.int 16, .int r]), zh3)) rfl rfl rfl).trans ?_
        refine (zqb (q := (19, [(0, .ref 14), (1, .int r)], [])) (cB := zc .ge r (16)) (v := true) (off := 12) (lv := [(0, .ref 14), (1, .int r)]) (r := []) rfl rfl rfl (zcb .ge (x := r) (y := (16)) (k := 16) (by decide) (decide_eq_true (by omega))) rfl).trans ?_
        refine (zq1 (q := ((20, [(0, .ref 14), (1, .int r)], [.null]), zh3)) rfl rfl rfl).trans ?_
        exact zqr rfl rfl
      refine (zqc 1 (s' := (17, [(0, .ref 0), (1, .int 0), (2, .int r)], [.null])) rfl rfl rfl rfl rfl rfl hc rfl).trans ?_
      refine (zq1 (q := ((21, [(0, .ref 0), (1, .int 0), (2, .int r)], [.null]), zh3)) rfl rfl rfl).trans ?_
      exact zqr rfl rfl
    refine (zqc 1 (s' := (6, [(0, .ref 0), (1, .int 0), (2, .int r)], [.null])) rfl rfl rfl rfl rfl rfl hc rfl).trans ?_
    refine (zq1 (q := ((9, [(0, .ref 0), (1, .int 0), (2, .int r)], []), zh3)) rfl rfl rfl).trans ?_
    refine (zq1 (q := ((10, [(0, .ref 0), (1, .int 0), (2, .int r)], [.int 0]), zh3)) rfl rfl rfl).trans ?_
    exact zqr rfl rfl
  · refine (zcal_go (M := M_Mo_delete) rfl rfl rfl).trans ?_
    show zloop zmt (zcal zmt 100000 8 397) 9 397 none M_Mo_delete 100000 (0, [(0, .ref 54), (1, .int 0), (2, .int r)], []) zh3 = _
    refine (zq1 (q := ((1, [(0, .ref 54), (1, .int 0), (2, .int r)], [.ref 54]), zh3)) rfl rfl rfl).trans ?_
    refine (zq1 (q := ((2, [(0, .ref 54), (1, .int 0), (2, .int r)], [.int 0, .ref 54]), zh3)) rfl rfl rfl).trans ?_
    refine (zq1 (q := ((3, [(0, .ref 54), (1, .int 0), (2, .int r)], [.int r, .int 0, .ref 54]), zh3)) rfl rfl rfl).trans ?_
    have hc : zcal zmt 100000 8 397 112 [.ref 54, .int 0, .int r] zh3 = some (some (.int (-1)), zh3) := by
      refine (zcal_go (M := M_Mo_slot) rfl rfl rfl).trans ?_
      show zloop zmt (zcal zmt 100000 7 375) 8 375 none M_Mo_slot 100000 (0, [(0, .ref 54), (1, .int 0), (2, .int r)], []) zh3 = _
      refine (zq1 (q := ((1, [(0, .ref 54), (1, .int 0), (2, .int r)], [.int 0]), zh3)) rfl rfl rfl).trans ?_
      have hc : zcal zmt 100000 7 375 108 [.int 0] zh3 = some (some (.int 1), zh3) := zreq_ok (by decide +kernel)
      refine (zqc 0 (s' := (4, [(0, .ref 54), (1, .int 0), (2, .int r)], [.int 1])) rfl rfl rfl rfl rfl rfl hc rfl).trans ?_
      refine (zq1 (q := ((7, [(0, .ref 54), (1, .int 0), (2, .int r)], []), zh3)) rfl rfl rfl).trans ?_
      refine (zq1 (q := ((8, [(0, .ref 54), (1, .int 0), (2, .int r)], [.int r]), zh3)) rfl rfl rfl).trans ?_
      refine (zqb (q := (11, [(0, .ref 54), (1, .int 0), (2, .int r)], [])) (cB := zc .lt r (0)) (v := false) (off := 32) (lv := [(0, .ref 54), (1, .int 0), (2, .int r)]) (r := []) rfl rfl rfl (zcb .lt (x := r) (y := (0)) (k := 0) (by decide) (decide_eq_false (by omega))) rfl).trans ?_
      refine (zq1 (q := ((12, [(0, .ref 54), (1, .int 0), (2, .int r)], [.int r]), zh3)) rfl rfl rfl).trans ?_
      refine (zq1 (q := ((14, [(0, .ref 54), (1, .int 0), (2, .int r)], [.int 15, .int r]), zh3)) rfl rfl rfl).trans ?_
      refine (zqb (q := (40, [(0, .ref 54), (1, .int 0), (2, .int r)], [])) (cB := zc .gt r (15)) (v := true) (off := 26) (lv := [(0, .ref 54), (1, .int 0), (2, .int r)]) (r := []) rfl rfl rfl (zcb .gt (x := r) (y := (15)) (k := 15) (by decide) (decide_eq_true (by omega))) rfl).trans ?_
      refine (zq1 (q := ((41, [(0, .ref 54), (1, .int 0), (2, .int r)], [.int (-1)]), zh3)) rfl rfl rfl).trans ?_
      exact zqr rfl rfl
    refine (zqc 1 (s' := (6, [(0, .ref 54), (1, .int 0), (2, .int r)], [.int (-1)])) rfl rfl rfl rfl rfl rfl hc rfl).trans ?_
    refine (zq1 (q := ((7, [(3, .int (-1)), (0, .ref 54), (1, .int 0), (2, .int r)], []), zh3)) rfl rfl rfl).trans ?_
    refine (zq1 (q := ((8, [(3, .int (-1)), (0, .ref 54), (1, .int 0), (2, .int r)], [.int (-1)]), zh3)) rfl rfl rfl).trans ?_
    refine (zq1 (q := ((11, [(3, .int (-1)), (0, .ref 54), (1, .int 0), (2, .int r)], []), zh3)) rfl rfl rfl).trans ?_
    refine (zq1 (q := ((12, [(3, .int (-1)), (0, .ref 54), (1, .int 0), (2, .int r)], [.int 0]), zh3)) rfl rfl rfl).trans ?_
    exact zqr rfl rfl
set_option maxRecDepth 1000000 in
set_option maxHeartbeats 4000000 in
theorem zi_delete_1_lt (r : Int32) (h : r.toInt < 0) : zPair 38 111 [.int 1, .int r] := by
  refine ⟨0, zh3, zh3, ?_, ?_, rfl, rfl, rfl⟩
  · refine (zcal_go (M := M_ST_delete) rfl rfl rfl).trans ?_
    show zloop zmt (zcal zmt 100000 8 398) 9 398 none M_ST_delete 100000 (0, [(0, .ref 0), (1, .int 1), (2, .int r)], []) zh3 = _
    refine (zq1 (q := ((1, [(0, .ref 0), (1, .int 1), (2, .int r)], [.ref 0]), zh3)) rfl rfl rfl).trans ?_
    refine (zq1 (q := ((2, [(0, .ref 0), (1, .int 1), (2, .int r)], [.int 1, .ref 0]), zh3)) rfl rfl rfl).trans ?_
    refine (zq1 (q := ((3, [(0, .ref 0), (1, .int 1), (2, .int r)], [.int r, .int 1, .ref 0]), zh3)) rfl rfl rfl).trans ?_
    have hc : zcal zmt 100000 8 398 39 [.ref 0, .int 1, .int r] zh3 = some (some (.null), zh3) := by
      refine (zcal_go (M := M_ST_placeOf) rfl rfl rfl).trans ?_
      show zloop zmt (zcal zmt 100000 7 376) 8 376 none M_ST_placeOf 100000 (0, [(0, .ref 0), (1, .int 1), (2, .int r)], []) zh3 = _
      refine (zq1 (q := ((1, [(0, .ref 0), (1, .int 1), (2, .int r)], [.int 1]), zh3)) rfl rfl rfl).trans ?_
      have hc : zcal zmt 100000 7 376 29 [.int 1] zh3 = some (some (.int 1), zh3) := zreq_ok (by decide +kernel)
      refine (zqc 0 (s' := (4, [(0, .ref 0), (1, .int 1), (2, .int r)], [.int 1])) rfl rfl rfl rfl rfl rfl hc rfl).trans ?_
      refine (zq1 (q := ((7, [(0, .ref 0), (1, .int 1), (2, .int r)], []), zh3)) rfl rfl rfl).trans ?_
      refine (zq1 (q := ((8, [(0, .ref 0), (1, .int 1), (2, .int r)], [.ref 0]), zh3)) rfl rfl rfl).trans ?_
      refine (zq1 (q := ((11, [(0, .ref 0), (1, .int 1), (2, .int r)], [.ref 1]), zh3)) rfl rfl rfl).trans ?_
      refine (zq1 (q := ((12, [(0, .ref 0), (1, .int 1), (2, .int r)], [.int 1, .ref 1]), zh3)) rfl rfl rfl).trans ?_
      refine (zq1 (q := ((13, [(0, .ref 0), (1, .int 1), (2, .int r)], [.ref 26]), zh3)) rfl rfl rfl).trans ?_
      refine (zq1 (q := ((14, [(0, .ref 0), (1, .int 1), (2, .int r)], [.int r, .ref 26]), zh3)) rfl rfl rfl).trans ?_
      have hc : zcal zmt 100000 7 376 40 [.ref 26, .int r] zh3 = some (some (.null), zh3) := by
        refine (zcal_go (M := M_Ta_placeAt) rfl rfl rfl).trans ?_
        show zloop zmt (zcal zmt 100000 6 355) 7 355 none M_Ta_placeAt 100000 (0, [(0, .ref 26), (1, .int r)], []) zh3 = _
        refine (zq1 (q := ((1, [(0, .ref 26), (1, .int r)], [.int r]), zh3)) rfl rfl rfl).trans ?_
        refine (zqb (q := (19, [(0, .ref 26), (1, .int r)], [])) (cB := zc .lt r (0)) (v := true) (off := 18) (lv := [(0, .ref 26), (1, .int r)]) (r := []) rfl rfl rfl (zcb .lt (x := r) (y := (0)) (k := 0) (by decide) (decide_eq_true (by omega))) rfl).trans ?_
        refine (zq1 (q := ((20, [(0, .ref 26), (1, .int r)], [.null]), zh3)) rfl rfl rfl).trans ?_
        exact zqr rfl rfl
      refine (zqc 1 (s' := (17, [(0, .ref 0), (1, .int 1), (2, .int r)], [.null])) rfl rfl rfl rfl rfl rfl hc rfl).trans ?_
      refine (zq1 (q := ((21, [(0, .ref 0), (1, .int 1), (2, .int r)], [.null]), zh3)) rfl rfl rfl).trans ?_
      exact zqr rfl rfl
    refine (zqc 1 (s' := (6, [(0, .ref 0), (1, .int 1), (2, .int r)], [.null])) rfl rfl rfl rfl rfl rfl hc rfl).trans ?_
    refine (zq1 (q := ((9, [(0, .ref 0), (1, .int 1), (2, .int r)], []), zh3)) rfl rfl rfl).trans ?_
    refine (zq1 (q := ((10, [(0, .ref 0), (1, .int 1), (2, .int r)], [.int 0]), zh3)) rfl rfl rfl).trans ?_
    exact zqr rfl rfl
  · refine (zcal_go (M := M_Mo_delete) rfl rfl rfl).trans ?_
    show zloop zmt (zcal zmt 100000 8 397) 9 397 none M_Mo_delete 100000 (0, [(0, .ref 54), (1, .int 1), (2, .int r)], []) zh3 = _
    refine (zq1 (q := ((1, [(0, .ref 54), (1, .int 1), (2, .int r)], [.ref 54]), zh3)) rfl rfl rfl).trans ?_
    refine (zq1 (q := ((2, [(0, .ref 54), (1, .int 1), (2, .int r)], [.int 1, .ref 54]), zh3)) rfl rfl rfl).trans ?_
    refine (zq1 (q := ((3, [(0, .ref 54), (1, .int 1), (2, .int r)], [.int r, .int 1, .ref 54]), zh3)) rfl rfl rfl).trans ?_
    have hc : zcal zmt 100000 8 397 112 [.ref 54, .int 1, .int r] zh3 = some (some (.int (-1)), zh3) := by
      refine (zcal_go (M := M_Mo_slot) rfl rfl rfl).trans ?_
      show zloop zmt (zcal zmt 100000 7 375) 8 375 none M_Mo_slot 100000 (0, [(0, .ref 54), (1, .int 1), (2, .int r)], []) zh3 = _
      refine (zq1 (q := ((1, [(0, .ref 54), (1, .int 1), (2, .int r)], [.int 1]), zh3)) rfl rfl rfl).trans ?_
      have hc : zcal zmt 100000 7 375 108 [.int 1] zh3 = some (some (.int 1), zh3) := zreq_ok (by decide +kernel)
      refine (zqc 0 (s' := (4, [(0, .ref 54), (1, .int 1), (2, .int r)], [.int 1])) rfl rfl rfl rfl rfl rfl hc rfl).trans ?_
      refine (zq1 (q := ((7, [(0, .ref 54), (1, .int 1), (2, .int r)], []), zh3)) rfl rfl rfl).trans ?_
      refine (zq1 (q := ((8, [(0, .ref 54), (1, .int 1), (2, .int r)], [.int r]), zh3)) rfl rfl rfl).trans ?_
      refine (zqb (q := (40, [(0, .ref 54), (1, .int 1), (2, .int r)], [])) (cB := zc .lt r (0)) (v := true) (off := 32) (lv := [(0, .ref 54), (1, .int 1), (2, .int r)]) (r := []) rfl rfl rfl (zcb .lt (x := r) (y := (0)) (k := 0) (by decide) (decide_eq_true (by omega))) rfl).trans ?_
      refine (zq1 (q := ((41, [(0, .ref 54), (1, .int 1), (2, .int r)], [.int (-1)]), zh3)) rfl rfl rfl).trans ?_
      exact zqr rfl rfl
    refine (zqc 1 (s' := (6, [(0, .ref 54), (1, .int 1), (2, .int r)], [.int (-1)])) rfl rfl rfl rfl rfl rfl hc rfl).trans ?_
    refine (zq1 (q := ((7, [(3, .int (-1)), (0, .ref 54), (1, .int 1), (2, .int r)], []), zh3)) rfl rfl rfl).trans ?_
    refine (zq1 (q := ((8, [(3, .int (-1)), (0, .ref 54), (1, .int 1), (2, .int r)], [.int (-1)]), zh3)) rfl rfl rfl).trans ?_
    refine (zq1 (q := ((11, [(3, .int (-1)), (0, .ref 54), (1, .int 1), (2, .int r)], []), zh3)) rfl rfl rfl).trans ?_
    refine (zq1 (q := ((12, [(3, .int (-1)), (0, .ref 54), (1, .int 1), (2, .int r)], [.int 0]), zh3)) rfl rfl rfl).trans ?_
    exact zqr rfl rfl
set_option maxRecDepth 1000000 in
set_option maxHeartbeats 4000000 in
theorem zi_delete_1_ge (r : Int32) (h : 16 ≤ r.toInt) : zPair 38 111 [.int 1, .int r] := by
  refine ⟨0, zh3, zh3, ?_, ?_, rfl, rfl, rfl⟩
  · refine (zcal_go (M := M_ST_delete) rfl rfl rfl).trans ?_
    show zloop zmt (zcal zmt 100000 8 398) 9 398 none M_ST_delete 100000 (0, [(0, .ref 0), (1, .int 1), (2, .int r)], []) zh3 = _
    refine (zq1 (q := ((1, [(0, .ref 0), (1, .int 1), (2, .int r)], [.ref 0]), zh3)) rfl rfl rfl).trans ?_
    refine (zq1 (q := ((2, [(0, .ref 0), (1, .int 1), (2, .int r)], [.int 1, .ref 0]), zh3)) rfl rfl rfl).trans ?_
    refine (zq1 (q := ((3, [(0, .ref 0), (1, .int 1), (2, .int r)], [.int r, .int 1, .ref 0]), zh3)) rfl rfl rfl).trans ?_
    have hc : zcal zmt 100000 8 398 39 [.ref 0, .int 1, .int r] zh3 = some (some (.null), zh3) := by
      refine (zcal_go (M := M_ST_placeOf) rfl rfl rfl).trans ?_
      show zloop zmt (zcal zmt 100000 7 376) 8 376 none M_ST_placeOf 100000 (0, [(0, .ref 0), (1, .int 1), (2, .int r)], []) zh3 = _
      refine (zq1 (q := ((1, [(0, .ref 0), (1, .int 1), (2, .int r)], [.int 1]), zh3)) rfl rfl rfl).trans ?_
      have hc : zcal zmt 100000 7 376 29 [.int 1] zh3 = some (some (.int 1), zh3) := zreq_ok (by decide +kernel)
      refine (zqc 0 (s' := (4, [(0, .ref 0), (1, .int 1), (2, .int r)], [.int 1])) rfl rfl rfl rfl rfl rfl hc rfl).trans ?_
      refine (zq1 (q := ((7, [(0, .ref 0), (1, .int 1), (2, .int r)], []), zh3)) rfl rfl rfl).trans ?_
      refine (zq1 (q := ((8, [(0, .ref 0), (1, .int 1), (2, .int r)], [.ref 0]), zh3)) rfl rfl rfl).trans ?_
      refine (zq1 (q := ((11, [(0, .ref 0), (1, .int 1), (2, .int r)], [.ref 1]), zh3)) rfl rfl rfl).trans ?_
      refine (zq1 (q := ((12, [(0, .ref 0), (1, .int 1), (2, .int r)], [.int 1, .ref 1]), zh3)) rfl rfl rfl).trans ?_
      refine (zq1 (q := ((13, [(0, .ref 0), (1, .int 1), (2, .int r)], [.ref 26]), zh3)) rfl rfl rfl).trans ?_
      refine (zq1 (q := ((14, [(0, .ref 0), (1, .int 1), (2, .int r)], [.int r, .ref 26]), zh3)) rfl rfl rfl).trans ?_
      have hc : zcal zmt 100000 7 376 40 [.ref 26, .int r] zh3 = some (some (.null), zh3) := by
        refine (zcal_go (M := M_Ta_placeAt) rfl rfl rfl).trans ?_
        show zloop zmt (zcal zmt 100000 6 355) 7 355 none M_Ta_placeAt 100000 (0, [(0, .ref 26), (1, .int r)], []) zh3 = _
        refine (zq1 (q := ((1, [(0, .ref 26), (1, .int r)], [.int r]), zh3)) rfl rfl rfl).trans ?_
        refine (zqb (q := (4, [(0, .ref 26), (1, .int r)], [])) (cB := zc .lt r (0)) (v := false) (off := 18) (lv := [(0, .ref 26), (1, .int r)]) (r := []) rfl rfl rfl (zcb .lt (x := r) (y := (0)) (k := 0) (by decide) (decide_eq_false (by omega))) rfl).trans ?_
        refine (zq1 (q := ((5, [(0, .ref 26), (1, .int r)], [.int r]), zh3)) rfl rfl rfl).trans ?_
        refine (zq1 (q := ((7, [(0, .ref 26), (1, .int r)], [.int 16, .int r]), zh3)) rfl rfl rfl).trans ?_
        refine (zqb (q := (19, [(0, .ref 26), (1, .int r)], [])) (cB := zc .ge r (16)) (v := true) (off := 12) (lv := [(0, .ref 26), (1, .int r)]) (r := []) rfl rfl rfl (zcb .ge (x := r) (y := (16)) (k := 16) (by decide) (decide_eq_true (by omega))) rfl).trans ?_
        refine (zq1 (q := ((20, [(0, .ref 26), (1, .int r)], [.null]), zh3)) rfl rfl rfl).trans ?_
        exact zqr rfl rfl
      refine (zqc 1 (s' := (17, [(0, .ref 0), (1, .int 1), (2, .int r)], [.null])) rfl rfl rfl rfl rfl rfl hc rfl).trans ?_
      refine (zq1 (q := ((21, [(0, .ref 0), (1, .int 1), (2, .int r)], [.null]), zh3)) rfl rfl rfl).trans ?_
      exact zqr rfl rfl
    refine (zqc 1 (s' := (6, [(0, .ref 0), (1, .int 1), (2, .int r)], [.null])) rfl rfl rfl rfl rfl rfl hc rfl).trans ?_
    refine (zq1 (q := ((9, [(0, .ref 0), (1, .int 1), (2, .int r)], []), zh3)) rfl rfl rfl).trans ?_
    refine (zq1 (q := ((10, [(0, .ref 0), (1, .int 1), (2, .int r)], [.int 0]), zh3)) rfl rfl rfl).trans ?_
    exact zqr rfl rfl
  · refine (zcal_go (M := M_Mo_delete) rfl rfl rfl).trans ?_
    show zloop zmt (zcal zmt 100000 8 397) 9 397 none M_Mo_delete 100000 (0, [(0, .ref 54), (1, .int 1), (2, .int r)], []) zh3 = _
    refine (zq1 (q := ((1, [(0, .ref 54), (1, .int 1), (2, .int r)], [.ref 54]), zh3)) rfl rfl rfl).trans ?_
    refine (zq1 (q := ((2, [(0, .ref 54), (1, .int 1), (2, .int r)], [.int 1, .ref 54]), zh3)) rfl rfl rfl).trans ?_
    refine (zq1 (q := ((3, [(0, .ref 54), (1, .int 1), (2, .int r)], [.int r, .int 1, .ref 54]), zh3)) rfl rfl rfl).trans ?_
    have hc : zcal zmt 100000 8 397 112 [.ref 54, .int 1, .int r] zh3 = some (some (.int (-1)), zh3) := by
      refine (zcal_go (M := M_Mo_slot) rfl rfl rfl).trans ?_
      show zloop zmt (zcal zmt 100000 7 375) 8 375 none M_Mo_slot 100000 (0, [(0, .ref 54), (1, .int 1), (2, .int r)], []) zh3 = _
      refine (zq1 (q := ((1, [(0, .ref 54), (1, .int 1), (2, .int r)], [.int 1]), zh3)) rfl rfl rfl).trans ?_
      have hc : zcal zmt 100000 7 375 108 [.int 1] zh3 = some (some (.int 1), zh3) := zreq_ok (by decide +kernel)
      refine (zqc 0 (s' := (4, [(0, .ref 54), (1, .int 1), (2, .int r)], [.int 1])) rfl rfl rfl rfl rfl rfl hc rfl).trans ?_
      refine (zq1 (q := ((7, [(0, .ref 54), (1, .int 1), (2, .int r)], []), zh3)) rfl rfl rfl).trans ?_
      refine (zq1 (q := ((8, [(0, .ref 54), (1, .int 1), (2, .int r)], [.int r]), zh3)) rfl rfl rfl).trans ?_
      refine (zqb (q := (11, [(0, .ref 54), (1, .int 1), (2, .int r)], [])) (cB := zc .lt r (0)) (v := false) (off := 32) (lv := [(0, .ref 54), (1, .int 1), (2, .int r)]) (r := []) rfl rfl rfl (zcb .lt (x := r) (y := (0)) (k := 0) (by decide) (decide_eq_false (by omega))) rfl).trans ?_
      refine (zq1 (q := ((12, [(0, .ref 54), (1, .int 1), (2, .int r)], [.int r]), zh3)) rfl rfl rfl).trans ?_
      refine (zq1 (q := ((14, [(0, .ref 54), (1, .int 1), (2, .int r)], [.int 15, .int r]), zh3)) rfl rfl rfl).trans ?_
      refine (zqb (q := (40, [(0, .ref 54), (1, .int 1), (2, .int r)], [])) (cB := zc .gt r (15)) (v := true) (off := 26) (lv := [(0, .ref 54), (1, .int 1), (2, .int r)]) (r := []) rfl rfl rfl (zcb .gt (x := r) (y := (15)) (k := 15) (by decide) (decide_eq_true (by omega))) rfl).trans ?_
      refine (zq1 (q := ((41, [(0, .ref 54), (1, .int 1), (2, .int r)], [.int (-1)]), zh3)) rfl rfl rfl).trans ?_
      exact zqr rfl rfl
    refine (zqc 1 (s' := (6, [(0, .ref 54), (1, .int 1), (2, .int r)], [.int (-1)])) rfl rfl rfl rfl rfl rfl hc rfl).trans ?_
    refine (zq1 (q := ((7, [(3, .int (-1)), (0, .ref 54), (1, .int 1), (2, .int r)], []), zh3)) rfl rfl rfl).trans ?_
    refine (zq1 (q := ((8, [(3, .int (-1)), (0, .ref 54), (1, .int 1), (2, .int r)], [.int (-1)]), zh3)) rfl rfl rfl).trans ?_
    refine (zq1 (q := ((11, [(3, .int (-1)), (0, .ref 54), (1, .int 1), (2, .int r)], []), zh3)) rfl rfl rfl).trans ?_
    refine (zq1 (q := ((12, [(3, .int (-1)), (0, .ref 54), (1, .int 1), (2, .int r)], [.int 0]), zh3)) rfl rfl rfl).trans ?_
    exact zqr rfl rfl
set_option maxRecDepth 1000000 in
set_option maxHeartbeats 4000000 in
theorem zi_measure_lt (t r : Int32) (h : t.toInt < 0) : zPair 75 139 [.int t, .int r] := by
  refine ⟨(-1), zh3, zh3, ?_, ?_, rfl, rfl, rfl⟩
  · refine (zcal_go (M := M_ST_measure) rfl rfl rfl).trans ?_
    show zloop zmt (zcal zmt 100000 8 397) 9 397 none M_ST_measure 100000 (0, [(0, .ref 0), (1, .int t), (2, .int r)], []) zh3 = _
    refine (zq1 (q := ((1, [(0, .ref 0), (1, .int t), (2, .int r)], [.ref 0]), zh3)) rfl rfl rfl).trans ?_
    refine (zq1 (q := ((2, [(0, .ref 0), (1, .int t), (2, .int r)], [.int t, .ref 0]), zh3)) rfl rfl rfl).trans ?_
    refine (zq1 (q := ((3, [(0, .ref 0), (1, .int t), (2, .int r)], [.int r, .int t, .ref 0]), zh3)) rfl rfl rfl).trans ?_
    have hc : zcal zmt 100000 8 397 39 [.ref 0, .int t, .int r] zh3 = some (some (.null), zh3) := by
      refine (zcal_go (M := M_ST_placeOf) rfl rfl rfl).trans ?_
      show zloop zmt (zcal zmt 100000 7 375) 8 375 none M_ST_placeOf 100000 (0, [(0, .ref 0), (1, .int t), (2, .int r)], []) zh3 = _
      refine (zq1 (q := ((1, [(0, .ref 0), (1, .int t), (2, .int r)], [.int t]), zh3)) rfl rfl rfl).trans ?_
      have hc : zcal zmt 100000 7 375 29 [.int t] zh3 = some (some (.int 0), zh3) := by
        refine (zcal_go (M := M_ST_isTable) rfl rfl rfl).trans ?_
        show zloop zmt (zcal zmt 100000 6 355) 7 355 none M_ST_isTable 100000 (0, [(0, .int t)], []) zh3 = _
        refine (zq1 (q := ((1, [(0, .int t)], [.int t]), zh3)) rfl rfl rfl).trans ?_
        refine (zqb (q := (13, [(0, .int t)], [])) (cB := zc .lt t (0)) (v := true) (off := 12) (lv := [(0, .int t)]) (r := []) rfl rfl rfl (zcb .lt (x := t) (y := (0)) (k := 0) (by decide) (decide_eq_true (by omega))) rfl).trans ?_
        refine (zq1 (q := ((14, [(0, .int t)], [.int 0]), zh3)) rfl rfl rfl).trans ?_
        exact zqr rfl rfl
      refine (zqc 0 (s' := (4, [(0, .ref 0), (1, .int t), (2, .int r)], [.int 0])) rfl rfl rfl rfl rfl rfl hc rfl).trans ?_
      refine (zq1 (q := ((20, [(0, .ref 0), (1, .int t), (2, .int r)], []), zh3)) rfl rfl rfl).trans ?_
      refine (zq1 (q := ((21, [(0, .ref 0), (1, .int t), (2, .int r)], [.null]), zh3)) rfl rfl rfl).trans ?_
      exact zqr rfl rfl
    refine (zqc 1 (s' := (6, [(0, .ref 0), (1, .int t), (2, .int r)], [.null])) rfl rfl rfl rfl rfl rfl hc rfl).trans ?_
    refine (zq1 (q := ((7, [(3, .null), (0, .ref 0), (1, .int t), (2, .int r)], []), zh3)) rfl rfl rfl).trans ?_
    refine (zq1 (q := ((8, [(3, .null), (0, .ref 0), (1, .int t), (2, .int r)], [.null]), zh3)) rfl rfl rfl).trans ?_
    refine (zq1 (q := ((18, [(3, .null), (0, .ref 0), (1, .int t), (2, .int r)], []), zh3)) rfl rfl rfl).trans ?_
    refine (zq1 (q := ((19, [(3, .null), (0, .ref 0), (1, .int t), (2, .int r)], [.int (-1)]), zh3)) rfl rfl rfl).trans ?_
    exact zqr rfl rfl
  · refine (zcal_go (M := M_Mo_measure) rfl rfl rfl).trans ?_
    show zloop zmt (zcal zmt 100000 8 397) 9 397 none M_Mo_measure 100000 (0, [(0, .ref 54), (1, .int t), (2, .int r)], []) zh3 = _
    refine (zq1 (q := ((1, [(0, .ref 54), (1, .int t), (2, .int r)], [.ref 54]), zh3)) rfl rfl rfl).trans ?_
    refine (zq1 (q := ((2, [(0, .ref 54), (1, .int t), (2, .int r)], [.int t, .ref 54]), zh3)) rfl rfl rfl).trans ?_
    refine (zq1 (q := ((3, [(0, .ref 54), (1, .int t), (2, .int r)], [.int r, .int t, .ref 54]), zh3)) rfl rfl rfl).trans ?_
    have hc : zcal zmt 100000 8 397 112 [.ref 54, .int t, .int r] zh3 = some (some (.int (-1)), zh3) := by
      refine (zcal_go (M := M_Mo_slot) rfl rfl rfl).trans ?_
      show zloop zmt (zcal zmt 100000 7 375) 8 375 none M_Mo_slot 100000 (0, [(0, .ref 54), (1, .int t), (2, .int r)], []) zh3 = _
      refine (zq1 (q := ((1, [(0, .ref 54), (1, .int t), (2, .int r)], [.int t]), zh3)) rfl rfl rfl).trans ?_
      have hc : zcal zmt 100000 7 375 108 [.int t] zh3 = some (some (.int 0), zh3) := by
        refine (zcal_go (M := M_Mo_isTable) rfl rfl rfl).trans ?_
        show zloop zmt (zcal zmt 100000 6 355) 7 355 none M_Mo_isTable 100000 (0, [(0, .int t)], []) zh3 = _
        refine (zq1 (q := ((1, [(0, .int t)], [.int t]), zh3)) rfl rfl rfl).trans ?_
        refine (zqb (q := (4, [(0, .int t)], [])) (cB := zc .eq t (0)) (v := false) (off := 8) (lv := [(0, .int t)]) (r := []) rfl rfl rfl (zcb .eq (x := t) (y := (0)) (k := 0) (by decide) (decide_eq_false (by omega))) rfl).trans ?_
        refine (zq1 (q := ((5, [(0, .int t)], [.int t]), zh3)) rfl rfl rfl).trans ?_
        refine (zq1 (q := ((6, [(0, .int t)], [.int 1, .int t]), zh3)) rfl rfl rfl).trans ?_
        refine (zqb (q := (13, [(0, .int t)], [])) (cB := zc .ne t (1)) (v := true) (off := 7) (lv := [(0, .int t)]) (r := []) rfl rfl rfl (zcb .ne (x := t) (y := (1)) (k := 1) (by decide) (decide_eq_true (by omega))) rfl).trans ?_
        refine (zq1 (q := ((14, [(0, .int t)], [.int 0]), zh3)) rfl rfl rfl).trans ?_
        exact zqr rfl rfl
      refine (zqc 0 (s' := (4, [(0, .ref 54), (1, .int t), (2, .int r)], [.int 0])) rfl rfl rfl rfl rfl rfl hc rfl).trans ?_
      refine (zq1 (q := ((40, [(0, .ref 54), (1, .int t), (2, .int r)], []), zh3)) rfl rfl rfl).trans ?_
      refine (zq1 (q := ((41, [(0, .ref 54), (1, .int t), (2, .int r)], [.int (-1)]), zh3)) rfl rfl rfl).trans ?_
      exact zqr rfl rfl
    refine (zqc 1 (s' := (6, [(0, .ref 54), (1, .int t), (2, .int r)], [.int (-1)])) rfl rfl rfl rfl rfl rfl hc rfl).trans ?_
    refine (zq1 (q := ((7, [(3, .int (-1)), (0, .ref 54), (1, .int t), (2, .int r)], []), zh3)) rfl rfl rfl).trans ?_
    refine (zq1 (q := ((8, [(3, .int (-1)), (0, .ref 54), (1, .int t), (2, .int r)], [.int (-1)]), zh3)) rfl rfl rfl).trans ?_
    refine (zq1 (q := ((21, [(3, .int (-1)), (0, .ref 54), (1, .int t), (2, .int r)], []), zh3)) rfl rfl rfl).trans ?_
    refine (zq1 (q := ((22, [(3, .int (-1)), (0, .ref 54), (1, .int t), (2, .int r)], [.int (-1)]), zh3)) rfl rfl rfl).trans ?_
    exact zqr rfl rfl
set_option maxRecDepth 1000000 in
set_option maxHeartbeats 4000000 in
theorem zi_measure_ge (t r : Int32) (h : 2 ≤ t.toInt) : zPair 75 139 [.int t, .int r] := by
  refine ⟨(-1), zh3, zh3, ?_, ?_, rfl, rfl, rfl⟩
  · refine (zcal_go (M := M_ST_measure) rfl rfl rfl).trans ?_
    show zloop zmt (zcal zmt 100000 8 397) 9 397 none M_ST_measure 100000 (0, [(0, .ref 0), (1, .int t), (2, .int r)], []) zh3 = _
    refine (zq1 (q := ((1, [(0, .ref 0), (1, .int t), (2, .int r)], [.ref 0]), zh3)) rfl rfl rfl).trans ?_
    refine (zq1 (q := ((2, [(0, .ref 0), (1, .int t), (2, .int r)], [.int t, .ref 0]), zh3)) rfl rfl rfl).trans ?_
    refine (zq1 (q := ((3, [(0, .ref 0), (1, .int t), (2, .int r)], [.int r, .int t, .ref 0]), zh3)) rfl rfl rfl).trans ?_
    have hc : zcal zmt 100000 8 397 39 [.ref 0, .int t, .int r] zh3 = some (some (.null), zh3) := by
      refine (zcal_go (M := M_ST_placeOf) rfl rfl rfl).trans ?_
      show zloop zmt (zcal zmt 100000 7 375) 8 375 none M_ST_placeOf 100000 (0, [(0, .ref 0), (1, .int t), (2, .int r)], []) zh3 = _
      refine (zq1 (q := ((1, [(0, .ref 0), (1, .int t), (2, .int r)], [.int t]), zh3)) rfl rfl rfl).trans ?_
      have hc : zcal zmt 100000 7 375 29 [.int t] zh3 = some (some (.int 0), zh3) := by
        refine (zcal_go (M := M_ST_isTable) rfl rfl rfl).trans ?_
        show zloop zmt (zcal zmt 100000 6 355) 7 355 none M_ST_isTable 100000 (0, [(0, .int t)], []) zh3 = _
        refine (zq1 (q := ((1, [(0, .int t)], [.int t]), zh3)) rfl rfl rfl).trans ?_
        refine (zqb (q := (4, [(0, .int t)], [])) (cB := zc .lt t (0)) (v := false) (off := 12) (lv := [(0, .int t)]) (r := []) rfl rfl rfl (zcb .lt (x := t) (y := (0)) (k := 0) (by decide) (decide_eq_false (by omega))) rfl).trans ?_
        refine (zq1 (q := ((5, [(0, .int t)], [.int t]), zh3)) rfl rfl rfl).trans ?_
        refine (zq1 (q := ((6, [(0, .int t)], [.int 2, .int t]), zh3)) rfl rfl rfl).trans ?_
        refine (zqb (q := (13, [(0, .int t)], [])) (cB := zc .ge t (2)) (v := true) (off := 7) (lv := [(0, .int t)]) (r := []) rfl rfl rfl (zcb .ge (x := t) (y := (2)) (k := 2) (by decide) (decide_eq_true (by omega))) rfl).trans ?_
        refine (zq1 (q := ((14, [(0, .int t)], [.int 0]), zh3)) rfl rfl rfl).trans ?_
        exact zqr rfl rfl
      refine (zqc 0 (s' := (4, [(0, .ref 0), (1, .int t), (2, .int r)], [.int 0])) rfl rfl rfl rfl rfl rfl hc rfl).trans ?_
      refine (zq1 (q := ((20, [(0, .ref 0), (1, .int t), (2, .int r)], []), zh3)) rfl rfl rfl).trans ?_
      refine (zq1 (q := ((21, [(0, .ref 0), (1, .int t), (2, .int r)], [.null]), zh3)) rfl rfl rfl).trans ?_
      exact zqr rfl rfl
    refine (zqc 1 (s' := (6, [(0, .ref 0), (1, .int t), (2, .int r)], [.null])) rfl rfl rfl rfl rfl rfl hc rfl).trans ?_
    refine (zq1 (q := ((7, [(3, .null), (0, .ref 0), (1, .int t), (2, .int r)], []), zh3)) rfl rfl rfl).trans ?_
    refine (zq1 (q := ((8, [(3, .null), (0, .ref 0), (1, .int t), (2, .int r)], [.null]), zh3)) rfl rfl rfl).trans ?_
    refine (zq1 (q := ((18, [(3, .null), (0, .ref 0), (1, .int t), (2, .int r)], []), zh3)) rfl rfl rfl).trans ?_
    refine (zq1 (q := ((19, [(3, .null), (0, .ref 0), (1, .int t), (2, .int r)], [.int (-1)]), zh3)) rfl rfl rfl).trans ?_
    exact zqr rfl rfl
  · refine (zcal_go (M := M_Mo_measure) rfl rfl rfl).trans ?_
    show zloop zmt (zcal zmt 100000 8 397) 9 397 none M_Mo_measure 100000 (0, [(0, .ref 54), (1, .int t), (2, .int r)], []) zh3 = _
    refine (zq1 (q := ((1, [(0, .ref 54), (1, .int t), (2, .int r)], [.ref 54]), zh3)) rfl rfl rfl).trans ?_
    refine (zq1 (q := ((2, [(0, .ref 54), (1, .int t), (2, .int r)], [.int t, .ref 54]), zh3)) rfl rfl rfl).trans ?_
    refine (zq1 (q := ((3, [(0, .ref 54), (1, .int t), (2, .int r)], [.int r, .int t, .ref 54]), zh3)) rfl rfl rfl).trans ?_
    have hc : zcal zmt 100000 8 397 112 [.ref 54, .int t, .int r] zh3 = some (some (.int (-1)), zh3) := by
      refine (zcal_go (M := M_Mo_slot) rfl rfl rfl).trans ?_
      show zloop zmt (zcal zmt 100000 7 375) 8 375 none M_Mo_slot 100000 (0, [(0, .ref 54), (1, .int t), (2, .int r)], []) zh3 = _
      refine (zq1 (q := ((1, [(0, .ref 54), (1, .int t), (2, .int r)], [.int t]), zh3)) rfl rfl rfl).trans ?_
      have hc : zcal zmt 100000 7 375 108 [.int t] zh3 = some (some (.int 0), zh3) := by
        refine (zcal_go (M := M_Mo_isTable) rfl rfl rfl).trans ?_
        show zloop zmt (zcal zmt 100000 6 355) 7 355 none M_Mo_isTable 100000 (0, [(0, .int t)], []) zh3 = _
        refine (zq1 (q := ((1, [(0, .int t)], [.int t]), zh3)) rfl rfl rfl).trans ?_
        refine (zqb (q := (4, [(0, .int t)], [])) (cB := zc .eq t (0)) (v := false) (off := 8) (lv := [(0, .int t)]) (r := []) rfl rfl rfl (zcb .eq (x := t) (y := (0)) (k := 0) (by decide) (decide_eq_false (by omega))) rfl).trans ?_
        refine (zq1 (q := ((5, [(0, .int t)], [.int t]), zh3)) rfl rfl rfl).trans ?_
        refine (zq1 (q := ((6, [(0, .int t)], [.int 1, .int t]), zh3)) rfl rfl rfl).trans ?_
        refine (zqb (q := (13, [(0, .int t)], [])) (cB := zc .ne t (1)) (v := true) (off := 7) (lv := [(0, .int t)]) (r := []) rfl rfl rfl (zcb .ne (x := t) (y := (1)) (k := 1) (by decide) (decide_eq_true (by omega))) rfl).trans ?_
        refine (zq1 (q := ((14, [(0, .int t)], [.int 0]), zh3)) rfl rfl rfl).trans ?_
        exact zqr rfl rfl
      refine (zqc 0 (s' := (4, [(0, .ref 54), (1, .int t), (2, .int r)], [.int 0])) rfl rfl rfl rfl rfl rfl hc rfl).trans ?_
      refine (zq1 (q := ((40, [(0, .ref 54), (1, .int t), (2, .int r)], []), zh3)) rfl rfl rfl).trans ?_
      refine (zq1 (q := ((41, [(0, .ref 54), (1, .int t), (2, .int r)], [.int (-1)]), zh3)) rfl rfl rfl).trans ?_
      exact zqr rfl rfl
    refine (zqc 1 (s' := (6, [(0, .ref 54), (1, .int t), (2, .int r)], [.int (-1)])) rfl rfl rfl rfl rfl rfl hc rfl).trans ?_
    refine (zq1 (q := ((7, [(3, .int (-1)), (0, .ref 54), (1, .int t), (2, .int r)], []), zh3)) rfl rfl rfl).trans ?_
    refine (zq1 (q := ((8, [(3, .int (-1)), (0, .ref 54), (1, .int t), (2, .int r)], [.int (-1)]), zh3)) rfl rfl rfl).trans ?_
    refine (zq1 (q := ((21, [(3, .int (-1)), (0, .ref 54), (1, .int t), (2, .int r)], []), zh3)) rfl rfl rfl).trans ?_
    refine (zq1 (q := ((22, [(3, .int (-1)), (0, .ref 54), (1, .int t), (2, .int r)], [.int (-1)]), zh3)) rfl rfl rfl).trans ?_
    exact zqr rfl rfl
set_option maxRecDepth 1000000 in
set_option maxHeartbeats 4000000 in
theorem zi_measure_0_lt (r : Int32) (h : r.toInt < 0) : zPair 75 139 [.int 0, .int r] := by
  refine ⟨(-1), zh3, zh3, ?_, ?_, rfl, rfl, rfl⟩
  · refine (zcal_go (M := M_ST_measure) rfl rfl rfl).trans ?_
    show zloop zmt (zcal zmt 100000 8 397) 9 397 none M_ST_measure 100000 (0, [(0, .ref 0), (1, .int 0), (2, .int r)], []) zh3 = _
    refine (zq1 (q := ((1, [(0, .ref 0), (1, .int 0), (2, .int r)], [.ref 0]), zh3)) rfl rfl rfl).trans ?_
    refine (zq1 (q := ((2, [(0, .ref 0), (1, .int 0), (2, .int r)], [.int 0, .ref 0]), zh3)) rfl rfl rfl).trans ?_
    refine (zq1 (q := ((3, [(0, .ref 0), (1, .int 0), (2, .int r)], [.int r, .int 0, .ref 0]), zh3)) rfl rfl rfl).trans ?_
    have hc : zcal zmt 100000 8 397 39 [.ref 0, .int 0, .int r] zh3 = some (some (.null), zh3) := by
      refine (zcal_go (M := M_ST_placeOf) rfl rfl rfl).trans ?_
      show zloop zmt (zcal zmt 100000 7 375) 8 375 none M_ST_placeOf 100000 (0, [(0, .ref 0), (1, .int 0), (2, .int r)], []) zh3 = _
      refine (zq1 (q := ((1, [(0, .ref 0), (1, .int 0), (2, .int r)], [.int 0]), zh3)) rfl rfl rfl).trans ?_
      have hc : zcal zmt 100000 7 375 29 [.int 0] zh3 = some (some (.int 1), zh3) := zreq_ok (by decide +kernel)
      refine (zqc 0 (s' := (4, [(0, .ref 0), (1, .int 0), (2, .int r)], [.int 1])) rfl rfl rfl rfl rfl rfl hc rfl).trans ?_
      refine (zq1 (q := ((7, [(0, .ref 0), (1, .int 0), (2, .int r)], []), zh3)) rfl rfl rfl).trans ?_
      refine (zq1 (q := ((8, [(0, .ref 0), (1, .int 0), (2, .int r)], [.ref 0]), zh3)) rfl rfl rfl).trans ?_
      refine (zq1 (q := ((11, [(0, .ref 0), (1, .int 0), (2, .int r)], [.ref 1]), zh3)) rfl rfl rfl).trans ?_
      refine (zq1 (q := ((12, [(0, .ref 0), (1, .int 0), (2, .int r)], [.int 0, .ref 1]), zh3)) rfl rfl rfl).trans ?_
      refine (zq1 (q := ((13, [(0, .ref 0), (1, .int 0), (2, .int r)], [.ref 14]), zh3)) rfl rfl rfl).trans ?_
      refine (zq1 (q := ((14, [(0, .ref 0), (1, .int 0), (2, .int r)], [.int r, .ref 14]), zh3)) rfl rfl rfl).trans ?_
      have hc : zcal zmt 100000 7 375 40 [.ref 14, .int r] zh3 = some (some (.null), zh3) := by
        refine (zcal_go (M := M_Ta_placeAt) rfl rfl rfl).trans ?_
        show zloop zmt (zcal zmt 100000 6 354) 7 354 none M_Ta_placeAt 100000 (0, [(0, .ref 14), (1, .int r)], []) zh3 = _
        refine (zq1 (q := ((1, [(0, .ref 14), (1, .int r)], [.int r]), zh3)) rfl rfl rfl).trans ?_
        refine (zqb (q := (19, [(0, .ref 14), (1, .int r)], [])) (cB := zc .lt r (0)) (v := true) (off := 18) (lv := [(0, .ref 14), (1, .int r)]) (r := []) rfl rfl rfl (zcb .lt (x := r) (y := (0)) (k := 0) (by decide) (decide_eq_true (by omega))) rfl).trans ?_
        refine (zq1 (q := ((20, [(0, .ref 14), (1, .int r)], [.null]), zh3)) rfl rfl rfl).trans ?_
        exact zqr rfl rfl
      refine (zqc 1 (s' := (17, [(0, .ref 0), (1, .int 0), (2, .int r)], [.null])) rfl rfl rfl rfl rfl rfl hc rfl).trans ?_
      refine (zq1 (q := ((21, [(0, .ref 0), (1, .int 0), (2, .int r)], [.null]), zh3)) rfl rfl rfl).trans ?_
      exact zqr rfl rfl
    refine (zqc 1 (s' := (6, [(0, .ref 0), (1, .int 0), (2, .int r)], [.null])) rfl rfl rfl rfl rfl rfl hc rfl).trans ?_
    refine (zq1 (q := ((7, [(3, .null), (0, .ref 0), (1, .int 0), (2, .int r)], []), zh3)) rfl rfl rfl).trans ?_
    refine (zq1 (q := ((8, [(3, .null), (0, .ref 0), (1, .int 0), (2, .int r)], [.null]), zh3)) rfl rfl rfl).trans ?_
    refine (zq1 (q := ((18, [(3, .null), (0, .ref 0), (1, .int 0), (2, .int r)], []), zh3)) rfl rfl rfl).trans ?_
    refine (zq1 (q := ((19, [(3, .null), (0, .ref 0), (1, .int 0), (2, .int r)], [.int (-1)]), zh3)) rfl rfl rfl).trans ?_
    exact zqr rfl rfl
  · refine (zcal_go (M := M_Mo_measure) rfl rfl rfl).trans ?_
    show zloop zmt (zcal zmt 100000 8 397) 9 397 none M_Mo_measure 100000 (0, [(0, .ref 54), (1, .int 0), (2, .int r)], []) zh3 = _
    refine (zq1 (q := ((1, [(0, .ref 54), (1, .int 0), (2, .int r)], [.ref 54]), zh3)) rfl rfl rfl).trans ?_
    refine (zq1 (q := ((2, [(0, .ref 54), (1, .int 0), (2, .int r)], [.int 0, .ref 54]), zh3)) rfl rfl rfl).trans ?_
    refine (zq1 (q := ((3, [(0, .ref 54), (1, .int 0), (2, .int r)], [.int r, .int 0, .ref 54]), zh3)) rfl rfl rfl).trans ?_
    have hc : zcal zmt 100000 8 397 112 [.ref 54, .int 0, .int r] zh3 = some (some (.int (-1)), zh3) := by
      refine (zcal_go (M := M_Mo_slot) rfl rfl rfl).trans ?_
      show zloop zmt (zcal zmt 100000 7 375) 8 375 none M_Mo_slot 100000 (0, [(0, .ref 54), (1, .int 0), (2, .int r)], []) zh3 = _
      refine (zq1 (q := ((1, [(0, .ref 54), (1, .int 0), (2, .int r)], [.int 0]), zh3)) rfl rfl rfl).trans ?_
      have hc : zcal zmt 100000 7 375 108 [.int 0] zh3 = some (some (.int 1), zh3) := zreq_ok (by decide +kernel)
      refine (zqc 0 (s' := (4, [(0, .ref 54), (1, .int 0), (2, .int r)], [.int 1])) rfl rfl rfl rfl rfl rfl hc rfl).trans ?_
      refine (zq1 (q := ((7, [(0, .ref 54), (1, .int 0), (2, .int r)], []), zh3)) rfl rfl rfl).trans ?_
      refine (zq1 (q := ((8, [(0, .ref 54), (1, .int 0), (2, .int r)], [.int r]), zh3)) rfl rfl rfl).trans ?_
      refine (zqb (q := (40, [(0, .ref 54), (1, .int 0), (2, .int r)], [])) (cB := zc .lt r (0)) (v := true) (off := 32) (lv := [(0, .ref 54), (1, .int 0), (2, .int r)]) (r := []) rfl rfl rfl (zcb .lt (x := r) (y := (0)) (k := 0) (by decide) (decide_eq_true (by omega))) rfl).trans ?_
      refine (zq1 (q := ((41, [(0, .ref 54), (1, .int 0), (2, .int r)], [.int (-1)]), zh3)) rfl rfl rfl).trans ?_
      exact zqr rfl rfl
    refine (zqc 1 (s' := (6, [(0, .ref 54), (1, .int 0), (2, .int r)], [.int (-1)])) rfl rfl rfl rfl rfl rfl hc rfl).trans ?_
    refine (zq1 (q := ((7, [(3, .int (-1)), (0, .ref 54), (1, .int 0), (2, .int r)], []), zh3)) rfl rfl rfl).trans ?_
    refine (zq1 (q := ((8, [(3, .int (-1)), (0, .ref 54), (1, .int 0), (2, .int r)], [.int (-1)]), zh3)) rfl rfl rfl).trans ?_
    refine (zq1 (q := ((21, [(3, .int (-1)), (0, .ref 54), (1, .int 0), (2, .int r)], []), zh3)) rfl rfl rfl).trans ?_
    refine (zq1 (q := ((22, [(3, .int (-1)), (0, .ref 54), (1, .int 0), (2, .int r)], [.int (-1)]), zh3)) rfl rfl rfl).trans ?_
    exact zqr rfl rfl
set_option maxRecDepth 1000000 in
set_option maxHeartbeats 4000000 in
theorem zi_measure_0_ge (r : Int32) (h : 16 ≤ r.toInt) : zPair 75 139 [.int 0, .int r] := by
  refine ⟨(-1), zh3, zh3, ?_, ?_, rfl, rfl, rfl⟩
  · refine (zcal_go (M := M_ST_measure) rfl rfl rfl).trans ?_
    show zloop zmt (zcal zmt 100000 8 397) 9 397 none M_ST_measure 100000 (0, [(0, .ref 0), (1, .int 0), (2, .int r)], []) zh3 = _
    refine (zq1 (q := ((1, [(0, .ref 0), (1, .int 0), (2, .int r)], [.ref 0]), zh3)) rfl rfl rfl).trans ?_
    refine (zq1 (q := ((2, [(0, .ref 0), (1, .int 0), (2, .int r)], [.int 0, .ref 0]), zh3)) rfl rfl rfl).trans ?_
    refine (zq1 (q := ((3, [(0, .ref 0), (1, .int 0), (2, .int r)], [.int r, .int 0, .ref 0]), zh3)) rfl rfl rfl).trans ?_
    have hc : zcal zmt 100000 8 397 39 [.ref 0, .int 0, .int r] zh3 = some (some (.null), zh3) := by
      refine (zcal_go (M := M_ST_placeOf) rfl rfl rfl).trans ?_
      show zloop zmt (zcal zmt 100000 7 375) 8 375 none M_ST_placeOf 100000 (0, [(0, .ref 0), (1, .int 0), (2, .int r)], []) zh3 = _
      refine (zq1 (q := ((1, [(0, .ref 0), (1, .int 0), (2, .int r)], [.int 0]), zh3)) rfl rfl rfl).trans ?_
      have hc : zcal zmt 100000 7 375 29 [.int 0] zh3 = some (some (.int 1), zh3) := zreq_ok (by decide +kernel)
      refine (zqc 0 (s' := (4, [(0, .ref 0), (1, .int 0), (2, .int r)], [.int 1])) rfl rfl rfl rfl rfl rfl hc rfl).trans ?_
      refine (zq1 (q := ((7, [(0, .ref 0), (1, .int 0), (2, .int r)], []), zh3)) rfl rfl rfl).trans ?_
      refine (zq1 (q := ((8, [(0, .ref 0), (1, .int 0), (2, .int r)], [.ref 0]), zh3)) rfl rfl rfl).trans ?_
      refine (zq1 (q := ((11, [(0, .ref 0), (1, .int 0), (2, .int r)], [.ref 1]), zh3)) rfl rfl rfl).trans ?_
      refine (zq1 (q := ((12, [(0, .ref 0), (1, .int 0), (2, .int r)], [.int 0, .ref 1]), zh3)) rfl rfl rfl).trans ?_
      refine (zq1 (q := ((13, [(0, .ref 0), (1, .int 0), (2, .int r)], [.ref 14]), zh3)) rfl rfl rfl).trans ?_
      refine (zq1 (q := ((14, [(0, .ref 0), (1, .int 0), (2, .int r)], [.int r, .ref 14]), zh3)) rfl rfl rfl).trans ?_
      have hc : zcal zmt 100000 7 375 40 [.ref 14, .int r] zh3 = some (some (.null), zh3) := by
        refine (zcal_go (M := M_Ta_placeAt) rfl rfl rfl).trans ?_
        show zloop zmt (zcal zmt 100000 6 354) 7 354 none M_Ta_placeAt 100000 (0, [(0, .ref 14), (1, .int r)], []) zh3 = _
        refine (zq1 (q := ((1, [(0, .ref 14), (1, .int r)], [.int r]), zh3)) rfl rfl rfl).trans ?_
        refine (zqb (q := (4, [(0, .ref 14), (1, .int r)], [])) (cB := zc .lt r (0)) (v := false) (off := 18) (lv := [(0, .ref 14), (1, .int r)]) (r := []) rfl rfl rfl (zcb .lt (x := r) (y := (0)) (k := 0) (by decide) (decide_eq_false (by omega))) rfl).trans ?_
        refine (zq1 (q := ((5, [(0, .ref 14), (1, .int r)], [.int r]), zh3)) rfl rfl rfl).trans ?_
        refine (zq1 (q := ((7, [(0, .ref 14), (1, .int r)], [.int 16, .int r]), zh3)) rfl rfl rfl).trans ?_
        refine (zqb (q := (19, [(0, .ref 14), (1, .int r)], [])) (cB := zc .ge r (16)) (v := true) (off := 12) (lv := [(0, .ref 14), (1, .int r)]) (r := []) rfl rfl rfl (zcb .ge (x := r) (y := (16)) (k := 16) (by decide) (decide_eq_true (by omega))) rfl).trans ?_
        refine (zq1 (q := ((20, [(0, .ref 14), (1, .int r)], [.null]), zh3)) rfl rfl rfl).trans ?_
        exact zqr rfl rfl
      refine (zqc 1 (s' := (17, [(0, .ref 0), (1, .int 0), (2, .int r)], [.null])) rfl rfl rfl rfl rfl rfl hc rfl).trans ?_
      refine (zq1 (q := ((21, [(0, .ref 0), (1, .int 0), (2, .int r)], [.null]), zh3)) rfl rfl rfl).trans ?_
      exact zqr rfl rfl
    refine (zqc 1 (s' := (6, [(0, .ref 0), (1, .int 0), (2, .int r)], [.null])) rfl rfl rfl rfl rfl rfl hc rfl).trans ?_
    refine (zq1 (q := ((7, [(3, .null), (0, .ref 0), (1, .int 0), (2, .int r)], []), zh3)) rfl rfl rfl).trans ?_
    refine (zq1 (q := ((8, [(3, .null), (0, .ref 0), (1, .int 0), (2, .int r)], [.null]), zh3)) rfl rfl rfl).trans ?_
    refine (zq1 (q := ((18, [(3, .null), (0, .ref 0), (1, .int 0), (2, .int r)], []), zh3)) rfl rfl rfl).trans ?_
    refine (zq1 (q := ((19, [(3, .null), (0, .ref 0), (1, .int 0), (2, .int r)], [.int (-1)]), zh3)) rfl rfl rfl).trans ?_
    exact zqr rfl rfl
  · refine (zcal_go (M := M_Mo_measure) rfl rfl rfl).trans ?_
    show zloop zmt (zcal zmt 100000 8 397) 9 397 none M_Mo_measure 100000 (0, [(0, .ref 54), (1, .int 0), (2, .int r)], []) zh3 = _
    refine (zq1 (q := ((1, [(0, .ref 54), (1, .int 0), (2, .int r)], [.ref 54]), zh3)) rfl rfl rfl).trans ?_
    refine (zq1 (q := ((2, [(0, .ref 54), (1, .int 0), (2, .int r)], [.int 0, .ref 54]), zh3)) rfl rfl rfl).trans ?_
    refine (zq1 (q := ((3, [(0, .ref 54), (1, .int 0), (2, .int r)], [.int r, .int 0, .ref 54]), zh3)) rfl rfl rfl).trans ?_
    have hc : zcal zmt 100000 8 397 112 [.ref 54, .int 0, .int r] zh3 = some (some (.int (-1)), zh3) := by
      refine (zcal_go (M := M_Mo_slot) rfl rfl rfl).trans ?_
      show zloop zmt (zcal zmt 100000 7 375) 8 375 none M_Mo_slot 100000 (0, [(0, .ref 54), (1, .int 0), (2, .int r)], []) zh3 = _
      refine (zq1 (q := ((1, [(0, .ref 54), (1, .int 0), (2, .int r)], [.int 0]), zh3)) rfl rfl rfl).trans ?_
      have hc : zcal zmt 100000 7 375 108 [.int 0] zh3 = some (some (.int 1), zh3) := zreq_ok (by decide +kernel)
      refine (zqc 0 (s' := (4, [(0, .ref 54), (1, .int 0), (2, .int r)], [.int 1])) rfl rfl rfl rfl rfl rfl hc rfl).trans ?_
      refine (zq1 (q := ((7, [(0, .ref 54), (1, .int 0), (2, .int r)], []), zh3)) rfl rfl rfl).trans ?_
      refine (zq1 (q := ((8, [(0, .ref 54), (1, .int 0), (2, .int r)], [.int r]), zh3)) rfl rfl rfl).trans ?_
      refine (zqb (q := (11, [(0, .ref 54), (1, .int 0), (2, .int r)], [])) (cB := zc .lt r (0)) (v := false) (off := 32) (lv := [(0, .ref 54), (1, .int 0), (2, .int r)]) (r := []) rfl rfl rfl (zcb .lt (x := r) (y := (0)) (k := 0) (by decide) (decide_eq_false (by omega))) rfl).trans ?_
      refine (zq1 (q := ((12, [(0, .ref 54), (1, .int 0), (2, .int r)], [.int r]), zh3)) rfl rfl rfl).trans ?_
      refine (zq1 (q := ((14, [(0, .ref 54), (1, .int 0), (2, .int r)], [.int 15, .int r]), zh3)) rfl rfl rfl).trans ?_
      refine (zqb (q := (40, [(0, .ref 54), (1, .int 0), (2, .int r)], [])) (cB := zc .gt r (15)) (v := true) (off := 26) (lv := [(0, .ref 54), (1, .int 0), (2, .int r)]) (r := []) rfl rfl rfl (zcb .gt (x := r) (y := (15)) (k := 15) (by decide) (decide_eq_true (by omega))) rfl).trans ?_
      refine (zq1 (q := ((41, [(0, .ref 54), (1, .int 0), (2, .int r)], [.int (-1)]), zh3)) rfl rfl rfl).trans ?_
      exact zqr rfl rfl
    refine (zqc 1 (s' := (6, [(0, .ref 54), (1, .int 0), (2, .int r)], [.int (-1)])) rfl rfl rfl rfl rfl rfl hc rfl).trans ?_
    refine (zq1 (q := ((7, [(3, .int (-1)), (0, .ref 54), (1, .int 0), (2, .int r)], []), zh3)) rfl rfl rfl).trans ?_
    refine (zq1 (q := ((8, [(3, .int (-1)), (0, .ref 54), (1, .int 0), (2, .int r)], [.int (-1)]), zh3)) rfl rfl rfl).trans ?_
    refine (zq1 (q := ((21, [(3, .int (-1)), (0, .ref 54), (1, .int 0), (2, .int r)], []), zh3)) rfl rfl rfl).trans ?_
    refine (zq1 (q := ((22, [(3, .int (-1)), (0, .ref 54), (1, .int 0), (2, .int r)], [.int (-1)]), zh3)) rfl rfl rfl).trans ?_
    exact zqr rfl rfl
set_option maxRecDepth 1000000 in
set_option maxHeartbeats 4000000 in
theorem zi_measure_1_lt (r : Int32) (h : r.toInt < 0) : zPair 75 139 [.int 1, .int r] := by
  refine ⟨(-1), zh3, zh3, ?_, ?_, rfl, rfl, rfl⟩
  · refine (zcal_go (M := M_ST_measure) rfl rfl rfl).trans ?_
    show zloop zmt (zcal zmt 100000 8 397) 9 397 none M_ST_measure 100000 (0, [(0, .ref 0), (1, .int 1), (2, .int r)], []) zh3 = _
    refine (zq1 (q := ((1, [(0, .ref 0), (1, .int 1), (2, .int r)], [.ref 0]), zh3)) rfl rfl rfl).trans ?_
    refine (zq1 (q := ((2, [(0, .ref 0), (1, .int 1), (2, .int r)], [.int 1, .ref 0]), zh3)) rfl rfl rfl).trans ?_
    refine (zq1 (q := ((3, [(0, .ref 0), (1, .int 1), (2, .int r)], [.int r, .int 1, .ref 0]), zh3)) rfl rfl rfl).trans ?_
    have hc : zcal zmt 100000 8 397 39 [.ref 0, .int 1, .int r] zh3 = some (some (.null), zh3) := by
      refine (zcal_go (M := M_ST_placeOf) rfl rfl rfl).trans ?_
      show zloop zmt (zcal zmt 100000 7 375) 8 375 none M_ST_placeOf 100000 (0, [(0, .ref 0), (1, .int 1), (2, .int r)], []) zh3 = _
      refine (zq1 (q := ((1, [(0, .ref 0), (1, .int 1), (2, .int r)], [.int 1]), zh3)) rfl rfl rfl).trans ?_
      have hc : zcal zmt 100000 7 375 29 [.int 1] zh3 = some (some (.int 1), zh3) := zreq_ok (by decide +kernel)
      refine (zqc 0 (s' := (4, [(0, .ref 0), (1, .int 1), (2, .int r)], [.int 1])) rfl rfl rfl rfl rfl rfl hc rfl).trans ?_
      refine (zq1 (q := ((7, [(0, .ref 0), (1, .int 1), (2, .int r)], []), zh3)) rfl rfl rfl).trans ?_
      refine (zq1 (q := ((8, [(0, .ref 0), (1, .int 1), (2, .int r)], [.ref 0]), zh3)) rfl rfl rfl).trans ?_
      refine (zq1 (q := ((11, [(0, .ref 0), (1, .int 1), (2, .int r)], [.ref 1]), zh3)) rfl rfl rfl).trans ?_
      refine (zq1 (q := ((12, [(0, .ref 0), (1, .int 1), (2, .int r)], [.int 1, .ref 1]), zh3)) rfl rfl rfl).trans ?_
      refine (zq1 (q := ((13, [(0, .ref 0), (1, .int 1), (2, .int r)], [.ref 26]), zh3)) rfl rfl rfl).trans ?_
      refine (zq1 (q := ((14, [(0, .ref 0), (1, .int 1), (2, .int r)], [.int r, .ref 26]), zh3)) rfl rfl rfl).trans ?_
      have hc : zcal zmt 100000 7 375 40 [.ref 26, .int r] zh3 = some (some (.null), zh3) := by
        refine (zcal_go (M := M_Ta_placeAt) rfl rfl rfl).trans ?_
        show zloop zmt (zcal zmt 100000 6 354) 7 354 none M_Ta_placeAt 100000 (0, [(0, .ref 26), (1, .int r)], []) zh3 = _
        refine (zq1 (q := ((1, [(0, .ref 26), (1, .int r)], [.int r]), zh3)) rfl rfl rfl).trans ?_
        refine (zqb (q := (19, [(0, .ref 26), (1, .int r)], [])) (cB := zc .lt r (0)) (v := true) (off := 18) (lv := [(0, .ref 26), (1, .int r)]) (r := []) rfl rfl rfl (zcb .lt (x := r) (y := (0)) (k := 0) (by decide) (decide_eq_true (by omega))) rfl).trans ?_
        refine (zq1 (q := ((20, [(0, .ref 26), (1, .int r)], [.null]), zh3)) rfl rfl rfl).trans ?_
        exact zqr rfl rfl
      refine (zqc 1 (s' := (17, [(0, .ref 0), (1, .int 1), (2, .int r)], [.null])) rfl rfl rfl rfl rfl rfl hc rfl).trans ?_
      refine (zq1 (q := ((21, [(0, .ref 0), (1, .int 1), (2, .int r)], [.null]), zh3)) rfl rfl rfl).trans ?_
      exact zqr rfl rfl
    refine (zqc 1 (s' := (6, [(0, .ref 0), (1, .int 1), (2, .int r)], [.null])) rfl rfl rfl rfl rfl rfl hc rfl).trans ?_
    refine (zq1 (q := ((7, [(3, .null), (0, .ref 0), (1, .int 1), (2, .int r)], []), zh3)) rfl rfl rfl).trans ?_
    refine (zq1 (q := ((8, [(3, .null), (0, .ref 0), (1, .int 1), (2, .int r)], [.null]), zh3)) rfl rfl rfl).trans ?_
    refine (zq1 (q := ((18, [(3, .null), (0, .ref 0), (1, .int 1), (2, .int r)], []), zh3)) rfl rfl rfl).trans ?_
    refine (zq1 (q := ((19, [(3, .null), (0, .ref 0), (1, .int 1), (2, .int r)], [.int (-1)]), zh3)) rfl rfl rfl).trans ?_
    exact zqr rfl rfl
  · refine (zcal_go (M := M_Mo_measure) rfl rfl rfl).trans ?_
    show zloop zmt (zcal zmt 100000 8 397) 9 397 none M_Mo_measure 100000 (0, [(0, .ref 54), (1, .int 1), (2, .int r)], []) zh3 = _
    refine (zq1 (q := ((1, [(0, .ref 54), (1, .int 1), (2, .int r)], [.ref 54]), zh3)) rfl rfl rfl).trans ?_
    refine (zq1 (q := ((2, [(0, .ref 54), (1, .int 1), (2, .int r)], [.int 1, .ref 54]), zh3)) rfl rfl rfl).trans ?_
    refine (zq1 (q := ((3, [(0, .ref 54), (1, .int 1), (2, .int r)], [.int r, .int 1, .ref 54]), zh3)) rfl rfl rfl).trans ?_
    have hc : zcal zmt 100000 8 397 112 [.ref 54, .int 1, .int r] zh3 = some (some (.int (-1)), zh3) := by
      refine (zcal_go (M := M_Mo_slot) rfl rfl rfl).trans ?_
      show zloop zmt (zcal zmt 100000 7 375) 8 375 none M_Mo_slot 100000 (0, [(0, .ref 54), (1, .int 1), (2, .int r)], []) zh3 = _
      refine (zq1 (q := ((1, [(0, .ref 54), (1, .int 1), (2, .int r)], [.int 1]), zh3)) rfl rfl rfl).trans ?_
      have hc : zcal zmt 100000 7 375 108 [.int 1] zh3 = some (some (.int 1), zh3) := zreq_ok (by decide +kernel)
      refine (zqc 0 (s' := (4, [(0, .ref 54), (1, .int 1), (2, .int r)], [.int 1])) rfl rfl rfl rfl rfl rfl hc rfl).trans ?_
      refine (zq1 (q := ((7, [(0, .ref 54), (1, .int 1), (2, .int r)], []), zh3)) rfl rfl rfl).trans ?_
      refine (zq1 (q := ((8, [(0, .ref 54), (1, .int 1), (2, .int r)], [.int r]), zh3)) rfl rfl rfl).trans ?_
      refine (zqb (q := (40, [(0, .ref 54), (1, .int 1), (2, .int r)], [])) (cB := zc .lt r (0)) (v := true) (off := 32) (lv := [(0, .ref 54), (1, .int 1), (2, .int r)]) (r := []) rfl rfl rfl (zcb .lt (x := r) (y := (0)) (k := 0) (by decide) (decide_eq_true (by omega))) rfl).trans ?_
      refine (zq1 (q := ((41, [(0, .ref 54), (1, .int 1), (2, .int r)], [.int (-1)]), zh3)) rfl rfl rfl).trans ?_
      exact zqr rfl rfl
    refine (zqc 1 (s' := (6, [(0, .ref 54), (1, .int 1), (2, .int r)], [.int (-1)])) rfl rfl rfl rfl rfl rfl hc rfl).trans ?_
    refine (zq1 (q := ((7, [(3, .int (-1)), (0, .ref 54), (1, .int 1), (2, .int r)], []), zh3)) rfl rfl rfl).trans ?_
    refine (zq1 (q := ((8, [(3, .int (-1)), (0, .ref 54), (1, .int 1), (2, .int r)], [.int (-1)]), zh3)) rfl rfl rfl).trans ?_
    refine (zq1 (q := ((21, [(3, .int (-1)), (0, .ref 54), (1, .int 1), (2, .int r)], []), zh3)) rfl rfl rfl).trans ?_
    refine (zq1 (q := ((22, [(3, .int (-1)), (0, .ref 54), (1, .int 1), (2, .int r)], [.int (-1)]), zh3)) rfl rfl rfl).trans ?_
    exact zqr rfl rfl
set_option maxRecDepth 1000000 in
set_option maxHeartbeats 4000000 in
theorem zi_measure_1_ge (r : Int32) (h : 16 ≤ r.toInt) : zPair 75 139 [.int 1, .int r] := by
  refine ⟨(-1), zh3, zh3, ?_, ?_, rfl, rfl, rfl⟩
  · refine (zcal_go (M := M_ST_measure) rfl rfl rfl).trans ?_
    show zloop zmt (zcal zmt 100000 8 397) 9 397 none M_ST_measure 100000 (0, [(0, .ref 0), (1, .int 1), (2, .int r)], []) zh3 = _
    refine (zq1 (q := ((1, [(0, .ref 0), (1, .int 1), (2, .int r)], [.ref 0]), zh3)) rfl rfl rfl).trans ?_
    refine (zq1 (q := ((2, [(0, .ref 0), (1, .int 1), (2, .int r)], [.int 1, .ref 0]), zh3)) rfl rfl rfl).trans ?_
    refine (zq1 (q := ((3, [(0, .ref 0), (1, .int 1), (2, .int r)], [.int r, .int 1, .ref 0]), zh3)) rfl rfl rfl).trans ?_
    have hc : zcal zmt 100000 8 397 39 [.ref 0, .int 1, .int r] zh3 = some (some (.null), zh3) := by
      refine (zcal_go (M := M_ST_placeOf) rfl rfl rfl).trans ?_
      show zloop zmt (zcal zmt 100000 7 375) 8 375 none M_ST_placeOf 100000 (0, [(0, .ref 0), (1, .int 1), (2, .int r)], []) zh3 = _
      refine (zq1 (q := ((1, [(0, .ref 0), (1, .int 1), (2, .int r)], [.int 1]), zh3)) rfl rfl rfl).trans ?_
      have hc : zcal zmt 100000 7 375 29 [.int 1] zh3 = some (some (.int 1), zh3) := zreq_ok (by decide +kernel)
      refine (zqc 0 (s' := (4, [(0, .ref 0), (1, .int 1), (2, .int r)], [.int 1])) rfl rfl rfl rfl rfl rfl hc rfl).trans ?_
      refine (zq1 (q := ((7, [(0, .ref 0), (1, .int 1), (2, .int r)], []), zh3)) rfl rfl rfl).trans ?_
      refine (zq1 (q := ((8, [(0, .ref 0), (1, .int 1), (2, .int r)], [.ref 0]), zh3)) rfl rfl rfl).trans ?_
      refine (zq1 (q := ((11, [(0, .ref 0), (1, .int 1), (2, .int r)], [.ref 1]), zh3)) rfl rfl rfl).trans ?_
      refine (zq1 (q := ((12, [(0, .ref 0), (1, .int 1), (2, .int r)], [.int 1, .ref 1]), zh3)) rfl rfl rfl).trans ?_
      refine (zq1 (q := ((13, [(0, .ref 0), (1, .int 1), (2, .int r)], [.ref 26]), zh3)) rfl rfl rfl).trans ?_
      refine (zq1 (q := ((14, [(0, .ref 0), (1, .int 1), (2, .int r)], [.int r, .ref 26]), zh3)) rfl rfl rfl).trans ?_
      have hc : zcal zmt 100000 7 375 40 [.ref 26, .int r] zh3 = some (some (.null), zh3) := by
        refine (zcal_go (M := M_Ta_placeAt) rfl rfl rfl).trans ?_
        show zloop zmt (zcal zmt 100000 6 354) 7 354 none M_Ta_placeAt 100000 (0, [(0, .ref 26), (1, .int r)], []) zh3 = _
        refine (zq1 (q := ((1, [(0, .ref 26), (1, .int r)], [.int r]), zh3)) rfl rfl rfl).trans ?_
        refine (zqb (q := (4, [(0, .ref 26), (1, .int r)], [])) (cB := zc .lt r (0)) (v := false) (off := 18) (lv := [(0, .ref 26), (1, .int r)]) (r := []) rfl rfl rfl (zcb .lt (x := r) (y := (0)) (k := 0) (by decide) (decide_eq_false (by omega))) rfl).trans ?_
        refine (zq1 (q := ((5, [(0, .ref 26), (1, .int r)], [.int r]), zh3)) rfl rfl rfl).trans ?_
        refine (zq1 (q := ((7, [(0, .ref 26), (1, .int r)], [.int 16, .int r]), zh3)) rfl rfl rfl).trans ?_
        refine (zqb (q := (19, [(0, .ref 26), (1, .int r)], [])) (cB := zc .ge r (16)) (v := true) (off := 12) (lv := [(0, .ref 26), (1, .int r)]) (r := []) rfl rfl rfl (zcb .ge (x := r) (y := (16)) (k := 16) (by decide) (decide_eq_true (by omega))) rfl).trans ?_
        refine (zq1 (q := ((20, [(0, .ref 26), (1, .int r)], [.null]), zh3)) rfl rfl rfl).trans ?_
        exact zqr rfl rfl
      refine (zqc 1 (s' := (17, [(0, .ref 0), (1, .int 1), (2, .int r)], [.null])) rfl rfl rfl rfl rfl rfl hc rfl).trans ?_
      refine (zq1 (q := ((21, [(0, .ref 0), (1, .int 1), (2, .int r)], [.null]), zh3)) rfl rfl rfl).trans ?_
      exact zqr rfl rfl
    refine (zqc 1 (s' := (6, [(0, .ref 0), (1, .int 1), (2, .int r)], [.null])) rfl rfl rfl rfl rfl rfl hc rfl).trans ?_
    refine (zq1 (q := ((7, [(3, .null), (0, .ref 0), (1, .int 1), (2, .int r)], []), zh3)) rfl rfl rfl).trans ?_
    refine (zq1 (q := ((8, [(3, .null), (0, .ref 0), (1, .int 1), (2, .int r)], [.null]), zh3)) rfl rfl rfl).trans ?_
    refine (zq1 (q := ((18, [(3, .null), (0, .ref 0), (1, .int 1), (2, .int r)], []), zh3)) rfl rfl rfl).trans ?_
    refine (zq1 (q := ((19, [(3, .null), (0, .ref 0), (1, .int 1), (2, .int r)], [.int (-1)]), zh3)) rfl rfl rfl).trans ?_
    exact zqr rfl rfl
  · refine (zcal_go (M := M_Mo_measure) rfl rfl rfl).trans ?_
    show zloop zmt (zcal zmt 100000 8 397) 9 397 none M_Mo_measure 100000 (0, [(0, .ref 54), (1, .int 1), (2, .int r)], []) zh3 = _
    refine (zq1 (q := ((1, [(0, .ref 54), (1, .int 1), (2, .int r)], [.ref 54]), zh3)) rfl rfl rfl).trans ?_
    refine (zq1 (q := ((2, [(0, .ref 54), (1, .int 1), (2, .int r)], [.int 1, .ref 54]), zh3)) rfl rfl rfl).trans ?_
    refine (zq1 (q := ((3, [(0, .ref 54), (1, .int 1), (2, .int r)], [.int r, .int 1, .ref 54]), zh3)) rfl rfl rfl).trans ?_
    have hc : zcal zmt 100000 8 397 112 [.ref 54, .int 1, .int r] zh3 = some (some (.int (-1)), zh3) := by
      refine (zcal_go (M := M_Mo_slot) rfl rfl rfl).trans ?_
      show zloop zmt (zcal zmt 100000 7 375) 8 375 none M_Mo_slot 100000 (0, [(0, .ref 54), (1, .int 1), (2, .int r)], []) zh3 = _
      refine (zq1 (q := ((1, [(0, .ref 54), (1, .int 1), (2, .int r)], [.int 1]), zh3)) rfl rfl rfl).trans ?_
      have hc : zcal zmt 100000 7 375 108 [.int 1] zh3 = some (some (.int 1), zh3) := zreq_ok (by decide +kernel)
      refine (zqc 0 (s' := (4, [(0, .ref 54), (1, .int 1), (2, .int r)], [.int 1])) rfl rfl rfl rfl rfl rfl hc rfl).trans ?_
      refine (zq1 (q := ((7, [(0, .ref 54), (1, .int 1), (2, .int r)], []), zh3)) rfl rfl rfl).trans ?_
      refine (zq1 (q := ((8, [(0, .ref 54), (1, .int 1), (2, .int r)], [.int r]), zh3)) rfl rfl rfl).trans ?_
      refine (zqb (q := (11, [(0, .ref 54), (1, .int 1), (2, .int r)], [])) (cB := zc .lt r (0)) (v := false) (off := 32) (lv := [(0, .ref 54), (1, .int 1), (2, .int r)]) (r := []) rfl rfl rfl (zcb .lt (x := r) (y := (0)) (k := 0) (by decide) (decide_eq_false (by omega))) rfl).trans ?_
      refine (zq1 (q := ((12, [(0, .ref 54), (1, .int 1), (2, .int r)], [.int r]), zh3)) rfl rfl rfl).trans ?_
      refine (zq1 (q := ((14, [(0, .ref 54), (1, .int 1), (2, .int r)], [.int 15, .int r]), zh3)) rfl rfl rfl).trans ?_
      refine (zqb (q := (40, [(0, .ref 54), (1, .int 1), (2, .int r)], [])) (cB := zc .gt r (15)) (v := true) (off := 26) (lv := [(0, .ref 54), (1, .int 1), (2, .int r)]) (r := []) rfl rfl rfl (zcb .gt (x := r) (y := (15)) (k := 15) (by decide) (decide_eq_true (by omega))) rfl).trans ?_
      refine (zq1 (q := ((41, [(0, .ref 54), (1, .int 1), (2, .int r)], [.int (-1)]), zh3)) rfl rfl rfl).trans ?_
      exact zqr rfl rfl
    refine (zqc 1 (s' := (6, [(0, .ref 54), (1, .int 1), (2, .int r)], [.int (-1)])) rfl rfl rfl rfl rfl rfl hc rfl).trans ?_
    refine (zq1 (q := ((7, [(3, .int (-1)), (0, .ref 54), (1, .int 1), (2, .int r)], []), zh3)) rfl rfl rfl).trans ?_
    refine (zq1 (q := ((8, [(3, .int (-1)), (0, .ref 54), (1, .int 1), (2, .int r)], [.int (-1)]), zh3)) rfl rfl rfl).trans ?_
    refine (zq1 (q := ((21, [(3, .int (-1)), (0, .ref 54), (1, .int 1), (2, .int r)], []), zh3)) rfl rfl rfl).trans ?_
    refine (zq1 (q := ((22, [(3, .int (-1)), (0, .ref 54), (1, .int 1), (2, .int r)], [.int (-1)]), zh3)) rfl rfl rfl).trans ?_
    exact zqr rfl rfl
set_option maxRecDepth 1000000 in
set_option maxHeartbeats 4000000 in
theorem zi_value_lt (t r : Int32) (h : t.toInt < 0) : zPair 77 140 [.int t, .int r] := by
  refine ⟨0, zh3, zh3, ?_, ?_, rfl, rfl, rfl⟩
  · refine (zcal_go (M := M_ST_value) rfl rfl rfl).trans ?_
    show zloop zmt (zcal zmt 100000 8 398) 9 398 none M_ST_value 100000 (0, [(0, .ref 0), (1, .int t), (2, .int r)], []) zh3 = _
    refine (zq1 (q := ((1, [(0, .ref 0), (1, .int t), (2, .int r)], [.ref 0]), zh3)) rfl rfl rfl).trans ?_
    refine (zq1 (q := ((2, [(0, .ref 0), (1, .int t), (2, .int r)], [.int t, .ref 0]), zh3)) rfl rfl rfl).trans ?_
    refine (zq1 (q := ((3, [(0, .ref 0), (1, .int t), (2, .int r)], [.int r, .int t, .ref 0]), zh3)) rfl rfl rfl).trans ?_
    have hc : zcal zmt 100000 8 398 39 [.ref 0, .int t, .int r] zh3 = some (some (.null), zh3) := by
      refine (zcal_go (M := M_ST_placeOf) rfl rfl rfl).trans ?_
      show zloop zmt (zcal zmt 100000 7 376) 8 376 none M_ST_placeOf 100000 (0, [(0, .ref 0), (1, .int t), (2, .int r)], []) zh3 = _
      refine (zq1 (q := ((1, [(0, .ref 0), (1, .int t), (2, .int r)], [.int t]), zh3)) rfl rfl rfl).trans ?_
      have hc : zcal zmt 100000 7 376 29 [.int t] zh3 = some (some (.int 0), zh3) := by
        refine (zcal_go (M := M_ST_isTable) rfl rfl rfl).trans ?_
        show zloop zmt (zcal zmt 100000 6 356) 7 356 none M_ST_isTable 100000 (0, [(0, .int t)], []) zh3 = _
        refine (zq1 (q := ((1, [(0, .int t)], [.int t]), zh3)) rfl rfl rfl).trans ?_
        refine (zqb (q := (13, [(0, .int t)], [])) (cB := zc .lt t (0)) (v := true) (off := 12) (lv := [(0, .int t)]) (r := []) rfl rfl rfl (zcb .lt (x := t) (y := (0)) (k := 0) (by decide) (decide_eq_true (by omega))) rfl).trans ?_
        refine (zq1 (q := ((14, [(0, .int t)], [.int 0]), zh3)) rfl rfl rfl).trans ?_
        exact zqr rfl rfl
      refine (zqc 0 (s' := (4, [(0, .ref 0), (1, .int t), (2, .int r)], [.int 0])) rfl rfl rfl rfl rfl rfl hc rfl).trans ?_
      refine (zq1 (q := ((20, [(0, .ref 0), (1, .int t), (2, .int r)], []), zh3)) rfl rfl rfl).trans ?_
      refine (zq1 (q := ((21, [(0, .ref 0), (1, .int t), (2, .int r)], [.null]), zh3)) rfl rfl rfl).trans ?_
      exact zqr rfl rfl
    refine (zqc 1 (s' := (6, [(0, .ref 0), (1, .int t), (2, .int r)], [.null])) rfl rfl rfl rfl rfl rfl hc rfl).trans ?_
    refine (zq1 (q := ((9, [(0, .ref 0), (1, .int t), (2, .int r)], []), zh3)) rfl rfl rfl).trans ?_
    refine (zq1 (q := ((10, [(0, .ref 0), (1, .int t), (2, .int r)], [.int 0]), zh3)) rfl rfl rfl).trans ?_
    refine (zq1 (q := ((23, [(0, .ref 0), (1, .int t), (2, .int r)], [.int 0]), zh3)) rfl rfl rfl).trans ?_
    exact zqr rfl rfl
  · refine (zcal_go (M := M_Mo_value) rfl rfl rfl).trans ?_
    show zloop zmt (zcal zmt 100000 8 397) 9 397 none M_Mo_value 100000 (0, [(0, .ref 54), (1, .int t), (2, .int r)], []) zh3 = _
    refine (zq1 (q := ((1, [(0, .ref 54), (1, .int t), (2, .int r)], [.ref 54]), zh3)) rfl rfl rfl).trans ?_
    refine (zq1 (q := ((2, [(0, .ref 54), (1, .int t), (2, .int r)], [.int t, .ref 54]), zh3)) rfl rfl rfl).trans ?_
    refine (zq1 (q := ((3, [(0, .ref 54), (1, .int t), (2, .int r)], [.int r, .int t, .ref 54]), zh3)) rfl rfl rfl).trans ?_
    have hc : zcal zmt 100000 8 397 112 [.ref 54, .int t, .int r] zh3 = some (some (.int (-1)), zh3) := by
      refine (zcal_go (M := M_Mo_slot) rfl rfl rfl).trans ?_
      show zloop zmt (zcal zmt 100000 7 375) 8 375 none M_Mo_slot 100000 (0, [(0, .ref 54), (1, .int t), (2, .int r)], []) zh3 = _
      refine (zq1 (q := ((1, [(0, .ref 54), (1, .int t), (2, .int r)], [.int t]), zh3)) rfl rfl rfl).trans ?_
      have hc : zcal zmt 100000 7 375 108 [.int t] zh3 = some (some (.int 0), zh3) := by
        refine (zcal_go (M := M_Mo_isTable) rfl rfl rfl).trans ?_
        show zloop zmt (zcal zmt 100000 6 355) 7 355 none M_Mo_isTable 100000 (0, [(0, .int t)], []) zh3 = _
        refine (zq1 (q := ((1, [(0, .int t)], [.int t]), zh3)) rfl rfl rfl).trans ?_
        refine (zqb (q := (4, [(0, .int t)], [])) (cB := zc .eq t (0)) (v := false) (off := 8) (lv := [(0, .int t)]) (r := []) rfl rfl rfl (zcb .eq (x := t) (y := (0)) (k := 0) (by decide) (decide_eq_false (by omega))) rfl).trans ?_
        refine (zq1 (q := ((5, [(0, .int t)], [.int t]), zh3)) rfl rfl rfl).trans ?_
        refine (zq1 (q := ((6, [(0, .int t)], [.int 1, .int t]), zh3)) rfl rfl rfl).trans ?_
        refine (zqb (q := (13, [(0, .int t)], [])) (cB := zc .ne t (1)) (v := true) (off := 7) (lv := [(0, .int t)]) (r := []) rfl rfl rfl (zcb .ne (x := t) (y := (1)) (k := 1) (by decide) (decide_eq_true (by omega))) rfl).trans ?_
        refine (zq1 (q := ((14, [(0, .int t)], [.int 0]), zh3)) rfl rfl rfl).trans ?_
        exact zqr rfl rfl
      refine (zqc 0 (s' := (4, [(0, .ref 54), (1, .int t), (2, .int r)], [.int 0])) rfl rfl rfl rfl rfl rfl hc rfl).trans ?_
      refine (zq1 (q := ((40, [(0, .ref 54), (1, .int t), (2, .int r)], []), zh3)) rfl rfl rfl).trans ?_
      refine (zq1 (q := ((41, [(0, .ref 54), (1, .int t), (2, .int r)], [.int (-1)]), zh3)) rfl rfl rfl).trans ?_
      exact zqr rfl rfl
    refine (zqc 1 (s' := (6, [(0, .ref 54), (1, .int t), (2, .int r)], [.int (-1)])) rfl rfl rfl rfl rfl rfl hc rfl).trans ?_
    refine (zq1 (q := ((7, [(3, .int (-1)), (0, .ref 54), (1, .int t), (2, .int r)], []), zh3)) rfl rfl rfl).trans ?_
    refine (zq1 (q := ((8, [(3, .int (-1)), (0, .ref 54), (1, .int t), (2, .int r)], [.int (-1)]), zh3)) rfl rfl rfl).trans ?_
    refine (zq1 (q := ((11, [(3, .int (-1)), (0, .ref 54), (1, .int t), (2, .int r)], []), zh3)) rfl rfl rfl).trans ?_
    refine (zq1 (q := ((12, [(3, .int (-1)), (0, .ref 54), (1, .int t), (2, .int r)], [.int 0]), zh3)) rfl rfl rfl).trans ?_
    refine (zq1 (q := ((21, [(3, .int (-1)), (0, .ref 54), (1, .int t), (2, .int r)], [.int 0]), zh3)) rfl rfl rfl).trans ?_
    exact zqr rfl rfl
set_option maxRecDepth 1000000 in
set_option maxHeartbeats 4000000 in
theorem zi_value_ge (t r : Int32) (h : 2 ≤ t.toInt) : zPair 77 140 [.int t, .int r] := by
  refine ⟨0, zh3, zh3, ?_, ?_, rfl, rfl, rfl⟩
  · refine (zcal_go (M := M_ST_value) rfl rfl rfl).trans ?_
    show zloop zmt (zcal zmt 100000 8 398) 9 398 none M_ST_value 100000 (0, [(0, .ref 0), (1, .int t), (2, .int r)], []) zh3 = _
    refine (zq1 (q := ((1, [(0, .ref 0), (1, .int t), (2, .int r)], [.ref 0]), zh3)) rfl rfl rfl).trans ?_
    refine (zq1 (q := ((2, [(0, .ref 0), (1, .int t), (2, .int r)], [.int t, .ref 0]), zh3)) rfl rfl rfl).trans ?_
    refine (zq1 (q := ((3, [(0, .ref 0), (1, .int t), (2, .int r)], [.int r, .int t, .ref 0]), zh3)) rfl rfl rfl).trans ?_
    have hc : zcal zmt 100000 8 398 39 [.ref 0, .int t, .int r] zh3 = some (some (.null), zh3) := by
      refine (zcal_go (M := M_ST_placeOf) rfl rfl rfl).trans ?_
      show zloop zmt (zcal zmt 100000 7 376) 8 376 none M_ST_placeOf 100000 (0, [(0, .ref 0), (1, .int t), (2, .int r)], []) zh3 = _
      refine (zq1 (q := ((1, [(0, .ref 0), (1, .int t), (2, .int r)], [.int t]), zh3)) rfl rfl rfl).trans ?_
      have hc : zcal zmt 100000 7 376 29 [.int t] zh3 = some (some (.int 0), zh3) := by
        refine (zcal_go (M := M_ST_isTable) rfl rfl rfl).trans ?_
        show zloop zmt (zcal zmt 100000 6 356) 7 356 none M_ST_isTable 100000 (0, [(0, .int t)], []) zh3 = _
        refine (zq1 (q := ((1, [(0, .int t)], [.int t]), zh3)) rfl rfl rfl).trans ?_
        refine (zqb (q := (4, [(0, .int t)], [])) (cB := zc .lt t (0)) (v := false) (off := 12) (lv := [(0, .int t)]) (r := []) rfl rfl rfl (zcb .lt (x := t) (y := (0)) (k := 0) (by decide) (decide_eq_false (by omega))) rfl).trans ?_
        refine (zq1 (q := ((5, [(0, .int t)], [.int t]), zh3)) rfl rfl rfl).trans ?_
        refine (zq1 (q := ((6, [(0, .int t)], [.int 2, .int t]), zh3)) rfl rfl rfl).trans ?_
        refine (zqb (q := (13, [(0, .int t)], [])) (cB := zc .ge t (2)) (v := true) (off := 7) (lv := [(0, .int t)]) (r := []) rfl rfl rfl (zcb .ge (x := t) (y := (2)) (k := 2) (by decide) (decide_eq_true (by omega))) rfl).trans ?_
        refine (zq1 (q := ((14, [(0, .int t)], [.int 0]), zh3)) rfl rfl rfl).trans ?_
        exact zqr rfl rfl
      refine (zqc 0 (s' := (4, [(0, .ref 0), (1, .int t), (2, .int r)], [.int 0])) rfl rfl rfl rfl rfl rfl hc rfl).trans ?_
      refine (zq1 (q := ((20, [(0, .ref 0), (1, .int t), (2, .int r)], []), zh3)) rfl rfl rfl).trans ?_
      refine (zq1 (q := ((21, [(0, .ref 0), (1, .int t), (2, .int r)], [.null]), zh3)) rfl rfl rfl).trans ?_
      exact zqr rfl rfl
    refine (zqc 1 (s' := (6, [(0, .ref 0), (1, .int t), (2, .int r)], [.null])) rfl rfl rfl rfl rfl rfl hc rfl).trans ?_
    refine (zq1 (q := ((9, [(0, .ref 0), (1, .int t), (2, .int r)], []), zh3)) rfl rfl rfl).trans ?_
    refine (zq1 (q := ((10, [(0, .ref 0), (1, .int t), (2, .int r)], [.int 0]), zh3)) rfl rfl rfl).trans ?_
    refine (zq1 (q := ((23, [(0, .ref 0), (1, .int t), (2, .int r)], [.int 0]), zh3)) rfl rfl rfl).trans ?_
    exact zqr rfl rfl
  · refine (zcal_go (M := M_Mo_value) rfl rfl rfl).trans ?_
    show zloop zmt (zcal zmt 100000 8 397) 9 397 none M_Mo_value 100000 (0, [(0, .ref 54), (1, .int t), (2, .int r)], []) zh3 = _
    refine (zq1 (q := ((1, [(0, .ref 54), (1, .int t), (2, .int r)], [.ref 54]), zh3)) rfl rfl rfl).trans ?_
    refine (zq1 (q := ((2, [(0, .ref 54), (1, .int t), (2, .int r)], [.int t, .ref 54]), zh3)) rfl rfl rfl).trans ?_
    refine (zq1 (q := ((3, [(0, .ref 54), (1, .int t), (2, .int r)], [.int r, .int t, .ref 54]), zh3)) rfl rfl rfl).trans ?_
    have hc : zcal zmt 100000 8 397 112 [.ref 54, .int t, .int r] zh3 = some (some (.int (-1)), zh3) := by
      refine (zcal_go (M := M_Mo_slot) rfl rfl rfl).trans ?_
      show zloop zmt (zcal zmt 100000 7 375) 8 375 none M_Mo_slot 100000 (0, [(0, .ref 54), (1, .int t), (2, .int r)], []) zh3 = _
      refine (zq1 (q := ((1, [(0, .ref 54), (1, .int t), (2, .int r)], [.int t]), zh3)) rfl rfl rfl).trans ?_
      have hc : zcal zmt 100000 7 375 108 [.int t] zh3 = some (some (.int 0), zh3) := by
        refine (zcal_go (M := M_Mo_isTable) rfl rfl rfl).trans ?_
        show zloop zmt (zcal zmt 100000 6 355) 7 355 none M_Mo_isTable 100000 (0, [(0, .int t)], []) zh3 = _
        refine (zq1 (q := ((1, [(0, .int t)], [.int t]), zh3)) rfl rfl rfl).trans ?_
        refine (zqb (q := (4, [(0, .int t)], [])) (cB := zc .eq t (0)) (v := false) (off := 8) (lv := [(0, .int t)]) (r := []) rfl rfl rfl (zcb .eq (x := t) (y := (0)) (k := 0) (by decide) (decide_eq_false (by omega))) rfl).trans ?_
        refine (zq1 (q := ((5, [(0, .int t)], [.int t]), zh3)) rfl rfl rfl).trans ?_
        refine (zq1 (q := ((6, [(0, .int t)], [.int 1, .int t]), zh3)) rfl rfl rfl).trans ?_
        refine (zqb (q := (13, [(0, .int t)], [])) (cB := zc .ne t (1)) (v := true) (off := 7) (lv := [(0, .int t)]) (r := []) rfl rfl rfl (zcb .ne (x := t) (y := (1)) (k := 1) (by decide) (decide_eq_true (by omega))) rfl).trans ?_
        refine (zq1 (q := ((14, [(0, .int t)], [.int 0]), zh3)) rfl rfl rfl).trans ?_
        exact zqr rfl rfl
      refine (zqc 0 (s' := (4, [(0, .ref 54), (1, .int t), (2, .int r)], [.int 0])) rfl rfl rfl rfl rfl rfl hc rfl).trans ?_
      refine (zq1 (q := ((40, [(0, .ref 54), (1, .int t), (2, .int r)], []), zh3)) rfl rfl rfl).trans ?_
      refine (zq1 (q := ((41, [(0, .ref 54), (1, .int t), (2, .int r)], [.int (-1)]), zh3)) rfl rfl rfl).trans ?_
      exact zqr rfl rfl
    refine (zqc 1 (s' := (6, [(0, .ref 54), (1, .int t), (2, .int r)], [.int (-1)])) rfl rfl rfl rfl rfl rfl hc rfl).trans ?_
    refine (zq1 (q := ((7, [(3, .int (-1)), (0, .ref 54), (1, .int t), (2, .int r)], []), zh3)) rfl rfl rfl).trans ?_
    refine (zq1 (q := ((8, [(3, .int (-1)), (0, .ref 54), (1, .int t), (2, .int r)], [.int (-1)]), zh3)) rfl rfl rfl).trans ?_
    refine (zq1 (q := ((11, [(3, .int (-1)), (0, .ref 54), (1, .int t), (2, .int r)], []), zh3)) rfl rfl rfl).trans ?_
    refine (zq1 (q := ((12, [(3, .int (-1)), (0, .ref 54), (1, .int t), (2, .int r)], [.int 0]), zh3)) rfl rfl rfl).trans ?_
    refine (zq1 (q := ((21, [(3, .int (-1)), (0, .ref 54), (1, .int t), (2, .int r)], [.int 0]), zh3)) rfl rfl rfl).trans ?_
    exact zqr rfl rfl
set_option maxRecDepth 1000000 in
set_option maxHeartbeats 4000000 in
theorem zi_value_0_lt (r : Int32) (h : r.toInt < 0) : zPair 77 140 [.int 0, .int r] := by
  refine ⟨0, zh3, zh3, ?_, ?_, rfl, rfl, rfl⟩
  · refine (zcal_go (M := M_ST_value) rfl rfl rfl).trans ?_
    show zloop zmt (zcal zmt 100000 8 398) 9 398 none M_ST_value 100000 (0, [(0, .ref 0), (1, .int 0), (2, .int r)], []) zh3 = _
    refine (zq1 (q := ((1, [(0, .ref 0), (1, .int 0), (2, .int r)], [.ref 0]), zh3)) rfl rfl rfl).trans ?_
    refine (zq1 (q := ((2, [(0, .ref 0), (1, .int 0), (2, .int r)], [.int 0, .ref 0]), zh3)) rfl rfl rfl).trans ?_
    refine (zq1 (q := ((3, [(0, .ref 0), (1, .int 0), (2, .int r)], [.int r, .int 0, .ref 0]), zh3)) rfl rfl rfl).trans ?_
    have hc : zcal zmt 100000 8 398 39 [.ref 0, .int 0, .int r] zh3 = some (some (.null), zh3) := by
      refine (zcal_go (M := M_ST_placeOf) rfl rfl rfl).trans ?_
      show zloop zmt (zcal zmt 100000 7 376) 8 376 none M_ST_placeOf 100000 (0, [(0, .ref 0), (1, .int 0), (2, .int r)], []) zh3 = _
      refine (zq1 (q := ((1, [(0, .ref 0), (1, .int 0), (2, .int r)], [.int 0]), zh3)) rfl rfl rfl).trans ?_
      have hc : zcal zmt 100000 7 376 29 [.int 0] zh3 = some (some (.int 1), zh3) := zreq_ok (by decide +kernel)
      refine (zqc 0 (s' := (4, [(0, .ref 0), (1, .int 0), (2, .int r)], [.int 1])) rfl rfl rfl rfl rfl rfl hc rfl).trans ?_
      refine (zq1 (q := ((7, [(0, .ref 0), (1, .int 0), (2, .int r)], []), zh3)) rfl rfl rfl).trans ?_
      refine (zq1 (q := ((8, [(0, .ref 0), (1, .int 0), (2, .int r)], [.ref 0]), zh3)) rfl rfl rfl).trans ?_
      refine (zq1 (q := ((11, [(0, .ref 0), (1, .int 0), (2, .int r)], [.ref 1]), zh3)) rfl rfl rfl).trans ?_
      refine (zq1 (q := ((12, [(0, .ref 0), (1, .int 0), (2, .int r)], [.int 0, .ref 1]), zh3)) rfl rfl rfl).trans ?_
      refine (zq1 (q := ((13, [(0, .ref 0), (1, .int 0), (2, .int r)], [.ref 14]), zh3)) rfl rfl rfl).trans ?_
      refine (zq1 (q := ((14, [(0, .ref 0), (1, .int 0), (2, .int r)], [.int r, .ref 14]), zh3)) rfl rfl rfl).trans ?_
      have hc : zcal zmt 100000 7 376 40 [.ref 14, .int r] zh3 = some (some (.null), zh3) := by
        refine (zcal_go (M := M_Ta_placeAt) rfl rfl rfl).trans ?_
        show zloop zmt (zcal zmt 100000 6 355) 7 355 none M_Ta_placeAt 100000 (0, [(0, .ref 14), (1, .int r)], []) zh3 = _
        refine (zq1 (q := ((1, [(0, .ref 14), (1, .int r)], [.int r]), zh3)) rfl rfl rfl).trans ?_
        refine (zqb (q := (19, [(0, .ref 14), (1, .int r)], [])) (cB := zc .lt r (0)) (v := true) (off := 18) (lv := [(0, .ref 14), (1, .int r)]) (r := []) rfl rfl rfl (zcb .lt (x := r) (y := (0)) (k := 0) (by decide) (decide_eq_true (by omega))) rfl).trans ?_
        refine (zq1 (q := ((20, [(0, .ref 14), (1, .int r)], [.null]), zh3)) rfl rfl rfl).trans ?_
        exact zqr rfl rfl
      refine (zqc 1 (s' := (17, [(0, .ref 0), (1, .int 0), (2, .int r)], [.null])) rfl rfl rfl rfl rfl rfl hc rfl).trans ?_
      refine (zq1 (q := ((21, [(0, .ref 0), (1, .int 0), (2, .int r)], [.null]), zh3)) rfl rfl rfl).trans ?_
      exact zqr rfl rfl
    refine (zqc 1 (s' := (6, [(0, .ref 0), (1, .int 0), (2, .int r)], [.null])) rfl rfl rfl rfl rfl rfl hc rfl).trans ?_
    refine (zq1 (q := ((9, [(0, .ref 0), (1, .int 0), (2, .int r)], []), zh3)) rfl rfl rfl).trans ?_
    refine (zq1 (q := ((10, [(0, .ref 0), (1, .int 0), (2, .int r)], [.int 0]), zh3)) rfl rfl rfl).trans ?_
    refine (zq1 (q := ((23, [(0, .ref 0), (1, .int 0), (2, .int r)], [.int 0]), zh3)) rfl rfl rfl).trans ?_
    exact zqr rfl rfl
  · refine (zcal_go (M := M_Mo_value) rfl rfl rfl).trans ?_
    show zloop zmt (zcal zmt 100000 8 397) 9 397 none M_Mo_value 100000 (0, [(0, .ref 54), (1, .int 0), (2, .int r)], []) zh3 = _
    refine (zq1 (q := ((1, [(0, .ref 54), (1, .int 0), (2, .int r)], [.ref 54]), zh3)) rfl rfl rfl).trans ?_
    refine (zq1 (q := ((2, [(0, .ref 54), (1, .int 0), (2, .int r)], [.int 0, .ref 54]), zh3)) rfl rfl rfl).trans ?_
    refine (zq1 (q := ((3, [(0, .ref 54), (1, .int 0), (2, .int r)], [.int r, .int 0, .ref 54]), zh3)) rfl rfl rfl).trans ?_
    have hc : zcal zmt 100000 8 397 112 [.ref 54, .int 0, .int r] zh3 = some (some (.int (-1)), zh3) := by
      refine (zcal_go (M := M_Mo_slot) rfl rfl rfl).trans ?_
      show zloop zmt (zcal zmt 100000 7 375) 8 375 none M_Mo_slot 100000 (0, [(0, .ref 54), (1, .int 0), (2, .int r)], []) zh3 = _
      refine (zq1 (q := ((1, [(0, .ref 54), (1, .int 0), (2, .int r)], [.int 0]), zh3)) rfl rfl rfl).trans ?_
      have hc : zcal zmt 100000 7 375 108 [.int 0] zh3 = some (some (.int 1), zh3) := zreq_ok (by decide +kernel)
      refine (zqc 0 (s' := (4, [(0, .ref 54), (1, .int 0), (2, .int r)], [.int 1])) rfl rfl rfl rfl rfl rfl hc rfl).trans ?_
      refine (zq1 (q := ((7, [(0, .ref 54), (1, .int 0), (2, .int r)], []), zh3)) rfl rfl rfl).trans ?_
      refine (zq1 (q := ((8, [(0, .ref 54), (1, .int 0), (2, .int r)], [.int r]), zh3)) rfl rfl rfl).trans ?_
      refine (zqb (q := (40, [(0, .ref 54), (1, .int 0), (2, .int r)], [])) (cB := zc .lt r (0)) (v := true) (off := 32) (lv := [(0, .ref 54), (1, .int 0), (2, .int r)]) (r := []) rfl rfl rfl (zcb .lt (x := r) (y := (0)) (k := 0) (by decide) (decide_eq_true (by omega))) rfl).trans ?_
      refine (zq1 (q := ((41, [(0, .ref 54), (1, .int 0), (2, .int r)], [.int (-1)]), zh3)) rfl rfl rfl).trans ?_
      exact zqr rfl rfl
    refine (zqc 1 (s' := (6, [(0, .ref 54), (1, .int 0), (2, .int r)], [.int (-1)])) rfl rfl rfl rfl rfl rfl hc rfl).trans ?_
    refine (zq1 (q := ((7, [(3, .int (-1)), (0, .ref 54), (1, .int 0), (2, .int r)], []), zh3)) rfl rfl rfl).trans ?_
    refine (zq1 (q := ((8, [(3, .int (-1)), (0, .ref 54), (1, .int 0), (2, .int r)], [.int (-1)]), zh3)) rfl rfl rfl).trans ?_
    refine (zq1 (q := ((11, [(3, .int (-1)), (0, .ref 54), (1, .int 0), (2, .int r)], []), zh3)) rfl rfl rfl).trans ?_
    refine (zq1 (q := ((12, [(3, .int (-1)), (0, .ref 54), (1, .int 0), (2, .int r)], [.int 0]), zh3)) rfl rfl rfl).trans ?_
    refine (zq1 (q := ((21, [(3, .int (-1)), (0, .ref 54), (1, .int 0), (2, .int r)], [.int 0]), zh3)) rfl rfl rfl).trans ?_
    exact zqr rfl rfl
set_option maxRecDepth 1000000 in
set_option maxHeartbeats 4000000 in
theorem zi_value_0_ge (r : Int32) (h : 16 ≤ r.toInt) : zPair 77 140 [.int 0, .int r] := by
  refine ⟨0, zh3, zh3, ?_, ?_, rfl, rfl, rfl⟩
  · refine (zcal_go (M := M_ST_value) rfl rfl rfl).trans ?_
    show zloop zmt (zcal zmt 100000 8 398) 9 398 none M_ST_value 100000 (0, [(0, .ref 0), (1, .int 0), (2, .int r)], []) zh3 = _
    refine (zq1 (q := ((1, [(0, .ref 0), (1, .int 0), (2, .int r)], [.ref 0]), zh3)) rfl rfl rfl).trans ?_
    refine (zq1 (q := ((2, [(0, .ref 0), (1, .int 0), (2, .int r)], [.int 0, .ref 0]), zh3)) rfl rfl rfl).trans ?_
    refine (zq1 (q := ((3, [(0, .ref 0), (1, .int 0), (2, .int r)], [.int r, .int 0, .ref 0]), zh3)) rfl rfl rfl).trans ?_
    have hc : zcal zmt 100000 8 398 39 [.ref 0, .int 0, .int r] zh3 = some (some (.null), zh3) := by
      refine (zcal_go (M := M_ST_placeOf) rfl rfl rfl).trans ?_
      show zloop zmt (zcal zmt 100000 7 376) 8 376 none M_ST_placeOf 100000 (0, [(0, .ref 0), (1, .int 0), (2, .int r)], []) zh3 = _
      refine (zq1 (q := ((1, [(0, .ref 0), (1, .int 0), (2, .int r)], [.int 0]), zh3)) rfl rfl rfl).trans ?_
      have hc : zcal zmt 100000 7 376 29 [.int 0] zh3 = some (some (.int 1), zh3) := zreq_ok (by decide +kernel)
      refine (zqc 0 (s' := (4, [(0, .ref 0), (1, .int 0), (2, .int r)], [.int 1])) rfl rfl rfl rfl rfl rfl hc rfl).trans ?_
      refine (zq1 (q := ((7, [(0, .ref 0), (1, .int 0), (2, .int r)], []), zh3)) rfl rfl rfl).trans ?_
      refine (zq1 (q := ((8, [(0, .ref 0), (1, .int 0), (2, .int r)], [.ref 0]), zh3)) rfl rfl rfl).trans ?_
      refine (zq1 (q := ((11, [(0, .ref 0), (1, .int 0), (2, .int r)], [.ref 1]), zh3)) rfl rfl rfl).trans ?_
      refine (zq1 (q := ((12, [(0, .ref 0), (1, .int 0), (2, .int r)], [.int 0, .ref 1]), zh3)) rfl rfl rfl).trans ?_
      refine (zq1 (q := ((13, [(0, .ref 0), (1, .int 0), (2, .int r)], [.ref 14]), zh3)) rfl rfl rfl).trans ?_
      refine (zq1 (q := ((14, [(0, .ref 0), (1, .int 0), (2, .int r)], [.int r, .ref 14]), zh3)) rfl rfl rfl).trans ?_
      have hc : zcal zmt 100000 7 376 40 [.ref 14, .int r] zh3 = some (some (.null), zh3) := by
        refine (zcal_go (M := M_Ta_placeAt) rfl rfl rfl).trans ?_
        show zloop zmt (zcal zmt 100000 6 355) 7 355 none M_Ta_placeAt 100000 (0, [(0, .ref 14), (1, .int r)], []) zh3 = _
        refine (zq1 (q := ((1, [(0, .ref 14), (1, .int r)], [.int r]), zh3)) rfl rfl rfl).trans ?_
        refine (zqb (q := (4, [(0, .ref 14), (1, .int r)], [])) (cB := zc .lt r (0)) (v := false) (off := 18) (lv := [(0, .ref 14), (1, .int r)]) (r := []) rfl rfl rfl (zcb .lt (x := r) (y := (0)) (k := 0) (by decide) (decide_eq_false (by omega))) rfl).trans ?_
        refine (zq1 (q := ((5, [(0, .ref 14), (1, .int r)], [.int r]), zh3)) rfl rfl rfl).trans ?_
        refine (zq1 (q := ((7, [(0, .ref 14), (1, .int r)], [.int 16, .int r]), zh3)) rfl rfl rfl).trans ?_
        refine (zqb (q := (19, [(0, .ref 14), (1, .int r)], [])) (cB := zc .ge r (16)) (v := true) (off := 12) (lv := [(0, .ref 14), (1, .int r)]) (r := []) rfl rfl rfl (zcb .ge (x := r) (y := (16)) (k := 16) (by decide) (decide_eq_true (by omega))) rfl).trans ?_
        refine (zq1 (q := ((20, [(0, .ref 14), (1, .int r)], [.null]), zh3)) rfl rfl rfl).trans ?_
        exact zqr rfl rfl
      refine (zqc 1 (s' := (17, [(0, .ref 0), (1, .int 0), (2, .int r)], [.null])) rfl rfl rfl rfl rfl rfl hc rfl).trans ?_
      refine (zq1 (q := ((21, [(0, .ref 0), (1, .int 0), (2, .int r)], [.null]), zh3)) rfl rfl rfl).trans ?_
      exact zqr rfl rfl
    refine (zqc 1 (s' := (6, [(0, .ref 0), (1, .int 0), (2, .int r)], [.null])) rfl rfl rfl rfl rfl rfl hc rfl).trans ?_
    refine (zq1 (q := ((9, [(0, .ref 0), (1, .int 0), (2, .int r)], []), zh3)) rfl rfl rfl).trans ?_
    refine (zq1 (q := ((10, [(0, .ref 0), (1, .int 0), (2, .int r)], [.int 0]), zh3)) rfl rfl rfl).trans ?_
    refine (zq1 (q := ((23, [(0, .ref 0), (1, .int 0), (2, .int r)], [.int 0]), zh3)) rfl rfl rfl).trans ?_
    exact zqr rfl rfl
  · refine (zcal_go (M := M_Mo_value) rfl rfl rfl).trans ?_
    show zloop zmt (zcal zmt 100000 8 397) 9 397 none M_Mo_value 100000 (0, [(0, .ref 54), (1, .int 0), (2, .int r)], []) zh3 = _
    refine (zq1 (q := ((1, [(0, .ref 54), (1, .int 0), (2, .int r)], [.ref 54]), zh3)) rfl rfl rfl).trans ?_
    refine (zq1 (q := ((2, [(0, .ref 54), (1, .int 0), (2, .int r)], [.int 0, .ref 54]), zh3)) rfl rfl rfl).trans ?_
    refine (zq1 (q := ((3, [(0, .ref 54), (1, .int 0), (2, .int r)], [.int r, .int 0, .ref 54]), zh3)) rfl rfl rfl).trans ?_
    have hc : zcal zmt 100000 8 397 112 [.ref 54, .int 0, .int r] zh3 = some (some (.int (-1)), zh3) := by
      refine (zcal_go (M := M_Mo_slot) rfl rfl rfl).trans ?_
      show zloop zmt (zcal zmt 100000 7 375) 8 375 none M_Mo_slot 100000 (0, [(0, .ref 54), (1, .int 0), (2, .int r)], []) zh3 = _
      refine (zq1 (q := ((1, [(0, .ref 54), (1, .int 0), (2, .int r)], [.int 0]), zh3)) rfl rfl rfl).trans ?_
      have hc : zcal zmt 100000 7 375 108 [.int 0] zh3 = some (some (.int 1), zh3) := zreq_ok (by decide +kernel)
      refine (zqc 0 (s' := (4, [(0, .ref 54), (1, .int 0), (2, .int r)], [.int 1])) rfl rfl rfl rfl rfl rfl hc rfl).trans ?_
      refine (zq1 (q := ((7, [(0, .ref 54), (1, .int 0), (2, .int r)], []), zh3)) rfl rfl rfl).trans ?_
      refine (zq1 (q := ((8, [(0, .ref 54), (1, .int 0), (2, .int r)], [.int r]), zh3)) rfl rfl rfl).trans ?_
      refine (zqb (q := (11, [(0, .ref 54), (1, .int 0), (2, .int r)], [])) (cB := zc .lt r (0)) (v := false) (off := 32) (lv := [(0, .ref 54), (1, .int 0), (2, .int r)]) (r := []) rfl rfl rfl (zcb .lt (x := r) (y := (0)) (k := 0) (by decide) (decide_eq_false (by omega))) rfl).trans ?_
      refine (zq1 (q := ((12, [(0, .ref 54), (1, .int 0), (2, .int r)], [.int r]), zh3)) rfl rfl rfl).trans ?_
      refine (zq1 (q := ((14, [(0, .ref 54), (1, .int 0), (2, .int r)], [.int 15, .int r]), zh3)) rfl rfl rfl).trans ?_
      refine (zqb (q := (40, [(0, .ref 54), (1, .int 0), (2, .int r)], [])) (cB := zc .gt r (15)) (v := true) (off := 26) (lv := [(0, .ref 54), (1, .int 0), (2, .int r)]) (r := []) rfl rfl rfl (zcb .gt (x := r) (y := (15)) (k := 15) (by decide) (decide_eq_true (by omega))) rfl).trans ?_
      refine (zq1 (q := ((41, [(0, .ref 54), (1, .int 0), (2, .int r)], [.int (-1)]), zh3)) rfl rfl rfl).trans ?_
      exact zqr rfl rfl
    refine (zqc 1 (s' := (6, [(0, .ref 54), (1, .int 0), (2, .int r)], [.int (-1)])) rfl rfl rfl rfl rfl rfl hc rfl).trans ?_
    refine (zq1 (q := ((7, [(3, .int (-1)), (0, .ref 54), (1, .int 0), (2, .int r)], []), zh3)) rfl rfl rfl).trans ?_
    refine (zq1 (q := ((8, [(3, .int (-1)), (0, .ref 54), (1, .int 0), (2, .int r)], [.int (-1)]), zh3)) rfl rfl rfl).trans ?_
    refine (zq1 (q := ((11, [(3, .int (-1)), (0, .ref 54), (1, .int 0), (2, .int r)], []), zh3)) rfl rfl rfl).trans ?_
    refine (zq1 (q := ((12, [(3, .int (-1)), (0, .ref 54), (1, .int 0), (2, .int r)], [.int 0]), zh3)) rfl rfl rfl).trans ?_
    refine (zq1 (q := ((21, [(3, .int (-1)), (0, .ref 54), (1, .int 0), (2, .int r)], [.int 0]), zh3)) rfl rfl rfl).trans ?_
    exact zqr rfl rfl
set_option maxRecDepth 1000000 in
set_option maxHeartbeats 4000000 in
theorem zi_value_1_lt (r : Int32) (h : r.toInt < 0) : zPair 77 140 [.int 1, .int r] := by
  refine ⟨0, zh3, zh3, ?_, ?_, rfl, rfl, rfl⟩
  · refine (zcal_go (M := M_ST_value) rfl rfl rfl).trans ?_
    show zloop zmt (zcal zmt 100000 8 398) 9 398 none M_ST_value 100000 (0, [(0, .ref 0), (1, .int 1), (2, .int r)], []) zh3 = _
    refine (zq1 (q := ((1, [(0, .ref 0), (1, .int 1), (2, .int r)], [.ref 0]), zh3)) rfl rfl rfl).trans ?_
    refine (zq1 (q := ((2, [(0, .ref 0), (1, .int 1), (2, .int r)], [.int 1, .ref 0]), zh3)) rfl rfl rfl).trans ?_
    refine (zq1 (q := ((3, [(0, .ref 0), (1, .int 1), (2, .int r)], [.int r, .int 1, .ref 0]), zh3)) rfl rfl rfl).trans ?_
    have hc : zcal zmt 100000 8 398 39 [.ref 0, .int 1, .int r] zh3 = some (some (.null), zh3) := by
      refine (zcal_go (M := M_ST_placeOf) rfl rfl rfl).trans ?_
      show zloop zmt (zcal zmt 100000 7 376) 8 376 none M_ST_placeOf 100000 (0, [(0, .ref 0), (1, .int 1), (2, .int r)], []) zh3 = _
      refine (zq1 (q := ((1, [(0, .ref 0), (1, .int 1), (2, .int r)], [.int 1]), zh3)) rfl rfl rfl).trans ?_
      have hc : zcal zmt 100000 7 376 29 [.int 1] zh3 = some (some (.int 1), zh3) := zreq_ok (by decide +kernel)
      refine (zqc 0 (s' := (4, [(0, .ref 0), (1, .int 1), (2, .int r)], [.int 1])) rfl rfl rfl rfl rfl rfl hc rfl).trans ?_
      refine (zq1 (q := ((7, [(0, .ref 0), (1, .int 1), (2, .int r)], []), zh3)) rfl rfl rfl).trans ?_
      refine (zq1 (q := ((8, [(0, .ref 0), (1, .int 1), (2, .int r)], [.ref 0]), zh3)) rfl rfl rfl).trans ?_
      refine (zq1 (q := ((11, [(0, .ref 0), (1, .int 1), (2, .int r)], [.ref 1]), zh3)) rfl rfl rfl).trans ?_
      refine (zq1 (q := ((12, [(0, .ref 0), (1, .int 1), (2, .int r)], [.int 1, .ref 1]), zh3)) rfl rfl rfl).trans ?_
      refine (zq1 (q := ((13, [(0, .ref 0), (1, .int 1), (2, .int r)], [.ref 26]), zh3)) rfl rfl rfl).trans ?_
      refine (zq1 (q := ((14, [(0, .ref 0), (1, .int 1), (2, .int r)], [.int r, .ref 26]), zh3)) rfl rfl rfl).trans ?_
      have hc : zcal zmt 100000 7 376 40 [.ref 26, .int r] zh3 = some (some (.null), zh3) := by
        refine (zcal_go (M := M_Ta_placeAt) rfl rfl rfl).trans ?_
        show zloop zmt (zcal zmt 100000 6 355) 7 355 none M_Ta_placeAt 100000 (0, [(0, .ref 26), (1, .int r)], []) zh3 = _
        refine (zq1 (q := ((1, [(0, .ref 26), (1, .int r)], [.int r]), zh3)) rfl rfl rfl).trans ?_
        refine (zqb (q := (19, [(0, .ref 26), (1, .int r)], [])) (cB := zc .lt r (0)) (v := true) (off := 18) (lv := [(0, .ref 26), (1, .int r)]) (r := []) rfl rfl rfl (zcb .lt (x := r) (y := (0)) (k := 0) (by decide) (decide_eq_true (by omega))) rfl).trans ?_
        refine (zq1 (q := ((20, [(0, .ref 26), (1, .int r)], [.null]), zh3)) rfl rfl rfl).trans ?_
        exact zqr rfl rfl
      refine (zqc 1 (s' := (17, [(0, .ref 0), (1, .int 1), (2, .int r)], [.null])) rfl rfl rfl rfl rfl rfl hc rfl).trans ?_
      refine (zq1 (q := ((21, [(0, .ref 0), (1, .int 1), (2, .int r)], [.null]), zh3)) rfl rfl rfl).trans ?_
      exact zqr rfl rfl
    refine (zqc 1 (s' := (6, [(0, .ref 0), (1, .int 1), (2, .int r)], [.null])) rfl rfl rfl rfl rfl rfl hc rfl).trans ?_
    refine (zq1 (q := ((9, [(0, .ref 0), (1, .int 1), (2, .int r)], []), zh3)) rfl rfl rfl).trans ?_
    refine (zq1 (q := ((10, [(0, .ref 0), (1, .int 1), (2, .int r)], [.int 0]), zh3)) rfl rfl rfl).trans ?_
    refine (zq1 (q := ((23, [(0, .ref 0), (1, .int 1), (2, .int r)], [.int 0]), zh3)) rfl rfl rfl).trans ?_
    exact zqr rfl rfl
  · refine (zcal_go (M := M_Mo_value) rfl rfl rfl).trans ?_
    show zloop zmt (zcal zmt 100000 8 397) 9 397 none M_Mo_value 100000 (0, [(0, .ref 54), (1, .int 1), (2, .int r)], []) zh3 = _
    refine (zq1 (q := ((1, [(0, .ref 54), (1, .int 1), (2, .int r)], [.ref 54]), zh3)) rfl rfl rfl).trans ?_
    refine (zq1 (q := ((2, [(0, .ref 54), (1, .int 1), (2, .int r)], [.int 1, .ref 54]), zh3)) rfl rfl rfl).trans ?_
    refine (zq1 (q := ((3, [(0, .ref 54), (1, .int 1), (2, .int r)], [.int r, .int 1, .ref 54]), zh3)) rfl rfl rfl).trans ?_
    have hc : zcal zmt 100000 8 397 112 [.ref 54, .int 1, .int r] zh3 = some (some (.int (-1)), zh3) := by
      refine (zcal_go (M := M_Mo_slot) rfl rfl rfl).trans ?_
      show zloop zmt (zcal zmt 100000 7 375) 8 375 none M_Mo_slot 100000 (0, [(0, .ref 54), (1, .int 1), (2, .int r)], []) zh3 = _
      refine (zq1 (q := ((1, [(0, .ref 54), (1, .int 1), (2, .int r)], [.int 1]), zh3)) rfl rfl rfl).trans ?_
      have hc : zcal zmt 100000 7 375 108 [.int 1] zh3 = some (some (.int 1), zh3) := zreq_ok (by decide +kernel)
      refine (zqc 0 (s' := (4, [(0, .ref 54), (1, .int 1), (2, .int r)], [.int 1])) rfl rfl rfl rfl rfl rfl hc rfl).trans ?_
      refine (zq1 (q := ((7, [(0, .ref 54), (1, .int 1), (2, .int r)], []), zh3)) rfl rfl rfl).trans ?_
      refine (zq1 (q := ((8, [(0, .ref 54), (1, .int 1), (2, .int r)], [.int r]), zh3)) rfl rfl rfl).trans ?_
      refine (zqb (q := (40, [(0, .ref 54), (1, .int 1), (2, .int r)], [])) (cB := zc .lt r (0)) (v := true) (off := 32) (lv := [(0, .ref 54), (1, .int 1), (2, .int r)]) (r := []) rfl rfl rfl (zcb .lt (x := r) (y := (0)) (k := 0) (by decide) (decide_eq_true (by omega))) rfl).trans ?_
      refine (zq1 (q := ((41, [(0, .ref 54), (1, .int 1), (2, .int r)], [.int (-1)]), zh3)) rfl rfl rfl).trans ?_
      exact zqr rfl rfl
    refine (zqc 1 (s' := (6, [(0, .ref 54), (1, .int 1), (2, .int r)], [.int (-1)])) rfl rfl rfl rfl rfl rfl hc rfl).trans ?_
    refine (zq1 (q := ((7, [(3, .int (-1)), (0, .ref 54), (1, .int 1), (2, .int r)], []), zh3)) rfl rfl rfl).trans ?_
    refine (zq1 (q := ((8, [(3, .int (-1)), (0, .ref 54), (1, .int 1), (2, .int r)], [.int (-1)]), zh3)) rfl rfl rfl).trans ?_
    refine (zq1 (q := ((11, [(3, .int (-1)), (0, .ref 54), (1, .int 1), (2, .int r)], []), zh3)) rfl rfl rfl).trans ?_
    refine (zq1 (q := ((12, [(3, .int (-1)), (0, .ref 54), (1, .int 1), (2, .int r)], [.int 0]), zh3)) rfl rfl rfl).trans ?_
    refine (zq1 (q := ((21, [(3, .int (-1)), (0, .ref 54), (1, .int 1), (2, .int r)], [.int 0]), zh3)) rfl rfl rfl).trans ?_
    exact zqr rfl rfl
set_option maxRecDepth 1000000 in
set_option maxHeartbeats 4000000 in
theorem zi_value_1_ge (r : Int32) (h : 16 ≤ r.toInt) : zPair 77 140 [.int 1, .int r] := by
  refine ⟨0, zh3, zh3, ?_, ?_, rfl, rfl, rfl⟩
  · refine (zcal_go (M := M_ST_value) rfl rfl rfl).trans ?_
    show zloop zmt (zcal zmt 100000 8 398) 9 398 none M_ST_value 100000 (0, [(0, .ref 0), (1, .int 1), (2, .int r)], []) zh3 = _
    refine (zq1 (q := ((1, [(0, .ref 0), (1, .int 1), (2, .int r)], [.ref 0]), zh3)) rfl rfl rfl).trans ?_
    refine (zq1 (q := ((2, [(0, .ref 0), (1, .int 1), (2, .int r)], [.int 1, .ref 0]), zh3)) rfl rfl rfl).trans ?_
    refine (zq1 (q := ((3, [(0, .ref 0), (1, .int 1), (2, .int r)], [.int r, .int 1, .ref 0]), zh3)) rfl rfl rfl).trans ?_
    have hc : zcal zmt 100000 8 398 39 [.ref 0, .int 1, .int r] zh3 = some (some (.null), zh3) := by
      refine (zcal_go (M := M_ST_placeOf) rfl rfl rfl).trans ?_
      show zloop zmt (zcal zmt 100000 7 376) 8 376 none M_ST_placeOf 100000 (0, [(0, .ref 0), (1, .int 1), (2, .int r)], []) zh3 = _
      refine (zq1 (q := ((1, [(0, .ref 0), (1, .int 1), (2, .int r)], [.int 1]), zh3)) rfl rfl rfl).trans ?_
      have hc : zcal zmt 100000 7 376 29 [.int 1] zh3 = some (some (.int 1), zh3) := zreq_ok (by decide +kernel)
      refine (zqc 0 (s' := (4, [(0, .ref 0), (1, .int 1), (2, .int r)], [.int 1])) rfl rfl rfl rfl rfl rfl hc rfl).trans ?_
      refine (zq1 (q := ((7, [(0, .ref 0), (1, .int 1), (2, .int r)], []), zh3)) rfl rfl rfl).trans ?_
      refine (zq1 (q := ((8, [(0, .ref 0), (1, .int 1), (2, .int r)], [.ref 0]), zh3)) rfl rfl rfl).trans ?_
      refine (zq1 (q := ((11, [(0, .ref 0), (1, .int 1), (2, .int r)], [.ref 1]), zh3)) rfl rfl rfl).trans ?_
      refine (zq1 (q := ((12, [(0, .ref 0), (1, .int 1), (2, .int r)], [.int 1, .ref 1]), zh3)) rfl rfl rfl).trans ?_
      refine (zq1 (q := ((13, [(0, .ref 0), (1, .int 1), (2, .int r)], [.ref 26]), zh3)) rfl rfl rfl).trans ?_
      refine (zq1 (q := ((14, [(0, .ref 0), (1, .int 1), (2, .int r)], [.int r, .ref 26]), zh3)) rfl rfl rfl).trans ?_
      have hc : zcal zmt 100000 7 376 40 [.ref 26, .int r] zh3 = some (some (.null), zh3) := by
        refine (zcal_go (M := M_Ta_placeAt) rfl rfl rfl).trans ?_
        show zloop zmt (zcal zmt 100000 6 355) 7 355 none M_Ta_placeAt 100000 (0, [(0, .ref 26), (1, .int r)], []) zh3 = _
        refine (zq1 (q := ((1, [(0, .ref 26), (1, .int r)], [.int r]), zh3)) rfl rfl rfl).trans ?_
        refine (zqb (q := (4, [(0, .ref 26), (1, .int r)], [])) (cB := zc .lt r (0)) (v := false) (off := 18) (lv := [(0, .ref 26), (1, .int r)]) (r := []) rfl rfl rfl (zcb .lt (x := r) (y := (0)) (k := 0) (by decide) (decide_eq_false (by omega))) rfl).trans ?_
        refine (zq1 (q := ((5, [(0, .ref 26), (1, .int r)], [.int r]), zh3)) rfl rfl rfl).trans ?_
        refine (zq1 (q := ((7, [(0, .ref 26), (1, .int r)], [.int 16, .int r]), zh3)) rfl rfl rfl).trans ?_
        refine (zqb (q := (19, [(0, .ref 26), (1, .int r)], [])) (cB := zc .ge r (16)) (v := true) (off := 12) (lv := [(0, .ref 26), (1, .int r)]) (r := []) rfl rfl rfl (zcb .ge (x := r) (y := (16)) (k := 16) (by decide) (decide_eq_true (by omega))) rfl).trans ?_
        refine (zq1 (q := ((20, [(0, .ref 26), (1, .int r)], [.null]), zh3)) rfl rfl rfl).trans ?_
        exact zqr rfl rfl
      refine (zqc 1 (s' := (17, [(0, .ref 0), (1, .int 1), (2, .int r)], [.null])) rfl rfl rfl rfl rfl rfl hc rfl).trans ?_
      refine (zq1 (q := ((21, [(0, .ref 0), (1, .int 1), (2, .int r)], [.null]), zh3)) rfl rfl rfl).trans ?_
      exact zqr rfl rfl
    refine (zqc 1 (s' := (6, [(0, .ref 0), (1, .int 1), (2, .int r)], [.null])) rfl rfl rfl rfl rfl rfl hc rfl).trans ?_
    refine (zq1 (q := ((9, [(0, .ref 0), (1, .int 1), (2, .int r)], []), zh3)) rfl rfl rfl).trans ?_
    refine (zq1 (q := ((10, [(0, .ref 0), (1, .int 1), (2, .int r)], [.int 0]), zh3)) rfl rfl rfl).trans ?_
    refine (zq1 (q := ((23, [(0, .ref 0), (1, .int 1), (2, .int r)], [.int 0]), zh3)) rfl rfl rfl).trans ?_
    exact zqr rfl rfl
  · refine (zcal_go (M := M_Mo_value) rfl rfl rfl).trans ?_
    show zloop zmt (zcal zmt 100000 8 397) 9 397 none M_Mo_value 100000 (0, [(0, .ref 54), (1, .int 1), (2, .int r)], []) zh3 = _
    refine (zq1 (q := ((1, [(0, .ref 54), (1, .int 1), (2, .int r)], [.ref 54]), zh3)) rfl rfl rfl).trans ?_
    refine (zq1 (q := ((2, [(0, .ref 54), (1, .int 1), (2, .int r)], [.int 1, .ref 54]), zh3)) rfl rfl rfl).trans ?_
    refine (zq1 (q := ((3, [(0, .ref 54), (1, .int 1), (2, .int r)], [.int r, .int 1, .ref 54]), zh3)) rfl rfl rfl).trans ?_
    have hc : zcal zmt 100000 8 397 112 [.ref 54, .int 1, .int r] zh3 = some (some (.int (-1)), zh3) := by
      refine (zcal_go (M := M_Mo_slot) rfl rfl rfl).trans ?_
      show zloop zmt (zcal zmt 100000 7 375) 8 375 none M_Mo_slot 100000 (0, [(0, .ref 54), (1, .int 1), (2, .int r)], []) zh3 = _
      refine (zq1 (q := ((1, [(0, .ref 54), (1, .int 1), (2, .int r)], [.int 1]), zh3)) rfl rfl rfl).trans ?_
      have hc : zcal zmt 100000 7 375 108 [.int 1] zh3 = some (some (.int 1), zh3) := zreq_ok (by decide +kernel)
      refine (zqc 0 (s' := (4, [(0, .ref 54), (1, .int 1), (2, .int r)], [.int 1])) rfl rfl rfl rfl rfl rfl hc rfl).trans ?_
      refine (zq1 (q := ((7, [(0, .ref 54), (1, .int 1), (2, .int r)], []), zh3)) rfl rfl rfl).trans ?_
      refine (zq1 (q := ((8, [(0, .ref 54), (1, .int 1), (2, .int r)], [.int r]), zh3)) rfl rfl rfl).trans ?_
      refine (zqb (q := (11, [(0, .ref 54), (1, .int 1), (2, .int r)], [])) (cB := zc .lt r (0)) (v := false) (off := 32) (lv := [(0, .ref 54), (1, .int 1), (2, .int r)]) (r := []) rfl rfl rfl (zcb .lt (x := r) (y := (0)) (k := 0) (by decide) (decide_eq_false (by omega))) rfl).trans ?_
      refine (zq1 (q := ((12, [(0, .ref 54), (1, .int 1), (2, .int r)], [.int r]), zh3)) rfl rfl rfl).trans ?_
      refine (zq1 (q := ((14, [(0, .ref 54), (1, .int 1), (2, .int r)], [.int 15, .int r]), zh3)) rfl rfl rfl).trans ?_
      refine (zqb (q := (40, [(0, .ref 54), (1, .int 1), (2, .int r)], [])) (cB := zc .gt r (15)) (v := true) (off := 26) (lv := [(0, .ref 54), (1, .int 1), (2, .int r)]) (r := []) rfl rfl rfl (zcb .gt (x := r) (y := (15)) (k := 15) (by decide) (decide_eq_true (by omega))) rfl).trans ?_
      refine (zq1 (q := ((41, [(0, .ref 54), (1, .int 1), (2, .int r)], [.int (-1)]), zh3)) rfl rfl rfl).trans ?_
      exact zqr rfl rfl
    refine (zqc 1 (s' := (6, [(0, .ref 54), (1, .int 1), (2, .int r)], [.int (-1)])) rfl rfl rfl rfl rfl rfl hc rfl).trans ?_
    refine (zq1 (q := ((7, [(3, .int (-1)), (0, .ref 54), (1, .int 1), (2, .int r)], []), zh3)) rfl rfl rfl).trans ?_
    refine (zq1 (q := ((8, [(3, .int (-1)), (0, .ref 54), (1, .int 1), (2, .int r)], [.int (-1)]), zh3)) rfl rfl rfl).trans ?_
    refine (zq1 (q := ((11, [(3, .int (-1)), (0, .ref 54), (1, .int 1), (2, .int r)], []), zh3)) rfl rfl rfl).trans ?_
    refine (zq1 (q := ((12, [(3, .int (-1)), (0, .ref 54), (1, .int 1), (2, .int r)], [.int 0]), zh3)) rfl rfl rfl).trans ?_
    refine (zq1 (q := ((21, [(3, .int (-1)), (0, .ref 54), (1, .int 1), (2, .int r)], [.int 0]), zh3)) rfl rfl rfl).trans ?_
    exact zqr rfl rfl
set_option maxRecDepth 1000000 in
set_option maxHeartbeats 4000000 in
theorem zi_shape_lt (k : Int32) (h : k.toInt < 0) : zPair 10 98 [.int k] := by
  refine ⟨(-1), zh3, zh3, ?_, ?_, rfl, rfl, rfl⟩
  · refine (zcal_go (M := M_ST_shape) rfl rfl rfl).trans ?_
    show zloop zmt (zcal zmt 100000 8 397) 9 397 none M_ST_shape 100000 (0, [(0, .ref 0), (1, .int k)], []) zh3 = _
    refine (zq1 (q := ((1, [(0, .ref 0), (1, .int k)], [.int k]), zh3)) rfl rfl rfl).trans ?_
    refine (zqb (q := (9, [(0, .ref 0), (1, .int k)], [])) (cB := zc .lt k (0)) (v := true) (off := 8) (lv := [(0, .ref 0), (1, .int k)]) (r := []) rfl rfl rfl (zcb .lt (x := k) (y := (0)) (k := 0) (by decide) (decide_eq_true (by omega))) rfl).trans ?_
    refine (zq1 (q := ((10, [(0, .ref 0), (1, .int k)], [.int (-1)]), zh3)) rfl rfl rfl).trans ?_
    exact zqr rfl rfl
  · refine (zcal_go (M := M_Mo_shape) rfl rfl rfl).trans ?_
    show zloop zmt (zcal zmt 100000 8 397) 9 397 none M_Mo_shape 100000 (0, [(0, .ref 54), (1, .int k)], []) zh3 = _
    refine (zq1 (q := ((1, [(0, .ref 54), (1, .int k)], [.int k]), zh3)) rfl rfl rfl).trans ?_
    refine (zqb (q := (9, [(0, .ref 54), (1, .int k)], [])) (cB := zc .lt k (0)) (v := true) (off := 8) (lv := [(0, .ref 54), (1, .int k)]) (r := []) rfl rfl rfl (zcb .lt (x := k) (y := (0)) (k := 0) (by decide) (decide_eq_true (by omega))) rfl).trans ?_
    refine (zq1 (q := ((10, [(0, .ref 54), (1, .int k)], [.int (-1)]), zh3)) rfl rfl rfl).trans ?_
    exact zqr rfl rfl
set_option maxRecDepth 1000000 in
set_option maxHeartbeats 4000000 in
theorem zi_shape_ge (k : Int32) (h : 3 ≤ k.toInt) : zPair 10 98 [.int k] := by
  refine ⟨(-1), zh3, zh3, ?_, ?_, rfl, rfl, rfl⟩
  · refine (zcal_go (M := M_ST_shape) rfl rfl rfl).trans ?_
    show zloop zmt (zcal zmt 100000 8 397) 9 397 none M_ST_shape 100000 (0, [(0, .ref 0), (1, .int k)], []) zh3 = _
    refine (zq1 (q := ((1, [(0, .ref 0), (1, .int k)], [.int k]), zh3)) rfl rfl rfl).trans ?_
    refine (zqb (q := (4, [(0, .ref 0), (1, .int k)], [])) (cB := zc .lt k (0)) (v := false) (off := 8) (lv := [(0, .ref 0), (1, .int k)]) (r := []) rfl rfl rfl (zcb .lt (x := k) (y := (0)) (k := 0) (by decide) (decide_eq_false (by omega))) rfl).trans ?_
    refine (zq1 (q := ((5, [(0, .ref 0), (1, .int k)], [.int k]), zh3)) rfl rfl rfl).trans ?_
    refine (zq1 (q := ((6, [(0, .ref 0), (1, .int k)], [.int 2, .int k]), zh3)) rfl rfl rfl).trans ?_
    refine (zqb (q := (9, [(0, .ref 0), (1, .int k)], [])) (cB := zc .le k (2)) (v := false) (off := 5) (lv := [(0, .ref 0), (1, .int k)]) (r := []) rfl rfl rfl (zcb .le (x := k) (y := (2)) (k := 2) (by decide) (decide_eq_false (by omega))) rfl).trans ?_
    refine (zq1 (q := ((10, [(0, .ref 0), (1, .int k)], [.int (-1)]), zh3)) rfl rfl rfl).trans ?_
    exact zqr rfl rfl
  · refine (zcal_go (M := M_Mo_shape) rfl rfl rfl).trans ?_
    show zloop zmt (zcal zmt 100000 8 397) 9 397 none M_Mo_shape 100000 (0, [(0, .ref 54), (1, .int k)], []) zh3 = _
    refine (zq1 (q := ((1, [(0, .ref 54), (1, .int k)], [.int k]), zh3)) rfl rfl rfl).trans ?_
    refine (zqb (q := (4, [(0, .ref 54), (1, .int k)], [])) (cB := zc .lt k (0)) (v := false) (off := 8) (lv := [(0, .ref 54), (1, .int k)]) (r := []) rfl rfl rfl (zcb .lt (x := k) (y := (0)) (k := 0) (by decide) (decide_eq_false (by omega))) rfl).trans ?_
    refine (zq1 (q := ((5, [(0, .ref 54), (1, .int k)], [.int k]), zh3)) rfl rfl rfl).trans ?_
    refine (zq1 (q := ((6, [(0, .ref 54), (1, .int k)], [.int 2, .int k]), zh3)) rfl rfl rfl).trans ?_
    refine (zqb (q := (9, [(0, .ref 54), (1, .int k)], [])) (cB := zc .le k (2)) (v := false) (off := 5) (lv := [(0, .ref 54), (1, .int k)]) (r := []) rfl rfl rfl (zcb .le (x := k) (y := (2)) (k := 2) (by decide) (decide_eq_false (by omega))) rfl).trans ?_
    refine (zq1 (q := ((10, [(0, .ref 54), (1, .int k)], [.int (-1)]), zh3)) rfl rfl rfl).trans ?_
    exact zqr rfl rfl
set_option maxRecDepth 1000000 in
set_option maxHeartbeats 4000000 in
theorem zi_frame_lt (k : Int32) (h : k.toInt < 0) : zPair 94 152 [.int k] := by
  refine ⟨(-1), zh3, zh3, ?_, ?_, rfl, rfl, rfl⟩
  · refine (zcal_go (M := M_ST_frame) rfl rfl rfl).trans ?_
    show zloop zmt (zcal zmt 100000 8 399) 9 399 none M_ST_frame 100000 (0, [(0, .ref 0), (1, .int k)], []) zh3 = _
    refine (zq1 (q := ((1, [(0, .ref 0), (1, .int k)], [.ref 0]), zh3)) rfl rfl rfl).trans ?_
    refine (zq1 (q := ((4, [(0, .ref 0), (1, .int k)], [.ref 4]), zh3)) rfl rfl rfl).trans ?_
    refine (zq1 (q := ((5, [(0, .ref 0), (1, .int k)], [.int k, .ref 4]), zh3)) rfl rfl rfl).trans ?_
    have hc : zcal zmt 100000 8 399 95 [.ref 4, .int k] zh3 = some (some (.int (-1)), zh3) := by
      refine (zcal_go (M := M_Fr_frameOf) rfl rfl rfl).trans ?_
      show zloop zmt (zcal zmt 100000 7 378) 8 378 none M_Fr_frameOf 100000 (0, [(0, .ref 4), (1, .int k)], []) zh3 = _
      refine (zq1 (q := ((1, [(0, .ref 4), (1, .int k)], [.int k]), zh3)) rfl rfl rfl).trans ?_
      refine (zqb (q := (19, [(0, .ref 4), (1, .int k)], [])) (cB := zc .lt k (0)) (v := true) (off := 18) (lv := [(0, .ref 4), (1, .int k)]) (r := []) rfl rfl rfl (zcb .lt (x := k) (y := (0)) (k := 0) (by decide) (decide_eq_true (by omega))) rfl).trans ?_
      refine (zq1 (q := ((20, [(0, .ref 4), (1, .int k)], [.int (-1)]), zh3)) rfl rfl rfl).trans ?_
      exact zqr rfl rfl
    refine (zqc 1 (s' := (8, [(0, .ref 0), (1, .int k)], [.int (-1)])) rfl rfl rfl rfl rfl rfl hc rfl).trans ?_
    exact zqr rfl rfl
  · refine (zcal_go (M := M_Mo_frame) rfl rfl rfl).trans ?_
    show zloop zmt (zcal zmt 100000 8 399) 9 399 none M_Mo_frame 100000 (0, [(0, .ref 54), (1, .int k)], []) zh3 = _
    refine (zq1 (q := ((1, [(0, .ref 54), (1, .int k)], [.int k]), zh3)) rfl rfl rfl).trans ?_
    refine (zqb (q := (19, [(0, .ref 54), (1, .int k)], [])) (cB := zc .lt k (0)) (v := true) (off := 18) (lv := [(0, .ref 54), (1, .int k)]) (r := []) rfl rfl rfl (zcb .lt (x := k) (y := (0)) (k := 0) (by decide) (decide_eq_true (by omega))) rfl).trans ?_
    refine (zq1 (q := ((20, [(0, .ref 54), (1, .int k)], [.int (-1)]), zh3)) rfl rfl rfl).trans ?_
    exact zqr rfl rfl
set_option maxRecDepth 1000000 in
set_option maxHeartbeats 4000000 in
theorem zi_frame_ge (k : Int32) (h : 9 ≤ k.toInt) : zPair 94 152 [.int k] := by
  refine ⟨(-1), zh3, zh3, ?_, ?_, rfl, rfl, rfl⟩
  · refine (zcal_go (M := M_ST_frame) rfl rfl rfl).trans ?_
    show zloop zmt (zcal zmt 100000 8 399) 9 399 none M_ST_frame 100000 (0, [(0, .ref 0), (1, .int k)], []) zh3 = _
    refine (zq1 (q := ((1, [(0, .ref 0), (1, .int k)], [.ref 0]), zh3)) rfl rfl rfl).trans ?_
    refine (zq1 (q := ((4, [(0, .ref 0), (1, .int k)], [.ref 4]), zh3)) rfl rfl rfl).trans ?_
    refine (zq1 (q := ((5, [(0, .ref 0), (1, .int k)], [.int k, .ref 4]), zh3)) rfl rfl rfl).trans ?_
    have hc : zcal zmt 100000 8 399 95 [.ref 4, .int k] zh3 = some (some (.int (-1)), zh3) := by
      refine (zcal_go (M := M_Fr_frameOf) rfl rfl rfl).trans ?_
      show zloop zmt (zcal zmt 100000 7 378) 8 378 none M_Fr_frameOf 100000 (0, [(0, .ref 4), (1, .int k)], []) zh3 = _
      refine (zq1 (q := ((1, [(0, .ref 4), (1, .int k)], [.int k]), zh3)) rfl rfl rfl).trans ?_
      refine (zqb (q := (4, [(0, .ref 4), (1, .int k)], [])) (cB := zc .lt k (0)) (v := false) (off := 18) (lv := [(0, .ref 4), (1, .int k)]) (r := []) rfl rfl rfl (zcb .lt (x := k) (y := (0)) (k := 0) (by decide) (decide_eq_false (by omega))) rfl).trans ?_
      refine (zq1 (q := ((5, [(0, .ref 4), (1, .int k)], [.int k]), zh3)) rfl rfl rfl).trans ?_
      refine (zq1 (q := ((7, [(0, .ref 4), (1, .int k)], [.int 8, .int k]), zh3)) rfl rfl rfl).trans ?_
      refine (zqb (q := (19, [(0, .ref 4), (1, .int k)], [])) (cB := zc .gt k (8)) (v := true) (off := 12) (lv := [(0, .ref 4), (1, .int k)]) (r := []) rfl rfl rfl (zcb .gt (x := k) (y := (8)) (k := 8) (by decide) (decide_eq_true (by omega))) rfl).trans ?_
      refine (zq1 (q := ((20, [(0, .ref 4), (1, .int k)], [.int (-1)]), zh3)) rfl rfl rfl).trans ?_
      exact zqr rfl rfl
    refine (zqc 1 (s' := (8, [(0, .ref 0), (1, .int k)], [.int (-1)])) rfl rfl rfl rfl rfl rfl hc rfl).trans ?_
    exact zqr rfl rfl
  · refine (zcal_go (M := M_Mo_frame) rfl rfl rfl).trans ?_
    show zloop zmt (zcal zmt 100000 8 399) 9 399 none M_Mo_frame 100000 (0, [(0, .ref 54), (1, .int k)], []) zh3 = _
    refine (zq1 (q := ((1, [(0, .ref 54), (1, .int k)], [.int k]), zh3)) rfl rfl rfl).trans ?_
    refine (zqb (q := (4, [(0, .ref 54), (1, .int k)], [])) (cB := zc .lt k (0)) (v := false) (off := 18) (lv := [(0, .ref 54), (1, .int k)]) (r := []) rfl rfl rfl (zcb .lt (x := k) (y := (0)) (k := 0) (by decide) (decide_eq_false (by omega))) rfl).trans ?_
    refine (zq1 (q := ((5, [(0, .ref 54), (1, .int k)], [.int k]), zh3)) rfl rfl rfl).trans ?_
    refine (zq1 (q := ((7, [(0, .ref 54), (1, .int k)], [.int 8, .int k]), zh3)) rfl rfl rfl).trans ?_
    refine (zqb (q := (19, [(0, .ref 54), (1, .int k)], [])) (cB := zc .gt k (8)) (v := true) (off := 12) (lv := [(0, .ref 54), (1, .int k)]) (r := []) rfl rfl rfl (zcb .gt (x := k) (y := (8)) (k := 8) (by decide) (decide_eq_true (by omega))) rfl).trans ?_
    refine (zq1 (q := ((20, [(0, .ref 54), (1, .int k)], [.int (-1)]), zh3)) rfl rfl rfl).trans ?_
    exact zqr rfl rfl
set_option maxRecDepth 1000000 in
set_option maxHeartbeats 4000000 in
theorem zi_result_lt (k : Int32) (h : k.toInt < 0) : zPair 73 137 [.int k] := by
  refine ⟨(-1), zh3, zh3, ?_, ?_, rfl, rfl, rfl⟩
  · refine (zcal_go (M := M_ST_result) rfl rfl rfl).trans ?_
    show zloop zmt (zcal zmt 100000 8 399) 9 399 none M_ST_result 100000 (0, [(0, .ref 0), (1, .int k)], []) zh3 = _
    refine (zq1 (q := ((1, [(0, .ref 0), (1, .int k)], [.int k]), zh3)) rfl rfl rfl).trans ?_
    refine (zqb (q := (12, [(0, .ref 0), (1, .int k)], [])) (cB := zc .lt k (0)) (v := true) (off := 11) (lv := [(0, .ref 0), (1, .int k)]) (r := []) rfl rfl rfl (zcb .lt (x := k) (y := (0)) (k := 0) (by decide) (decide_eq_true (by omega))) rfl).trans ?_
    refine (zq1 (q := ((13, [(0, .ref 0), (1, .int k)], [.int (-1)]), zh3)) rfl rfl rfl).trans ?_
    refine (zq1 (q := ((22, [(0, .ref 0), (1, .int k)], [.int (-1)]), zh3)) rfl rfl rfl).trans ?_
    exact zqr rfl rfl
  · refine (zcal_go (M := M_Mo_result) rfl rfl rfl).trans ?_
    show zloop zmt (zcal zmt 100000 8 399) 9 399 none M_Mo_result 100000 (0, [(0, .ref 54), (1, .int k)], []) zh3 = _
    refine (zq1 (q := ((1, [(0, .ref 54), (1, .int k)], [.int k]), zh3)) rfl rfl rfl).trans ?_
    refine (zqb (q := (21, [(0, .ref 54), (1, .int k)], [])) (cB := zc .lt k (0)) (v := true) (off := 20) (lv := [(0, .ref 54), (1, .int k)]) (r := []) rfl rfl rfl (zcb .lt (x := k) (y := (0)) (k := 0) (by decide) (decide_eq_true (by omega))) rfl).trans ?_
    refine (zq1 (q := ((22, [(0, .ref 54), (1, .int k)], [.int (-1)]), zh3)) rfl rfl rfl).trans ?_
    exact zqr rfl rfl
set_option maxRecDepth 1000000 in
set_option maxHeartbeats 4000000 in
theorem zi_result_ge (k : Int32) (h : 0 ≤ k.toInt) : zPair 73 137 [.int k] := by
  refine ⟨(-1), zh3, zh3, ?_, ?_, rfl, rfl, rfl⟩
  · refine (zcal_go (M := M_ST_result) rfl rfl rfl).trans ?_
    show zloop zmt (zcal zmt 100000 8 399) 9 399 none M_ST_result 100000 (0, [(0, .ref 0), (1, .int k)], []) zh3 = _
    refine (zq1 (q := ((1, [(0, .ref 0), (1, .int k)], [.int k]), zh3)) rfl rfl rfl).trans ?_
    refine (zqb (q := (4, [(0, .ref 0), (1, .int k)], [])) (cB := zc .lt k (0)) (v := false) (off := 11) (lv := [(0, .ref 0), (1, .int k)]) (r := []) rfl rfl rfl (zcb .lt (x := k) (y := (0)) (k := 0) (by decide) (decide_eq_false (by omega))) rfl).trans ?_
    refine (zq1 (q := ((5, [(0, .ref 0), (1, .int k)], [.int k]), zh3)) rfl rfl rfl).trans ?_
    refine (zq1 (q := ((6, [(0, .ref 0), (1, .int k)], [.ref 0, .int k]), zh3)) rfl rfl rfl).trans ?_
    refine (zq1 (q := ((9, [(0, .ref 0), (1, .int k)], [.int 0, .int k]), zh3)) rfl rfl rfl).trans ?_
    refine (zqb (q := (12, [(0, .ref 0), (1, .int k)], [])) (cB := zc .lt k (0)) (v := false) (off := 7) (lv := [(0, .ref 0), (1, .int k)]) (r := []) rfl rfl rfl (zcb .lt (x := k) (y := (0)) (k := 0) (by decide) (decide_eq_false (by omega))) rfl).trans ?_
    refine (zq1 (q := ((13, [(0, .ref 0), (1, .int k)], [.int (-1)]), zh3)) rfl rfl rfl).trans ?_
    refine (zq1 (q := ((22, [(0, .ref 0), (1, .int k)], [.int (-1)]), zh3)) rfl rfl rfl).trans ?_
    exact zqr rfl rfl
  · refine (zcal_go (M := M_Mo_result) rfl rfl rfl).trans ?_
    show zloop zmt (zcal zmt 100000 8 399) 9 399 none M_Mo_result 100000 (0, [(0, .ref 54), (1, .int k)], []) zh3 = _
    refine (zq1 (q := ((1, [(0, .ref 54), (1, .int k)], [.int k]), zh3)) rfl rfl rfl).trans ?_
    refine (zqb (q := (4, [(0, .ref 54), (1, .int k)], [])) (cB := zc .lt k (0)) (v := false) (off := 20) (lv := [(0, .ref 54), (1, .int k)]) (r := []) rfl rfl rfl (zcb .lt (x := k) (y := (0)) (k := 0) (by decide) (decide_eq_false (by omega))) rfl).trans ?_
    refine (zq1 (q := ((5, [(0, .ref 54), (1, .int k)], [.int k]), zh3)) rfl rfl rfl).trans ?_
    refine (zq1 (q := ((6, [(0, .ref 54), (1, .int k)], [.ref 54, .int k]), zh3)) rfl rfl rfl).trans ?_
    refine (zq1 (q := ((9, [(0, .ref 54), (1, .int k)], [.int 0, .int k]), zh3)) rfl rfl rfl).trans ?_
    refine (zqb (q := (21, [(0, .ref 54), (1, .int k)], [])) (cB := zc .ge k (0)) (v := true) (off := 12) (lv := [(0, .ref 54), (1, .int k)]) (r := []) rfl rfl rfl (zcb .ge (x := k) (y := (0)) (k := 0) (by decide) (decide_eq_true (by omega))) rfl).trans ?_
    refine (zq1 (q := ((22, [(0, .ref 54), (1, .int k)], [.int (-1)]), zh3)) rfl rfl rfl).trans ?_
    exact zqr rfl rfl
set_option maxRecDepth 1000000 in
set_option maxHeartbeats 4000000 in
theorem zi_vertex_alt (a b : Int32) (h : a.toInt < 0) : zPair 7 97 [.int a, .int b] := by
  refine ⟨(-1), zh3, zh3, ?_, ?_, rfl, rfl, rfl⟩
  · refine (zcal_go (M := M_ST_vertex) rfl rfl rfl).trans ?_
    show zloop zmt (zcal zmt 100000 8 398) 9 398 none M_ST_vertex 100000 (0, [(0, .ref 0), (1, .int a), (2, .int b)], []) zh3 = _
    refine (zq1 (q := ((1, [(0, .ref 0), (1, .int a), (2, .int b)], [.ref 0]), zh3)) rfl rfl rfl).trans ?_
    refine (zq1 (q := ((4, [(0, .ref 0), (1, .int a), (2, .int b)], [.ref 6]), zh3)) rfl rfl rfl).trans ?_
    refine (zq1 (q := ((5, [(0, .ref 0), (1, .int a), (2, .int b)], [.int a, .ref 6]), zh3)) rfl rfl rfl).trans ?_
    refine (zq1 (q := ((6, [(0, .ref 0), (1, .int a), (2, .int b)], [.int b, .int a, .ref 6]), zh3)) rfl rfl rfl).trans ?_
    have hc : zcal zmt 100000 8 398 8 [.ref 6, .int a, .int b] zh3 = some (some (.int (-1)), zh3) := by
      refine (zcal_go (M := M_Dr_append) rfl rfl rfl).trans ?_
      show zloop zmt (zcal zmt 100000 7 376) 8 376 none M_Dr_append 100000 (0, [(0, .ref 6), (1, .int a), (2, .int b)], []) zh3 = _
      refine (zq1 (q := ((1, [(0, .ref 6), (1, .int a), (2, .int b)], [.ref 6]), zh3)) rfl rfl rfl).trans ?_
      refine (zq1 (q := ((4, [(0, .ref 6), (1, .int a), (2, .int b)], [.int 0]), zh3)) rfl rfl rfl).trans ?_
      refine (zq1 (q := ((6, [(0, .ref 6), (1, .int a), (2, .int b)], [.int 6, .int 0]), zh3)) rfl rfl rfl).trans ?_
      refine (zq1 (q := ((9, [(0, .ref 6), (1, .int a), (2, .int b)], []), zh3)) rfl rfl rfl).trans ?_
      refine (zq1 (q := ((10, [(0, .ref 6), (1, .int a), (2, .int b)], [.int a]), zh3)) rfl rfl rfl).trans ?_
      have hc : zcal zmt 100000 7 376 9 [.int a] zh3 = some (some (.int 0), zh3) := by
        refine (zcal_go (M := M_Dr_isCoordinate) rfl rfl rfl).trans ?_
        show zloop zmt (zcal zmt 100000 6 356) 7 356 none M_Dr_isCoordinate 100000 (0, [(0, .int a)], []) zh3 = _
        refine (zq1 (q := ((1, [(0, .int a)], [.int a]), zh3)) rfl rfl rfl).trans ?_
        refine (zqb (q := (15, [(0, .int a)], [])) (cB := zc .lt a (0)) (v := true) (off := 14) (lv := [(0, .int a)]) (r := []) rfl rfl rfl (zcb .lt (x := a) (y := (0)) (k := 0) (by decide) (decide_eq_true (by omega))) rfl).trans ?_
        refine (zq1 (q := ((16, [(0, .int a)], [.int 0]), zh3)) rfl rfl rfl).trans ?_
        exact zqr rfl rfl
      refine (zqc 0 (s' := (13, [(0, .ref 6), (1, .int a), (2, .int b)], [.int 0])) rfl rfl rfl rfl rfl rfl hc rfl).trans ?_
      refine (zq1 (q := ((23, [(0, .ref 6), (1, .int a), (2, .int b)], []), zh3)) rfl rfl rfl).trans ?_
      refine (zq1 (q := ((24, [(0, .ref 6), (1, .int a), (2, .int b)], [.int (-1)]), zh3)) rfl rfl rfl).trans ?_
      exact zqr rfl rfl
    refine (zqc 1 (s' := (9, [(0, .ref 0), (1, .int a), (2, .int b)], [.int (-1)])) rfl rfl rfl rfl rfl rfl hc rfl).trans ?_
    exact zqr rfl rfl
  · refine (zcal_go (M := M_Mo_vertex) rfl rfl rfl).trans ?_
    show zloop zmt (zcal zmt 100000 8 398) 9 398 none M_Mo_vertex 100000 (0, [(0, .ref 54), (1, .int a), (2, .int b)], []) zh3 = _
    refine (zq1 (q := ((1, [(0, .ref 54), (1, .int a), (2, .int b)], [.int a]), zh3)) rfl rfl rfl).trans ?_
    refine (zqb (q := (31, [(0, .ref 54), (1, .int a), (2, .int b)], [])) (cB := zc .lt a (0)) (v := true) (off := 30) (lv := [(0, .ref 54), (1, .int a), (2, .int b)]) (r := []) rfl rfl rfl (zcb .lt (x := a) (y := (0)) (k := 0) (by decide) (decide_eq_true (by omega))) rfl).trans ?_
    refine (zq1 (q := ((32, [(0, .ref 54), (1, .int a), (2, .int b)], [.int (-1)]), zh3)) rfl rfl rfl).trans ?_
    exact zqr rfl rfl
set_option maxRecDepth 1000000 in
set_option maxHeartbeats 4000000 in
theorem zi_vertex_age (a b : Int32) (h : 256 ≤ a.toInt) : zPair 7 97 [.int a, .int b] := by
  refine ⟨(-1), zh3, zh3, ?_, ?_, rfl, rfl, rfl⟩
  · refine (zcal_go (M := M_ST_vertex) rfl rfl rfl).trans ?_
    show zloop zmt (zcal zmt 100000 8 398) 9 398 none M_ST_vertex 100000 (0, [(0, .ref 0), (1, .int a), (2, .int b)], []) zh3 = _
    refine (zq1 (q := ((1, [(0, .ref 0), (1, .int a), (2, .int b)], [.ref 0]), zh3)) rfl rfl rfl).trans ?_
    refine (zq1 (q := ((4, [(0, .ref 0), (1, .int a), (2, .int b)], [.ref 6]), zh3)) rfl rfl rfl).trans ?_
    refine (zq1 (q := ((5, [(0, .ref 0), (1, .int a), (2, .int b)], [.int a, .ref 6]), zh3)) rfl rfl rfl).trans ?_
    refine (zq1 (q := ((6, [(0, .ref 0), (1, .int a), (2, .int b)], [.int b, .int a, .ref 6]), zh3)) rfl rfl rfl).trans ?_
    have hc : zcal zmt 100000 8 398 8 [.ref 6, .int a, .int b] zh3 = some (some (.int (-1)), zh3) := by
      refine (zcal_go (M := M_Dr_append) rfl rfl rfl).trans ?_
      show zloop zmt (zcal zmt 100000 7 376) 8 376 none M_Dr_append 100000 (0, [(0, .ref 6), (1, .int a), (2, .int b)], []) zh3 = _
      refine (zq1 (q := ((1, [(0, .ref 6), (1, .int a), (2, .int b)], [.ref 6]), zh3)) rfl rfl rfl).trans ?_
      refine (zq1 (q := ((4, [(0, .ref 6), (1, .int a), (2, .int b)], [.int 0]), zh3)) rfl rfl rfl).trans ?_
      refine (zq1 (q := ((6, [(0, .ref 6), (1, .int a), (2, .int b)], [.int 6, .int 0]), zh3)) rfl rfl rfl).trans ?_
      refine (zq1 (q := ((9, [(0, .ref 6), (1, .int a), (2, .int b)], []), zh3)) rfl rfl rfl).trans ?_
      refine (zq1 (q := ((10, [(0, .ref 6), (1, .int a), (2, .int b)], [.int a]), zh3)) rfl rfl rfl).trans ?_
      have hc : zcal zmt 100000 7 376 9 [.int a] zh3 = some (some (.int 0), zh3) := by
        refine (zcal_go (M := M_Dr_isCoordinate) rfl rfl rfl).trans ?_
        show zloop zmt (zcal zmt 100000 6 356) 7 356 none M_Dr_isCoordinate 100000 (0, [(0, .int a)], []) zh3 = _
        refine (zq1 (q := ((1, [(0, .int a)], [.int a]), zh3)) rfl rfl rfl).trans ?_
        refine (zqb (q := (4, [(0, .int a)], [])) (cB := zc .lt a (0)) (v := false) (off := 14) (lv := [(0, .int a)]) (r := []) rfl rfl rfl (zcb .lt (x := a) (y := (0)) (k := 0) (by decide) (decide_eq_false (by omega))) rfl).trans ?_
        refine (zq1 (q := ((5, [(0, .int a)], [.int a]), zh3)) rfl rfl rfl).trans ?_
        refine (zq1 (q := ((8, [(0, .int a)], [.int 255, .int a]), zh3)) rfl rfl rfl).trans ?_
        refine (zqb (q := (15, [(0, .int a)], [])) (cB := zc .gt a (255)) (v := true) (off := 7) (lv := [(0, .int a)]) (r := []) rfl rfl rfl (zcb .gt (x := a) (y := (255)) (k := 255) (by decide) (decide_eq_true (by omega))) rfl).trans ?_
        refine (zq1 (q := ((16, [(0, .int a)], [.int 0]), zh3)) rfl rfl rfl).trans ?_
        exact zqr rfl rfl
      refine (zqc 0 (s' := (13, [(0, .ref 6), (1, .int a), (2, .int b)], [.int 0])) rfl rfl rfl rfl rfl rfl hc rfl).trans ?_
      refine (zq1 (q := ((23, [(0, .ref 6), (1, .int a), (2, .int b)], []), zh3)) rfl rfl rfl).trans ?_
      refine (zq1 (q := ((24, [(0, .ref 6), (1, .int a), (2, .int b)], [.int (-1)]), zh3)) rfl rfl rfl).trans ?_
      exact zqr rfl rfl
    refine (zqc 1 (s' := (9, [(0, .ref 0), (1, .int a), (2, .int b)], [.int (-1)])) rfl rfl rfl rfl rfl rfl hc rfl).trans ?_
    exact zqr rfl rfl
  · refine (zcal_go (M := M_Mo_vertex) rfl rfl rfl).trans ?_
    show zloop zmt (zcal zmt 100000 8 398) 9 398 none M_Mo_vertex 100000 (0, [(0, .ref 54), (1, .int a), (2, .int b)], []) zh3 = _
    refine (zq1 (q := ((1, [(0, .ref 54), (1, .int a), (2, .int b)], [.int a]), zh3)) rfl rfl rfl).trans ?_
    refine (zqb (q := (4, [(0, .ref 54), (1, .int a), (2, .int b)], [])) (cB := zc .lt a (0)) (v := false) (off := 30) (lv := [(0, .ref 54), (1, .int a), (2, .int b)]) (r := []) rfl rfl rfl (zcb .lt (x := a) (y := (0)) (k := 0) (by decide) (decide_eq_false (by omega))) rfl).trans ?_
    refine (zq1 (q := ((5, [(0, .ref 54), (1, .int a), (2, .int b)], [.int a]), zh3)) rfl rfl rfl).trans ?_
    refine (zq1 (q := ((8, [(0, .ref 54), (1, .int a), (2, .int b)], [.int 255, .int a]), zh3)) rfl rfl rfl).trans ?_
    refine (zqb (q := (31, [(0, .ref 54), (1, .int a), (2, .int b)], [])) (cB := zc .gt a (255)) (v := true) (off := 23) (lv := [(0, .ref 54), (1, .int a), (2, .int b)]) (r := []) rfl rfl rfl (zcb .gt (x := a) (y := (255)) (k := 255) (by decide) (decide_eq_true (by omega))) rfl).trans ?_
    refine (zq1 (q := ((32, [(0, .ref 54), (1, .int a), (2, .int b)], [.int (-1)]), zh3)) rfl rfl rfl).trans ?_
    exact zqr rfl rfl
set_option maxRecDepth 1000000 in
set_option maxHeartbeats 4000000 in
theorem zi_vertex_blt (a b : Int32) (h0 : 0 ≤ a.toInt) (h1 : a.toInt ≤ 255) (h : b.toInt < 0) : zPair 7 97 [.int a, .int b] := by
  refine ⟨(-1), zh3, zh3, ?_, ?_, rfl, rfl, rfl⟩
  · refine (zcal_go (M := M_ST_vertex) rfl rfl rfl).trans ?_
    show zloop zmt (zcal zmt 100000 8 398) 9 398 none M_ST_vertex 100000 (0, [(0, .ref 0), (1, .int a), (2, .int b)], []) zh3 = _
    refine (zq1 (q := ((1, [(0, .ref 0), (1, .int a), (2, .int b)], [.ref 0]), zh3)) rfl rfl rfl).trans ?_
    refine (zq1 (q := ((4, [(0, .ref 0), (1, .int a), (2, .int b)], [.ref 6]), zh3)) rfl rfl rfl).trans ?_
    refine (zq1 (q := ((5, [(0, .ref 0), (1, .int a), (2, .int b)], [.int a, .ref 6]), zh3)) rfl rfl rfl).trans ?_
    refine (zq1 (q := ((6, [(0, .ref 0), (1, .int a), (2, .int b)], [.int b, .int a, .ref 6]), zh3)) rfl rfl rfl).trans ?_
    have hc : zcal zmt 100000 8 398 8 [.ref 6, .int a, .int b] zh3 = some (some (.int (-1)), zh3) := by
      refine (zcal_go (M := M_Dr_append) rfl rfl rfl).trans ?_
      show zloop zmt (zcal zmt 100000 7 376) 8 376 none M_Dr_append 100000 (0, [(0, .ref 6), (1, .int a), (2, .int b)], []) zh3 = _
      refine (zq1 (q := ((1, [(0, .ref 6), (1, .int a), (2, .int b)], [.ref 6]), zh3)) rfl rfl rfl).trans ?_
      refine (zq1 (q := ((4, [(0, .ref 6), (1, .int a), (2, .int b)], [.int 0]), zh3)) rfl rfl rfl).trans ?_
      refine (zq1 (q := ((6, [(0, .ref 6), (1, .int a), (2, .int b)], [.int 6, .int 0]), zh3)) rfl rfl rfl).trans ?_
      refine (zq1 (q := ((9, [(0, .ref 6), (1, .int a), (2, .int b)], []), zh3)) rfl rfl rfl).trans ?_
      refine (zq1 (q := ((10, [(0, .ref 6), (1, .int a), (2, .int b)], [.int a]), zh3)) rfl rfl rfl).trans ?_
      have hc : zcal zmt 100000 7 376 9 [.int a] zh3 = some (some (.int 1), zh3) := by
        refine (zcal_go (M := M_Dr_isCoordinate) rfl rfl rfl).trans ?_
        show zloop zmt (zcal zmt 100000 6 356) 7 356 none M_Dr_isCoordinate 100000 (0, [(0, .int a)], []) zh3 = _
        refine (zq1 (q := ((1, [(0, .int a)], [.int a]), zh3)) rfl rfl rfl).trans ?_
        refine (zqb (q := (4, [(0, .int a)], [])) (cB := zc .lt a (0)) (v := false) (off := 14) (lv := [(0, .int a)]) (r := []) rfl rfl rfl (zcb .lt (x := a) (y := (0)) (k := 0) (by decide) (decide_eq_false (by omega))) rfl).trans ?_
        refine (zq1 (q := ((5, [(0, .int a)], [.int a]), zh3)) rfl rfl rfl).trans ?_
        refine (zq1 (q := ((8, [(0, .int a)], [.int 255, .int a]), zh3)) rfl rfl rfl).trans ?_
        refine (zqb (q := (11, [(0, .int a)], [])) (cB := zc .gt a (255)) (v := false) (off := 7) (lv := [(0, .int a)]) (r := []) rfl rfl rfl (zcb .gt (x := a) (y := (255)) (k := 255) (by decide) (decide_eq_false (by omega))) rfl).trans ?_
        refine (zq1 (q := ((12, [(0, .int a)], [.int 1]), zh3)) rfl rfl rfl).trans ?_
        refine (zq1 (q := ((16, [(0, .int a)], [.int 1]), zh3)) rfl rfl rfl).trans ?_
        exact zqr rfl rfl
      refine (zqc 0 (s' := (13, [(0, .ref 6), (1, .int a), (2, .int b)], [.int 1])) rfl rfl rfl rfl rfl rfl hc rfl).trans ?_
      refine (zq1 (q := ((16, [(0, .ref 6), (1, .int a), (2, .int b)], []), zh3)) rfl rfl rfl).trans ?_
      refine (zq1 (q := ((17, [(0, .ref 6), (1, .int a), (2, .int b)], [.int b]), zh3)) rfl rfl rfl).trans ?_
      have hc : zcal zmt 100000 7 376 9 [.int b] zh3 = some (some (.int 0), zh3) := by
        refine (zcal_go (M := M_Dr_isCoordinate) rfl rfl rfl).trans ?_
        show zloop zmt (zcal zmt 100000 6 356) 7 356 none M_Dr_isCoordinate 100000 (0, [(0, .int b)], []) zh3 = _
        refine (zq1 (q := ((1, [(0, .int b)], [.int b]), zh3)) rfl rfl rfl).trans ?_
        refine (zqb (q := (15, [(0, .int b)], [])) (cB := zc .lt b (0)) (v := true) (off := 14) (lv := [(0, .int b)]) (r := []) rfl rfl rfl (zcb .lt (x := b) (y := (0)) (k := 0) (by decide) (decide_eq_true (by omega))) rfl).trans ?_
        refine (zq1 (q := ((16, [(0, .int b)], [.int 0]), zh3)) rfl rfl rfl).trans ?_
        exact zqr rfl rfl
      refine (zqc 0 (s' := (20, [(0, .ref 6), (1, .int a), (2, .int b)], [.int 0])) rfl rfl rfl rfl rfl rfl hc rfl).trans ?_
      refine (zq1 (q := ((23, [(0, .ref 6), (1, .int a), (2, .int b)], []), zh3)) rfl rfl rfl).trans ?_
      refine (zq1 (q := ((24, [(0, .ref 6), (1, .int a), (2, .int b)], [.int (-1)]), zh3)) rfl rfl rfl).trans ?_
      exact zqr rfl rfl
    refine (zqc 1 (s' := (9, [(0, .ref 0), (1, .int a), (2, .int b)], [.int (-1)])) rfl rfl rfl rfl rfl rfl hc rfl).trans ?_
    exact zqr rfl rfl
  · refine (zcal_go (M := M_Mo_vertex) rfl rfl rfl).trans ?_
    show zloop zmt (zcal zmt 100000 8 398) 9 398 none M_Mo_vertex 100000 (0, [(0, .ref 54), (1, .int a), (2, .int b)], []) zh3 = _
    refine (zq1 (q := ((1, [(0, .ref 54), (1, .int a), (2, .int b)], [.int a]), zh3)) rfl rfl rfl).trans ?_
    refine (zqb (q := (4, [(0, .ref 54), (1, .int a), (2, .int b)], [])) (cB := zc .lt a (0)) (v := false) (off := 30) (lv := [(0, .ref 54), (1, .int a), (2, .int b)]) (r := []) rfl rfl rfl (zcb .lt (x := a) (y := (0)) (k := 0) (by decide) (decide_eq_false (by omega))) rfl).trans ?_
    refine (zq1 (q := ((5, [(0, .ref 54), (1, .int a), (2, .int b)], [.int a]), zh3)) rfl rfl rfl).trans ?_
    refine (zq1 (q := ((8, [(0, .ref 54), (1, .int a), (2, .int b)], [.int 255, .int a]), zh3)) rfl rfl rfl).trans ?_
    refine (zqb (q := (11, [(0, .ref 54), (1, .int a), (2, .int b)], [])) (cB := zc .gt a (255)) (v := false) (off := 23) (lv := [(0, .ref 54), (1, .int a), (2, .int b)]) (r := []) rfl rfl rfl (zcb .gt (x := a) (y := (255)) (k := 255) (by decide) (decide_eq_false (by omega))) rfl).trans ?_
    refine (zq1 (q := ((12, [(0, .ref 54), (1, .int a), (2, .int b)], [.int b]), zh3)) rfl rfl rfl).trans ?_
    refine (zqb (q := (31, [(0, .ref 54), (1, .int a), (2, .int b)], [])) (cB := zc .lt b (0)) (v := true) (off := 19) (lv := [(0, .ref 54), (1, .int a), (2, .int b)]) (r := []) rfl rfl rfl (zcb .lt (x := b) (y := (0)) (k := 0) (by decide) (decide_eq_true (by omega))) rfl).trans ?_
    refine (zq1 (q := ((32, [(0, .ref 54), (1, .int a), (2, .int b)], [.int (-1)]), zh3)) rfl rfl rfl).trans ?_
    exact zqr rfl rfl
set_option maxRecDepth 1000000 in
set_option maxHeartbeats 4000000 in
theorem zi_vertex_bge (a b : Int32) (h0 : 0 ≤ a.toInt) (h1 : a.toInt ≤ 255) (h : 256 ≤ b.toInt) : zPair 7 97 [.int a, .int b] := by
  refine ⟨(-1), zh3, zh3, ?_, ?_, rfl, rfl, rfl⟩
  · refine (zcal_go (M := M_ST_vertex) rfl rfl rfl).trans ?_
    show zloop zmt (zcal zmt 100000 8 398) 9 398 none M_ST_vertex 100000 (0, [(0, .ref 0), (1, .int a), (2, .int b)], []) zh3 = _
    refine (zq1 (q := ((1, [(0, .ref 0), (1, .int a), (2, .int b)], [.ref 0]), zh3)) rfl rfl rfl).trans ?_
    refine (zq1 (q := ((4, [(0, .ref 0), (1, .int a), (2, .int b)], [.ref 6]), zh3)) rfl rfl rfl).trans ?_
    refine (zq1 (q := ((5, [(0, .ref 0), (1, .int a), (2, .int b)], [.int a, .ref 6]), zh3)) rfl rfl rfl).trans ?_
    refine (zq1 (q := ((6, [(0, .ref 0), (1, .int a), (2, .int b)], [.int b, .int a, .ref 6]), zh3)) rfl rfl rfl).trans ?_
    have hc : zcal zmt 100000 8 398 8 [.ref 6, .int a, .int b] zh3 = some (some (.int (-1)), zh3) := by
      refine (zcal_go (M := M_Dr_append) rfl rfl rfl).trans ?_
      show zloop zmt (zcal zmt 100000 7 376) 8 376 none M_Dr_append 100000 (0, [(0, .ref 6), (1, .int a), (2, .int b)], []) zh3 = _
      refine (zq1 (q := ((1, [(0, .ref 6), (1, .int a), (2, .int b)], [.ref 6]), zh3)) rfl rfl rfl).trans ?_
      refine (zq1 (q := ((4, [(0, .ref 6), (1, .int a), (2, .int b)], [.int 0]), zh3)) rfl rfl rfl).trans ?_
      refine (zq1 (q := ((6, [(0, .ref 6), (1, .int a), (2, .int b)], [.int 6, .int 0]), zh3)) rfl rfl rfl).trans ?_
      refine (zq1 (q := ((9, [(0, .ref 6), (1, .int a), (2, .int b)], []), zh3)) rfl rfl rfl).trans ?_
      refine (zq1 (q := ((10, [(0, .ref 6), (1, .int a), (2, .int b)], [.int a]), zh3)) rfl rfl rfl).trans ?_
      have hc : zcal zmt 100000 7 376 9 [.int a] zh3 = some (some (.int 1), zh3) := by
        refine (zcal_go (M := M_Dr_isCoordinate) rfl rfl rfl).trans ?_
        show zloop zmt (zcal zmt 100000 6 356) 7 356 none M_Dr_isCoordinate 100000 (0, [(0, .int a)], []) zh3 = _
        refine (zq1 (q := ((1, [(0, .int a)], [.int a]), zh3)) rfl rfl rfl).trans ?_
        refine (zqb (q := (4, [(0, .int a)], [])) (cB := zc .lt a (0)) (v := false) (off := 14) (lv := [(0, .int a)]) (r := []) rfl rfl rfl (zcb .lt (x := a) (y := (0)) (k := 0) (by decide) (decide_eq_false (by omega))) rfl).trans ?_
        refine (zq1 (q := ((5, [(0, .int a)], [.int a]), zh3)) rfl rfl rfl).trans ?_
        refine (zq1 (q := ((8, [(0, .int a)], [.int 255, .int a]), zh3)) rfl rfl rfl).trans ?_
        refine (zqb (q := (11, [(0, .int a)], [])) (cB := zc .gt a (255)) (v := false) (off := 7) (lv := [(0, .int a)]) (r := []) rfl rfl rfl (zcb .gt (x := a) (y := (255)) (k := 255) (by decide) (decide_eq_false (by omega))) rfl).trans ?_
        refine (zq1 (q := ((12, [(0, .int a)], [.int 1]), zh3)) rfl rfl rfl).trans ?_
        refine (zq1 (q := ((16, [(0, .int a)], [.int 1]), zh3)) rfl rfl rfl).trans ?_
        exact zqr rfl rfl
      refine (zqc 0 (s' := (13, [(0, .ref 6), (1, .int a), (2, .int b)], [.int 1])) rfl rfl rfl rfl rfl rfl hc rfl).trans ?_
      refine (zq1 (q := ((16, [(0, .ref 6), (1, .int a), (2, .int b)], []), zh3)) rfl rfl rfl).trans ?_
      refine (zq1 (q := ((17, [(0, .ref 6), (1, .int a), (2, .int b)], [.int b]), zh3)) rfl rfl rfl).trans ?_
      have hc : zcal zmt 100000 7 376 9 [.int b] zh3 = some (some (.int 0), zh3) := by
        refine (zcal_go (M := M_Dr_isCoordinate) rfl rfl rfl).trans ?_
        show zloop zmt (zcal zmt 100000 6 356) 7 356 none M_Dr_isCoordinate 100000 (0, [(0, .int b)], []) zh3 = _
        refine (zq1 (q := ((1, [(0, .int b)], [.int b]), zh3)) rfl rfl rfl).trans ?_
        refine (zqb (q := (4, [(0, .int b)], [])) (cB := zc .lt b (0)) (v := false) (off := 14) (lv := [(0, .int b)]) (r := []) rfl rfl rfl (zcb .lt (x := b) (y := (0)) (k := 0) (by decide) (decide_eq_false (by omega))) rfl).trans ?_
        refine (zq1 (q := ((5, [(0, .int b)], [.int b]), zh3)) rfl rfl rfl).trans ?_
        refine (zq1 (q := ((8, [(0, .int b)], [.int 255, .int b]), zh3)) rfl rfl rfl).trans ?_
        refine (zqb (q := (15, [(0, .int b)], [])) (cB := zc .gt b (255)) (v := true) (off := 7) (lv := [(0, .int b)]) (r := []) rfl rfl rfl (zcb .gt (x := b) (y := (255)) (k := 255) (by decide) (decide_eq_true (by omega))) rfl).trans ?_
        refine (zq1 (q := ((16, [(0, .int b)], [.int 0]), zh3)) rfl rfl rfl).trans ?_
        exact zqr rfl rfl
      refine (zqc 0 (s' := (20, [(0, .ref 6), (1, .int a), (2, .int b)], [.int 0])) rfl rfl rfl rfl rfl rfl hc rfl).trans ?_
      refine (zq1 (q := ((23, [(0, .ref 6), (1, .int a), (2, .int b)], []), zh3)) rfl rfl rfl).trans ?_
      refine (zq1 (q := ((24, [(0, .ref 6), (1, .int a), (2, .int b)], [.int (-1)]), zh3)) rfl rfl rfl).trans ?_
      exact zqr rfl rfl
    refine (zqc 1 (s' := (9, [(0, .ref 0), (1, .int a), (2, .int b)], [.int (-1)])) rfl rfl rfl rfl rfl rfl hc rfl).trans ?_
    exact zqr rfl rfl
  · refine (zcal_go (M := M_Mo_vertex) rfl rfl rfl).trans ?_
    show zloop zmt (zcal zmt 100000 8 398) 9 398 none M_Mo_vertex 100000 (0, [(0, .ref 54), (1, .int a), (2, .int b)], []) zh3 = _
    refine (zq1 (q := ((1, [(0, .ref 54), (1, .int a), (2, .int b)], [.int a]), zh3)) rfl rfl rfl).trans ?_
    refine (zqb (q := (4, [(0, .ref 54), (1, .int a), (2, .int b)], [])) (cB := zc .lt a (0)) (v := false) (off := 30) (lv := [(0, .ref 54), (1, .int a), (2, .int b)]) (r := []) rfl rfl rfl (zcb .lt (x := a) (y := (0)) (k := 0) (by decide) (decide_eq_false (by omega))) rfl).trans ?_
    refine (zq1 (q := ((5, [(0, .ref 54), (1, .int a), (2, .int b)], [.int a]), zh3)) rfl rfl rfl).trans ?_
    refine (zq1 (q := ((8, [(0, .ref 54), (1, .int a), (2, .int b)], [.int 255, .int a]), zh3)) rfl rfl rfl).trans ?_
    refine (zqb (q := (11, [(0, .ref 54), (1, .int a), (2, .int b)], [])) (cB := zc .gt a (255)) (v := false) (off := 23) (lv := [(0, .ref 54), (1, .int a), (2, .int b)]) (r := []) rfl rfl rfl (zcb .gt (x := a) (y := (255)) (k := 255) (by decide) (decide_eq_false (by omega))) rfl).trans ?_
    refine (zq1 (q := ((12, [(0, .ref 54), (1, .int a), (2, .int b)], [.int b]), zh3)) rfl rfl rfl).trans ?_
    refine (zqb (q := (15, [(0, .ref 54), (1, .int a), (2, .int b)], [])) (cB := zc .lt b (0)) (v := false) (off := 19) (lv := [(0, .ref 54), (1, .int a), (2, .int b)]) (r := []) rfl rfl rfl (zcb .lt (x := b) (y := (0)) (k := 0) (by decide) (decide_eq_false (by omega))) rfl).trans ?_
    refine (zq1 (q := ((16, [(0, .ref 54), (1, .int a), (2, .int b)], [.int b]), zh3)) rfl rfl rfl).trans ?_
    refine (zq1 (q := ((19, [(0, .ref 54), (1, .int a), (2, .int b)], [.int 255, .int b]), zh3)) rfl rfl rfl).trans ?_
    refine (zqb (q := (31, [(0, .ref 54), (1, .int a), (2, .int b)], [])) (cB := zc .gt b (255)) (v := true) (off := 12) (lv := [(0, .ref 54), (1, .int a), (2, .int b)]) (r := []) rfl rfl rfl (zcb .gt (x := b) (y := (255)) (k := 255) (by decide) (decide_eq_true (by omega))) rfl).trans ?_
    refine (zq1 (q := ((32, [(0, .ref 54), (1, .int a), (2, .int b)], [.int (-1)]), zh3)) rfl rfl rfl).trans ?_
    exact zqr rfl rfl
set_option maxRecDepth 1000000 in
set_option maxHeartbeats 4000000 in
theorem zi_vertex_in (a b : Int32) (h0 : 0 ≤ a.toInt) (h1 : a.toInt ≤ 255) (h2 : 0 ≤ b.toInt) (h3 : b.toInt ≤ 255) : zPair 7 97 [.int a, .int b] := by
  refine ⟨1, ((((zh3.1).set 7 (.inl (0, [.int a, .int 0, .int 0, .int 0, .int 0, .int 0]))).set 8 (.inl (0, [.int b, .int 0, .int 0, .int 0, .int 0, .int 0]))).set 6 (.inr (2, [.ref 7, .ref 8, .int 1])), 4224), (((((((zh3.1).set 7 (.inl (0, [.int a, .int 0, .int 0, .int 0, .int 0, .int 0]))).set 8 (.inl (0, [.int b, .int 0, .int 0, .int 0, .int 0, .int 0]))).set 6 (.inr (2, [.ref 7, .ref 8, .int 1]))).set 65 (.inl (0, [.int a, .int 0, .int 0, .int 0, .int 0, .int 0]))).set 66 (.inl (0, [.int b, .int 0, .int 0, .int 0, .int 0, .int 0]))).set 54 (.inr (8, [.ref 55, .ref 56, .ref 57, .ref 58, .ref 59, .ref 60, .ref 61, .ref 62, .ref 63, .ref 64, .int 1, .ref 65, .ref 66, .long 0, .long 0, .ref 67, .ref 68, .int 0, .int 0, .int 0, .int 0, .int 0, .int 0, .ref 69, .ref 70, .ref 71])), 4224), ?_, ?_, rfl, rfl, rfl⟩
  · refine (zcal_go (M := M_ST_vertex) rfl rfl rfl).trans ?_
    show zloop zmt (zcal zmt 100000 8 398) 9 398 none M_ST_vertex 100000 (0, [(0, .ref 0), (1, .int a), (2, .int b)], []) zh3 = _
    refine (zq1 (q := ((1, [(0, .ref 0), (1, .int a), (2, .int b)], [.ref 0]), zh3)) rfl rfl rfl).trans ?_
    refine (zq1 (q := ((4, [(0, .ref 0), (1, .int a), (2, .int b)], [.ref 6]), zh3)) rfl rfl rfl).trans ?_
    refine (zq1 (q := ((5, [(0, .ref 0), (1, .int a), (2, .int b)], [.int a, .ref 6]), zh3)) rfl rfl rfl).trans ?_
    refine (zq1 (q := ((6, [(0, .ref 0), (1, .int a), (2, .int b)], [.int b, .int a, .ref 6]), zh3)) rfl rfl rfl).trans ?_
    have hc : zcal zmt 100000 8 398 8 [.ref 6, .int a, .int b] zh3 = some (some (.int 1), ((((zh3.1).set 7 (.inl (0, [.int a, .int 0, .int 0, .int 0, .int 0, .int 0]))).set 8 (.inl (0, [.int b, .int 0, .int 0, .int 0, .int 0, .int 0]))).set 6 (.inr (2, [.ref 7, .ref 8, .int 1])), 4224)) := by
      refine (zcal_go (M := M_Dr_append) rfl rfl rfl).trans ?_
      show zloop zmt (zcal zmt 100000 7 376) 8 376 none M_Dr_append 100000 (0, [(0, .ref 6), (1, .int a), (2, .int b)], []) zh3 = _
      refine (zq1 (q := ((1, [(0, .ref 6), (1, .int a), (2, .int b)], [.ref 6]), zh3)) rfl rfl rfl).trans ?_
      refine (zq1 (q := ((4, [(0, .ref 6), (1, .int a), (2, .int b)], [.int 0]), zh3)) rfl rfl rfl).trans ?_
      refine (zq1 (q := ((6, [(0, .ref 6), (1, .int a), (2, .int b)], [.int 6, .int 0]), zh3)) rfl rfl rfl).trans ?_
      refine (zq1 (q := ((9, [(0, .ref 6), (1, .int a), (2, .int b)], []), zh3)) rfl rfl rfl).trans ?_
      refine (zq1 (q := ((10, [(0, .ref 6), (1, .int a), (2, .int b)], [.int a]), zh3)) rfl rfl rfl).trans ?_
      have hc : zcal zmt 100000 7 376 9 [.int a] zh3 = some (some (.int 1), zh3) := by
        refine (zcal_go (M := M_Dr_isCoordinate) rfl rfl rfl).trans ?_
        show zloop zmt (zcal zmt 100000 6 356) 7 356 none M_Dr_isCoordinate 100000 (0, [(0, .int a)], []) zh3 = _
        refine (zq1 (q := ((1, [(0, .int a)], [.int a]), zh3)) rfl rfl rfl).trans ?_
        refine (zqb (q := (4, [(0, .int a)], [])) (cB := zc .lt a (0)) (v := false) (off := 14) (lv := [(0, .int a)]) (r := []) rfl rfl rfl (zcb .lt (x := a) (y := (0)) (k := 0) (by decide) (decide_eq_false (by omega))) rfl).trans ?_
        refine (zq1 (q := ((5, [(0, .int a)], [.int a]), zh3)) rfl rfl rfl).trans ?_
        refine (zq1 (q := ((8, [(0, .int a)], [.int 255, .int a]), zh3)) rfl rfl rfl).trans ?_
        refine (zqb (q := (11, [(0, .int a)], [])) (cB := zc .gt a (255)) (v := false) (off := 7) (lv := [(0, .int a)]) (r := []) rfl rfl rfl (zcb .gt (x := a) (y := (255)) (k := 255) (by decide) (decide_eq_false (by omega))) rfl).trans ?_
        refine (zq1 (q := ((12, [(0, .int a)], [.int 1]), zh3)) rfl rfl rfl).trans ?_
        refine (zq1 (q := ((16, [(0, .int a)], [.int 1]), zh3)) rfl rfl rfl).trans ?_
        exact zqr rfl rfl
      refine (zqc 0 (s' := (13, [(0, .ref 6), (1, .int a), (2, .int b)], [.int 1])) rfl rfl rfl rfl rfl rfl hc rfl).trans ?_
      refine (zq1 (q := ((16, [(0, .ref 6), (1, .int a), (2, .int b)], []), zh3)) rfl rfl rfl).trans ?_
      refine (zq1 (q := ((17, [(0, .ref 6), (1, .int a), (2, .int b)], [.int b]), zh3)) rfl rfl rfl).trans ?_
      have hc : zcal zmt 100000 7 376 9 [.int b] zh3 = some (some (.int 1), zh3) := by
        refine (zcal_go (M := M_Dr_isCoordinate) rfl rfl rfl).trans ?_
        show zloop zmt (zcal zmt 100000 6 356) 7 356 none M_Dr_isCoordinate 100000 (0, [(0, .int b)], []) zh3 = _
        refine (zq1 (q := ((1, [(0, .int b)], [.int b]), zh3)) rfl rfl rfl).trans ?_
        refine (zqb (q := (4, [(0, .int b)], [])) (cB := zc .lt b (0)) (v := false) (off := 14) (lv := [(0, .int b)]) (r := []) rfl rfl rfl (zcb .lt (x := b) (y := (0)) (k := 0) (by decide) (decide_eq_false (by omega))) rfl).trans ?_
        refine (zq1 (q := ((5, [(0, .int b)], [.int b]), zh3)) rfl rfl rfl).trans ?_
        refine (zq1 (q := ((8, [(0, .int b)], [.int 255, .int b]), zh3)) rfl rfl rfl).trans ?_
        refine (zqb (q := (11, [(0, .int b)], [])) (cB := zc .gt b (255)) (v := false) (off := 7) (lv := [(0, .int b)]) (r := []) rfl rfl rfl (zcb .gt (x := b) (y := (255)) (k := 255) (by decide) (decide_eq_false (by omega))) rfl).trans ?_
        refine (zq1 (q := ((12, [(0, .int b)], [.int 1]), zh3)) rfl rfl rfl).trans ?_
        refine (zq1 (q := ((16, [(0, .int b)], [.int 1]), zh3)) rfl rfl rfl).trans ?_
        exact zqr rfl rfl
      refine (zqc 0 (s' := (20, [(0, .ref 6), (1, .int a), (2, .int b)], [.int 1])) rfl rfl rfl rfl rfl rfl hc rfl).trans ?_
      refine (zq1 (q := ((25, [(0, .ref 6), (1, .int a), (2, .int b)], []), zh3)) rfl rfl rfl).trans ?_
      refine (zq1 (q := ((26, [(0, .ref 6), (1, .int a), (2, .int b)], [.ref 6]), zh3)) rfl rfl rfl).trans ?_
      refine (zq1 (q := ((29, [(0, .ref 6), (1, .int a), (2, .int b)], [.ref 7]), zh3)) rfl rfl rfl).trans ?_
      refine (zq1 (q := ((30, [(0, .ref 6), (1, .int a), (2, .int b)], [.ref 6, .ref 7]), zh3)) rfl rfl rfl).trans ?_
      refine (zq1 (q := ((33, [(0, .ref 6), (1, .int a), (2, .int b)], [.int 0, .ref 7]), zh3)) rfl rfl rfl).trans ?_
      refine (zq1 (q := ((34, [(0, .ref 6), (1, .int a), (2, .int b)], [.int a, .int 0, .ref 7]), zh3)) rfl rfl rfl).trans ?_
      refine (zq1 (q := ((35, [(0, .ref 6), (1, .int a), (2, .int b)], []), ((zh3.1).set 7 (.inl (0, [.int a, .int 0, .int 0, .int 0, .int 0, .int 0])), 4224))) rfl rfl rfl).trans ?_
      refine (zq1 (q := ((36, [(0, .ref 6), (1, .int a), (2, .int b)], [.ref 6]), ((zh3.1).set 7 (.inl (0, [.int a, .int 0, .int 0, .int 0, .int 0, .int 0])), 4224))) rfl rfl rfl).trans ?_
      refine (zq1 (q := ((39, [(0, .ref 6), (1, .int a), (2, .int b)], [.ref 8]), ((zh3.1).set 7 (.inl (0, [.int a, .int 0, .int 0, .int 0, .int 0, .int 0])), 4224))) rfl rfl rfl).trans ?_
      refine (zq1 (q := ((40, [(0, .ref 6), (1, .int a), (2, .int b)], [.ref 6, .ref 8]), ((zh3.1).set 7 (.inl (0, [.int a, .int 0, .int 0, .int 0, .int 0, .int 0])), 4224))) rfl rfl rfl).trans ?_
      refine (zq1 (q := ((43, [(0, .ref 6), (1, .int a), (2, .int b)], [.int 0, .ref 8]), ((zh3.1).set 7 (.inl (0, [.int a, .int 0, .int 0, .int 0, .int 0, .int 0])), 4224))) rfl rfl rfl).trans ?_
      refine (zq1 (q := ((44, [(0, .ref 6), (1, .int a), (2, .int b)], [.int b, .int 0, .ref 8]), ((zh3.1).set 7 (.inl (0, [.int a, .int 0, .int 0, .int 0, .int 0, .int 0])), 4224))) rfl rfl rfl).trans ?_
      refine (zq1 (q := ((45, [(0, .ref 6), (1, .int a), (2, .int b)], []), (((zh3.1).set 7 (.inl (0, [.int a, .int 0, .int 0, .int 0, .int 0, .int 0]))).set 8 (.inl (0, [.int b, .int 0, .int 0, .int 0, .int 0, .int 0])), 4224))) rfl rfl rfl).trans ?_
      refine (zq1 (q := ((46, [(0, .ref 6), (1, .int a), (2, .int b)], [.ref 6]), (((zh3.1).set 7 (.inl (0, [.int a, .int 0, .int 0, .int 0, .int 0, .int 0]))).set 8 (.inl (0, [.int b, .int 0, .int 0, .int 0, .int 0, .int 0])), 4224))) rfl rfl rfl).trans ?_
      refine (zq1 (q := ((47, [(0, .ref 6), (1, .int a), (2, .int b)], [.ref 6, .ref 6]), (((zh3.1).set 7 (.inl (0, [.int a, .int 0, .int 0, .int 0, .int 0, .int 0]))).set 8 (.inl (0, [.int b, .int 0, .int 0, .int 0, .int 0, .int 0])), 4224))) rfl rfl rfl).trans ?_
      refine (zq1 (q := ((50, [(0, .ref 6), (1, .int a), (2, .int b)], [.int 0, .ref 6]), (((zh3.1).set 7 (.inl (0, [.int a, .int 0, .int 0, .int 0, .int 0, .int 0]))).set 8 (.inl (0, [.int b, .int 0, .int 0, .int 0, .int 0, .int 0])), 4224))) rfl rfl rfl).trans ?_
      refine (zq1 (q := ((51, [(0, .ref 6), (1, .int a), (2, .int b)], [.int 1, .int 0, .ref 6]), (((zh3.1).set 7 (.inl (0, [.int a, .int 0, .int 0, .int 0, .int 0, .int 0]))).set 8 (.inl (0, [.int b, .int 0, .int 0, .int 0, .int 0, .int 0])), 4224))) rfl rfl rfl).trans ?_
      refine (zq1 (q := ((52, [(0, .ref 6), (1, .int a), (2, .int b)], [.int 1, .ref 6]), (((zh3.1).set 7 (.inl (0, [.int a, .int 0, .int 0, .int 0, .int 0, .int 0]))).set 8 (.inl (0, [.int b, .int 0, .int 0, .int 0, .int 0, .int 0])), 4224))) rfl rfl rfl).trans ?_
      refine (zq1 (q := ((55, [(0, .ref 6), (1, .int a), (2, .int b)], []), ((((zh3.1).set 7 (.inl (0, [.int a, .int 0, .int 0, .int 0, .int 0, .int 0]))).set 8 (.inl (0, [.int b, .int 0, .int 0, .int 0, .int 0, .int 0]))).set 6 (.inr (2, [.ref 7, .ref 8, .int 1])), 4224))) rfl rfl rfl).trans ?_
      refine (zq1 (q := ((56, [(0, .ref 6), (1, .int a), (2, .int b)], [.ref 6]), ((((zh3.1).set 7 (.inl (0, [.int a, .int 0, .int 0, .int 0, .int 0, .int 0]))).set 8 (.inl (0, [.int b, .int 0, .int 0, .int 0, .int 0, .int 0]))).set 6 (.inr (2, [.ref 7, .ref 8, .int 1])), 4224))) rfl rfl rfl).trans ?_
      refine (zq1 (q := ((59, [(0, .ref 6), (1, .int a), (2, .int b)], [.int 1]), ((((zh3.1).set 7 (.inl (0, [.int a, .int 0, .int 0, .int 0, .int 0, .int 0]))).set 8 (.inl (0, [.int b, .int 0, .int 0, .int 0, .int 0, .int 0]))).set 6 (.inr (2, [.ref 7, .ref 8, .int 1])), 4224))) rfl rfl rfl).trans ?_
      exact zqr rfl rfl
    refine (zqc 1 (s' := (9, [(0, .ref 0), (1, .int a), (2, .int b)], [.int 1])) rfl rfl rfl rfl rfl rfl hc rfl).trans ?_
    exact zqr rfl rfl
  · refine (zcal_go (M := M_Mo_vertex) rfl rfl rfl).trans ?_
    show zloop zmt (zcal zmt 100000 8 398) 9 398 none M_Mo_vertex 100000 (0, [(0, .ref 54), (1, .int a), (2, .int b)], []) ((((zh3.1).set 7 (.inl (0, [.int a, .int 0, .int 0, .int 0, .int 0, .int 0]))).set 8 (.inl (0, [.int b, .int 0, .int 0, .int 0, .int 0, .int 0]))).set 6 (.inr (2, [.ref 7, .ref 8, .int 1])), 4224) = _
    refine (zq1 (q := ((1, [(0, .ref 54), (1, .int a), (2, .int b)], [.int a]), ((((zh3.1).set 7 (.inl (0, [.int a, .int 0, .int 0, .int 0, .int 0, .int 0]))).set 8 (.inl (0, [.int b, .int 0, .int 0, .int 0, .int 0, .int 0]))).set 6 (.inr (2, [.ref 7, .ref 8, .int 1])), 4224))) rfl rfl rfl).trans ?_
    refine (zqb (q := (4, [(0, .ref 54), (1, .int a), (2, .int b)], [])) (cB := zc .lt a (0)) (v := false) (off := 30) (lv := [(0, .ref 54), (1, .int a), (2, .int b)]) (r := []) rfl rfl rfl (zcb .lt (x := a) (y := (0)) (k := 0) (by decide) (decide_eq_false (by omega))) rfl).trans ?_
    refine (zq1 (q := ((5, [(0, .ref 54), (1, .int a), (2, .int b)], [.int a]), ((((zh3.1).set 7 (.inl (0, [.int a, .int 0, .int 0, .int 0, .int 0, .int 0]))).set 8 (.inl (0, [.int b, .int 0, .int 0, .int 0, .int 0, .int 0]))).set 6 (.inr (2, [.ref 7, .ref 8, .int 1])), 4224))) rfl rfl rfl).trans ?_
    refine (zq1 (q := ((8, [(0, .ref 54), (1, .int a), (2, .int b)], [.int 255, .int a]), ((((zh3.1).set 7 (.inl (0, [.int a, .int 0, .int 0, .int 0, .int 0, .int 0]))).set 8 (.inl (0, [.int b, .int 0, .int 0, .int 0, .int 0, .int 0]))).set 6 (.inr (2, [.ref 7, .ref 8, .int 1])), 4224))) rfl rfl rfl).trans ?_
    refine (zqb (q := (11, [(0, .ref 54), (1, .int a), (2, .int b)], [])) (cB := zc .gt a (255)) (v := false) (off := 23) (lv := [(0, .ref 54), (1, .int a), (2, .int b)]) (r := []) rfl rfl rfl (zcb .gt (x := a) (y := (255)) (k := 255) (by decide) (decide_eq_false (by omega))) rfl).trans ?_
    refine (zq1 (q := ((12, [(0, .ref 54), (1, .int a), (2, .int b)], [.int b]), ((((zh3.1).set 7 (.inl (0, [.int a, .int 0, .int 0, .int 0, .int 0, .int 0]))).set 8 (.inl (0, [.int b, .int 0, .int 0, .int 0, .int 0, .int 0]))).set 6 (.inr (2, [.ref 7, .ref 8, .int 1])), 4224))) rfl rfl rfl).trans ?_
    refine (zqb (q := (15, [(0, .ref 54), (1, .int a), (2, .int b)], [])) (cB := zc .lt b (0)) (v := false) (off := 19) (lv := [(0, .ref 54), (1, .int a), (2, .int b)]) (r := []) rfl rfl rfl (zcb .lt (x := b) (y := (0)) (k := 0) (by decide) (decide_eq_false (by omega))) rfl).trans ?_
    refine (zq1 (q := ((16, [(0, .ref 54), (1, .int a), (2, .int b)], [.int b]), ((((zh3.1).set 7 (.inl (0, [.int a, .int 0, .int 0, .int 0, .int 0, .int 0]))).set 8 (.inl (0, [.int b, .int 0, .int 0, .int 0, .int 0, .int 0]))).set 6 (.inr (2, [.ref 7, .ref 8, .int 1])), 4224))) rfl rfl rfl).trans ?_
    refine (zq1 (q := ((19, [(0, .ref 54), (1, .int a), (2, .int b)], [.int 255, .int b]), ((((zh3.1).set 7 (.inl (0, [.int a, .int 0, .int 0, .int 0, .int 0, .int 0]))).set 8 (.inl (0, [.int b, .int 0, .int 0, .int 0, .int 0, .int 0]))).set 6 (.inr (2, [.ref 7, .ref 8, .int 1])), 4224))) rfl rfl rfl).trans ?_
    refine (zqb (q := (22, [(0, .ref 54), (1, .int a), (2, .int b)], [])) (cB := zc .gt b (255)) (v := false) (off := 12) (lv := [(0, .ref 54), (1, .int a), (2, .int b)]) (r := []) rfl rfl rfl (zcb .gt (x := b) (y := (255)) (k := 255) (by decide) (decide_eq_false (by omega))) rfl).trans ?_
    refine (zq1 (q := ((23, [(0, .ref 54), (1, .int a), (2, .int b)], [.ref 54]), ((((zh3.1).set 7 (.inl (0, [.int a, .int 0, .int 0, .int 0, .int 0, .int 0]))).set 8 (.inl (0, [.int b, .int 0, .int 0, .int 0, .int 0, .int 0]))).set 6 (.inr (2, [.ref 7, .ref 8, .int 1])), 4224))) rfl rfl rfl).trans ?_
    refine (zq1 (q := ((26, [(0, .ref 54), (1, .int a), (2, .int b)], [.int 0]), ((((zh3.1).set 7 (.inl (0, [.int a, .int 0, .int 0, .int 0, .int 0, .int 0]))).set 8 (.inl (0, [.int b, .int 0, .int 0, .int 0, .int 0, .int 0]))).set 6 (.inr (2, [.ref 7, .ref 8, .int 1])), 4224))) rfl rfl rfl).trans ?_
    refine (zq1 (q := ((28, [(0, .ref 54), (1, .int a), (2, .int b)], [.int 6, .int 0]), ((((zh3.1).set 7 (.inl (0, [.int a, .int 0, .int 0, .int 0, .int 0, .int 0]))).set 8 (.inl (0, [.int b, .int 0, .int 0, .int 0, .int 0, .int 0]))).set 6 (.inr (2, [.ref 7, .ref 8, .int 1])), 4224))) rfl rfl rfl).trans ?_
    refine (zq1 (q := ((33, [(0, .ref 54), (1, .int a), (2, .int b)], []), ((((zh3.1).set 7 (.inl (0, [.int a, .int 0, .int 0, .int 0, .int 0, .int 0]))).set 8 (.inl (0, [.int b, .int 0, .int 0, .int 0, .int 0, .int 0]))).set 6 (.inr (2, [.ref 7, .ref 8, .int 1])), 4224))) rfl rfl rfl).trans ?_
    refine (zq1 (q := ((34, [(0, .ref 54), (1, .int a), (2, .int b)], [.ref 54]), ((((zh3.1).set 7 (.inl (0, [.int a, .int 0, .int 0, .int 0, .int 0, .int 0]))).set 8 (.inl (0, [.int b, .int 0, .int 0, .int 0, .int 0, .int 0]))).set 6 (.inr (2, [.ref 7, .ref 8, .int 1])), 4224))) rfl rfl rfl).trans ?_
    refine (zq1 (q := ((37, [(0, .ref 54), (1, .int a), (2, .int b)], [.ref 65]), ((((zh3.1).set 7 (.inl (0, [.int a, .int 0, .int 0, .int 0, .int 0, .int 0]))).set 8 (.inl (0, [.int b, .int 0, .int 0, .int 0, .int 0, .int 0]))).set 6 (.inr (2, [.ref 7, .ref 8, .int 1])), 4224))) rfl rfl rfl).trans ?_
    refine (zq1 (q := ((38, [(0, .ref 54), (1, .int a), (2, .int b)], [.ref 54, .ref 65]), ((((zh3.1).set 7 (.inl (0, [.int a, .int 0, .int 0, .int 0, .int 0, .int 0]))).set 8 (.inl (0, [.int b, .int 0, .int 0, .int 0, .int 0, .int 0]))).set 6 (.inr (2, [.ref 7, .ref 8, .int 1])), 4224))) rfl rfl rfl).trans ?_
    refine (zq1 (q := ((41, [(0, .ref 54), (1, .int a), (2, .int b)], [.int 0, .ref 65]), ((((zh3.1).set 7 (.inl (0, [.int a, .int 0, .int 0, .int 0, .int 0, .int 0]))).set 8 (.inl (0, [.int b, .int 0, .int 0, .int 0, .int 0, .int 0]))).set 6 (.inr (2, [.ref 7, .ref 8, .int 1])), 4224))) rfl rfl rfl).trans ?_
    refine (zq1 (q := ((42, [(0, .ref 54), (1, .int a), (2, .int b)], [.int a, .int 0, .ref 65]), ((((zh3.1).set 7 (.inl (0, [.int a, .int 0, .int 0, .int 0, .int 0, .int 0]))).set 8 (.inl (0, [.int b, .int 0, .int 0, .int 0, .int 0, .int 0]))).set 6 (.inr (2, [.ref 7, .ref 8, .int 1])), 4224))) rfl rfl rfl).trans ?_
    refine (zq1 (q := ((43, [(0, .ref 54), (1, .int a), (2, .int b)], []), (((((zh3.1).set 7 (.inl (0, [.int a, .int 0, .int 0, .int 0, .int 0, .int 0]))).set 8 (.inl (0, [.int b, .int 0, .int 0, .int 0, .int 0, .int 0]))).set 6 (.inr (2, [.ref 7, .ref 8, .int 1]))).set 65 (.inl (0, [.int a, .int 0, .int 0, .int 0, .int 0, .int 0])), 4224))) rfl rfl rfl).trans ?_
    refine (zq1 (q := ((44, [(0, .ref 54), (1, .int a), (2, .int b)], [.ref 54]), (((((zh3.1).set 7 (.inl (0, [.int a, .int 0, .int 0, .int 0, .int 0, .int 0]))).set 8 (.inl (0, [.int b, .int 0, .int 0, .int 0, .int 0, .int 0]))).set 6 (.inr (2, [.ref 7, .ref 8, .int 1]))).set 65 (.inl (0, [.int a, .int 0, .int 0, .int 0, .int 0, .int 0])), 4224))) rfl rfl rfl).trans ?_
    refine (zq1 (q := ((47, [(0, .ref 54), (1, .int a), (2, .int b)], [.ref 66]), (((((zh3.1).set 7 (.inl (0, [.int a, .int 0, .int 0, .int 0, .int 0, .int 0]))).set 8 (.inl (0, [.int b, .int 0, .int 0, .int 0, .int 0, .int 0]))).set 6 (.inr (2, [.ref 7, .ref 8, .int 1]))).set 65 (.inl (0, [.int a, .int 0, .int 0, .int 0, .int 0, .int 0])), 4224))) rfl rfl rfl).trans ?_
    refine (zq1 (q := ((48, [(0, .ref 54), (1, .int a), (2, .int b)], [.ref 54, .ref 66]), (((((zh3.1).set 7 (.inl (0, [.int a, .int 0, .int 0, .int 0, .int 0, .int 0]))).set 8 (.inl (0, [.int b, .int 0, .int 0, .int 0, .int 0, .int 0]))).set 6 (.inr (2, [.ref 7, .ref 8, .int 1]))).set 65 (.inl (0, [.int a, .int 0, .int 0, .int 0, .int 0, .int 0])), 4224))) rfl rfl rfl).trans ?_
    refine (zq1 (q := ((51, [(0, .ref 54), (1, .int a), (2, .int b)], [.int 0, .ref 66]), (((((zh3.1).set 7 (.inl (0, [.int a, .int 0, .int 0, .int 0, .int 0, .int 0]))).set 8 (.inl (0, [.int b, .int 0, .int 0, .int 0, .int 0, .int 0]))).set 6 (.inr (2, [.ref 7, .ref 8, .int 1]))).set 65 (.inl (0, [.int a, .int 0, .int 0, .int 0, .int 0, .int 0])), 4224))) rfl rfl rfl).trans ?_
    refine (zq1 (q := ((52, [(0, .ref 54), (1, .int a), (2, .int b)], [.int b, .int 0, .ref 66]), (((((zh3.1).set 7 (.inl (0, [.int a, .int 0, .int 0, .int 0, .int 0, .int 0]))).set 8 (.inl (0, [.int b, .int 0, .int 0, .int 0, .int 0, .int 0]))).set 6 (.inr (2, [.ref 7, .ref 8, .int 1]))).set 65 (.inl (0, [.int a, .int 0, .int 0, .int 0, .int 0, .int 0])), 4224))) rfl rfl rfl).trans ?_
    refine (zq1 (q := ((53, [(0, .ref 54), (1, .int a), (2, .int b)], []), ((((((zh3.1).set 7 (.inl (0, [.int a, .int 0, .int 0, .int 0, .int 0, .int 0]))).set 8 (.inl (0, [.int b, .int 0, .int 0, .int 0, .int 0, .int 0]))).set 6 (.inr (2, [.ref 7, .ref 8, .int 1]))).set 65 (.inl (0, [.int a, .int 0, .int 0, .int 0, .int 0, .int 0]))).set 66 (.inl (0, [.int b, .int 0, .int 0, .int 0, .int 0, .int 0])), 4224))) rfl rfl rfl).trans ?_
    refine (zq1 (q := ((54, [(0, .ref 54), (1, .int a), (2, .int b)], [.ref 54]), ((((((zh3.1).set 7 (.inl (0, [.int a, .int 0, .int 0, .int 0, .int 0, .int 0]))).set 8 (.inl (0, [.int b, .int 0, .int 0, .int 0, .int 0, .int 0]))).set 6 (.inr (2, [.ref 7, .ref 8, .int 1]))).set 65 (.inl (0, [.int a, .int 0, .int 0, .int 0, .int 0, .int 0]))).set 66 (.inl (0, [.int b, .int 0, .int 0, .int 0, .int 0, .int 0])), 4224))) rfl rfl rfl).trans ?_
    refine (zq1 (q := ((55, [(0, .ref 54), (1, .int a), (2, .int b)], [.ref 54, .ref 54]), ((((((zh3.1).set 7 (.inl (0, [.int a, .int 0, .int 0, .int 0, .int 0, .int 0]))).set 8 (.inl (0, [.int b, .int 0, .int 0, .int 0, .int 0, .int 0]))).set 6 (.inr (2, [.ref 7, .ref 8, .int 1]))).set 65 (.inl (0, [.int a, .int 0, .int 0, .int 0, .int 0, .int 0]))).set 66 (.inl (0, [.int b, .int 0, .int 0, .int 0, .int 0, .int 0])), 4224))) rfl rfl rfl).trans ?_
    refine (zq1 (q := ((58, [(0, .ref 54), (1, .int a), (2, .int b)], [.int 0, .ref 54]), ((((((zh3.1).set 7 (.inl (0, [.int a, .int 0, .int 0, .int 0, .int 0, .int 0]))).set 8 (.inl (0, [.int b, .int 0, .int 0, .int 0, .int 0, .int 0]))).set 6 (.inr (2, [.ref 7, .ref 8, .int 1]))).set 65 (.inl (0, [.int a, .int 0, .int 0, .int 0, .int 0, .int 0]))).set 66 (.inl (0, [.int b, .int 0, .int 0, .int 0, .int 0, .int 0])), 4224))) rfl rfl rfl).trans ?_
    refine (zq1 (q := ((59, [(0, .ref 54), (1, .int a), (2, .int b)], [.int 1, .int 0, .ref 54]), ((((((zh3.1).set 7 (.inl (0, [.int a, .int 0, .int 0, .int 0, .int 0, .int 0]))).set 8 (.inl (0, [.int b, .int 0, .int 0, .int 0, .int 0, .int 0]))).set 6 (.inr (2, [.ref 7, .ref 8, .int 1]))).set 65 (.inl (0, [.int a, .int 0, .int 0, .int 0, .int 0, .int 0]))).set 66 (.inl (0, [.int b, .int 0, .int 0, .int 0, .int 0, .int 0])), 4224))) rfl rfl rfl).trans ?_
    refine (zq1 (q := ((60, [(0, .ref 54), (1, .int a), (2, .int b)], [.int 1, .ref 54]), ((((((zh3.1).set 7 (.inl (0, [.int a, .int 0, .int 0, .int 0, .int 0, .int 0]))).set 8 (.inl (0, [.int b, .int 0, .int 0, .int 0, .int 0, .int 0]))).set 6 (.inr (2, [.ref 7, .ref 8, .int 1]))).set 65 (.inl (0, [.int a, .int 0, .int 0, .int 0, .int 0, .int 0]))).set 66 (.inl (0, [.int b, .int 0, .int 0, .int 0, .int 0, .int 0])), 4224))) rfl rfl rfl).trans ?_
    refine (zq1 (q := ((63, [(0, .ref 54), (1, .int a), (2, .int b)], []), (((((((zh3.1).set 7 (.inl (0, [.int a, .int 0, .int 0, .int 0, .int 0, .int 0]))).set 8 (.inl (0, [.int b, .int 0, .int 0, .int 0, .int 0, .int 0]))).set 6 (.inr (2, [.ref 7, .ref 8, .int 1]))).set 65 (.inl (0, [.int a, .int 0, .int 0, .int 0, .int 0, .int 0]))).set 66 (.inl (0, [.int b, .int 0, .int 0, .int 0, .int 0, .int 0]))).set 54 (.inr (8, [.ref 55, .ref 56, .ref 57, .ref 58, .ref 59, .ref 60, .ref 61, .ref 62, .ref 63, .ref 64, .int 1, .ref 65, .ref 66, .long 0, .long 0, .ref 67, .ref 68, .int 0, .int 0, .int 0, .int 0, .int 0, .int 0, .ref 69, .ref 70, .ref 71])), 4224))) rfl rfl rfl).trans ?_
    refine (zq1 (q := ((64, [(0, .ref 54), (1, .int a), (2, .int b)], [.ref 54]), (((((((zh3.1).set 7 (.inl (0, [.int a, .int 0, .int 0, .int 0, .int 0, .int 0]))).set 8 (.inl (0, [.int b, .int 0, .int 0, .int 0, .int 0, .int 0]))).set 6 (.inr (2, [.ref 7, .ref 8, .int 1]))).set 65 (.inl (0, [.int a, .int 0, .int 0, .int 0, .int 0, .int 0]))).set 66 (.inl (0, [.int b, .int 0, .int 0, .int 0, .int 0, .int 0]))).set 54 (.inr (8, [.ref 55, .ref 56, .ref 57, .ref 58, .ref 59, .ref 60, .ref 61, .ref 62, .ref 63, .ref 64, .int 1, .ref 65, .ref 66, .long 0, .long 0, .ref 67, .ref 68, .int 0, .int 0, .int 0, .int 0, .int 0, .int 0, .ref 69, .ref 70, .ref 71])), 4224))) rfl rfl rfl).trans ?_
    refine (zq1 (q := ((67, [(0, .ref 54), (1, .int a), (2, .int b)], [.int 1]), (((((((zh3.1).set 7 (.inl (0, [.int a, .int 0, .int 0, .int 0, .int 0, .int 0]))).set 8 (.inl (0, [.int b, .int 0, .int 0, .int 0, .int 0, .int 0]))).set 6 (.inr (2, [.ref 7, .ref 8, .int 1]))).set 65 (.inl (0, [.int a, .int 0, .int 0, .int 0, .int 0, .int 0]))).set 66 (.inl (0, [.int b, .int 0, .int 0, .int 0, .int 0, .int 0]))).set 54 (.inr (8, [.ref 55, .ref 56, .ref 57, .ref 58, .ref 59, .ref 60, .ref 61, .ref 62, .ref 63, .ref 64, .int 1, .ref 65, .ref 66, .long 0, .long 0, .ref 67, .ref 68, .int 0, .int 0, .int 0, .int 0, .int 0, .int 0, .ref 69, .ref 70, .ref 71])), 4224))) rfl rfl rfl).trans ?_
    exact zqr rfl rfl
