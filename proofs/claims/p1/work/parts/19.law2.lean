set_option maxRecDepth 1000000 in
set_option maxHeartbeats 4000000 in
theorem zy_pre (L : Nat) (xs : Nat → Int32) : zloop zmt (zcal zmt 100000 9 420) 10 420 (some (L, xs)) M_law 100000 (0, [(0, .retAddr 0)], []) ([], 0) = zloop zmt (zcal zmt 100000 9 420) 10 420 (some (L, xs)) M_law 99990 (18, [(3, .int 0), (2, .ref 54), (1, .ref 0), (0, .retAddr 0)], []) zh3 := by
  refine (zq1 (q := ((3, [(0, .retAddr 0)], [.ref 0]), ([.inr (0, df_ST)], 13))) rfl rfl rfl).trans ?_
  refine (zq1 (q := ((4, [(0, .retAddr 0)], [.ref 0, .ref 0]), ([.inr (0, df_ST)], 13))) rfl rfl rfl).trans ?_
  refine (zqc 2 (s' := (7, [(0, .retAddr 0)], [.ref 0])) rfl rfl rfl rfl rfl rfl zc_ST rfl).trans ?_
  refine (zq1 (q := ((8, [(1, .ref 0), (0, .retAddr 0)], []), zh1)) rfl rfl rfl).trans ?_
  refine (zq1 (q := ((11, [(1, .ref 0), (0, .retAddr 0)], [.ref 54]), zh2)) rfl rfl rfl).trans ?_
  refine (zq1 (q := ((12, [(1, .ref 0), (0, .retAddr 0)], [.ref 54, .ref 54]), zh2)) rfl rfl rfl).trans ?_
  refine (zqc 2 (s' := (15, [(1, .ref 0), (0, .retAddr 0)], [.ref 54])) rfl rfl rfl rfl rfl rfl zc_Mo rfl).trans ?_
  refine (zq1 (q := ((16, [(2, .ref 54), (1, .ref 0), (0, .retAddr 0)], []), zh3)) rfl rfl rfl).trans ?_
  refine (zq1 (q := ((17, [(2, .ref 54), (1, .ref 0), (0, .retAddr 0)], [.int 0]), zh3)) rfl rfl rfl).trans ?_
  exact zq1 (q := ((18, [(3, .int 0), (2, .ref 54), (1, .ref 0), (0, .retAddr 0)], []), zh3)) rfl rfl rfl
set_option maxRecDepth 1000000 in
set_option maxHeartbeats 4000000 in
theorem zy_short0 (xs : Nat → Int32) : zloop zmt (zcal zmt 100000 9 420) 10 420 (some (0, xs)) M_law 99990 (18, [(3, .int 0), (2, .ref 54), (1, .ref 0), (0, .retAddr 0)], []) zh3 = some (some (.int 1), zh3) := by
  refine (zq1 (q := ((19, [(3, .int 0), (2, .ref 54), (1, .ref 0), (0, .retAddr 0)], [.int 0]), zh3)) rfl rfl rfl).trans ?_
  refine (zq1 (q := ((20, [(3, .int 0), (2, .ref 54), (1, .ref 0), (0, .retAddr 0)], [.retAddr 0, .int 0]), zh3)) rfl rfl rfl).trans ?_
  refine (zq1 (q := ((21, [(3, .int 0), (2, .ref 54), (1, .ref 0), (0, .retAddr 0)], [.int 0, .int 0]), zh3)) rfl rfl rfl).trans ?_
  refine (zq1 (q := ((22, [(3, .int 0), (2, .ref 54), (1, .ref 0), (0, .retAddr 0)], [.int 5, .int 0, .int 0]), zh3)) rfl rfl rfl).trans ?_
  refine (zq1 (q := ((23, [(3, .int 0), (2, .ref 54), (1, .ref 0), (0, .retAddr 0)], [.int (-5), .int 0]), zh3)) rfl rfl rfl).trans ?_
  refine (zq1 (q := ((642, [(3, .int 0), (2, .ref 54), (1, .ref 0), (0, .retAddr 0)], []), zh3)) rfl rfl rfl).trans ?_
  refine (zq1 (q := ((643, [(3, .int 0), (2, .ref 54), (1, .ref 0), (0, .retAddr 0)], [.int 1]), zh3)) rfl rfl rfl).trans ?_
  exact zqr rfl rfl
set_option maxRecDepth 1000000 in
set_option maxHeartbeats 4000000 in
theorem zy_short1 (xs : Nat → Int32) : zloop zmt (zcal zmt 100000 9 420) 10 420 (some (1, xs)) M_law 99990 (18, [(3, .int 0), (2, .ref 54), (1, .ref 0), (0, .retAddr 0)], []) zh3 = some (some (.int 1), zh3) := by
  refine (zq1 (q := ((19, [(3, .int 0), (2, .ref 54), (1, .ref 0), (0, .retAddr 0)], [.int 0]), zh3)) rfl rfl rfl).trans ?_
  refine (zq1 (q := ((20, [(3, .int 0), (2, .ref 54), (1, .ref 0), (0, .retAddr 0)], [.retAddr 0, .int 0]), zh3)) rfl rfl rfl).trans ?_
  refine (zq1 (q := ((21, [(3, .int 0), (2, .ref 54), (1, .ref 0), (0, .retAddr 0)], [.int 1, .int 0]), zh3)) rfl rfl rfl).trans ?_
  refine (zq1 (q := ((22, [(3, .int 0), (2, .ref 54), (1, .ref 0), (0, .retAddr 0)], [.int 5, .int 1, .int 0]), zh3)) rfl rfl rfl).trans ?_
  refine (zq1 (q := ((23, [(3, .int 0), (2, .ref 54), (1, .ref 0), (0, .retAddr 0)], [.int (-4), .int 0]), zh3)) rfl rfl rfl).trans ?_
  refine (zq1 (q := ((642, [(3, .int 0), (2, .ref 54), (1, .ref 0), (0, .retAddr 0)], []), zh3)) rfl rfl rfl).trans ?_
  refine (zq1 (q := ((643, [(3, .int 0), (2, .ref 54), (1, .ref 0), (0, .retAddr 0)], [.int 1]), zh3)) rfl rfl rfl).trans ?_
  exact zqr rfl rfl
set_option maxRecDepth 1000000 in
set_option maxHeartbeats 4000000 in
theorem zy_short2 (xs : Nat → Int32) : zloop zmt (zcal zmt 100000 9 420) 10 420 (some (2, xs)) M_law 99990 (18, [(3, .int 0), (2, .ref 54), (1, .ref 0), (0, .retAddr 0)], []) zh3 = some (some (.int 1), zh3) := by
  refine (zq1 (q := ((19, [(3, .int 0), (2, .ref 54), (1, .ref 0), (0, .retAddr 0)], [.int 0]), zh3)) rfl rfl rfl).trans ?_
  refine (zq1 (q := ((20, [(3, .int 0), (2, .ref 54), (1, .ref 0), (0, .retAddr 0)], [.retAddr 0, .int 0]), zh3)) rfl rfl rfl).trans ?_
  refine (zq1 (q := ((21, [(3, .int 0), (2, .ref 54), (1, .ref 0), (0, .retAddr 0)], [.int 2, .int 0]), zh3)) rfl rfl rfl).trans ?_
  refine (zq1 (q := ((22, [(3, .int 0), (2, .ref 54), (1, .ref 0), (0, .retAddr 0)], [.int 5, .int 2, .int 0]), zh3)) rfl rfl rfl).trans ?_
  refine (zq1 (q := ((23, [(3, .int 0), (2, .ref 54), (1, .ref 0), (0, .retAddr 0)], [.int (-3), .int 0]), zh3)) rfl rfl rfl).trans ?_
  refine (zq1 (q := ((642, [(3, .int 0), (2, .ref 54), (1, .ref 0), (0, .retAddr 0)], []), zh3)) rfl rfl rfl).trans ?_
  refine (zq1 (q := ((643, [(3, .int 0), (2, .ref 54), (1, .ref 0), (0, .retAddr 0)], [.int 1]), zh3)) rfl rfl rfl).trans ?_
  exact zqr rfl rfl
set_option maxRecDepth 1000000 in
set_option maxHeartbeats 4000000 in
theorem zy_short3 (xs : Nat → Int32) : zloop zmt (zcal zmt 100000 9 420) 10 420 (some (3, xs)) M_law 99990 (18, [(3, .int 0), (2, .ref 54), (1, .ref 0), (0, .retAddr 0)], []) zh3 = some (some (.int 1), zh3) := by
  refine (zq1 (q := ((19, [(3, .int 0), (2, .ref 54), (1, .ref 0), (0, .retAddr 0)], [.int 0]), zh3)) rfl rfl rfl).trans ?_
  refine (zq1 (q := ((20, [(3, .int 0), (2, .ref 54), (1, .ref 0), (0, .retAddr 0)], [.retAddr 0, .int 0]), zh3)) rfl rfl rfl).trans ?_
  refine (zq1 (q := ((21, [(3, .int 0), (2, .ref 54), (1, .ref 0), (0, .retAddr 0)], [.int 3, .int 0]), zh3)) rfl rfl rfl).trans ?_
  refine (zq1 (q := ((22, [(3, .int 0), (2, .ref 54), (1, .ref 0), (0, .retAddr 0)], [.int 5, .int 3, .int 0]), zh3)) rfl rfl rfl).trans ?_
  refine (zq1 (q := ((23, [(3, .int 0), (2, .ref 54), (1, .ref 0), (0, .retAddr 0)], [.int (-2), .int 0]), zh3)) rfl rfl rfl).trans ?_
  refine (zq1 (q := ((642, [(3, .int 0), (2, .ref 54), (1, .ref 0), (0, .retAddr 0)], []), zh3)) rfl rfl rfl).trans ?_
  refine (zq1 (q := ((643, [(3, .int 0), (2, .ref 54), (1, .ref 0), (0, .retAddr 0)], [.int 1]), zh3)) rfl rfl rfl).trans ?_
  exact zqr rfl rfl
set_option maxRecDepth 1000000 in
set_option maxHeartbeats 4000000 in
theorem zy_short4 (xs : Nat → Int32) : zloop zmt (zcal zmt 100000 9 420) 10 420 (some (4, xs)) M_law 99990 (18, [(3, .int 0), (2, .ref 54), (1, .ref 0), (0, .retAddr 0)], []) zh3 = some (some (.int 1), zh3) := by
  refine (zq1 (q := ((19, [(3, .int 0), (2, .ref 54), (1, .ref 0), (0, .retAddr 0)], [.int 0]), zh3)) rfl rfl rfl).trans ?_
  refine (zq1 (q := ((20, [(3, .int 0), (2, .ref 54), (1, .ref 0), (0, .retAddr 0)], [.retAddr 0, .int 0]), zh3)) rfl rfl rfl).trans ?_
  refine (zq1 (q := ((21, [(3, .int 0), (2, .ref 54), (1, .ref 0), (0, .retAddr 0)], [.int 4, .int 0]), zh3)) rfl rfl rfl).trans ?_
  refine (zq1 (q := ((22, [(3, .int 0), (2, .ref 54), (1, .ref 0), (0, .retAddr 0)], [.int 5, .int 4, .int 0]), zh3)) rfl rfl rfl).trans ?_
  refine (zq1 (q := ((23, [(3, .int 0), (2, .ref 54), (1, .ref 0), (0, .retAddr 0)], [.int (-1), .int 0]), zh3)) rfl rfl rfl).trans ?_
  refine (zq1 (q := ((642, [(3, .int 0), (2, .ref 54), (1, .ref 0), (0, .retAddr 0)], []), zh3)) rfl rfl rfl).trans ?_
  refine (zq1 (q := ((643, [(3, .int 0), (2, .ref 54), (1, .ref 0), (0, .retAddr 0)], [.int 1]), zh3)) rfl rfl rfl).trans ?_
  exact zqr rfl rfl
set_option maxRecDepth 1000000 in
theorem zy_mid (xs : Nat → Int32) : zloop zmt (zcal zmt 100000 9 420) 10 420 (some (5, xs)) M_law 99990 (18, [(3, .int 0), (2, .ref 54), (1, .ref 0), (0, .retAddr 0)], []) zh3 = zloop zmt (zcal zmt 100000 9 420) 10 420 (some (5, xs)) M_law 99979 (32, [(3, .int 0), (2, .ref 54), (1, .ref 0), (0, .retAddr 0)], [.int ((xs 0) &&& 31)]) zh3 := by
  refine (zq1 (q := ((19, [(3, .int 0), (2, .ref 54), (1, .ref 0), (0, .retAddr 0)], [.int 0]), zh3)) rfl rfl rfl).trans ?_
  refine (zq1 (q := ((20, [(3, .int 0), (2, .ref 54), (1, .ref 0), (0, .retAddr 0)], [.retAddr 0, .int 0]), zh3)) rfl rfl rfl).trans ?_
  refine (zq1 (q := ((21, [(3, .int 0), (2, .ref 54), (1, .ref 0), (0, .retAddr 0)], [.int 5, .int 0]), zh3)) rfl rfl rfl).trans ?_
  refine (zq1 (q := ((22, [(3, .int 0), (2, .ref 54), (1, .ref 0), (0, .retAddr 0)], [.int 5, .int 5, .int 0]), zh3)) rfl rfl rfl).trans ?_
  refine (zq1 (q := ((23, [(3, .int 0), (2, .ref 54), (1, .ref 0), (0, .retAddr 0)], [.int 0, .int 0]), zh3)) rfl rfl rfl).trans ?_
  refine (zq1 (q := ((26, [(3, .int 0), (2, .ref 54), (1, .ref 0), (0, .retAddr 0)], []), zh3)) rfl rfl rfl).trans ?_
  refine (zq1 (q := ((27, [(3, .int 0), (2, .ref 54), (1, .ref 0), (0, .retAddr 0)], [.retAddr 0]), zh3)) rfl rfl rfl).trans ?_
  refine (zq1 (q := ((28, [(3, .int 0), (2, .ref 54), (1, .ref 0), (0, .retAddr 0)], [.int 0, .retAddr 0]), zh3)) rfl rfl rfl).trans ?_
  refine (zq1 (q := ((29, [(3, .int 0), (2, .ref 54), (1, .ref 0), (0, .retAddr 0)], [.int (xs 0)]), zh3)) rfl rfl rfl).trans ?_
  refine (zq1 (q := ((31, [(3, .int 0), (2, .ref 54), (1, .ref 0), (0, .retAddr 0)], [.int 31, .int (xs 0)]), zh3)) rfl rfl rfl).trans ?_
  exact zq1 (q := ((32, [(3, .int 0), (2, .ref 54), (1, .ref 0), (0, .retAddr 0)], [.int ((xs 0) &&& 31)]), zh3)) rfl rfl rfl
set_option maxRecDepth 1000000 in
set_option maxHeartbeats 4000000 in
theorem zy_case0 (xs : Nat → Int32) : ∃ (h : zH), zloop zmt (zcal zmt 100000 9 420) 10 420 (some (5, xs)) M_law 99979 (32, [(3, .int 0), (2, .ref 54), (1, .ref 0), (0, .retAddr 0)], [.int (nI 0)]) zh3 = some (some (.int 1), h) ∧ Nat.ble h.1.length 600000 = true ∧ Nat.ble h.2 7302250 = true := by
  obtain ⟨a, h, k, e1, e2, e3, b1, b2⟩ := zo_vertex (xs 1) (xs 2)
  refine ⟨k, ?_, b1, b2⟩
  refine (zq1 (q := ((120, [(3, .int 0), (2, .ref 54), (1, .ref 0), (0, .retAddr 0)], []), zh3)) rfl rfl rfl).trans ?_
  refine (zq1 (q := ((121, [(3, .int 0), (2, .ref 54), (1, .ref 0), (0, .retAddr 0)], [.ref 0]), zh3)) rfl rfl rfl).trans ?_
  refine (zq1 (q := ((122, [(3, .int 0), (2, .ref 54), (1, .ref 0), (0, .retAddr 0)], [.retAddr 0, .ref 0]), zh3)) rfl rfl rfl).trans ?_
  refine (zq1 (q := ((123, [(3, .int 0), (2, .ref 54), (1, .ref 0), (0, .retAddr 0)], [.int 0, .retAddr 0, .ref 0]), zh3)) rfl rfl rfl).trans ?_
  refine (zq1 (q := ((124, [(3, .int 0), (2, .ref 54), (1, .ref 0), (0, .retAddr 0)], [.int 1, .int 0, .retAddr 0, .ref 0]), zh3)) rfl rfl rfl).trans ?_
  refine (zq1 (q := ((125, [(3, .int 0), (2, .ref 54), (1, .ref 0), (0, .retAddr 0)], [.int 1, .retAddr 0, .ref 0]), zh3)) rfl rfl rfl).trans ?_
  refine (zq1 (q := ((126, [(3, .int 0), (2, .ref 54), (1, .ref 0), (0, .retAddr 0)], [.int (xs 1), .ref 0]), zh3)) rfl rfl rfl).trans ?_
  refine (zq1 (q := ((127, [(3, .int 0), (2, .ref 54), (1, .ref 0), (0, .retAddr 0)], [.retAddr 0, .int (xs 1), .ref 0]), zh3)) rfl rfl rfl).trans ?_
  refine (zq1 (q := ((128, [(3, .int 0), (2, .ref 54), (1, .ref 0), (0, .retAddr 0)], [.int 0, .retAddr 0, .int (xs 1), .ref 0]), zh3)) rfl rfl rfl).trans ?_
  refine (zq1 (q := ((129, [(3, .int 0), (2, .ref 54), (1, .ref 0), (0, .retAddr 0)], [.int 2, .int 0, .retAddr 0, .int (xs 1), .ref 0]), zh3)) rfl rfl rfl).trans ?_
  refine (zq1 (q := ((130, [(3, .int 0), (2, .ref 54), (1, .ref 0), (0, .retAddr 0)], [.int 2, .retAddr 0, .int (xs 1), .ref 0]), zh3)) rfl rfl rfl).trans ?_
  refine (zq1 (q := ((131, [(3, .int 0), (2, .ref 54), (1, .ref 0), (0, .retAddr 0)], [.int (xs 2), .int (xs 1), .ref 0]), zh3)) rfl rfl rfl).trans ?_
  refine (zqc 1 (x := (131, .invokevirtual 13, 3, 7, 0, 206, .null)) (M' := M_ST_vertex) (qq := ([.ref 0, .int (xs 1), .int (xs 2)], [])) (h := zh3) (s' := (134, [(3, .int 0), (2, .ref 54), (1, .ref 0), (0, .retAddr 0)], [.int a])) rfl rfl rfl rfl rfl rfl e1 rfl).trans ?_
  refine (zq1 (q := ((135, [(3, .int 0), (2, .ref 54), (1, .ref 0), (0, .retAddr 0)], [.ref 54, .int a]), h)) rfl rfl rfl).trans ?_
  refine (zq1 (q := ((136, [(3, .int 0), (2, .ref 54), (1, .ref 0), (0, .retAddr 0)], [.retAddr 0, .ref 54, .int a]), h)) rfl rfl rfl).trans ?_
  refine (zq1 (q := ((137, [(3, .int 0), (2, .ref 54), (1, .ref 0), (0, .retAddr 0)], [.int 0, .retAddr 0, .ref 54, .int a]), h)) rfl rfl rfl).trans ?_
  refine (zq1 (q := ((138, [(3, .int 0), (2, .ref 54), (1, .ref 0), (0, .retAddr 0)], [.int 1, .int 0, .retAddr 0, .ref 54, .int a]), h)) rfl rfl rfl).trans ?_
  refine (zq1 (q := ((139, [(3, .int 0), (2, .ref 54), (1, .ref 0), (0, .retAddr 0)], [.int 1, .retAddr 0, .ref 54, .int a]), h)) rfl rfl rfl).trans ?_
  refine (zq1 (q := ((140, [(3, .int 0), (2, .ref 54), (1, .ref 0), (0, .retAddr 0)], [.int (xs 1), .ref 54, .int a]), h)) rfl rfl rfl).trans ?_
  refine (zq1 (q := ((141, [(3, .int 0), (2, .ref 54), (1, .ref 0), (0, .retAddr 0)], [.retAddr 0, .int (xs 1), .ref 54, .int a]), h)) rfl rfl rfl).trans ?_
  refine (zq1 (q := ((142, [(3, .int 0), (2, .ref 54), (1, .ref 0), (0, .retAddr 0)], [.int 0, .retAddr 0, .int (xs 1), .ref 54, .int a]), h)) rfl rfl rfl).trans ?_
  refine (zq1 (q := ((143, [(3, .int 0), (2, .ref 54), (1, .ref 0), (0, .retAddr 0)], [.int 2, .int 0, .retAddr 0, .int (xs 1), .ref 54, .int a]), h)) rfl rfl rfl).trans ?_
  refine (zq1 (q := ((144, [(3, .int 0), (2, .ref 54), (1, .ref 0), (0, .retAddr 0)], [.int 2, .retAddr 0, .int (xs 1), .ref 54, .int a]), h)) rfl rfl rfl).trans ?_
  refine (zq1 (q := ((145, [(3, .int 0), (2, .ref 54), (1, .ref 0), (0, .retAddr 0)], [.int (xs 2), .int (xs 1), .ref 54, .int a]), h)) rfl rfl rfl).trans ?_
  refine (zqc 1 (x := (145, .invokevirtual 17, 3, 97, 0, 722, .null)) (M' := M_Mo_vertex) (qq := ([.ref 54, .int (xs 1), .int (xs 2)], [.int a])) (h := h) (s' := (148, [(3, .int 0), (2, .ref 54), (1, .ref 0), (0, .retAddr 0)], [.int a, .int a])) rfl rfl rfl rfl rfl (zhk rfl e3 rfl) e2 rfl).trans ?_
  refine (zqb (q := (636, [(3, .int 0), (2, .ref 54), (1, .ref 0), (0, .retAddr 0)], [])) (cB := zc .eq a (a)) (v := true) (off := 488) (lv := [(3, .int 0), (2, .ref 54), (1, .ref 0), (0, .retAddr 0)]) (r := []) rfl rfl rfl (decide_eq_true rfl) rfl).trans ?_
  refine (zq1 (q := ((639, [(3, .int 5), (2, .ref 54), (1, .ref 0), (0, .retAddr 0)], []), k)) rfl rfl rfl).trans ?_
  refine (zq1 (q := ((18, [(3, .int 5), (2, .ref 54), (1, .ref 0), (0, .retAddr 0)], []), k)) rfl rfl rfl).trans ?_
  refine (zq1 (q := ((19, [(3, .int 5), (2, .ref 54), (1, .ref 0), (0, .retAddr 0)], [.int 5]), k)) rfl rfl rfl).trans ?_
  refine (zq1 (q := ((20, [(3, .int 5), (2, .ref 54), (1, .ref 0), (0, .retAddr 0)], [.retAddr 0, .int 5]), k)) rfl rfl rfl).trans ?_
  refine (zq1 (q := ((21, [(3, .int 5), (2, .ref 54), (1, .ref 0), (0, .retAddr 0)], [.int 5, .int 5]), k)) rfl rfl rfl).trans ?_
  refine (zq1 (q := ((22, [(3, .int 5), (2, .ref 54), (1, .ref 0), (0, .retAddr 0)], [.int 5, .int 5, .int 5]), k)) rfl rfl rfl).trans ?_
  refine (zq1 (q := ((23, [(3, .int 5), (2, .ref 54), (1, .ref 0), (0, .retAddr 0)], [.int 0, .int 5]), k)) rfl rfl rfl).trans ?_
  refine (zq1 (q := ((642, [(3, .int 5), (2, .ref 54), (1, .ref 0), (0, .retAddr 0)], []), k)) rfl rfl rfl).trans ?_
  refine (zq1 (q := ((643, [(3, .int 5), (2, .ref 54), (1, .ref 0), (0, .retAddr 0)], [.int 1]), k)) rfl rfl rfl).trans ?_
  exact zqr rfl rfl
set_option maxRecDepth 1000000 in
set_option maxHeartbeats 4000000 in
theorem zy_case1 (xs : Nat → Int32) : ∃ (h : zH), zloop zmt (zcal zmt 100000 9 420) 10 420 (some (5, xs)) M_law 99979 (32, [(3, .int 0), (2, .ref 54), (1, .ref 0), (0, .retAddr 0)], [.int (nI 1)]) zh3 = some (some (.int 1), h) ∧ Nat.ble h.1.length 600000 = true ∧ Nat.ble h.2 7302250 = true := by
  obtain ⟨a, h, k, e1, e2, e3, b1, b2⟩ := zo_shape (xs 1)
  refine ⟨k, ?_, b1, b2⟩
  refine (zq1 (q := ((153, [(3, .int 0), (2, .ref 54), (1, .ref 0), (0, .retAddr 0)], []), zh3)) rfl rfl rfl).trans ?_
  refine (zq1 (q := ((154, [(3, .int 0), (2, .ref 54), (1, .ref 0), (0, .retAddr 0)], [.ref 0]), zh3)) rfl rfl rfl).trans ?_
  refine (zq1 (q := ((155, [(3, .int 0), (2, .ref 54), (1, .ref 0), (0, .retAddr 0)], [.retAddr 0, .ref 0]), zh3)) rfl rfl rfl).trans ?_
  refine (zq1 (q := ((156, [(3, .int 0), (2, .ref 54), (1, .ref 0), (0, .retAddr 0)], [.int 0, .retAddr 0, .ref 0]), zh3)) rfl rfl rfl).trans ?_
  refine (zq1 (q := ((157, [(3, .int 0), (2, .ref 54), (1, .ref 0), (0, .retAddr 0)], [.int 1, .int 0, .retAddr 0, .ref 0]), zh3)) rfl rfl rfl).trans ?_
  refine (zq1 (q := ((158, [(3, .int 0), (2, .ref 54), (1, .ref 0), (0, .retAddr 0)], [.int 1, .retAddr 0, .ref 0]), zh3)) rfl rfl rfl).trans ?_
  refine (zq1 (q := ((159, [(3, .int 0), (2, .ref 54), (1, .ref 0), (0, .retAddr 0)], [.int (xs 1), .ref 0]), zh3)) rfl rfl rfl).trans ?_
  refine (zqc 1 (x := (159, .invokevirtual 18, 3, 10, 0, 217, .null)) (M' := M_ST_shape) (qq := ([.ref 0, .int (xs 1)], [])) (h := zh3) (s' := (162, [(3, .int 0), (2, .ref 54), (1, .ref 0), (0, .retAddr 0)], [.int a])) rfl rfl rfl rfl rfl rfl e1 rfl).trans ?_
  refine (zq1 (q := ((163, [(3, .int 0), (2, .ref 54), (1, .ref 0), (0, .retAddr 0)], [.ref 54, .int a]), h)) rfl rfl rfl).trans ?_
  refine (zq1 (q := ((164, [(3, .int 0), (2, .ref 54), (1, .ref 0), (0, .retAddr 0)], [.retAddr 0, .ref 54, .int a]), h)) rfl rfl rfl).trans ?_
  refine (zq1 (q := ((165, [(3, .int 0), (2, .ref 54), (1, .ref 0), (0, .retAddr 0)], [.int 0, .retAddr 0, .ref 54, .int a]), h)) rfl rfl rfl).trans ?_
  refine (zq1 (q := ((166, [(3, .int 0), (2, .ref 54), (1, .ref 0), (0, .retAddr 0)], [.int 1, .int 0, .retAddr 0, .ref 54, .int a]), h)) rfl rfl rfl).trans ?_
  refine (zq1 (q := ((167, [(3, .int 0), (2, .ref 54), (1, .ref 0), (0, .retAddr 0)], [.int 1, .retAddr 0, .ref 54, .int a]), h)) rfl rfl rfl).trans ?_
  refine (zq1 (q := ((168, [(3, .int 0), (2, .ref 54), (1, .ref 0), (0, .retAddr 0)], [.int (xs 1), .ref 54, .int a]), h)) rfl rfl rfl).trans ?_
  refine (zqc 1 (x := (168, .invokevirtual 22, 3, 98, 0, 726, .null)) (M' := M_Mo_shape) (qq := ([.ref 54, .int (xs 1)], [.int a])) (h := h) (s' := (171, [(3, .int 0), (2, .ref 54), (1, .ref 0), (0, .retAddr 0)], [.int a, .int a])) rfl rfl rfl rfl rfl (zhk rfl e3 rfl) e2 rfl).trans ?_
  refine (zqb (q := (636, [(3, .int 0), (2, .ref 54), (1, .ref 0), (0, .retAddr 0)], [])) (cB := zc .eq a (a)) (v := true) (off := 465) (lv := [(3, .int 0), (2, .ref 54), (1, .ref 0), (0, .retAddr 0)]) (r := []) rfl rfl rfl (decide_eq_true rfl) rfl).trans ?_
  refine (zq1 (q := ((639, [(3, .int 5), (2, .ref 54), (1, .ref 0), (0, .retAddr 0)], []), k)) rfl rfl rfl).trans ?_
  refine (zq1 (q := ((18, [(3, .int 5), (2, .ref 54), (1, .ref 0), (0, .retAddr 0)], []), k)) rfl rfl rfl).trans ?_
  refine (zq1 (q := ((19, [(3, .int 5), (2, .ref 54), (1, .ref 0), (0, .retAddr 0)], [.int 5]), k)) rfl rfl rfl).trans ?_
  refine (zq1 (q := ((20, [(3, .int 5), (2, .ref 54), (1, .ref 0), (0, .retAddr 0)], [.retAddr 0, .int 5]), k)) rfl rfl rfl).trans ?_
  refine (zq1 (q := ((21, [(3, .int 5), (2, .ref 54), (1, .ref 0), (0, .retAddr 0)], [.int 5, .int 5]), k)) rfl rfl rfl).trans ?_
  refine (zq1 (q := ((22, [(3, .int 5), (2, .ref 54), (1, .ref 0), (0, .retAddr 0)], [.int 5, .int 5, .int 5]), k)) rfl rfl rfl).trans ?_
  refine (zq1 (q := ((23, [(3, .int 5), (2, .ref 54), (1, .ref 0), (0, .retAddr 0)], [.int 0, .int 5]), k)) rfl rfl rfl).trans ?_
  refine (zq1 (q := ((642, [(3, .int 5), (2, .ref 54), (1, .ref 0), (0, .retAddr 0)], []), k)) rfl rfl rfl).trans ?_
  refine (zq1 (q := ((643, [(3, .int 5), (2, .ref 54), (1, .ref 0), (0, .retAddr 0)], [.int 1]), k)) rfl rfl rfl).trans ?_
  exact zqr rfl rfl
set_option maxRecDepth 1000000 in
set_option maxHeartbeats 4000000 in
theorem zy_case2 (xs : Nat → Int32) : ∃ (h : zH), zloop zmt (zcal zmt 100000 9 420) 10 420 (some (5, xs)) M_law 99979 (32, [(3, .int 0), (2, .ref 54), (1, .ref 0), (0, .retAddr 0)], [.int (nI 2)]) zh3 = some (some (.int 1), h) ∧ Nat.ble h.1.length 600000 = true ∧ Nat.ble h.2 7302250 = true := by
  obtain ⟨a, h, k, e1, e2, e3, b1, b2⟩ := zo_insert (xs 1) (xs 2)
  refine ⟨k, ?_, b1, b2⟩
  refine (zq1 (q := ((176, [(3, .int 0), (2, .ref 54), (1, .ref 0), (0, .retAddr 0)], []), zh3)) rfl rfl rfl).trans ?_
  refine (zq1 (q := ((177, [(3, .int 0), (2, .ref 54), (1, .ref 0), (0, .retAddr 0)], [.ref 0]), zh3)) rfl rfl rfl).trans ?_
  refine (zq1 (q := ((178, [(3, .int 0), (2, .ref 54), (1, .ref 0), (0, .retAddr 0)], [.retAddr 0, .ref 0]), zh3)) rfl rfl rfl).trans ?_
  refine (zq1 (q := ((179, [(3, .int 0), (2, .ref 54), (1, .ref 0), (0, .retAddr 0)], [.int 0, .retAddr 0, .ref 0]), zh3)) rfl rfl rfl).trans ?_
  refine (zq1 (q := ((180, [(3, .int 0), (2, .ref 54), (1, .ref 0), (0, .retAddr 0)], [.int 1, .int 0, .retAddr 0, .ref 0]), zh3)) rfl rfl rfl).trans ?_
  refine (zq1 (q := ((181, [(3, .int 0), (2, .ref 54), (1, .ref 0), (0, .retAddr 0)], [.int 1, .retAddr 0, .ref 0]), zh3)) rfl rfl rfl).trans ?_
  refine (zq1 (q := ((182, [(3, .int 0), (2, .ref 54), (1, .ref 0), (0, .retAddr 0)], [.int (xs 1), .ref 0]), zh3)) rfl rfl rfl).trans ?_
  refine (zq1 (q := ((183, [(3, .int 0), (2, .ref 54), (1, .ref 0), (0, .retAddr 0)], [.retAddr 0, .int (xs 1), .ref 0]), zh3)) rfl rfl rfl).trans ?_
  refine (zq1 (q := ((184, [(3, .int 0), (2, .ref 54), (1, .ref 0), (0, .retAddr 0)], [.int 0, .retAddr 0, .int (xs 1), .ref 0]), zh3)) rfl rfl rfl).trans ?_
  refine (zq1 (q := ((185, [(3, .int 0), (2, .ref 54), (1, .ref 0), (0, .retAddr 0)], [.int 2, .int 0, .retAddr 0, .int (xs 1), .ref 0]), zh3)) rfl rfl rfl).trans ?_
  refine (zq1 (q := ((186, [(3, .int 0), (2, .ref 54), (1, .ref 0), (0, .retAddr 0)], [.int 2, .retAddr 0, .int (xs 1), .ref 0]), zh3)) rfl rfl rfl).trans ?_
  refine (zq1 (q := ((187, [(3, .int 0), (2, .ref 54), (1, .ref 0), (0, .retAddr 0)], [.int (xs 2), .int (xs 1), .ref 0]), zh3)) rfl rfl rfl).trans ?_
  refine (zqc 1 (x := (187, .invokevirtual 23, 3, 28, 0, 348, .null)) (M' := M_ST_insert) (qq := ([.ref 0, .int (xs 1), .int (xs 2)], [])) (h := zh3) (s' := (190, [(3, .int 0), (2, .ref 54), (1, .ref 0), (0, .retAddr 0)], [.int a])) rfl rfl rfl rfl rfl rfl e1 rfl).trans ?_
  refine (zq1 (q := ((191, [(3, .int 0), (2, .ref 54), (1, .ref 0), (0, .retAddr 0)], [.ref 54, .int a]), h)) rfl rfl rfl).trans ?_
  refine (zq1 (q := ((192, [(3, .int 0), (2, .ref 54), (1, .ref 0), (0, .retAddr 0)], [.retAddr 0, .ref 54, .int a]), h)) rfl rfl rfl).trans ?_
  refine (zq1 (q := ((193, [(3, .int 0), (2, .ref 54), (1, .ref 0), (0, .retAddr 0)], [.int 0, .retAddr 0, .ref 54, .int a]), h)) rfl rfl rfl).trans ?_
  refine (zq1 (q := ((194, [(3, .int 0), (2, .ref 54), (1, .ref 0), (0, .retAddr 0)], [.int 1, .int 0, .retAddr 0, .ref 54, .int a]), h)) rfl rfl rfl).trans ?_
  refine (zq1 (q := ((195, [(3, .int 0), (2, .ref 54), (1, .ref 0), (0, .retAddr 0)], [.int 1, .retAddr 0, .ref 54, .int a]), h)) rfl rfl rfl).trans ?_
  refine (zq1 (q := ((196, [(3, .int 0), (2, .ref 54), (1, .ref 0), (0, .retAddr 0)], [.int (xs 1), .ref 54, .int a]), h)) rfl rfl rfl).trans ?_
  refine (zq1 (q := ((197, [(3, .int 0), (2, .ref 54), (1, .ref 0), (0, .retAddr 0)], [.retAddr 0, .int (xs 1), .ref 54, .int a]), h)) rfl rfl rfl).trans ?_
  refine (zq1 (q := ((198, [(3, .int 0), (2, .ref 54), (1, .ref 0), (0, .retAddr 0)], [.int 0, .retAddr 0, .int (xs 1), .ref 54, .int a]), h)) rfl rfl rfl).trans ?_
  refine (zq1 (q := ((199, [(3, .int 0), (2, .ref 54), (1, .ref 0), (0, .retAddr 0)], [.int 2, .int 0, .retAddr 0, .int (xs 1), .ref 54, .int a]), h)) rfl rfl rfl).trans ?_
  refine (zq1 (q := ((200, [(3, .int 0), (2, .ref 54), (1, .ref 0), (0, .retAddr 0)], [.int 2, .retAddr 0, .int (xs 1), .ref 54, .int a]), h)) rfl rfl rfl).trans ?_
  refine (zq1 (q := ((201, [(3, .int 0), (2, .ref 54), (1, .ref 0), (0, .retAddr 0)], [.int (xs 2), .int (xs 1), .ref 54, .int a]), h)) rfl rfl rfl).trans ?_
  refine (zqc 1 (x := (201, .invokevirtual 26, 3, 107, 0, 759, .null)) (M' := M_Mo_insert) (qq := ([.ref 54, .int (xs 1), .int (xs 2)], [.int a])) (h := h) (s' := (204, [(3, .int 0), (2, .ref 54), (1, .ref 0), (0, .retAddr 0)], [.int a, .int a])) rfl rfl rfl rfl rfl (zhk rfl e3 rfl) e2 rfl).trans ?_
  refine (zqb (q := (636, [(3, .int 0), (2, .ref 54), (1, .ref 0), (0, .retAddr 0)], [])) (cB := zc .eq a (a)) (v := true) (off := 432) (lv := [(3, .int 0), (2, .ref 54), (1, .ref 0), (0, .retAddr 0)]) (r := []) rfl rfl rfl (decide_eq_true rfl) rfl).trans ?_
  refine (zq1 (q := ((639, [(3, .int 5), (2, .ref 54), (1, .ref 0), (0, .retAddr 0)], []), k)) rfl rfl rfl).trans ?_
  refine (zq1 (q := ((18, [(3, .int 5), (2, .ref 54), (1, .ref 0), (0, .retAddr 0)], []), k)) rfl rfl rfl).trans ?_
  refine (zq1 (q := ((19, [(3, .int 5), (2, .ref 54), (1, .ref 0), (0, .retAddr 0)], [.int 5]), k)) rfl rfl rfl).trans ?_
  refine (zq1 (q := ((20, [(3, .int 5), (2, .ref 54), (1, .ref 0), (0, .retAddr 0)], [.retAddr 0, .int 5]), k)) rfl rfl rfl).trans ?_
  refine (zq1 (q := ((21, [(3, .int 5), (2, .ref 54), (1, .ref 0), (0, .retAddr 0)], [.int 5, .int 5]), k)) rfl rfl rfl).trans ?_
  refine (zq1 (q := ((22, [(3, .int 5), (2, .ref 54), (1, .ref 0), (0, .retAddr 0)], [.int 5, .int 5, .int 5]), k)) rfl rfl rfl).trans ?_
  refine (zq1 (q := ((23, [(3, .int 5), (2, .ref 54), (1, .ref 0), (0, .retAddr 0)], [.int 0, .int 5]), k)) rfl rfl rfl).trans ?_
  refine (zq1 (q := ((642, [(3, .int 5), (2, .ref 54), (1, .ref 0), (0, .retAddr 0)], []), k)) rfl rfl rfl).trans ?_
  refine (zq1 (q := ((643, [(3, .int 5), (2, .ref 54), (1, .ref 0), (0, .retAddr 0)], [.int 1]), k)) rfl rfl rfl).trans ?_
  exact zqr rfl rfl
set_option maxRecDepth 1000000 in
set_option maxHeartbeats 4000000 in
theorem zy_case3 (xs : Nat → Int32) : ∃ (h : zH), zloop zmt (zcal zmt 100000 9 420) 10 420 (some (5, xs)) M_law 99979 (32, [(3, .int 0), (2, .ref 54), (1, .ref 0), (0, .retAddr 0)], [.int (nI 3)]) zh3 = some (some (.int 1), h) ∧ Nat.ble h.1.length 600000 = true ∧ Nat.ble h.2 7302250 = true := by
  obtain ⟨a, h, k, e1, e2, e3, b1, b2⟩ := zo_delete (xs 1) (xs 2)
  refine ⟨k, ?_, b1, b2⟩
  refine (zq1 (q := ((209, [(3, .int 0), (2, .ref 54), (1, .ref 0), (0, .retAddr 0)], []), zh3)) rfl rfl rfl).trans ?_
  refine (zq1 (q := ((210, [(3, .int 0), (2, .ref 54), (1, .ref 0), (0, .retAddr 0)], [.ref 0]), zh3)) rfl rfl rfl).trans ?_
  refine (zq1 (q := ((211, [(3, .int 0), (2, .ref 54), (1, .ref 0), (0, .retAddr 0)], [.retAddr 0, .ref 0]), zh3)) rfl rfl rfl).trans ?_
  refine (zq1 (q := ((212, [(3, .int 0), (2, .ref 54), (1, .ref 0), (0, .retAddr 0)], [.int 0, .retAddr 0, .ref 0]), zh3)) rfl rfl rfl).trans ?_
  refine (zq1 (q := ((213, [(3, .int 0), (2, .ref 54), (1, .ref 0), (0, .retAddr 0)], [.int 1, .int 0, .retAddr 0, .ref 0]), zh3)) rfl rfl rfl).trans ?_
  refine (zq1 (q := ((214, [(3, .int 0), (2, .ref 54), (1, .ref 0), (0, .retAddr 0)], [.int 1, .retAddr 0, .ref 0]), zh3)) rfl rfl rfl).trans ?_
  refine (zq1 (q := ((215, [(3, .int 0), (2, .ref 54), (1, .ref 0), (0, .retAddr 0)], [.int (xs 1), .ref 0]), zh3)) rfl rfl rfl).trans ?_
  refine (zq1 (q := ((216, [(3, .int 0), (2, .ref 54), (1, .ref 0), (0, .retAddr 0)], [.retAddr 0, .int (xs 1), .ref 0]), zh3)) rfl rfl rfl).trans ?_
  refine (zq1 (q := ((217, [(3, .int 0), (2, .ref 54), (1, .ref 0), (0, .retAddr 0)], [.int 0, .retAddr 0, .int (xs 1), .ref 0]), zh3)) rfl rfl rfl).trans ?_
  refine (zq1 (q := ((218, [(3, .int 0), (2, .ref 54), (1, .ref 0), (0, .retAddr 0)], [.int 2, .int 0, .retAddr 0, .int (xs 1), .ref 0]), zh3)) rfl rfl rfl).trans ?_
  refine (zq1 (q := ((219, [(3, .int 0), (2, .ref 54), (1, .ref 0), (0, .retAddr 0)], [.int 2, .retAddr 0, .int (xs 1), .ref 0]), zh3)) rfl rfl rfl).trans ?_
  refine (zq1 (q := ((220, [(3, .int 0), (2, .ref 54), (1, .ref 0), (0, .retAddr 0)], [.int (xs 2), .int (xs 1), .ref 0]), zh3)) rfl rfl rfl).trans ?_
  refine (zqc 1 (x := (220, .invokevirtual 27, 3, 38, 0, 389, .null)) (M' := M_ST_delete) (qq := ([.ref 0, .int (xs 1), .int (xs 2)], [])) (h := zh3) (s' := (223, [(3, .int 0), (2, .ref 54), (1, .ref 0), (0, .retAddr 0)], [.int a])) rfl rfl rfl rfl rfl rfl e1 rfl).trans ?_
  refine (zq1 (q := ((224, [(3, .int 0), (2, .ref 54), (1, .ref 0), (0, .retAddr 0)], [.ref 54, .int a]), h)) rfl rfl rfl).trans ?_
  refine (zq1 (q := ((225, [(3, .int 0), (2, .ref 54), (1, .ref 0), (0, .retAddr 0)], [.retAddr 0, .ref 54, .int a]), h)) rfl rfl rfl).trans ?_
  refine (zq1 (q := ((226, [(3, .int 0), (2, .ref 54), (1, .ref 0), (0, .retAddr 0)], [.int 0, .retAddr 0, .ref 54, .int a]), h)) rfl rfl rfl).trans ?_
  refine (zq1 (q := ((227, [(3, .int 0), (2, .ref 54), (1, .ref 0), (0, .retAddr 0)], [.int 1, .int 0, .retAddr 0, .ref 54, .int a]), h)) rfl rfl rfl).trans ?_
  refine (zq1 (q := ((228, [(3, .int 0), (2, .ref 54), (1, .ref 0), (0, .retAddr 0)], [.int 1, .retAddr 0, .ref 54, .int a]), h)) rfl rfl rfl).trans ?_
  refine (zq1 (q := ((229, [(3, .int 0), (2, .ref 54), (1, .ref 0), (0, .retAddr 0)], [.int (xs 1), .ref 54, .int a]), h)) rfl rfl rfl).trans ?_
  refine (zq1 (q := ((230, [(3, .int 0), (2, .ref 54), (1, .ref 0), (0, .retAddr 0)], [.retAddr 0, .int (xs 1), .ref 54, .int a]), h)) rfl rfl rfl).trans ?_
  refine (zq1 (q := ((231, [(3, .int 0), (2, .ref 54), (1, .ref 0), (0, .retAddr 0)], [.int 0, .retAddr 0, .int (xs 1), .ref 54, .int a]), h)) rfl rfl rfl).trans ?_
  refine (zq1 (q := ((232, [(3, .int 0), (2, .ref 54), (1, .ref 0), (0, .retAddr 0)], [.int 2, .int 0, .retAddr 0, .int (xs 1), .ref 54, .int a]), h)) rfl rfl rfl).trans ?_
  refine (zq1 (q := ((233, [(3, .int 0), (2, .ref 54), (1, .ref 0), (0, .retAddr 0)], [.int 2, .retAddr 0, .int (xs 1), .ref 54, .int a]), h)) rfl rfl rfl).trans ?_
  refine (zq1 (q := ((234, [(3, .int 0), (2, .ref 54), (1, .ref 0), (0, .retAddr 0)], [.int (xs 2), .int (xs 1), .ref 54, .int a]), h)) rfl rfl rfl).trans ?_
  refine (zqc 1 (x := (234, .invokevirtual 31, 3, 111, 0, 774, .null)) (M' := M_Mo_delete) (qq := ([.ref 54, .int (xs 1), .int (xs 2)], [.int a])) (h := h) (s' := (237, [(3, .int 0), (2, .ref 54), (1, .ref 0), (0, .retAddr 0)], [.int a, .int a])) rfl rfl rfl rfl rfl (zhk rfl e3 rfl) e2 rfl).trans ?_
  refine (zqb (q := (636, [(3, .int 0), (2, .ref 54), (1, .ref 0), (0, .retAddr 0)], [])) (cB := zc .eq a (a)) (v := true) (off := 399) (lv := [(3, .int 0), (2, .ref 54), (1, .ref 0), (0, .retAddr 0)]) (r := []) rfl rfl rfl (decide_eq_true rfl) rfl).trans ?_
  refine (zq1 (q := ((639, [(3, .int 5), (2, .ref 54), (1, .ref 0), (0, .retAddr 0)], []), k)) rfl rfl rfl).trans ?_
  refine (zq1 (q := ((18, [(3, .int 5), (2, .ref 54), (1, .ref 0), (0, .retAddr 0)], []), k)) rfl rfl rfl).trans ?_
  refine (zq1 (q := ((19, [(3, .int 5), (2, .ref 54), (1, .ref 0), (0, .retAddr 0)], [.int 5]), k)) rfl rfl rfl).trans ?_
  refine (zq1 (q := ((20, [(3, .int 5), (2, .ref 54), (1, .ref 0), (0, .retAddr 0)], [.retAddr 0, .int 5]), k)) rfl rfl rfl).trans ?_
  refine (zq1 (q := ((21, [(3, .int 5), (2, .ref 54), (1, .ref 0), (0, .retAddr 0)], [.int 5, .int 5]), k)) rfl rfl rfl).trans ?_
  refine (zq1 (q := ((22, [(3, .int 5), (2, .ref 54), (1, .ref 0), (0, .retAddr 0)], [.int 5, .int 5, .int 5]), k)) rfl rfl rfl).trans ?_
  refine (zq1 (q := ((23, [(3, .int 5), (2, .ref 54), (1, .ref 0), (0, .retAddr 0)], [.int 0, .int 5]), k)) rfl rfl rfl).trans ?_
  refine (zq1 (q := ((642, [(3, .int 5), (2, .ref 54), (1, .ref 0), (0, .retAddr 0)], []), k)) rfl rfl rfl).trans ?_
  refine (zq1 (q := ((643, [(3, .int 5), (2, .ref 54), (1, .ref 0), (0, .retAddr 0)], [.int 1]), k)) rfl rfl rfl).trans ?_
  exact zqr rfl rfl
set_option maxRecDepth 1000000 in
set_option maxHeartbeats 4000000 in
theorem zy_case4z (xs : Nat → Int32) (h4 : (xs 4).toInt = 0) : ∃ (h : zH), zloop zmt (zcal zmt 100000 9 420) 10 420 (some (5, xs)) M_law 99979 (32, [(3, .int 0), (2, .ref 54), (1, .ref 0), (0, .retAddr 0)], [.int (nI 4)]) zh3 = some (some (.int 1), h) ∧ Nat.ble h.1.length 600000 = true ∧ Nat.ble h.2 7302250 = true := by
  obtain ⟨a, h, k, e1, e2, e3, b1, b2⟩ := zo_update (xs 1) (xs 2) (xs 3) (0)
  refine ⟨k, ?_, b1, b2⟩
  refine (zq1 (q := ((242, [(3, .int 0), (2, .ref 54), (1, .ref 0), (0, .retAddr 0)], []), zh3)) rfl rfl rfl).trans ?_
  refine (zq1 (q := ((243, [(3, .int 0), (2, .ref 54), (1, .ref 0), (0, .retAddr 0)], [.ref 0]), zh3)) rfl rfl rfl).trans ?_
  refine (zq1 (q := ((244, [(3, .int 0), (2, .ref 54), (1, .ref 0), (0, .retAddr 0)], [.retAddr 0, .ref 0]), zh3)) rfl rfl rfl).trans ?_
  refine (zq1 (q := ((245, [(3, .int 0), (2, .ref 54), (1, .ref 0), (0, .retAddr 0)], [.int 0, .retAddr 0, .ref 0]), zh3)) rfl rfl rfl).trans ?_
  refine (zq1 (q := ((246, [(3, .int 0), (2, .ref 54), (1, .ref 0), (0, .retAddr 0)], [.int 1, .int 0, .retAddr 0, .ref 0]), zh3)) rfl rfl rfl).trans ?_
  refine (zq1 (q := ((247, [(3, .int 0), (2, .ref 54), (1, .ref 0), (0, .retAddr 0)], [.int 1, .retAddr 0, .ref 0]), zh3)) rfl rfl rfl).trans ?_
  refine (zq1 (q := ((248, [(3, .int 0), (2, .ref 54), (1, .ref 0), (0, .retAddr 0)], [.int (xs 1), .ref 0]), zh3)) rfl rfl rfl).trans ?_
  refine (zq1 (q := ((249, [(3, .int 0), (2, .ref 54), (1, .ref 0), (0, .retAddr 0)], [.retAddr 0, .int (xs 1), .ref 0]), zh3)) rfl rfl rfl).trans ?_
  refine (zq1 (q := ((250, [(3, .int 0), (2, .ref 54), (1, .ref 0), (0, .retAddr 0)], [.int 0, .retAddr 0, .int (xs 1), .ref 0]), zh3)) rfl rfl rfl).trans ?_
  refine (zq1 (q := ((251, [(3, .int 0), (2, .ref 54), (1, .ref 0), (0, .retAddr 0)], [.int 2, .int 0, .retAddr 0, .int (xs 1), .ref 0]), zh3)) rfl rfl rfl).trans ?_
  refine (zq1 (q := ((252, [(3, .int 0), (2, .ref 54), (1, .ref 0), (0, .retAddr 0)], [.int 2, .retAddr 0, .int (xs 1), .ref 0]), zh3)) rfl rfl rfl).trans ?_
  refine (zq1 (q := ((253, [(3, .int 0), (2, .ref 54), (1, .ref 0), (0, .retAddr 0)], [.int (xs 2), .int (xs 1), .ref 0]), zh3)) rfl rfl rfl).trans ?_
  refine (zq1 (q := ((254, [(3, .int 0), (2, .ref 54), (1, .ref 0), (0, .retAddr 0)], [.retAddr 0, .int (xs 2), .int (xs 1), .ref 0]), zh3)) rfl rfl rfl).trans ?_
  refine (zq1 (q := ((255, [(3, .int 0), (2, .ref 54), (1, .ref 0), (0, .retAddr 0)], [.int 0, .retAddr 0, .int (xs 2), .int (xs 1), .ref 0]), zh3)) rfl rfl rfl).trans ?_
  refine (zq1 (q := ((256, [(3, .int 0), (2, .ref 54), (1, .ref 0), (0, .retAddr 0)], [.int 3, .int 0, .retAddr 0, .int (xs 2), .int (xs 1), .ref 0]), zh3)) rfl rfl rfl).trans ?_
  refine (zq1 (q := ((257, [(3, .int 0), (2, .ref 54), (1, .ref 0), (0, .retAddr 0)], [.int 3, .retAddr 0, .int (xs 2), .int (xs 1), .ref 0]), zh3)) rfl rfl rfl).trans ?_
  refine (zq1 (q := ((258, [(3, .int 0), (2, .ref 54), (1, .ref 0), (0, .retAddr 0)], [.int (xs 3), .int (xs 2), .int (xs 1), .ref 0]), zh3)) rfl rfl rfl).trans ?_
  refine (zq1 (q := ((259, [(3, .int 0), (2, .ref 54), (1, .ref 0), (0, .retAddr 0)], [.retAddr 0, .int (xs 3), .int (xs 2), .int (xs 1), .ref 0]), zh3)) rfl rfl rfl).trans ?_
  refine (zq1 (q := ((260, [(3, .int 0), (2, .ref 54), (1, .ref 0), (0, .retAddr 0)], [.int 0, .retAddr 0, .int (xs 3), .int (xs 2), .int (xs 1), .ref 0]), zh3)) rfl rfl rfl).trans ?_
  refine (zq1 (q := ((261, [(3, .int 0), (2, .ref 54), (1, .ref 0), (0, .retAddr 0)], [.int 4, .int 0, .retAddr 0, .int (xs 3), .int (xs 2), .int (xs 1), .ref 0]), zh3)) rfl rfl rfl).trans ?_
  refine (zq1 (q := ((262, [(3, .int 0), (2, .ref 54), (1, .ref 0), (0, .retAddr 0)], [.int 4, .retAddr 0, .int (xs 3), .int (xs 2), .int (xs 1), .ref 0]), zh3)) rfl rfl rfl).trans ?_
  refine (zq1 (q := ((263, [(3, .int 0), (2, .ref 54), (1, .ref 0), (0, .retAddr 0)], [.int (xs 4), .int (xs 3), .int (xs 2), .int (xs 1), .ref 0]), zh3)) rfl rfl rfl).trans ?_
  refine (zqb (q := (270, [(3, .int 0), (2, .ref 54), (1, .ref 0), (0, .retAddr 0)], [.int (xs 3), .int (xs 2), .int (xs 1), .ref 0])) (cB := zc .eq (xs 4) (0)) (v := true) (off := 7) (lv := [(3, .int 0), (2, .ref 54), (1, .ref 0), (0, .retAddr 0)]) (r := [.int (xs 3), .int (xs 2), .int (xs 1), .ref 0]) rfl rfl rfl (zcb .eq (x := xs 4) (y := (0)) (k := 0) (by decide) (decide_eq_true (by omega))) rfl).trans ?_
  refine (zq1 (q := ((271, [(3, .int 0), (2, .ref 54), (1, .ref 0), (0, .retAddr 0)], [.int 0, .int (xs 3), .int (xs 2), .int (xs 1), .ref 0]), zh3)) rfl rfl rfl).trans ?_
  refine (zqc 1 (x := (271, .invokevirtual 32, 3, 42, 0, 407, .null)) (M' := M_ST_update) (qq := ([.ref 0, .int (xs 1), .int (xs 2), .int (xs 3), .int 0], [])) (h := zh3) (s' := (274, [(3, .int 0), (2, .ref 54), (1, .ref 0), (0, .retAddr 0)], [.int a])) rfl rfl rfl rfl rfl rfl e1 rfl).trans ?_
  refine (zq1 (q := ((275, [(3, .int 0), (2, .ref 54), (1, .ref 0), (0, .retAddr 0)], [.ref 54, .int a]), h)) rfl rfl rfl).trans ?_
  refine (zq1 (q := ((276, [(3, .int 0), (2, .ref 54), (1, .ref 0), (0, .retAddr 0)], [.retAddr 0, .ref 54, .int a]), h)) rfl rfl rfl).trans ?_
  refine (zq1 (q := ((277, [(3, .int 0), (2, .ref 54), (1, .ref 0), (0, .retAddr 0)], [.int 0, .retAddr 0, .ref 54, .int a]), h)) rfl rfl rfl).trans ?_
  refine (zq1 (q := ((278, [(3, .int 0), (2, .ref 54), (1, .ref 0), (0, .retAddr 0)], [.int 1, .int 0, .retAddr 0, .ref 54, .int a]), h)) rfl rfl rfl).trans ?_
  refine (zq1 (q := ((279, [(3, .int 0), (2, .ref 54), (1, .ref 0), (0, .retAddr 0)], [.int 1, .retAddr 0, .ref 54, .int a]), h)) rfl rfl rfl).trans ?_
  refine (zq1 (q := ((280, [(3, .int 0), (2, .ref 54), (1, .ref 0), (0, .retAddr 0)], [.int (xs 1), .ref 54, .int a]), h)) rfl rfl rfl).trans ?_
  refine (zq1 (q := ((281, [(3, .int 0), (2, .ref 54), (1, .ref 0), (0, .retAddr 0)], [.retAddr 0, .int (xs 1), .ref 54, .int a]), h)) rfl rfl rfl).trans ?_
  refine (zq1 (q := ((282, [(3, .int 0), (2, .ref 54), (1, .ref 0), (0, .retAddr 0)], [.int 0, .retAddr 0, .int (xs 1), .ref 54, .int a]), h)) rfl rfl rfl).trans ?_
  refine (zq1 (q := ((283, [(3, .int 0), (2, .ref 54), (1, .ref 0), (0, .retAddr 0)], [.int 2, .int 0, .retAddr 0, .int (xs 1), .ref 54, .int a]), h)) rfl rfl rfl).trans ?_
  refine (zq1 (q := ((284, [(3, .int 0), (2, .ref 54), (1, .ref 0), (0, .retAddr 0)], [.int 2, .retAddr 0, .int (xs 1), .ref 54, .int a]), h)) rfl rfl rfl).trans ?_
  refine (zq1 (q := ((285, [(3, .int 0), (2, .ref 54), (1, .ref 0), (0, .retAddr 0)], [.int (xs 2), .int (xs 1), .ref 54, .int a]), h)) rfl rfl rfl).trans ?_
  refine (zq1 (q := ((286, [(3, .int 0), (2, .ref 54), (1, .ref 0), (0, .retAddr 0)], [.retAddr 0, .int (xs 2), .int (xs 1), .ref 54, .int a]), h)) rfl rfl rfl).trans ?_
  refine (zq1 (q := ((287, [(3, .int 0), (2, .ref 54), (1, .ref 0), (0, .retAddr 0)], [.int 0, .retAddr 0, .int (xs 2), .int (xs 1), .ref 54, .int a]), h)) rfl rfl rfl).trans ?_
  refine (zq1 (q := ((288, [(3, .int 0), (2, .ref 54), (1, .ref 0), (0, .retAddr 0)], [.int 3, .int 0, .retAddr 0, .int (xs 2), .int (xs 1), .ref 54, .int a]), h)) rfl rfl rfl).trans ?_
  refine (zq1 (q := ((289, [(3, .int 0), (2, .ref 54), (1, .ref 0), (0, .retAddr 0)], [.int 3, .retAddr 0, .int (xs 2), .int (xs 1), .ref 54, .int a]), h)) rfl rfl rfl).trans ?_
  refine (zq1 (q := ((290, [(3, .int 0), (2, .ref 54), (1, .ref 0), (0, .retAddr 0)], [.int (xs 3), .int (xs 2), .int (xs 1), .ref 54, .int a]), h)) rfl rfl rfl).trans ?_
  refine (zq1 (q := ((291, [(3, .int 0), (2, .ref 54), (1, .ref 0), (0, .retAddr 0)], [.retAddr 0, .int (xs 3), .int (xs 2), .int (xs 1), .ref 54, .int a]), h)) rfl rfl rfl).trans ?_
  refine (zq1 (q := ((292, [(3, .int 0), (2, .ref 54), (1, .ref 0), (0, .retAddr 0)], [.int 0, .retAddr 0, .int (xs 3), .int (xs 2), .int (xs 1), .ref 54, .int a]), h)) rfl rfl rfl).trans ?_
  refine (zq1 (q := ((293, [(3, .int 0), (2, .ref 54), (1, .ref 0), (0, .retAddr 0)], [.int 4, .int 0, .retAddr 0, .int (xs 3), .int (xs 2), .int (xs 1), .ref 54, .int a]), h)) rfl rfl rfl).trans ?_
  refine (zq1 (q := ((294, [(3, .int 0), (2, .ref 54), (1, .ref 0), (0, .retAddr 0)], [.int 4, .retAddr 0, .int (xs 3), .int (xs 2), .int (xs 1), .ref 54, .int a]), h)) rfl rfl rfl).trans ?_
  refine (zq1 (q := ((295, [(3, .int 0), (2, .ref 54), (1, .ref 0), (0, .retAddr 0)], [.int (xs 4), .int (xs 3), .int (xs 2), .int (xs 1), .ref 54, .int a]), h)) rfl rfl rfl).trans ?_
  refine (zqb (q := (302, [(3, .int 0), (2, .ref 54), (1, .ref 0), (0, .retAddr 0)], [.int (xs 3), .int (xs 2), .int (xs 1), .ref 54, .int a])) (cB := zc .eq (xs 4) (0)) (v := true) (off := 7) (lv := [(3, .int 0), (2, .ref 54), (1, .ref 0), (0, .retAddr 0)]) (r := [.int (xs 3), .int (xs 2), .int (xs 1), .ref 54, .int a]) rfl rfl rfl (zcb .eq (x := xs 4) (y := (0)) (k := 0) (by decide) (decide_eq_true (by omega))) rfl).trans ?_
  refine (zq1 (q := ((303, [(3, .int 0), (2, .ref 54), (1, .ref 0), (0, .retAddr 0)], [.int 0, .int (xs 3), .int (xs 2), .int (xs 1), .ref 54, .int a]), h)) rfl rfl rfl).trans ?_
  refine (zqc 1 (x := (303, .invokevirtual 36, 3, 113, 0, 782, .null)) (M' := M_Mo_update) (qq := ([.ref 54, .int (xs 1), .int (xs 2), .int (xs 3), .int 0], [.int a])) (h := h) (s' := (306, [(3, .int 0), (2, .ref 54), (1, .ref 0), (0, .retAddr 0)], [.int a, .int a])) rfl rfl rfl rfl rfl (zhk rfl e3 rfl) e2 rfl).trans ?_
  refine (zqb (q := (636, [(3, .int 0), (2, .ref 54), (1, .ref 0), (0, .retAddr 0)], [])) (cB := zc .eq a (a)) (v := true) (off := 330) (lv := [(3, .int 0), (2, .ref 54), (1, .ref 0), (0, .retAddr 0)]) (r := []) rfl rfl rfl (decide_eq_true rfl) rfl).trans ?_
  refine (zq1 (q := ((639, [(3, .int 5), (2, .ref 54), (1, .ref 0), (0, .retAddr 0)], []), k)) rfl rfl rfl).trans ?_
  refine (zq1 (q := ((18, [(3, .int 5), (2, .ref 54), (1, .ref 0), (0, .retAddr 0)], []), k)) rfl rfl rfl).trans ?_
  refine (zq1 (q := ((19, [(3, .int 5), (2, .ref 54), (1, .ref 0), (0, .retAddr 0)], [.int 5]), k)) rfl rfl rfl).trans ?_
  refine (zq1 (q := ((20, [(3, .int 5), (2, .ref 54), (1, .ref 0), (0, .retAddr 0)], [.retAddr 0, .int 5]), k)) rfl rfl rfl).trans ?_
  refine (zq1 (q := ((21, [(3, .int 5), (2, .ref 54), (1, .ref 0), (0, .retAddr 0)], [.int 5, .int 5]), k)) rfl rfl rfl).trans ?_
  refine (zq1 (q := ((22, [(3, .int 5), (2, .ref 54), (1, .ref 0), (0, .retAddr 0)], [.int 5, .int 5, .int 5]), k)) rfl rfl rfl).trans ?_
  refine (zq1 (q := ((23, [(3, .int 5), (2, .ref 54), (1, .ref 0), (0, .retAddr 0)], [.int 0, .int 5]), k)) rfl rfl rfl).trans ?_
  refine (zq1 (q := ((642, [(3, .int 5), (2, .ref 54), (1, .ref 0), (0, .retAddr 0)], []), k)) rfl rfl rfl).trans ?_
  refine (zq1 (q := ((643, [(3, .int 5), (2, .ref 54), (1, .ref 0), (0, .retAddr 0)], [.int 1]), k)) rfl rfl rfl).trans ?_
  exact zqr rfl rfl
set_option maxRecDepth 1000000 in
set_option maxHeartbeats 4000000 in
theorem zy_case4n (xs : Nat → Int32) (h4 : ¬ (xs 4).toInt = 0) : ∃ (h : zH), zloop zmt (zcal zmt 100000 9 420) 10 420 (some (5, xs)) M_law 99979 (32, [(3, .int 0), (2, .ref 54), (1, .ref 0), (0, .retAddr 0)], [.int (nI 4)]) zh3 = some (some (.int 1), h) ∧ Nat.ble h.1.length 600000 = true ∧ Nat.ble h.2 7302250 = true := by
  obtain ⟨a, h, k, e1, e2, e3, b1, b2⟩ := zo_update (xs 1) (xs 2) (xs 3) (1)
  refine ⟨k, ?_, b1, b2⟩
  refine (zq1 (q := ((242, [(3, .int 0), (2, .ref 54), (1, .ref 0), (0, .retAddr 0)], []), zh3)) rfl rfl rfl).trans ?_
  refine (zq1 (q := ((243, [(3, .int 0), (2, .ref 54), (1, .ref 0), (0, .retAddr 0)], [.ref 0]), zh3)) rfl rfl rfl).trans ?_
  refine (zq1 (q := ((244, [(3, .int 0), (2, .ref 54), (1, .ref 0), (0, .retAddr 0)], [.retAddr 0, .ref 0]), zh3)) rfl rfl rfl).trans ?_
  refine (zq1 (q := ((245, [(3, .int 0), (2, .ref 54), (1, .ref 0), (0, .retAddr 0)], [.int 0, .retAddr 0, .ref 0]), zh3)) rfl rfl rfl).trans ?_
  refine (zq1 (q := ((246, [(3, .int 0), (2, .ref 54), (1, .ref 0), (0, .retAddr 0)], [.int 1, .int 0, .retAddr 0, .ref 0]), zh3)) rfl rfl rfl).trans ?_
  refine (zq1 (q := ((247, [(3, .int 0), (2, .ref 54), (1, .ref 0), (0, .retAddr 0)], [.int 1, .retAddr 0, .ref 0]), zh3)) rfl rfl rfl).trans ?_
  refine (zq1 (q := ((248, [(3, .int 0), (2, .ref 54), (1, .ref 0), (0, .retAddr 0)], [.int (xs 1), .ref 0]), zh3)) rfl rfl rfl).trans ?_
  refine (zq1 (q := ((249, [(3, .int 0), (2, .ref 54), (1, .ref 0), (0, .retAddr 0)], [.retAddr 0, .int (xs 1), .ref 0]), zh3)) rfl rfl rfl).trans ?_
  refine (zq1 (q := ((250, [(3, .int 0), (2, .ref 54), (1, .ref 0), (0, .retAddr 0)], [.int 0, .retAddr 0, .int (xs 1), .ref 0]), zh3)) rfl rfl rfl).trans ?_
  refine (zq1 (q := ((251, [(3, .int 0), (2, .ref 54), (1, .ref 0), (0, .retAddr 0)], [.int 2, .int 0, .retAddr 0, .int (xs 1), .ref 0]), zh3)) rfl rfl rfl).trans ?_
  refine (zq1 (q := ((252, [(3, .int 0), (2, .ref 54), (1, .ref 0), (0, .retAddr 0)], [.int 2, .retAddr 0, .int (xs 1), .ref 0]), zh3)) rfl rfl rfl).trans ?_
  refine (zq1 (q := ((253, [(3, .int 0), (2, .ref 54), (1, .ref 0), (0, .retAddr 0)], [.int (xs 2), .int (xs 1), .ref 0]), zh3)) rfl rfl rfl).trans ?_
  refine (zq1 (q := ((254, [(3, .int 0), (2, .ref 54), (1, .ref 0), (0, .retAddr 0)], [.retAddr 0, .int (xs 2), .int (xs 1), .ref 0]), zh3)) rfl rfl rfl).trans ?_
  refine (zq1 (q := ((255, [(3, .int 0), (2, .ref 54), (1, .ref 0), (0, .retAddr 0)], [.int 0, .retAddr 0, .int (xs 2), .int (xs 1), .ref 0]), zh3)) rfl rfl rfl).trans ?_
  refine (zq1 (q := ((256, [(3, .int 0), (2, .ref 54), (1, .ref 0), (0, .retAddr 0)], [.int 3, .int 0, .retAddr 0, .int (xs 2), .int (xs 1), .ref 0]), zh3)) rfl rfl rfl).trans ?_
  refine (zq1 (q := ((257, [(3, .int 0), (2, .ref 54), (1, .ref 0), (0, .retAddr 0)], [.int 3, .retAddr 0, .int (xs 2), .int (xs 1), .ref 0]), zh3)) rfl rfl rfl).trans ?_
  refine (zq1 (q := ((258, [(3, .int 0), (2, .ref 54), (1, .ref 0), (0, .retAddr 0)], [.int (xs 3), .int (xs 2), .int (xs 1), .ref 0]), zh3)) rfl rfl rfl).trans ?_
  refine (zq1 (q := ((259, [(3, .int 0), (2, .ref 54), (1, .ref 0), (0, .retAddr 0)], [.retAddr 0, .int (xs 3), .int (xs 2), .int (xs 1), .ref 0]), zh3)) rfl rfl rfl).trans ?_
  refine (zq1 (q := ((260, [(3, .int 0), (2, .ref 54), (1, .ref 0), (0, .retAddr 0)], [.int 0, .retAddr 0, .int (xs 3), .int (xs 2), .int (xs 1), .ref 0]), zh3)) rfl rfl rfl).trans ?_
  refine (zq1 (q := ((261, [(3, .int 0), (2, .ref 54), (1, .ref 0), (0, .retAddr 0)], [.int 4, .int 0, .retAddr 0, .int (xs 3), .int (xs 2), .int (xs 1), .ref 0]), zh3)) rfl rfl rfl).trans ?_
  refine (zq1 (q := ((262, [(3, .int 0), (2, .ref 54), (1, .ref 0), (0, .retAddr 0)], [.int 4, .retAddr 0, .int (xs 3), .int (xs 2), .int (xs 1), .ref 0]), zh3)) rfl rfl rfl).trans ?_
  refine (zq1 (q := ((263, [(3, .int 0), (2, .ref 54), (1, .ref 0), (0, .retAddr 0)], [.int (xs 4), .int (xs 3), .int (xs 2), .int (xs 1), .ref 0]), zh3)) rfl rfl rfl).trans ?_
  refine (zqb (q := (266, [(3, .int 0), (2, .ref 54), (1, .ref 0), (0, .retAddr 0)], [.int (xs 3), .int (xs 2), .int (xs 1), .ref 0])) (cB := zc .eq (xs 4) (0)) (v := false) (off := 7) (lv := [(3, .int 0), (2, .ref 54), (1, .ref 0), (0, .retAddr 0)]) (r := [.int (xs 3), .int (xs 2), .int (xs 1), .ref 0]) rfl rfl rfl (zcb .eq (x := xs 4) (y := 0) (k := 0) (by decide) (decide_eq_false (by omega))) rfl).trans ?_
  refine (zq1 (q := ((267, [(3, .int 0), (2, .ref 54), (1, .ref 0), (0, .retAddr 0)], [.int 1, .int (xs 3), .int (xs 2), .int (xs 1), .ref 0]), zh3)) rfl rfl rfl).trans ?_
  refine (zq1 (q := ((271, [(3, .int 0), (2, .ref 54), (1, .ref 0), (0, .retAddr 0)], [.int 1, .int (xs 3), .int (xs 2), .int (xs 1), .ref 0]), zh3)) rfl rfl rfl).trans ?_
  refine (zqc 1 (x := (271, .invokevirtual 32, 3, 42, 0, 407, .null)) (M' := M_ST_update) (qq := ([.ref 0, .int (xs 1), .int (xs 2), .int (xs 3), .int 1], [])) (h := zh3) (s' := (274, [(3, .int 0), (2, .ref 54), (1, .ref 0), (0, .retAddr 0)], [.int a])) rfl rfl rfl rfl rfl rfl e1 rfl).trans ?_
  refine (zq1 (q := ((275, [(3, .int 0), (2, .ref 54), (1, .ref 0), (0, .retAddr 0)], [.ref 54, .int a]), h)) rfl rfl rfl).trans ?_
  refine (zq1 (q := ((276, [(3, .int 0), (2, .ref 54), (1, .ref 0), (0, .retAddr 0)], [.retAddr 0, .ref 54, .int a]), h)) rfl rfl rfl).trans ?_
  refine (zq1 (q := ((277, [(3, .int 0), (2, .ref 54), (1, .ref 0), (0, .retAddr 0)], [.int 0, .retAddr 0, .ref 54, .int a]), h)) rfl rfl rfl).trans ?_
  refine (zq1 (q := ((278, [(3, .int 0), (2, .ref 54), (1, .ref 0), (0, .retAddr 0)], [.int 1, .int 0, .retAddr 0, .ref 54, .int a]), h)) rfl rfl rfl).trans ?_
  refine (zq1 (q := ((279, [(3, .int 0), (2, .ref 54), (1, .ref 0), (0, .retAddr 0)], [.int 1, .retAddr 0, .ref 54, .int a]), h)) rfl rfl rfl).trans ?_
  refine (zq1 (q := ((280, [(3, .int 0), (2, .ref 54), (1, .ref 0), (0, .retAddr 0)], [.int (xs 1), .ref 54, .int a]), h)) rfl rfl rfl).trans ?_
  refine (zq1 (q := ((281, [(3, .int 0), (2, .ref 54), (1, .ref 0), (0, .retAddr 0)], [.retAddr 0, .int (xs 1), .ref 54, .int a]), h)) rfl rfl rfl).trans ?_
  refine (zq1 (q := ((282, [(3, .int 0), (2, .ref 54), (1, .ref 0), (0, .retAddr 0)], [.int 0, .retAddr 0, .int (xs 1), .ref 54, .int a]), h)) rfl rfl rfl).trans ?_
  refine (zq1 (q := ((283, [(3, .int 0), (2, .ref 54), (1, .ref 0), (0, .retAddr 0)], [.int 2, .int 0, .retAddr 0, .int (xs 1), .ref 54, .int a]), h)) rfl rfl rfl).trans ?_
  refine (zq1 (q := ((284, [(3, .int 0), (2, .ref 54), (1, .ref 0), (0, .retAddr 0)], [.int 2, .retAddr 0, .int (xs 1), .ref 54, .int a]), h)) rfl rfl rfl).trans ?_
  refine (zq1 (q := ((285, [(3, .int 0), (2, .ref 54), (1, .ref 0), (0, .retAddr 0)], [.int (xs 2), .int (xs 1), .ref 54, .int a]), h)) rfl rfl rfl).trans ?_
  refine (zq1 (q := ((286, [(3, .int 0), (2, .ref 54), (1, .ref 0), (0, .retAddr 0)], [.retAddr 0, .int (xs 2), .int (xs 1), .ref 54, .int a]), h)) rfl rfl rfl).trans ?_
  refine (zq1 (q := ((287, [(3, .int 0), (2, .ref 54), (1, .ref 0), (0, .retAddr 0)], [.int 0, .retAddr 0, .int (xs 2), .int (xs 1), .ref 54, .int a]), h)) rfl rfl rfl).trans ?_
  refine (zq1 (q := ((288, [(3, .int 0), (2, .ref 54), (1, .ref 0), (0, .retAddr 0)], [.int 3, .int 0, .retAddr 0, .int (xs 2), .int (xs 1), .ref 54, .int a]), h)) rfl rfl rfl).trans ?_
  refine (zq1 (q := ((289, [(3, .int 0), (2, .ref 54), (1, .ref 0), (0, .retAddr 0)], [.int 3, .retAddr 0, .int (xs 2), .int (xs 1), .ref 54, .int a]), h)) rfl rfl rfl).trans ?_
  refine (zq1 (q := ((290, [(3, .int 0), (2, .ref 54), (1, .ref 0), (0, .retAddr 0)], [.int (xs 3), .int (xs 2), .int (xs 1), .ref 54, .int a]), h)) rfl rfl rfl).trans ?_
  refine (zq1 (q := ((291, [(3, .int 0), (2, .ref 54), (1, .ref 0), (0, .retAddr 0)], [.retAddr 0, .int (xs 3), .int (xs 2), .int (xs 1), .ref 54, .int a]), h)) rfl rfl rfl).trans ?_
  refine (zq1 (q := ((292, [(3, .int 0), (2, .ref 54), (1, .ref 0), (0, .retAddr 0)], [.int 0, .retAddr 0, .int (xs 3), .int (xs 2), .int (xs 1), .ref 54, .int a]), h)) rfl rfl rfl).trans ?_
  refine (zq1 (q := ((293, [(3, .int 0), (2, .ref 54), (1, .ref 0), (0, .retAddr 0)], [.int 4, .int 0, .retAddr 0, .int (xs 3), .int (xs 2), .int (xs 1), .ref 54, .int a]), h)) rfl rfl rfl).trans ?_
  refine (zq1 (q := ((294, [(3, .int 0), (2, .ref 54), (1, .ref 0), (0, .retAddr 0)], [.int 4, .retAddr 0, .int (xs 3), .int (xs 2), .int (xs 1), .ref 54, .int a]), h)) rfl rfl rfl).trans ?_
  refine (zq1 (q := ((295, [(3, .int 0), (2, .ref 54), (1, .ref 0), (0, .retAddr 0)], [.int (xs 4), .int (xs 3), .int (xs 2), .int (xs 1), .ref 54, .int a]), h)) rfl rfl rfl).trans ?_
  refine (zqb (q := (298, [(3, .int 0), (2, .ref 54), (1, .ref 0), (0, .retAddr 0)], [.int (xs 3), .int (xs 2), .int (xs 1), .ref 54, .int a])) (cB := zc .eq (xs 4) (0)) (v := false) (off := 7) (lv := [(3, .int 0), (2, .ref 54), (1, .ref 0), (0, .retAddr 0)]) (r := [.int (xs 3), .int (xs 2), .int (xs 1), .ref 54, .int a]) rfl rfl rfl (zcb .eq (x := xs 4) (y := 0) (k := 0) (by decide) (decide_eq_false (by omega))) rfl).trans ?_
  refine (zq1 (q := ((299, [(3, .int 0), (2, .ref 54), (1, .ref 0), (0, .retAddr 0)], [.int 1, .int (xs 3), .int (xs 2), .int (xs 1), .ref 54, .int a]), h)) rfl rfl rfl).trans ?_
  refine (zq1 (q := ((303, [(3, .int 0), (2, .ref 54), (1, .ref 0), (0, .retAddr 0)], [.int 1, .int (xs 3), .int (xs 2), .int (xs 1), .ref 54, .int a]), h)) rfl rfl rfl).trans ?_
  refine (zqc 1 (x := (303, .invokevirtual 36, 3, 113, 0, 782, .null)) (M' := M_Mo_update) (qq := ([.ref 54, .int (xs 1), .int (xs 2), .int (xs 3), .int 1], [.int a])) (h := h) (s' := (306, [(3, .int 0), (2, .ref 54), (1, .ref 0), (0, .retAddr 0)], [.int a, .int a])) rfl rfl rfl rfl rfl (zhk rfl e3 rfl) e2 rfl).trans ?_
  refine (zqb (q := (636, [(3, .int 0), (2, .ref 54), (1, .ref 0), (0, .retAddr 0)], [])) (cB := zc .eq a (a)) (v := true) (off := 330) (lv := [(3, .int 0), (2, .ref 54), (1, .ref 0), (0, .retAddr 0)]) (r := []) rfl rfl rfl (decide_eq_true rfl) rfl).trans ?_
  refine (zq1 (q := ((639, [(3, .int 5), (2, .ref 54), (1, .ref 0), (0, .retAddr 0)], []), k)) rfl rfl rfl).trans ?_
  refine (zq1 (q := ((18, [(3, .int 5), (2, .ref 54), (1, .ref 0), (0, .retAddr 0)], []), k)) rfl rfl rfl).trans ?_
  refine (zq1 (q := ((19, [(3, .int 5), (2, .ref 54), (1, .ref 0), (0, .retAddr 0)], [.int 5]), k)) rfl rfl rfl).trans ?_
  refine (zq1 (q := ((20, [(3, .int 5), (2, .ref 54), (1, .ref 0), (0, .retAddr 0)], [.retAddr 0, .int 5]), k)) rfl rfl rfl).trans ?_
  refine (zq1 (q := ((21, [(3, .int 5), (2, .ref 54), (1, .ref 0), (0, .retAddr 0)], [.int 5, .int 5]), k)) rfl rfl rfl).trans ?_
  refine (zq1 (q := ((22, [(3, .int 5), (2, .ref 54), (1, .ref 0), (0, .retAddr 0)], [.int 5, .int 5, .int 5]), k)) rfl rfl rfl).trans ?_
  refine (zq1 (q := ((23, [(3, .int 5), (2, .ref 54), (1, .ref 0), (0, .retAddr 0)], [.int 0, .int 5]), k)) rfl rfl rfl).trans ?_
  refine (zq1 (q := ((642, [(3, .int 5), (2, .ref 54), (1, .ref 0), (0, .retAddr 0)], []), k)) rfl rfl rfl).trans ?_
  refine (zq1 (q := ((643, [(3, .int 5), (2, .ref 54), (1, .ref 0), (0, .retAddr 0)], [.int 1]), k)) rfl rfl rfl).trans ?_
  exact zqr rfl rfl
set_option maxRecDepth 1000000 in
set_option maxHeartbeats 4000000 in
theorem zy_case5 (xs : Nat → Int32) : ∃ (h : zH), zloop zmt (zcal zmt 100000 9 420) 10 420 (some (5, xs)) M_law 99979 (32, [(3, .int 0), (2, .ref 54), (1, .ref 0), (0, .retAddr 0)], [.int (nI 5)]) zh3 = some (some (.int 1), h) ∧ Nat.ble h.1.length 600000 = true ∧ Nat.ble h.2 7302250 = true := by
  obtain ⟨a, h, k, e1, e2, e3, b1, b2⟩ := zo_select (xs 1) (xs 2) (xs 3) (xs 4)
  refine ⟨k, ?_, b1, b2⟩
  refine (zq1 (q := ((311, [(3, .int 0), (2, .ref 54), (1, .ref 0), (0, .retAddr 0)], []), zh3)) rfl rfl rfl).trans ?_
  refine (zq1 (q := ((312, [(3, .int 0), (2, .ref 54), (1, .ref 0), (0, .retAddr 0)], [.ref 0]), zh3)) rfl rfl rfl).trans ?_
  refine (zq1 (q := ((313, [(3, .int 0), (2, .ref 54), (1, .ref 0), (0, .retAddr 0)], [.retAddr 0, .ref 0]), zh3)) rfl rfl rfl).trans ?_
  refine (zq1 (q := ((314, [(3, .int 0), (2, .ref 54), (1, .ref 0), (0, .retAddr 0)], [.int 0, .retAddr 0, .ref 0]), zh3)) rfl rfl rfl).trans ?_
  refine (zq1 (q := ((315, [(3, .int 0), (2, .ref 54), (1, .ref 0), (0, .retAddr 0)], [.int 1, .int 0, .retAddr 0, .ref 0]), zh3)) rfl rfl rfl).trans ?_
  refine (zq1 (q := ((316, [(3, .int 0), (2, .ref 54), (1, .ref 0), (0, .retAddr 0)], [.int 1, .retAddr 0, .ref 0]), zh3)) rfl rfl rfl).trans ?_
  refine (zq1 (q := ((317, [(3, .int 0), (2, .ref 54), (1, .ref 0), (0, .retAddr 0)], [.int (xs 1), .ref 0]), zh3)) rfl rfl rfl).trans ?_
  refine (zq1 (q := ((318, [(3, .int 0), (2, .ref 54), (1, .ref 0), (0, .retAddr 0)], [.retAddr 0, .int (xs 1), .ref 0]), zh3)) rfl rfl rfl).trans ?_
  refine (zq1 (q := ((319, [(3, .int 0), (2, .ref 54), (1, .ref 0), (0, .retAddr 0)], [.int 0, .retAddr 0, .int (xs 1), .ref 0]), zh3)) rfl rfl rfl).trans ?_
  refine (zq1 (q := ((320, [(3, .int 0), (2, .ref 54), (1, .ref 0), (0, .retAddr 0)], [.int 2, .int 0, .retAddr 0, .int (xs 1), .ref 0]), zh3)) rfl rfl rfl).trans ?_
  refine (zq1 (q := ((321, [(3, .int 0), (2, .ref 54), (1, .ref 0), (0, .retAddr 0)], [.int 2, .retAddr 0, .int (xs 1), .ref 0]), zh3)) rfl rfl rfl).trans ?_
  refine (zq1 (q := ((322, [(3, .int 0), (2, .ref 54), (1, .ref 0), (0, .retAddr 0)], [.int (xs 2), .int (xs 1), .ref 0]), zh3)) rfl rfl rfl).trans ?_
  refine (zq1 (q := ((323, [(3, .int 0), (2, .ref 54), (1, .ref 0), (0, .retAddr 0)], [.retAddr 0, .int (xs 2), .int (xs 1), .ref 0]), zh3)) rfl rfl rfl).trans ?_
  refine (zq1 (q := ((324, [(3, .int 0), (2, .ref 54), (1, .ref 0), (0, .retAddr 0)], [.int 0, .retAddr 0, .int (xs 2), .int (xs 1), .ref 0]), zh3)) rfl rfl rfl).trans ?_
  refine (zq1 (q := ((325, [(3, .int 0), (2, .ref 54), (1, .ref 0), (0, .retAddr 0)], [.int 3, .int 0, .retAddr 0, .int (xs 2), .int (xs 1), .ref 0]), zh3)) rfl rfl rfl).trans ?_
  refine (zq1 (q := ((326, [(3, .int 0), (2, .ref 54), (1, .ref 0), (0, .retAddr 0)], [.int 3, .retAddr 0, .int (xs 2), .int (xs 1), .ref 0]), zh3)) rfl rfl rfl).trans ?_
  refine (zq1 (q := ((327, [(3, .int 0), (2, .ref 54), (1, .ref 0), (0, .retAddr 0)], [.int (xs 3), .int (xs 2), .int (xs 1), .ref 0]), zh3)) rfl rfl rfl).trans ?_
  refine (zq1 (q := ((328, [(3, .int 0), (2, .ref 54), (1, .ref 0), (0, .retAddr 0)], [.retAddr 0, .int (xs 3), .int (xs 2), .int (xs 1), .ref 0]), zh3)) rfl rfl rfl).trans ?_
  refine (zq1 (q := ((329, [(3, .int 0), (2, .ref 54), (1, .ref 0), (0, .retAddr 0)], [.int 0, .retAddr 0, .int (xs 3), .int (xs 2), .int (xs 1), .ref 0]), zh3)) rfl rfl rfl).trans ?_
  refine (zq1 (q := ((330, [(3, .int 0), (2, .ref 54), (1, .ref 0), (0, .retAddr 0)], [.int 4, .int 0, .retAddr 0, .int (xs 3), .int (xs 2), .int (xs 1), .ref 0]), zh3)) rfl rfl rfl).trans ?_
  refine (zq1 (q := ((331, [(3, .int 0), (2, .ref 54), (1, .ref 0), (0, .retAddr 0)], [.int 4, .retAddr 0, .int (xs 3), .int (xs 2), .int (xs 1), .ref 0]), zh3)) rfl rfl rfl).trans ?_
  refine (zq1 (q := ((332, [(3, .int 0), (2, .ref 54), (1, .ref 0), (0, .retAddr 0)], [.int (xs 4), .int (xs 3), .int (xs 2), .int (xs 1), .ref 0]), zh3)) rfl rfl rfl).trans ?_
  refine (zqc 1 (x := (332, .invokevirtual 37, 3, 43, 0, 411, .null)) (M' := M_ST_select) (qq := ([.ref 0, .int (xs 1), .int (xs 2), .int (xs 3), .int (xs 4)], [])) (h := zh3) (s' := (335, [(3, .int 0), (2, .ref 54), (1, .ref 0), (0, .retAddr 0)], [.int a])) rfl rfl rfl rfl rfl rfl e1 rfl).trans ?_
  refine (zq1 (q := ((336, [(3, .int 0), (2, .ref 54), (1, .ref 0), (0, .retAddr 0)], [.ref 54, .int a]), h)) rfl rfl rfl).trans ?_
  refine (zq1 (q := ((337, [(3, .int 0), (2, .ref 54), (1, .ref 0), (0, .retAddr 0)], [.retAddr 0, .ref 54, .int a]), h)) rfl rfl rfl).trans ?_
  refine (zq1 (q := ((338, [(3, .int 0), (2, .ref 54), (1, .ref 0), (0, .retAddr 0)], [.int 0, .retAddr 0, .ref 54, .int a]), h)) rfl rfl rfl).trans ?_
  refine (zq1 (q := ((339, [(3, .int 0), (2, .ref 54), (1, .ref 0), (0, .retAddr 0)], [.int 1, .int 0, .retAddr 0, .ref 54, .int a]), h)) rfl rfl rfl).trans ?_
  refine (zq1 (q := ((340, [(3, .int 0), (2, .ref 54), (1, .ref 0), (0, .retAddr 0)], [.int 1, .retAddr 0, .ref 54, .int a]), h)) rfl rfl rfl).trans ?_
  refine (zq1 (q := ((341, [(3, .int 0), (2, .ref 54), (1, .ref 0), (0, .retAddr 0)], [.int (xs 1), .ref 54, .int a]), h)) rfl rfl rfl).trans ?_
  refine (zq1 (q := ((342, [(3, .int 0), (2, .ref 54), (1, .ref 0), (0, .retAddr 0)], [.retAddr 0, .int (xs 1), .ref 54, .int a]), h)) rfl rfl rfl).trans ?_
  refine (zq1 (q := ((343, [(3, .int 0), (2, .ref 54), (1, .ref 0), (0, .retAddr 0)], [.int 0, .retAddr 0, .int (xs 1), .ref 54, .int a]), h)) rfl rfl rfl).trans ?_
  refine (zq1 (q := ((344, [(3, .int 0), (2, .ref 54), (1, .ref 0), (0, .retAddr 0)], [.int 2, .int 0, .retAddr 0, .int (xs 1), .ref 54, .int a]), h)) rfl rfl rfl).trans ?_
  refine (zq1 (q := ((345, [(3, .int 0), (2, .ref 54), (1, .ref 0), (0, .retAddr 0)], [.int 2, .retAddr 0, .int (xs 1), .ref 54, .int a]), h)) rfl rfl rfl).trans ?_
  refine (zq1 (q := ((346, [(3, .int 0), (2, .ref 54), (1, .ref 0), (0, .retAddr 0)], [.int (xs 2), .int (xs 1), .ref 54, .int a]), h)) rfl rfl rfl).trans ?_
  refine (zq1 (q := ((347, [(3, .int 0), (2, .ref 54), (1, .ref 0), (0, .retAddr 0)], [.retAddr 0, .int (xs 2), .int (xs 1), .ref 54, .int a]), h)) rfl rfl rfl).trans ?_
  refine (zq1 (q := ((348, [(3, .int 0), (2, .ref 54), (1, .ref 0), (0, .retAddr 0)], [.int 0, .retAddr 0, .int (xs 2), .int (xs 1), .ref 54, .int a]), h)) rfl rfl rfl).trans ?_
  refine (zq1 (q := ((349, [(3, .int 0), (2, .ref 54), (1, .ref 0), (0, .retAddr 0)], [.int 3, .int 0, .retAddr 0, .int (xs 2), .int (xs 1), .ref 54, .int a]), h)) rfl rfl rfl).trans ?_
  refine (zq1 (q := ((350, [(3, .int 0), (2, .ref 54), (1, .ref 0), (0, .retAddr 0)], [.int 3, .retAddr 0, .int (xs 2), .int (xs 1), .ref 54, .int a]), h)) rfl rfl rfl).trans ?_
  refine (zq1 (q := ((351, [(3, .int 0), (2, .ref 54), (1, .ref 0), (0, .retAddr 0)], [.int (xs 3), .int (xs 2), .int (xs 1), .ref 54, .int a]), h)) rfl rfl rfl).trans ?_
  refine (zq1 (q := ((352, [(3, .int 0), (2, .ref 54), (1, .ref 0), (0, .retAddr 0)], [.retAddr 0, .int (xs 3), .int (xs 2), .int (xs 1), .ref 54, .int a]), h)) rfl rfl rfl).trans ?_
  refine (zq1 (q := ((353, [(3, .int 0), (2, .ref 54), (1, .ref 0), (0, .retAddr 0)], [.int 0, .retAddr 0, .int (xs 3), .int (xs 2), .int (xs 1), .ref 54, .int a]), h)) rfl rfl rfl).trans ?_
  refine (zq1 (q := ((354, [(3, .int 0), (2, .ref 54), (1, .ref 0), (0, .retAddr 0)], [.int 4, .int 0, .retAddr 0, .int (xs 3), .int (xs 2), .int (xs 1), .ref 54, .int a]), h)) rfl rfl rfl).trans ?_
  refine (zq1 (q := ((355, [(3, .int 0), (2, .ref 54), (1, .ref 0), (0, .retAddr 0)], [.int 4, .retAddr 0, .int (xs 3), .int (xs 2), .int (xs 1), .ref 54, .int a]), h)) rfl rfl rfl).trans ?_
  refine (zq1 (q := ((356, [(3, .int 0), (2, .ref 54), (1, .ref 0), (0, .retAddr 0)], [.int (xs 4), .int (xs 3), .int (xs 2), .int (xs 1), .ref 54, .int a]), h)) rfl rfl rfl).trans ?_
  refine (zqc 1 (x := (356, .invokevirtual 41, 3, 114, 0, 786, .null)) (M' := M_Mo_select) (qq := ([.ref 54, .int (xs 1), .int (xs 2), .int (xs 3), .int (xs 4)], [.int a])) (h := h) (s' := (359, [(3, .int 0), (2, .ref 54), (1, .ref 0), (0, .retAddr 0)], [.int a, .int a])) rfl rfl rfl rfl rfl (zhk rfl e3 rfl) e2 rfl).trans ?_
  refine (zqb (q := (636, [(3, .int 0), (2, .ref 54), (1, .ref 0), (0, .retAddr 0)], [])) (cB := zc .eq a (a)) (v := true) (off := 277) (lv := [(3, .int 0), (2, .ref 54), (1, .ref 0), (0, .retAddr 0)]) (r := []) rfl rfl rfl (decide_eq_true rfl) rfl).trans ?_
  refine (zq1 (q := ((639, [(3, .int 5), (2, .ref 54), (1, .ref 0), (0, .retAddr 0)], []), k)) rfl rfl rfl).trans ?_
  refine (zq1 (q := ((18, [(3, .int 5), (2, .ref 54), (1, .ref 0), (0, .retAddr 0)], []), k)) rfl rfl rfl).trans ?_
  refine (zq1 (q := ((19, [(3, .int 5), (2, .ref 54), (1, .ref 0), (0, .retAddr 0)], [.int 5]), k)) rfl rfl rfl).trans ?_
  refine (zq1 (q := ((20, [(3, .int 5), (2, .ref 54), (1, .ref 0), (0, .retAddr 0)], [.retAddr 0, .int 5]), k)) rfl rfl rfl).trans ?_
  refine (zq1 (q := ((21, [(3, .int 5), (2, .ref 54), (1, .ref 0), (0, .retAddr 0)], [.int 5, .int 5]), k)) rfl rfl rfl).trans ?_
  refine (zq1 (q := ((22, [(3, .int 5), (2, .ref 54), (1, .ref 0), (0, .retAddr 0)], [.int 5, .int 5, .int 5]), k)) rfl rfl rfl).trans ?_
  refine (zq1 (q := ((23, [(3, .int 5), (2, .ref 54), (1, .ref 0), (0, .retAddr 0)], [.int 0, .int 5]), k)) rfl rfl rfl).trans ?_
  refine (zq1 (q := ((642, [(3, .int 5), (2, .ref 54), (1, .ref 0), (0, .retAddr 0)], []), k)) rfl rfl rfl).trans ?_
  refine (zq1 (q := ((643, [(3, .int 5), (2, .ref 54), (1, .ref 0), (0, .retAddr 0)], [.int 1]), k)) rfl rfl rfl).trans ?_
  exact zqr rfl rfl
set_option maxRecDepth 1000000 in
set_option maxHeartbeats 4000000 in
theorem zy_case6 (xs : Nat → Int32) : ∃ (h : zH), zloop zmt (zcal zmt 100000 9 420) 10 420 (some (5, xs)) M_law 99979 (32, [(3, .int 0), (2, .ref 54), (1, .ref 0), (0, .retAddr 0)], [.int (nI 6)]) zh3 = some (some (.int 1), h) ∧ Nat.ble h.1.length 600000 = true ∧ Nat.ble h.2 7302250 = true := by
  obtain ⟨a, h, k, e1, e2, e3, b1, b2⟩ := zo_nearest (xs 1) (xs 2)
  refine ⟨k, ?_, b1, b2⟩
  refine (zq1 (q := ((364, [(3, .int 0), (2, .ref 54), (1, .ref 0), (0, .retAddr 0)], []), zh3)) rfl rfl rfl).trans ?_
  refine (zq1 (q := ((365, [(3, .int 0), (2, .ref 54), (1, .ref 0), (0, .retAddr 0)], [.ref 0]), zh3)) rfl rfl rfl).trans ?_
  refine (zq1 (q := ((366, [(3, .int 0), (2, .ref 54), (1, .ref 0), (0, .retAddr 0)], [.retAddr 0, .ref 0]), zh3)) rfl rfl rfl).trans ?_
  refine (zq1 (q := ((367, [(3, .int 0), (2, .ref 54), (1, .ref 0), (0, .retAddr 0)], [.int 0, .retAddr 0, .ref 0]), zh3)) rfl rfl rfl).trans ?_
  refine (zq1 (q := ((368, [(3, .int 0), (2, .ref 54), (1, .ref 0), (0, .retAddr 0)], [.int 1, .int 0, .retAddr 0, .ref 0]), zh3)) rfl rfl rfl).trans ?_
  refine (zq1 (q := ((369, [(3, .int 0), (2, .ref 54), (1, .ref 0), (0, .retAddr 0)], [.int 1, .retAddr 0, .ref 0]), zh3)) rfl rfl rfl).trans ?_
  refine (zq1 (q := ((370, [(3, .int 0), (2, .ref 54), (1, .ref 0), (0, .retAddr 0)], [.int (xs 1), .ref 0]), zh3)) rfl rfl rfl).trans ?_
  refine (zq1 (q := ((371, [(3, .int 0), (2, .ref 54), (1, .ref 0), (0, .retAddr 0)], [.retAddr 0, .int (xs 1), .ref 0]), zh3)) rfl rfl rfl).trans ?_
  refine (zq1 (q := ((372, [(3, .int 0), (2, .ref 54), (1, .ref 0), (0, .retAddr 0)], [.int 0, .retAddr 0, .int (xs 1), .ref 0]), zh3)) rfl rfl rfl).trans ?_
  refine (zq1 (q := ((373, [(3, .int 0), (2, .ref 54), (1, .ref 0), (0, .retAddr 0)], [.int 2, .int 0, .retAddr 0, .int (xs 1), .ref 0]), zh3)) rfl rfl rfl).trans ?_
  refine (zq1 (q := ((374, [(3, .int 0), (2, .ref 54), (1, .ref 0), (0, .retAddr 0)], [.int 2, .retAddr 0, .int (xs 1), .ref 0]), zh3)) rfl rfl rfl).trans ?_
  refine (zq1 (q := ((375, [(3, .int 0), (2, .ref 54), (1, .ref 0), (0, .retAddr 0)], [.int (xs 2), .int (xs 1), .ref 0]), zh3)) rfl rfl rfl).trans ?_
  refine (zqc 1 (x := (375, .invokevirtual 42, 3, 66, 0, 511, .null)) (M' := M_ST_nearest) (qq := ([.ref 0, .int (xs 1), .int (xs 2)], [])) (h := zh3) (s' := (378, [(3, .int 0), (2, .ref 54), (1, .ref 0), (0, .retAddr 0)], [.int a])) rfl rfl rfl rfl rfl rfl e1 rfl).trans ?_
  refine (zq1 (q := ((379, [(3, .int 0), (2, .ref 54), (1, .ref 0), (0, .retAddr 0)], [.ref 54, .int a]), h)) rfl rfl rfl).trans ?_
  refine (zq1 (q := ((380, [(3, .int 0), (2, .ref 54), (1, .ref 0), (0, .retAddr 0)], [.retAddr 0, .ref 54, .int a]), h)) rfl rfl rfl).trans ?_
  refine (zq1 (q := ((381, [(3, .int 0), (2, .ref 54), (1, .ref 0), (0, .retAddr 0)], [.int 0, .retAddr 0, .ref 54, .int a]), h)) rfl rfl rfl).trans ?_
  refine (zq1 (q := ((382, [(3, .int 0), (2, .ref 54), (1, .ref 0), (0, .retAddr 0)], [.int 1, .int 0, .retAddr 0, .ref 54, .int a]), h)) rfl rfl rfl).trans ?_
  refine (zq1 (q := ((383, [(3, .int 0), (2, .ref 54), (1, .ref 0), (0, .retAddr 0)], [.int 1, .retAddr 0, .ref 54, .int a]), h)) rfl rfl rfl).trans ?_
  refine (zq1 (q := ((384, [(3, .int 0), (2, .ref 54), (1, .ref 0), (0, .retAddr 0)], [.int (xs 1), .ref 54, .int a]), h)) rfl rfl rfl).trans ?_
  refine (zq1 (q := ((385, [(3, .int 0), (2, .ref 54), (1, .ref 0), (0, .retAddr 0)], [.retAddr 0, .int (xs 1), .ref 54, .int a]), h)) rfl rfl rfl).trans ?_
  refine (zq1 (q := ((386, [(3, .int 0), (2, .ref 54), (1, .ref 0), (0, .retAddr 0)], [.int 0, .retAddr 0, .int (xs 1), .ref 54, .int a]), h)) rfl rfl rfl).trans ?_
  refine (zq1 (q := ((387, [(3, .int 0), (2, .ref 54), (1, .ref 0), (0, .retAddr 0)], [.int 2, .int 0, .retAddr 0, .int (xs 1), .ref 54, .int a]), h)) rfl rfl rfl).trans ?_
  refine (zq1 (q := ((388, [(3, .int 0), (2, .ref 54), (1, .ref 0), (0, .retAddr 0)], [.int 2, .retAddr 0, .int (xs 1), .ref 54, .int a]), h)) rfl rfl rfl).trans ?_
  refine (zq1 (q := ((389, [(3, .int 0), (2, .ref 54), (1, .ref 0), (0, .retAddr 0)], [.int (xs 2), .int (xs 1), .ref 54, .int a]), h)) rfl rfl rfl).trans ?_
  refine (zqc 1 (x := (389, .invokevirtual 45, 3, 134, 0, 866, .null)) (M' := M_Mo_nearest) (qq := ([.ref 54, .int (xs 1), .int (xs 2)], [.int a])) (h := h) (s' := (392, [(3, .int 0), (2, .ref 54), (1, .ref 0), (0, .retAddr 0)], [.int a, .int a])) rfl rfl rfl rfl rfl (zhk rfl e3 rfl) e2 rfl).trans ?_
  refine (zqb (q := (636, [(3, .int 0), (2, .ref 54), (1, .ref 0), (0, .retAddr 0)], [])) (cB := zc .eq a (a)) (v := true) (off := 244) (lv := [(3, .int 0), (2, .ref 54), (1, .ref 0), (0, .retAddr 0)]) (r := []) rfl rfl rfl (decide_eq_true rfl) rfl).trans ?_
  refine (zq1 (q := ((639, [(3, .int 5), (2, .ref 54), (1, .ref 0), (0, .retAddr 0)], []), k)) rfl rfl rfl).trans ?_
  refine (zq1 (q := ((18, [(3, .int 5), (2, .ref 54), (1, .ref 0), (0, .retAddr 0)], []), k)) rfl rfl rfl).trans ?_
  refine (zq1 (q := ((19, [(3, .int 5), (2, .ref 54), (1, .ref 0), (0, .retAddr 0)], [.int 5]), k)) rfl rfl rfl).trans ?_
  refine (zq1 (q := ((20, [(3, .int 5), (2, .ref 54), (1, .ref 0), (0, .retAddr 0)], [.retAddr 0, .int 5]), k)) rfl rfl rfl).trans ?_
  refine (zq1 (q := ((21, [(3, .int 5), (2, .ref 54), (1, .ref 0), (0, .retAddr 0)], [.int 5, .int 5]), k)) rfl rfl rfl).trans ?_
  refine (zq1 (q := ((22, [(3, .int 5), (2, .ref 54), (1, .ref 0), (0, .retAddr 0)], [.int 5, .int 5, .int 5]), k)) rfl rfl rfl).trans ?_
  refine (zq1 (q := ((23, [(3, .int 5), (2, .ref 54), (1, .ref 0), (0, .retAddr 0)], [.int 0, .int 5]), k)) rfl rfl rfl).trans ?_
  refine (zq1 (q := ((642, [(3, .int 5), (2, .ref 54), (1, .ref 0), (0, .retAddr 0)], []), k)) rfl rfl rfl).trans ?_
  refine (zq1 (q := ((643, [(3, .int 5), (2, .ref 54), (1, .ref 0), (0, .retAddr 0)], [.int 1]), k)) rfl rfl rfl).trans ?_
  exact zqr rfl rfl
set_option maxRecDepth 1000000 in
set_option maxHeartbeats 4000000 in
theorem zy_case7 (xs : Nat → Int32) : ∃ (h : zH), zloop zmt (zcal zmt 100000 9 420) 10 420 (some (5, xs)) M_law 99979 (32, [(3, .int 0), (2, .ref 54), (1, .ref 0), (0, .retAddr 0)], [.int (nI 7)]) zh3 = some (some (.int 1), h) ∧ Nat.ble h.1.length 600000 = true ∧ Nat.ble h.2 7302250 = true := by
  obtain ⟨a, h, k, e1, e2, e3, b1, b2⟩ := zo_join (xs 1)
  refine ⟨k, ?_, b1, b2⟩
  refine (zq1 (q := ((397, [(3, .int 0), (2, .ref 54), (1, .ref 0), (0, .retAddr 0)], []), zh3)) rfl rfl rfl).trans ?_
  refine (zq1 (q := ((398, [(3, .int 0), (2, .ref 54), (1, .ref 0), (0, .retAddr 0)], [.ref 0]), zh3)) rfl rfl rfl).trans ?_
  refine (zq1 (q := ((399, [(3, .int 0), (2, .ref 54), (1, .ref 0), (0, .retAddr 0)], [.retAddr 0, .ref 0]), zh3)) rfl rfl rfl).trans ?_
  refine (zq1 (q := ((400, [(3, .int 0), (2, .ref 54), (1, .ref 0), (0, .retAddr 0)], [.int 0, .retAddr 0, .ref 0]), zh3)) rfl rfl rfl).trans ?_
  refine (zq1 (q := ((401, [(3, .int 0), (2, .ref 54), (1, .ref 0), (0, .retAddr 0)], [.int 1, .int 0, .retAddr 0, .ref 0]), zh3)) rfl rfl rfl).trans ?_
  refine (zq1 (q := ((402, [(3, .int 0), (2, .ref 54), (1, .ref 0), (0, .retAddr 0)], [.int 1, .retAddr 0, .ref 0]), zh3)) rfl rfl rfl).trans ?_
  refine (zq1 (q := ((403, [(3, .int 0), (2, .ref 54), (1, .ref 0), (0, .retAddr 0)], [.int (xs 1), .ref 0]), zh3)) rfl rfl rfl).trans ?_
  refine (zqc 1 (x := (403, .invokevirtual 46, 3, 71, 0, 531, .null)) (M' := M_ST_join) (qq := ([.ref 0, .int (xs 1)], [])) (h := zh3) (s' := (406, [(3, .int 0), (2, .ref 54), (1, .ref 0), (0, .retAddr 0)], [.int a])) rfl rfl rfl rfl rfl rfl e1 rfl).trans ?_
  refine (zq1 (q := ((407, [(3, .int 0), (2, .ref 54), (1, .ref 0), (0, .retAddr 0)], [.ref 54, .int a]), h)) rfl rfl rfl).trans ?_
  refine (zq1 (q := ((408, [(3, .int 0), (2, .ref 54), (1, .ref 0), (0, .retAddr 0)], [.retAddr 0, .ref 54, .int a]), h)) rfl rfl rfl).trans ?_
  refine (zq1 (q := ((409, [(3, .int 0), (2, .ref 54), (1, .ref 0), (0, .retAddr 0)], [.int 0, .retAddr 0, .ref 54, .int a]), h)) rfl rfl rfl).trans ?_
  refine (zq1 (q := ((410, [(3, .int 0), (2, .ref 54), (1, .ref 0), (0, .retAddr 0)], [.int 1, .int 0, .retAddr 0, .ref 54, .int a]), h)) rfl rfl rfl).trans ?_
  refine (zq1 (q := ((411, [(3, .int 0), (2, .ref 54), (1, .ref 0), (0, .retAddr 0)], [.int 1, .retAddr 0, .ref 54, .int a]), h)) rfl rfl rfl).trans ?_
  refine (zq1 (q := ((412, [(3, .int 0), (2, .ref 54), (1, .ref 0), (0, .retAddr 0)], [.int (xs 1), .ref 54, .int a]), h)) rfl rfl rfl).trans ?_
  refine (zqc 1 (x := (412, .invokevirtual 49, 3, 136, 0, 874, .null)) (M' := M_Mo_join) (qq := ([.ref 54, .int (xs 1)], [.int a])) (h := h) (s' := (415, [(3, .int 0), (2, .ref 54), (1, .ref 0), (0, .retAddr 0)], [.int a, .int a])) rfl rfl rfl rfl rfl (zhk rfl e3 rfl) e2 rfl).trans ?_
  refine (zqb (q := (636, [(3, .int 0), (2, .ref 54), (1, .ref 0), (0, .retAddr 0)], [])) (cB := zc .eq a (a)) (v := true) (off := 221) (lv := [(3, .int 0), (2, .ref 54), (1, .ref 0), (0, .retAddr 0)]) (r := []) rfl rfl rfl (decide_eq_true rfl) rfl).trans ?_
  refine (zq1 (q := ((639, [(3, .int 5), (2, .ref 54), (1, .ref 0), (0, .retAddr 0)], []), k)) rfl rfl rfl).trans ?_
  refine (zq1 (q := ((18, [(3, .int 5), (2, .ref 54), (1, .ref 0), (0, .retAddr 0)], []), k)) rfl rfl rfl).trans ?_
  refine (zq1 (q := ((19, [(3, .int 5), (2, .ref 54), (1, .ref 0), (0, .retAddr 0)], [.int 5]), k)) rfl rfl rfl).trans ?_
  refine (zq1 (q := ((20, [(3, .int 5), (2, .ref 54), (1, .ref 0), (0, .retAddr 0)], [.retAddr 0, .int 5]), k)) rfl rfl rfl).trans ?_
  refine (zq1 (q := ((21, [(3, .int 5), (2, .ref 54), (1, .ref 0), (0, .retAddr 0)], [.int 5, .int 5]), k)) rfl rfl rfl).trans ?_
  refine (zq1 (q := ((22, [(3, .int 5), (2, .ref 54), (1, .ref 0), (0, .retAddr 0)], [.int 5, .int 5, .int 5]), k)) rfl rfl rfl).trans ?_
  refine (zq1 (q := ((23, [(3, .int 5), (2, .ref 54), (1, .ref 0), (0, .retAddr 0)], [.int 0, .int 5]), k)) rfl rfl rfl).trans ?_
  refine (zq1 (q := ((642, [(3, .int 5), (2, .ref 54), (1, .ref 0), (0, .retAddr 0)], []), k)) rfl rfl rfl).trans ?_
  refine (zq1 (q := ((643, [(3, .int 5), (2, .ref 54), (1, .ref 0), (0, .retAddr 0)], [.int 1]), k)) rfl rfl rfl).trans ?_
  exact zqr rfl rfl
set_option maxRecDepth 1000000 in
set_option maxHeartbeats 4000000 in
theorem zy_case8 (xs : Nat → Int32) : ∃ (h : zH), zloop zmt (zcal zmt 100000 9 420) 10 420 (some (5, xs)) M_law 99979 (32, [(3, .int 0), (2, .ref 54), (1, .ref 0), (0, .retAddr 0)], [.int (nI 8)]) zh3 = some (some (.int 1), h) ∧ Nat.ble h.1.length 600000 = true ∧ Nat.ble h.2 7302250 = true := by
  obtain ⟨a, h, k, e1, e2, e3, b1, b2⟩ := zo_result (xs 1)
  refine ⟨k, ?_, b1, b2⟩
  refine (zq1 (q := ((420, [(3, .int 0), (2, .ref 54), (1, .ref 0), (0, .retAddr 0)], []), zh3)) rfl rfl rfl).trans ?_
  refine (zq1 (q := ((421, [(3, .int 0), (2, .ref 54), (1, .ref 0), (0, .retAddr 0)], [.ref 0]), zh3)) rfl rfl rfl).trans ?_
  refine (zq1 (q := ((422, [(3, .int 0), (2, .ref 54), (1, .ref 0), (0, .retAddr 0)], [.retAddr 0, .ref 0]), zh3)) rfl rfl rfl).trans ?_
  refine (zq1 (q := ((423, [(3, .int 0), (2, .ref 54), (1, .ref 0), (0, .retAddr 0)], [.int 0, .retAddr 0, .ref 0]), zh3)) rfl rfl rfl).trans ?_
  refine (zq1 (q := ((424, [(3, .int 0), (2, .ref 54), (1, .ref 0), (0, .retAddr 0)], [.int 1, .int 0, .retAddr 0, .ref 0]), zh3)) rfl rfl rfl).trans ?_
  refine (zq1 (q := ((425, [(3, .int 0), (2, .ref 54), (1, .ref 0), (0, .retAddr 0)], [.int 1, .retAddr 0, .ref 0]), zh3)) rfl rfl rfl).trans ?_
  refine (zq1 (q := ((426, [(3, .int 0), (2, .ref 54), (1, .ref 0), (0, .retAddr 0)], [.int (xs 1), .ref 0]), zh3)) rfl rfl rfl).trans ?_
  refine (zqc 1 (x := (426, .invokevirtual 50, 3, 73, 0, 539, .null)) (M' := M_ST_result) (qq := ([.ref 0, .int (xs 1)], [])) (h := zh3) (s' := (429, [(3, .int 0), (2, .ref 54), (1, .ref 0), (0, .retAddr 0)], [.int a])) rfl rfl rfl rfl rfl rfl e1 rfl).trans ?_
  refine (zq1 (q := ((430, [(3, .int 0), (2, .ref 54), (1, .ref 0), (0, .retAddr 0)], [.ref 54, .int a]), h)) rfl rfl rfl).trans ?_
  refine (zq1 (q := ((431, [(3, .int 0), (2, .ref 54), (1, .ref 0), (0, .retAddr 0)], [.retAddr 0, .ref 54, .int a]), h)) rfl rfl rfl).trans ?_
  refine (zq1 (q := ((432, [(3, .int 0), (2, .ref 54), (1, .ref 0), (0, .retAddr 0)], [.int 0, .retAddr 0, .ref 54, .int a]), h)) rfl rfl rfl).trans ?_
  refine (zq1 (q := ((433, [(3, .int 0), (2, .ref 54), (1, .ref 0), (0, .retAddr 0)], [.int 1, .int 0, .retAddr 0, .ref 54, .int a]), h)) rfl rfl rfl).trans ?_
  refine (zq1 (q := ((434, [(3, .int 0), (2, .ref 54), (1, .ref 0), (0, .retAddr 0)], [.int 1, .retAddr 0, .ref 54, .int a]), h)) rfl rfl rfl).trans ?_
  refine (zq1 (q := ((435, [(3, .int 0), (2, .ref 54), (1, .ref 0), (0, .retAddr 0)], [.int (xs 1), .ref 54, .int a]), h)) rfl rfl rfl).trans ?_
  refine (zqc 1 (x := (435, .invokevirtual 53, 3, 137, 0, 878, .null)) (M' := M_Mo_result) (qq := ([.ref 54, .int (xs 1)], [.int a])) (h := h) (s' := (438, [(3, .int 0), (2, .ref 54), (1, .ref 0), (0, .retAddr 0)], [.int a, .int a])) rfl rfl rfl rfl rfl (zhk rfl e3 rfl) e2 rfl).trans ?_
  refine (zqb (q := (636, [(3, .int 0), (2, .ref 54), (1, .ref 0), (0, .retAddr 0)], [])) (cB := zc .eq a (a)) (v := true) (off := 198) (lv := [(3, .int 0), (2, .ref 54), (1, .ref 0), (0, .retAddr 0)]) (r := []) rfl rfl rfl (decide_eq_true rfl) rfl).trans ?_
  refine (zq1 (q := ((639, [(3, .int 5), (2, .ref 54), (1, .ref 0), (0, .retAddr 0)], []), k)) rfl rfl rfl).trans ?_
  refine (zq1 (q := ((18, [(3, .int 5), (2, .ref 54), (1, .ref 0), (0, .retAddr 0)], []), k)) rfl rfl rfl).trans ?_
  refine (zq1 (q := ((19, [(3, .int 5), (2, .ref 54), (1, .ref 0), (0, .retAddr 0)], [.int 5]), k)) rfl rfl rfl).trans ?_
  refine (zq1 (q := ((20, [(3, .int 5), (2, .ref 54), (1, .ref 0), (0, .retAddr 0)], [.retAddr 0, .int 5]), k)) rfl rfl rfl).trans ?_
  refine (zq1 (q := ((21, [(3, .int 5), (2, .ref 54), (1, .ref 0), (0, .retAddr 0)], [.int 5, .int 5]), k)) rfl rfl rfl).trans ?_
  refine (zq1 (q := ((22, [(3, .int 5), (2, .ref 54), (1, .ref 0), (0, .retAddr 0)], [.int 5, .int 5, .int 5]), k)) rfl rfl rfl).trans ?_
  refine (zq1 (q := ((23, [(3, .int 5), (2, .ref 54), (1, .ref 0), (0, .retAddr 0)], [.int 0, .int 5]), k)) rfl rfl rfl).trans ?_
  refine (zq1 (q := ((642, [(3, .int 5), (2, .ref 54), (1, .ref 0), (0, .retAddr 0)], []), k)) rfl rfl rfl).trans ?_
  refine (zq1 (q := ((643, [(3, .int 5), (2, .ref 54), (1, .ref 0), (0, .retAddr 0)], [.int 1]), k)) rfl rfl rfl).trans ?_
  exact zqr rfl rfl
set_option maxRecDepth 1000000 in
set_option maxHeartbeats 4000000 in
theorem zy_case9 (xs : Nat → Int32) : ∃ (h : zH), zloop zmt (zcal zmt 100000 9 420) 10 420 (some (5, xs)) M_law 99979 (32, [(3, .int 0), (2, .ref 54), (1, .ref 0), (0, .retAddr 0)], [.int (nI 9)]) zh3 = some (some (.int 1), h) ∧ Nat.ble h.1.length 600000 = true ∧ Nat.ble h.2 7302250 = true := by
  obtain ⟨a, h, k, e1, e2, e3, b1, b2⟩ := zo_reads 
  refine ⟨k, ?_, b1, b2⟩
  refine (zq1 (q := ((443, [(3, .int 0), (2, .ref 54), (1, .ref 0), (0, .retAddr 0)], []), zh3)) rfl rfl rfl).trans ?_
  refine (zq1 (q := ((444, [(3, .int 0), (2, .ref 54), (1, .ref 0), (0, .retAddr 0)], [.ref 0]), zh3)) rfl rfl rfl).trans ?_
  refine (zqc 1 (x := (444, .invokevirtual 54, 3, 74, 0, 543, .null)) (M' := M_ST_reads) (qq := ([.ref 0], [])) (h := zh3) (s' := (447, [(3, .int 0), (2, .ref 54), (1, .ref 0), (0, .retAddr 0)], [.int a])) rfl rfl rfl rfl rfl rfl e1 rfl).trans ?_
  refine (zq1 (q := ((448, [(3, .int 0), (2, .ref 54), (1, .ref 0), (0, .retAddr 0)], [.ref 54, .int a]), h)) rfl rfl rfl).trans ?_
  refine (zqc 1 (x := (448, .invokevirtual 58, 3, 138, 0, 882, .null)) (M' := M_Mo_reads) (qq := ([.ref 54], [.int a])) (h := h) (s' := (451, [(3, .int 0), (2, .ref 54), (1, .ref 0), (0, .retAddr 0)], [.int a, .int a])) rfl rfl rfl rfl rfl (zhk rfl e3 rfl) e2 rfl).trans ?_
  refine (zqb (q := (636, [(3, .int 0), (2, .ref 54), (1, .ref 0), (0, .retAddr 0)], [])) (cB := zc .eq a (a)) (v := true) (off := 185) (lv := [(3, .int 0), (2, .ref 54), (1, .ref 0), (0, .retAddr 0)]) (r := []) rfl rfl rfl (decide_eq_true rfl) rfl).trans ?_
  refine (zq1 (q := ((639, [(3, .int 5), (2, .ref 54), (1, .ref 0), (0, .retAddr 0)], []), k)) rfl rfl rfl).trans ?_
  refine (zq1 (q := ((18, [(3, .int 5), (2, .ref 54), (1, .ref 0), (0, .retAddr 0)], []), k)) rfl rfl rfl).trans ?_
  refine (zq1 (q := ((19, [(3, .int 5), (2, .ref 54), (1, .ref 0), (0, .retAddr 0)], [.int 5]), k)) rfl rfl rfl).trans ?_
  refine (zq1 (q := ((20, [(3, .int 5), (2, .ref 54), (1, .ref 0), (0, .retAddr 0)], [.retAddr 0, .int 5]), k)) rfl rfl rfl).trans ?_
  refine (zq1 (q := ((21, [(3, .int 5), (2, .ref 54), (1, .ref 0), (0, .retAddr 0)], [.int 5, .int 5]), k)) rfl rfl rfl).trans ?_
  refine (zq1 (q := ((22, [(3, .int 5), (2, .ref 54), (1, .ref 0), (0, .retAddr 0)], [.int 5, .int 5, .int 5]), k)) rfl rfl rfl).trans ?_
  refine (zq1 (q := ((23, [(3, .int 5), (2, .ref 54), (1, .ref 0), (0, .retAddr 0)], [.int 0, .int 5]), k)) rfl rfl rfl).trans ?_
  refine (zq1 (q := ((642, [(3, .int 5), (2, .ref 54), (1, .ref 0), (0, .retAddr 0)], []), k)) rfl rfl rfl).trans ?_
  refine (zq1 (q := ((643, [(3, .int 5), (2, .ref 54), (1, .ref 0), (0, .retAddr 0)], [.int 1]), k)) rfl rfl rfl).trans ?_
  exact zqr rfl rfl
set_option maxRecDepth 1000000 in
set_option maxHeartbeats 4000000 in
theorem zy_case10 (xs : Nat → Int32) : ∃ (h : zH), zloop zmt (zcal zmt 100000 9 420) 10 420 (some (5, xs)) M_law 99979 (32, [(3, .int 0), (2, .ref 54), (1, .ref 0), (0, .retAddr 0)], [.int (nI 10)]) zh3 = some (some (.int 1), h) ∧ Nat.ble h.1.length 600000 = true ∧ Nat.ble h.2 7302250 = true := by
  obtain ⟨a, h, k, e1, e2, e3, b1, b2⟩ := zo_measure (xs 1) (xs 2)
  refine ⟨k, ?_, b1, b2⟩
  refine (zq1 (q := ((456, [(3, .int 0), (2, .ref 54), (1, .ref 0), (0, .retAddr 0)], []), zh3)) rfl rfl rfl).trans ?_
  refine (zq1 (q := ((457, [(3, .int 0), (2, .ref 54), (1, .ref 0), (0, .retAddr 0)], [.ref 0]), zh3)) rfl rfl rfl).trans ?_
  refine (zq1 (q := ((458, [(3, .int 0), (2, .ref 54), (1, .ref 0), (0, .retAddr 0)], [.retAddr 0, .ref 0]), zh3)) rfl rfl rfl).trans ?_
  refine (zq1 (q := ((459, [(3, .int 0), (2, .ref 54), (1, .ref 0), (0, .retAddr 0)], [.int 0, .retAddr 0, .ref 0]), zh3)) rfl rfl rfl).trans ?_
  refine (zq1 (q := ((460, [(3, .int 0), (2, .ref 54), (1, .ref 0), (0, .retAddr 0)], [.int 1, .int 0, .retAddr 0, .ref 0]), zh3)) rfl rfl rfl).trans ?_
  refine (zq1 (q := ((461, [(3, .int 0), (2, .ref 54), (1, .ref 0), (0, .retAddr 0)], [.int 1, .retAddr 0, .ref 0]), zh3)) rfl rfl rfl).trans ?_
  refine (zq1 (q := ((462, [(3, .int 0), (2, .ref 54), (1, .ref 0), (0, .retAddr 0)], [.int (xs 1), .ref 0]), zh3)) rfl rfl rfl).trans ?_
  refine (zq1 (q := ((463, [(3, .int 0), (2, .ref 54), (1, .ref 0), (0, .retAddr 0)], [.retAddr 0, .int (xs 1), .ref 0]), zh3)) rfl rfl rfl).trans ?_
  refine (zq1 (q := ((464, [(3, .int 0), (2, .ref 54), (1, .ref 0), (0, .retAddr 0)], [.int 0, .retAddr 0, .int (xs 1), .ref 0]), zh3)) rfl rfl rfl).trans ?_
  refine (zq1 (q := ((465, [(3, .int 0), (2, .ref 54), (1, .ref 0), (0, .retAddr 0)], [.int 2, .int 0, .retAddr 0, .int (xs 1), .ref 0]), zh3)) rfl rfl rfl).trans ?_
  refine (zq1 (q := ((466, [(3, .int 0), (2, .ref 54), (1, .ref 0), (0, .retAddr 0)], [.int 2, .retAddr 0, .int (xs 1), .ref 0]), zh3)) rfl rfl rfl).trans ?_
  refine (zq1 (q := ((467, [(3, .int 0), (2, .ref 54), (1, .ref 0), (0, .retAddr 0)], [.int (xs 2), .int (xs 1), .ref 0]), zh3)) rfl rfl rfl).trans ?_
  refine (zqc 1 (x := (467, .invokevirtual 59, 3, 75, 0, 547, .null)) (M' := M_ST_measure) (qq := ([.ref 0, .int (xs 1), .int (xs 2)], [])) (h := zh3) (s' := (470, [(3, .int 0), (2, .ref 54), (1, .ref 0), (0, .retAddr 0)], [.int a])) rfl rfl rfl rfl rfl rfl e1 rfl).trans ?_
  refine (zq1 (q := ((471, [(3, .int 0), (2, .ref 54), (1, .ref 0), (0, .retAddr 0)], [.ref 54, .int a]), h)) rfl rfl rfl).trans ?_
  refine (zq1 (q := ((472, [(3, .int 0), (2, .ref 54), (1, .ref 0), (0, .retAddr 0)], [.retAddr 0, .ref 54, .int a]), h)) rfl rfl rfl).trans ?_
  refine (zq1 (q := ((473, [(3, .int 0), (2, .ref 54), (1, .ref 0), (0, .retAddr 0)], [.int 0, .retAddr 0, .ref 54, .int a]), h)) rfl rfl rfl).trans ?_
  refine (zq1 (q := ((474, [(3, .int 0), (2, .ref 54), (1, .ref 0), (0, .retAddr 0)], [.int 1, .int 0, .retAddr 0, .ref 54, .int a]), h)) rfl rfl rfl).trans ?_
  refine (zq1 (q := ((475, [(3, .int 0), (2, .ref 54), (1, .ref 0), (0, .retAddr 0)], [.int 1, .retAddr 0, .ref 54, .int a]), h)) rfl rfl rfl).trans ?_
  refine (zq1 (q := ((476, [(3, .int 0), (2, .ref 54), (1, .ref 0), (0, .retAddr 0)], [.int (xs 1), .ref 54, .int a]), h)) rfl rfl rfl).trans ?_
  refine (zq1 (q := ((477, [(3, .int 0), (2, .ref 54), (1, .ref 0), (0, .retAddr 0)], [.retAddr 0, .int (xs 1), .ref 54, .int a]), h)) rfl rfl rfl).trans ?_
  refine (zq1 (q := ((478, [(3, .int 0), (2, .ref 54), (1, .ref 0), (0, .retAddr 0)], [.int 0, .retAddr 0, .int (xs 1), .ref 54, .int a]), h)) rfl rfl rfl).trans ?_
  refine (zq1 (q := ((479, [(3, .int 0), (2, .ref 54), (1, .ref 0), (0, .retAddr 0)], [.int 2, .int 0, .retAddr 0, .int (xs 1), .ref 54, .int a]), h)) rfl rfl rfl).trans ?_
  refine (zq1 (q := ((480, [(3, .int 0), (2, .ref 54), (1, .ref 0), (0, .retAddr 0)], [.int 2, .retAddr 0, .int (xs 1), .ref 54, .int a]), h)) rfl rfl rfl).trans ?_
  refine (zq1 (q := ((481, [(3, .int 0), (2, .ref 54), (1, .ref 0), (0, .retAddr 0)], [.int (xs 2), .int (xs 1), .ref 54, .int a]), h)) rfl rfl rfl).trans ?_
  refine (zqc 1 (x := (481, .invokevirtual 62, 3, 139, 0, 886, .null)) (M' := M_Mo_measure) (qq := ([.ref 54, .int (xs 1), .int (xs 2)], [.int a])) (h := h) (s' := (484, [(3, .int 0), (2, .ref 54), (1, .ref 0), (0, .retAddr 0)], [.int a, .int a])) rfl rfl rfl rfl rfl (zhk rfl e3 rfl) e2 rfl).trans ?_
  refine (zqb (q := (636, [(3, .int 0), (2, .ref 54), (1, .ref 0), (0, .retAddr 0)], [])) (cB := zc .eq a (a)) (v := true) (off := 152) (lv := [(3, .int 0), (2, .ref 54), (1, .ref 0), (0, .retAddr 0)]) (r := []) rfl rfl rfl (decide_eq_true rfl) rfl).trans ?_
  refine (zq1 (q := ((639, [(3, .int 5), (2, .ref 54), (1, .ref 0), (0, .retAddr 0)], []), k)) rfl rfl rfl).trans ?_
  refine (zq1 (q := ((18, [(3, .int 5), (2, .ref 54), (1, .ref 0), (0, .retAddr 0)], []), k)) rfl rfl rfl).trans ?_
  refine (zq1 (q := ((19, [(3, .int 5), (2, .ref 54), (1, .ref 0), (0, .retAddr 0)], [.int 5]), k)) rfl rfl rfl).trans ?_
  refine (zq1 (q := ((20, [(3, .int 5), (2, .ref 54), (1, .ref 0), (0, .retAddr 0)], [.retAddr 0, .int 5]), k)) rfl rfl rfl).trans ?_
  refine (zq1 (q := ((21, [(3, .int 5), (2, .ref 54), (1, .ref 0), (0, .retAddr 0)], [.int 5, .int 5]), k)) rfl rfl rfl).trans ?_
  refine (zq1 (q := ((22, [(3, .int 5), (2, .ref 54), (1, .ref 0), (0, .retAddr 0)], [.int 5, .int 5, .int 5]), k)) rfl rfl rfl).trans ?_
  refine (zq1 (q := ((23, [(3, .int 5), (2, .ref 54), (1, .ref 0), (0, .retAddr 0)], [.int 0, .int 5]), k)) rfl rfl rfl).trans ?_
  refine (zq1 (q := ((642, [(3, .int 5), (2, .ref 54), (1, .ref 0), (0, .retAddr 0)], []), k)) rfl rfl rfl).trans ?_
  refine (zq1 (q := ((643, [(3, .int 5), (2, .ref 54), (1, .ref 0), (0, .retAddr 0)], [.int 1]), k)) rfl rfl rfl).trans ?_
  exact zqr rfl rfl
set_option maxRecDepth 1000000 in
set_option maxHeartbeats 4000000 in
theorem zy_case11 (xs : Nat → Int32) : ∃ (h : zH), zloop zmt (zcal zmt 100000 9 420) 10 420 (some (5, xs)) M_law 99979 (32, [(3, .int 0), (2, .ref 54), (1, .ref 0), (0, .retAddr 0)], [.int (nI 11)]) zh3 = some (some (.int 1), h) ∧ Nat.ble h.1.length 600000 = true ∧ Nat.ble h.2 7302250 = true := by
  obtain ⟨a, h, k, e1, e2, e3, b1, b2⟩ := zo_value (xs 1) (xs 2)
  refine ⟨k, ?_, b1, b2⟩
  refine (zq1 (q := ((489, [(3, .int 0), (2, .ref 54), (1, .ref 0), (0, .retAddr 0)], []), zh3)) rfl rfl rfl).trans ?_
  refine (zq1 (q := ((490, [(3, .int 0), (2, .ref 54), (1, .ref 0), (0, .retAddr 0)], [.ref 0]), zh3)) rfl rfl rfl).trans ?_
  refine (zq1 (q := ((491, [(3, .int 0), (2, .ref 54), (1, .ref 0), (0, .retAddr 0)], [.retAddr 0, .ref 0]), zh3)) rfl rfl rfl).trans ?_
  refine (zq1 (q := ((492, [(3, .int 0), (2, .ref 54), (1, .ref 0), (0, .retAddr 0)], [.int 0, .retAddr 0, .ref 0]), zh3)) rfl rfl rfl).trans ?_
  refine (zq1 (q := ((493, [(3, .int 0), (2, .ref 54), (1, .ref 0), (0, .retAddr 0)], [.int 1, .int 0, .retAddr 0, .ref 0]), zh3)) rfl rfl rfl).trans ?_
  refine (zq1 (q := ((494, [(3, .int 0), (2, .ref 54), (1, .ref 0), (0, .retAddr 0)], [.int 1, .retAddr 0, .ref 0]), zh3)) rfl rfl rfl).trans ?_
  refine (zq1 (q := ((495, [(3, .int 0), (2, .ref 54), (1, .ref 0), (0, .retAddr 0)], [.int (xs 1), .ref 0]), zh3)) rfl rfl rfl).trans ?_
  refine (zq1 (q := ((496, [(3, .int 0), (2, .ref 54), (1, .ref 0), (0, .retAddr 0)], [.retAddr 0, .int (xs 1), .ref 0]), zh3)) rfl rfl rfl).trans ?_
  refine (zq1 (q := ((497, [(3, .int 0), (2, .ref 54), (1, .ref 0), (0, .retAddr 0)], [.int 0, .retAddr 0, .int (xs 1), .ref 0]), zh3)) rfl rfl rfl).trans ?_
  refine (zq1 (q := ((498, [(3, .int 0), (2, .ref 54), (1, .ref 0), (0, .retAddr 0)], [.int 2, .int 0, .retAddr 0, .int (xs 1), .ref 0]), zh3)) rfl rfl rfl).trans ?_
  refine (zq1 (q := ((499, [(3, .int 0), (2, .ref 54), (1, .ref 0), (0, .retAddr 0)], [.int 2, .retAddr 0, .int (xs 1), .ref 0]), zh3)) rfl rfl rfl).trans ?_
  refine (zq1 (q := ((500, [(3, .int 0), (2, .ref 54), (1, .ref 0), (0, .retAddr 0)], [.int (xs 2), .int (xs 1), .ref 0]), zh3)) rfl rfl rfl).trans ?_
  refine (zqc 1 (x := (500, .invokevirtual 63, 3, 77, 0, 555, .null)) (M' := M_ST_value) (qq := ([.ref 0, .int (xs 1), .int (xs 2)], [])) (h := zh3) (s' := (503, [(3, .int 0), (2, .ref 54), (1, .ref 0), (0, .retAddr 0)], [.int a])) rfl rfl rfl rfl rfl rfl e1 rfl).trans ?_
  refine (zq1 (q := ((504, [(3, .int 0), (2, .ref 54), (1, .ref 0), (0, .retAddr 0)], [.ref 54, .int a]), h)) rfl rfl rfl).trans ?_
  refine (zq1 (q := ((505, [(3, .int 0), (2, .ref 54), (1, .ref 0), (0, .retAddr 0)], [.retAddr 0, .ref 54, .int a]), h)) rfl rfl rfl).trans ?_
  refine (zq1 (q := ((506, [(3, .int 0), (2, .ref 54), (1, .ref 0), (0, .retAddr 0)], [.int 0, .retAddr 0, .ref 54, .int a]), h)) rfl rfl rfl).trans ?_
  refine (zq1 (q := ((507, [(3, .int 0), (2, .ref 54), (1, .ref 0), (0, .retAddr 0)], [.int 1, .int 0, .retAddr 0, .ref 54, .int a]), h)) rfl rfl rfl).trans ?_
  refine (zq1 (q := ((508, [(3, .int 0), (2, .ref 54), (1, .ref 0), (0, .retAddr 0)], [.int 1, .retAddr 0, .ref 54, .int a]), h)) rfl rfl rfl).trans ?_
  refine (zq1 (q := ((509, [(3, .int 0), (2, .ref 54), (1, .ref 0), (0, .retAddr 0)], [.int (xs 1), .ref 54, .int a]), h)) rfl rfl rfl).trans ?_
  refine (zq1 (q := ((510, [(3, .int 0), (2, .ref 54), (1, .ref 0), (0, .retAddr 0)], [.retAddr 0, .int (xs 1), .ref 54, .int a]), h)) rfl rfl rfl).trans ?_
  refine (zq1 (q := ((511, [(3, .int 0), (2, .ref 54), (1, .ref 0), (0, .retAddr 0)], [.int 0, .retAddr 0, .int (xs 1), .ref 54, .int a]), h)) rfl rfl rfl).trans ?_
  refine (zq1 (q := ((512, [(3, .int 0), (2, .ref 54), (1, .ref 0), (0, .retAddr 0)], [.int 2, .int 0, .retAddr 0, .int (xs 1), .ref 54, .int a]), h)) rfl rfl rfl).trans ?_
  refine (zq1 (q := ((513, [(3, .int 0), (2, .ref 54), (1, .ref 0), (0, .retAddr 0)], [.int 2, .retAddr 0, .int (xs 1), .ref 54, .int a]), h)) rfl rfl rfl).trans ?_
  refine (zq1 (q := ((514, [(3, .int 0), (2, .ref 54), (1, .ref 0), (0, .retAddr 0)], [.int (xs 2), .int (xs 1), .ref 54, .int a]), h)) rfl rfl rfl).trans ?_
  refine (zqc 1 (x := (514, .invokevirtual 66, 3, 140, 0, 890, .null)) (M' := M_Mo_value) (qq := ([.ref 54, .int (xs 1), .int (xs 2)], [.int a])) (h := h) (s' := (517, [(3, .int 0), (2, .ref 54), (1, .ref 0), (0, .retAddr 0)], [.int a, .int a])) rfl rfl rfl rfl rfl (zhk rfl e3 rfl) e2 rfl).trans ?_
  refine (zqb (q := (636, [(3, .int 0), (2, .ref 54), (1, .ref 0), (0, .retAddr 0)], [])) (cB := zc .eq a (a)) (v := true) (off := 119) (lv := [(3, .int 0), (2, .ref 54), (1, .ref 0), (0, .retAddr 0)]) (r := []) rfl rfl rfl (decide_eq_true rfl) rfl).trans ?_
  refine (zq1 (q := ((639, [(3, .int 5), (2, .ref 54), (1, .ref 0), (0, .retAddr 0)], []), k)) rfl rfl rfl).trans ?_
  refine (zq1 (q := ((18, [(3, .int 5), (2, .ref 54), (1, .ref 0), (0, .retAddr 0)], []), k)) rfl rfl rfl).trans ?_
  refine (zq1 (q := ((19, [(3, .int 5), (2, .ref 54), (1, .ref 0), (0, .retAddr 0)], [.int 5]), k)) rfl rfl rfl).trans ?_
  refine (zq1 (q := ((20, [(3, .int 5), (2, .ref 54), (1, .ref 0), (0, .retAddr 0)], [.retAddr 0, .int 5]), k)) rfl rfl rfl).trans ?_
  refine (zq1 (q := ((21, [(3, .int 5), (2, .ref 54), (1, .ref 0), (0, .retAddr 0)], [.int 5, .int 5]), k)) rfl rfl rfl).trans ?_
  refine (zq1 (q := ((22, [(3, .int 5), (2, .ref 54), (1, .ref 0), (0, .retAddr 0)], [.int 5, .int 5, .int 5]), k)) rfl rfl rfl).trans ?_
  refine (zq1 (q := ((23, [(3, .int 5), (2, .ref 54), (1, .ref 0), (0, .retAddr 0)], [.int 0, .int 5]), k)) rfl rfl rfl).trans ?_
  refine (zq1 (q := ((642, [(3, .int 5), (2, .ref 54), (1, .ref 0), (0, .retAddr 0)], []), k)) rfl rfl rfl).trans ?_
  refine (zq1 (q := ((643, [(3, .int 5), (2, .ref 54), (1, .ref 0), (0, .retAddr 0)], [.int 1]), k)) rfl rfl rfl).trans ?_
  exact zqr rfl rfl
set_option maxRecDepth 1000000 in
set_option maxHeartbeats 4000000 in
theorem zy_case12 (xs : Nat → Int32) : ∃ (h : zH), zloop zmt (zcal zmt 100000 9 420) 10 420 (some (5, xs)) M_law 99979 (32, [(3, .int 0), (2, .ref 54), (1, .ref 0), (0, .retAddr 0)], [.int (nI 12)]) zh3 = some (some (.int 1), h) ∧ Nat.ble h.1.length 600000 = true ∧ Nat.ble h.2 7302250 = true := by
  obtain ⟨a, h, k, e1, e2, e3, b1, b2⟩ := zo_rows (xs 1)
  refine ⟨k, ?_, b1, b2⟩
  refine (zq1 (q := ((522, [(3, .int 0), (2, .ref 54), (1, .ref 0), (0, .retAddr 0)], []), zh3)) rfl rfl rfl).trans ?_
  refine (zq1 (q := ((523, [(3, .int 0), (2, .ref 54), (1, .ref 0), (0, .retAddr 0)], [.ref 0]), zh3)) rfl rfl rfl).trans ?_
  refine (zq1 (q := ((524, [(3, .int 0), (2, .ref 54), (1, .ref 0), (0, .retAddr 0)], [.retAddr 0, .ref 0]), zh3)) rfl rfl rfl).trans ?_
  refine (zq1 (q := ((525, [(3, .int 0), (2, .ref 54), (1, .ref 0), (0, .retAddr 0)], [.int 0, .retAddr 0, .ref 0]), zh3)) rfl rfl rfl).trans ?_
  refine (zq1 (q := ((526, [(3, .int 0), (2, .ref 54), (1, .ref 0), (0, .retAddr 0)], [.int 1, .int 0, .retAddr 0, .ref 0]), zh3)) rfl rfl rfl).trans ?_
  refine (zq1 (q := ((527, [(3, .int 0), (2, .ref 54), (1, .ref 0), (0, .retAddr 0)], [.int 1, .retAddr 0, .ref 0]), zh3)) rfl rfl rfl).trans ?_
  refine (zq1 (q := ((528, [(3, .int 0), (2, .ref 54), (1, .ref 0), (0, .retAddr 0)], [.int (xs 1), .ref 0]), zh3)) rfl rfl rfl).trans ?_
  refine (zqc 1 (x := (528, .invokevirtual 67, 3, 78, 0, 559, .null)) (M' := M_ST_rows) (qq := ([.ref 0, .int (xs 1)], [])) (h := zh3) (s' := (531, [(3, .int 0), (2, .ref 54), (1, .ref 0), (0, .retAddr 0)], [.int a])) rfl rfl rfl rfl rfl rfl e1 rfl).trans ?_
  refine (zq1 (q := ((532, [(3, .int 0), (2, .ref 54), (1, .ref 0), (0, .retAddr 0)], [.ref 54, .int a]), h)) rfl rfl rfl).trans ?_
  refine (zq1 (q := ((533, [(3, .int 0), (2, .ref 54), (1, .ref 0), (0, .retAddr 0)], [.retAddr 0, .ref 54, .int a]), h)) rfl rfl rfl).trans ?_
  refine (zq1 (q := ((534, [(3, .int 0), (2, .ref 54), (1, .ref 0), (0, .retAddr 0)], [.int 0, .retAddr 0, .ref 54, .int a]), h)) rfl rfl rfl).trans ?_
  refine (zq1 (q := ((535, [(3, .int 0), (2, .ref 54), (1, .ref 0), (0, .retAddr 0)], [.int 1, .int 0, .retAddr 0, .ref 54, .int a]), h)) rfl rfl rfl).trans ?_
  refine (zq1 (q := ((536, [(3, .int 0), (2, .ref 54), (1, .ref 0), (0, .retAddr 0)], [.int 1, .retAddr 0, .ref 54, .int a]), h)) rfl rfl rfl).trans ?_
  refine (zq1 (q := ((537, [(3, .int 0), (2, .ref 54), (1, .ref 0), (0, .retAddr 0)], [.int (xs 1), .ref 54, .int a]), h)) rfl rfl rfl).trans ?_
  refine (zqc 1 (x := (537, .invokevirtual 70, 3, 141, 0, 894, .null)) (M' := M_Mo_rows) (qq := ([.ref 54, .int (xs 1)], [.int a])) (h := h) (s' := (540, [(3, .int 0), (2, .ref 54), (1, .ref 0), (0, .retAddr 0)], [.int a, .int a])) rfl rfl rfl rfl rfl (zhk rfl e3 rfl) e2 rfl).trans ?_
  refine (zqb (q := (636, [(3, .int 0), (2, .ref 54), (1, .ref 0), (0, .retAddr 0)], [])) (cB := zc .eq a (a)) (v := true) (off := 96) (lv := [(3, .int 0), (2, .ref 54), (1, .ref 0), (0, .retAddr 0)]) (r := []) rfl rfl rfl (decide_eq_true rfl) rfl).trans ?_
  refine (zq1 (q := ((639, [(3, .int 5), (2, .ref 54), (1, .ref 0), (0, .retAddr 0)], []), k)) rfl rfl rfl).trans ?_
  refine (zq1 (q := ((18, [(3, .int 5), (2, .ref 54), (1, .ref 0), (0, .retAddr 0)], []), k)) rfl rfl rfl).trans ?_
  refine (zq1 (q := ((19, [(3, .int 5), (2, .ref 54), (1, .ref 0), (0, .retAddr 0)], [.int 5]), k)) rfl rfl rfl).trans ?_
  refine (zq1 (q := ((20, [(3, .int 5), (2, .ref 54), (1, .ref 0), (0, .retAddr 0)], [.retAddr 0, .int 5]), k)) rfl rfl rfl).trans ?_
  refine (zq1 (q := ((21, [(3, .int 5), (2, .ref 54), (1, .ref 0), (0, .retAddr 0)], [.int 5, .int 5]), k)) rfl rfl rfl).trans ?_
  refine (zq1 (q := ((22, [(3, .int 5), (2, .ref 54), (1, .ref 0), (0, .retAddr 0)], [.int 5, .int 5, .int 5]), k)) rfl rfl rfl).trans ?_
  refine (zq1 (q := ((23, [(3, .int 5), (2, .ref 54), (1, .ref 0), (0, .retAddr 0)], [.int 0, .int 5]), k)) rfl rfl rfl).trans ?_
  refine (zq1 (q := ((642, [(3, .int 5), (2, .ref 54), (1, .ref 0), (0, .retAddr 0)], []), k)) rfl rfl rfl).trans ?_
  refine (zq1 (q := ((643, [(3, .int 5), (2, .ref 54), (1, .ref 0), (0, .retAddr 0)], [.int 1]), k)) rfl rfl rfl).trans ?_
  exact zqr rfl rfl
set_option maxRecDepth 1000000 in
set_option maxHeartbeats 4000000 in
theorem zy_case13 (xs : Nat → Int32) : ∃ (h : zH), zloop zmt (zcal zmt 100000 9 420) 10 420 (some (5, xs)) M_law 99979 (32, [(3, .int 0), (2, .ref 54), (1, .ref 0), (0, .retAddr 0)], [.int (nI 13)]) zh3 = some (some (.int 1), h) ∧ Nat.ble h.1.length 600000 = true ∧ Nat.ble h.2 7302250 = true := by
  obtain ⟨a, h, k, e1, e2, e3, b1, b2⟩ := zo_nodes (xs 1)
  refine ⟨k, ?_, b1, b2⟩
  refine (zq1 (q := ((545, [(3, .int 0), (2, .ref 54), (1, .ref 0), (0, .retAddr 0)], []), zh3)) rfl rfl rfl).trans ?_
  refine (zq1 (q := ((546, [(3, .int 0), (2, .ref 54), (1, .ref 0), (0, .retAddr 0)], [.ref 0]), zh3)) rfl rfl rfl).trans ?_
  refine (zq1 (q := ((547, [(3, .int 0), (2, .ref 54), (1, .ref 0), (0, .retAddr 0)], [.retAddr 0, .ref 0]), zh3)) rfl rfl rfl).trans ?_
  refine (zq1 (q := ((548, [(3, .int 0), (2, .ref 54), (1, .ref 0), (0, .retAddr 0)], [.int 0, .retAddr 0, .ref 0]), zh3)) rfl rfl rfl).trans ?_
  refine (zq1 (q := ((549, [(3, .int 0), (2, .ref 54), (1, .ref 0), (0, .retAddr 0)], [.int 1, .int 0, .retAddr 0, .ref 0]), zh3)) rfl rfl rfl).trans ?_
  refine (zq1 (q := ((550, [(3, .int 0), (2, .ref 54), (1, .ref 0), (0, .retAddr 0)], [.int 1, .retAddr 0, .ref 0]), zh3)) rfl rfl rfl).trans ?_
  refine (zq1 (q := ((551, [(3, .int 0), (2, .ref 54), (1, .ref 0), (0, .retAddr 0)], [.int (xs 1), .ref 0]), zh3)) rfl rfl rfl).trans ?_
  refine (zqc 1 (x := (551, .invokevirtual 71, 3, 79, 0, 563, .null)) (M' := M_ST_nodes) (qq := ([.ref 0, .int (xs 1)], [])) (h := zh3) (s' := (554, [(3, .int 0), (2, .ref 54), (1, .ref 0), (0, .retAddr 0)], [.int a])) rfl rfl rfl rfl rfl rfl e1 rfl).trans ?_
  refine (zq1 (q := ((555, [(3, .int 0), (2, .ref 54), (1, .ref 0), (0, .retAddr 0)], [.ref 54, .int a]), h)) rfl rfl rfl).trans ?_
  refine (zq1 (q := ((556, [(3, .int 0), (2, .ref 54), (1, .ref 0), (0, .retAddr 0)], [.retAddr 0, .ref 54, .int a]), h)) rfl rfl rfl).trans ?_
  refine (zq1 (q := ((557, [(3, .int 0), (2, .ref 54), (1, .ref 0), (0, .retAddr 0)], [.int 0, .retAddr 0, .ref 54, .int a]), h)) rfl rfl rfl).trans ?_
  refine (zq1 (q := ((558, [(3, .int 0), (2, .ref 54), (1, .ref 0), (0, .retAddr 0)], [.int 1, .int 0, .retAddr 0, .ref 54, .int a]), h)) rfl rfl rfl).trans ?_
  refine (zq1 (q := ((559, [(3, .int 0), (2, .ref 54), (1, .ref 0), (0, .retAddr 0)], [.int 1, .retAddr 0, .ref 54, .int a]), h)) rfl rfl rfl).trans ?_
  refine (zq1 (q := ((560, [(3, .int 0), (2, .ref 54), (1, .ref 0), (0, .retAddr 0)], [.int (xs 1), .ref 54, .int a]), h)) rfl rfl rfl).trans ?_
  refine (zqc 1 (x := (560, .invokevirtual 74, 3, 142, 0, 898, .null)) (M' := M_Mo_nodes) (qq := ([.ref 54, .int (xs 1)], [.int a])) (h := h) (s' := (563, [(3, .int 0), (2, .ref 54), (1, .ref 0), (0, .retAddr 0)], [.int a, .int a])) rfl rfl rfl rfl rfl (zhk rfl e3 rfl) e2 rfl).trans ?_
  refine (zqb (q := (636, [(3, .int 0), (2, .ref 54), (1, .ref 0), (0, .retAddr 0)], [])) (cB := zc .eq a (a)) (v := true) (off := 73) (lv := [(3, .int 0), (2, .ref 54), (1, .ref 0), (0, .retAddr 0)]) (r := []) rfl rfl rfl (decide_eq_true rfl) rfl).trans ?_
  refine (zq1 (q := ((639, [(3, .int 5), (2, .ref 54), (1, .ref 0), (0, .retAddr 0)], []), k)) rfl rfl rfl).trans ?_
  refine (zq1 (q := ((18, [(3, .int 5), (2, .ref 54), (1, .ref 0), (0, .retAddr 0)], []), k)) rfl rfl rfl).trans ?_
  refine (zq1 (q := ((19, [(3, .int 5), (2, .ref 54), (1, .ref 0), (0, .retAddr 0)], [.int 5]), k)) rfl rfl rfl).trans ?_
  refine (zq1 (q := ((20, [(3, .int 5), (2, .ref 54), (1, .ref 0), (0, .retAddr 0)], [.retAddr 0, .int 5]), k)) rfl rfl rfl).trans ?_
  refine (zq1 (q := ((21, [(3, .int 5), (2, .ref 54), (1, .ref 0), (0, .retAddr 0)], [.int 5, .int 5]), k)) rfl rfl rfl).trans ?_
  refine (zq1 (q := ((22, [(3, .int 5), (2, .ref 54), (1, .ref 0), (0, .retAddr 0)], [.int 5, .int 5, .int 5]), k)) rfl rfl rfl).trans ?_
  refine (zq1 (q := ((23, [(3, .int 5), (2, .ref 54), (1, .ref 0), (0, .retAddr 0)], [.int 0, .int 5]), k)) rfl rfl rfl).trans ?_
  refine (zq1 (q := ((642, [(3, .int 5), (2, .ref 54), (1, .ref 0), (0, .retAddr 0)], []), k)) rfl rfl rfl).trans ?_
  refine (zq1 (q := ((643, [(3, .int 5), (2, .ref 54), (1, .ref 0), (0, .retAddr 0)], [.int 1]), k)) rfl rfl rfl).trans ?_
  exact zqr rfl rfl
set_option maxRecDepth 1000000 in
set_option maxHeartbeats 4000000 in
theorem zy_case14 (xs : Nat → Int32) : ∃ (h : zH), zloop zmt (zcal zmt 100000 9 420) 10 420 (some (5, xs)) M_law 99979 (32, [(3, .int 0), (2, .ref 54), (1, .ref 0), (0, .retAddr 0)], [.int (nI 14)]) zh3 = some (some (.int 1), h) ∧ Nat.ble h.1.length 600000 = true ∧ Nat.ble h.2 7302250 = true := by
  obtain ⟨a, h, k, e1, e2, e3, b1, b2⟩ := zo_commit (xs 1)
  refine ⟨k, ?_, b1, b2⟩
  refine (zq1 (q := ((568, [(3, .int 0), (2, .ref 54), (1, .ref 0), (0, .retAddr 0)], []), zh3)) rfl rfl rfl).trans ?_
  refine (zq1 (q := ((569, [(3, .int 0), (2, .ref 54), (1, .ref 0), (0, .retAddr 0)], [.ref 0]), zh3)) rfl rfl rfl).trans ?_
  refine (zq1 (q := ((570, [(3, .int 0), (2, .ref 54), (1, .ref 0), (0, .retAddr 0)], [.retAddr 0, .ref 0]), zh3)) rfl rfl rfl).trans ?_
  refine (zq1 (q := ((571, [(3, .int 0), (2, .ref 54), (1, .ref 0), (0, .retAddr 0)], [.int 0, .retAddr 0, .ref 0]), zh3)) rfl rfl rfl).trans ?_
  refine (zq1 (q := ((572, [(3, .int 0), (2, .ref 54), (1, .ref 0), (0, .retAddr 0)], [.int 1, .int 0, .retAddr 0, .ref 0]), zh3)) rfl rfl rfl).trans ?_
  refine (zq1 (q := ((573, [(3, .int 0), (2, .ref 54), (1, .ref 0), (0, .retAddr 0)], [.int 1, .retAddr 0, .ref 0]), zh3)) rfl rfl rfl).trans ?_
  refine (zq1 (q := ((574, [(3, .int 0), (2, .ref 54), (1, .ref 0), (0, .retAddr 0)], [.int (xs 1), .ref 0]), zh3)) rfl rfl rfl).trans ?_
  refine (zqc 1 (x := (574, .invokevirtual 75, 3, 80, 0, 567, .null)) (M' := M_ST_commit) (qq := ([.ref 0, .int (xs 1)], [])) (h := zh3) (s' := (577, [(3, .int 0), (2, .ref 54), (1, .ref 0), (0, .retAddr 0)], [.int a])) rfl rfl rfl rfl rfl rfl e1 rfl).trans ?_
  refine (zq1 (q := ((578, [(3, .int 0), (2, .ref 54), (1, .ref 0), (0, .retAddr 0)], [.ref 54, .int a]), h)) rfl rfl rfl).trans ?_
  refine (zq1 (q := ((579, [(3, .int 0), (2, .ref 54), (1, .ref 0), (0, .retAddr 0)], [.retAddr 0, .ref 54, .int a]), h)) rfl rfl rfl).trans ?_
  refine (zq1 (q := ((580, [(3, .int 0), (2, .ref 54), (1, .ref 0), (0, .retAddr 0)], [.int 0, .retAddr 0, .ref 54, .int a]), h)) rfl rfl rfl).trans ?_
  refine (zq1 (q := ((581, [(3, .int 0), (2, .ref 54), (1, .ref 0), (0, .retAddr 0)], [.int 1, .int 0, .retAddr 0, .ref 54, .int a]), h)) rfl rfl rfl).trans ?_
  refine (zq1 (q := ((582, [(3, .int 0), (2, .ref 54), (1, .ref 0), (0, .retAddr 0)], [.int 1, .retAddr 0, .ref 54, .int a]), h)) rfl rfl rfl).trans ?_
  refine (zq1 (q := ((583, [(3, .int 0), (2, .ref 54), (1, .ref 0), (0, .retAddr 0)], [.int (xs 1), .ref 54, .int a]), h)) rfl rfl rfl).trans ?_
  refine (zqc 1 (x := (583, .invokevirtual 78, 3, 143, 0, 902, .null)) (M' := M_Mo_commit) (qq := ([.ref 54, .int (xs 1)], [.int a])) (h := h) (s' := (586, [(3, .int 0), (2, .ref 54), (1, .ref 0), (0, .retAddr 0)], [.int a, .int a])) rfl rfl rfl rfl rfl (zhk rfl e3 rfl) e2 rfl).trans ?_
  refine (zqb (q := (636, [(3, .int 0), (2, .ref 54), (1, .ref 0), (0, .retAddr 0)], [])) (cB := zc .eq a (a)) (v := true) (off := 50) (lv := [(3, .int 0), (2, .ref 54), (1, .ref 0), (0, .retAddr 0)]) (r := []) rfl rfl rfl (decide_eq_true rfl) rfl).trans ?_
  refine (zq1 (q := ((639, [(3, .int 5), (2, .ref 54), (1, .ref 0), (0, .retAddr 0)], []), k)) rfl rfl rfl).trans ?_
  refine (zq1 (q := ((18, [(3, .int 5), (2, .ref 54), (1, .ref 0), (0, .retAddr 0)], []), k)) rfl rfl rfl).trans ?_
  refine (zq1 (q := ((19, [(3, .int 5), (2, .ref 54), (1, .ref 0), (0, .retAddr 0)], [.int 5]), k)) rfl rfl rfl).trans ?_
  refine (zq1 (q := ((20, [(3, .int 5), (2, .ref 54), (1, .ref 0), (0, .retAddr 0)], [.retAddr 0, .int 5]), k)) rfl rfl rfl).trans ?_
  refine (zq1 (q := ((21, [(3, .int 5), (2, .ref 54), (1, .ref 0), (0, .retAddr 0)], [.int 5, .int 5]), k)) rfl rfl rfl).trans ?_
  refine (zq1 (q := ((22, [(3, .int 5), (2, .ref 54), (1, .ref 0), (0, .retAddr 0)], [.int 5, .int 5, .int 5]), k)) rfl rfl rfl).trans ?_
  refine (zq1 (q := ((23, [(3, .int 5), (2, .ref 54), (1, .ref 0), (0, .retAddr 0)], [.int 0, .int 5]), k)) rfl rfl rfl).trans ?_
  refine (zq1 (q := ((642, [(3, .int 5), (2, .ref 54), (1, .ref 0), (0, .retAddr 0)], []), k)) rfl rfl rfl).trans ?_
  refine (zq1 (q := ((643, [(3, .int 5), (2, .ref 54), (1, .ref 0), (0, .retAddr 0)], [.int 1]), k)) rfl rfl rfl).trans ?_
  exact zqr rfl rfl
set_option maxRecDepth 1000000 in
set_option maxHeartbeats 4000000 in
theorem zy_case15 (xs : Nat → Int32) : ∃ (h : zH), zloop zmt (zcal zmt 100000 9 420) 10 420 (some (5, xs)) M_law 99979 (32, [(3, .int 0), (2, .ref 54), (1, .ref 0), (0, .retAddr 0)], [.int (nI 15)]) zh3 = some (some (.int 1), h) ∧ Nat.ble h.1.length 600000 = true ∧ Nat.ble h.2 7302250 = true := by
  obtain ⟨h, k, e1, e2, e3, b1, b2⟩ := zo_rollback
  refine ⟨k, ?_, b1, b2⟩
  refine (zq1 (q := ((591, [(3, .int 0), (2, .ref 54), (1, .ref 0), (0, .retAddr 0)], []), zh3)) rfl rfl rfl).trans ?_
  refine (zq1 (q := ((592, [(3, .int 0), (2, .ref 54), (1, .ref 0), (0, .retAddr 0)], [.ref 0]), zh3)) rfl rfl rfl).trans ?_
  refine (zqc 1 (x := (592, .invokevirtual 79, 3, 93, 0, 625, .null)) (M' := M_ST_rollback) (qq := ([.ref 0], [])) (h := zh3) (s' := (595, [(3, .int 0), (2, .ref 54), (1, .ref 0), (0, .retAddr 0)], [])) rfl rfl rfl rfl rfl rfl e1 rfl).trans ?_
  refine (zq1 (q := ((596, [(3, .int 0), (2, .ref 54), (1, .ref 0), (0, .retAddr 0)], [.ref 54]), h)) rfl rfl rfl).trans ?_
  refine (zqc 1 (x := (596, .invokevirtual 82, 3, 150, 0, 938, .null)) (M' := M_Mo_rollback) (qq := ([.ref 54], [])) (h := h) (s' := (599, [(3, .int 0), (2, .ref 54), (1, .ref 0), (0, .retAddr 0)], [])) rfl rfl rfl rfl rfl (zhk rfl e3 rfl) e2 rfl).trans ?_
  refine (zq1 (q := ((636, [(3, .int 0), (2, .ref 54), (1, .ref 0), (0, .retAddr 0)], []), k)) rfl rfl rfl).trans ?_
  refine (zq1 (q := ((639, [(3, .int 5), (2, .ref 54), (1, .ref 0), (0, .retAddr 0)], []), k)) rfl rfl rfl).trans ?_
  refine (zq1 (q := ((18, [(3, .int 5), (2, .ref 54), (1, .ref 0), (0, .retAddr 0)], []), k)) rfl rfl rfl).trans ?_
  refine (zq1 (q := ((19, [(3, .int 5), (2, .ref 54), (1, .ref 0), (0, .retAddr 0)], [.int 5]), k)) rfl rfl rfl).trans ?_
  refine (zq1 (q := ((20, [(3, .int 5), (2, .ref 54), (1, .ref 0), (0, .retAddr 0)], [.retAddr 0, .int 5]), k)) rfl rfl rfl).trans ?_
  refine (zq1 (q := ((21, [(3, .int 5), (2, .ref 54), (1, .ref 0), (0, .retAddr 0)], [.int 5, .int 5]), k)) rfl rfl rfl).trans ?_
  refine (zq1 (q := ((22, [(3, .int 5), (2, .ref 54), (1, .ref 0), (0, .retAddr 0)], [.int 5, .int 5, .int 5]), k)) rfl rfl rfl).trans ?_
  refine (zq1 (q := ((23, [(3, .int 5), (2, .ref 54), (1, .ref 0), (0, .retAddr 0)], [.int 0, .int 5]), k)) rfl rfl rfl).trans ?_
  refine (zq1 (q := ((642, [(3, .int 5), (2, .ref 54), (1, .ref 0), (0, .retAddr 0)], []), k)) rfl rfl rfl).trans ?_
  refine (zq1 (q := ((643, [(3, .int 5), (2, .ref 54), (1, .ref 0), (0, .retAddr 0)], [.int 1]), k)) rfl rfl rfl).trans ?_
  exact zqr rfl rfl
set_option maxRecDepth 1000000 in
set_option maxHeartbeats 4000000 in
theorem zy_case16 (xs : Nat → Int32) : ∃ (h : zH), zloop zmt (zcal zmt 100000 9 420) 10 420 (some (5, xs)) M_law 99979 (32, [(3, .int 0), (2, .ref 54), (1, .ref 0), (0, .retAddr 0)], [.int (nI 16)]) zh3 = some (some (.int 1), h) ∧ Nat.ble h.1.length 600000 = true ∧ Nat.ble h.2 7302250 = true := by
  obtain ⟨h, k, e1, e2, e3, b1, b2⟩ := zo_crash
  refine ⟨k, ?_, b1, b2⟩
  refine (zq1 (q := ((602, [(3, .int 0), (2, .ref 54), (1, .ref 0), (0, .retAddr 0)], []), zh3)) rfl rfl rfl).trans ?_
  refine (zq1 (q := ((603, [(3, .int 0), (2, .ref 54), (1, .ref 0), (0, .retAddr 0)], [.ref 0]), zh3)) rfl rfl rfl).trans ?_
  refine (zqc 1 (x := (603, .invokevirtual 83, 3, 92, 0, 626, .null)) (M' := M_ST_crash) (qq := ([.ref 0], [])) (h := zh3) (s' := (606, [(3, .int 0), (2, .ref 54), (1, .ref 0), (0, .retAddr 0)], [])) rfl rfl rfl rfl rfl rfl e1 rfl).trans ?_
  refine (zq1 (q := ((607, [(3, .int 0), (2, .ref 54), (1, .ref 0), (0, .retAddr 0)], [.ref 54]), h)) rfl rfl rfl).trans ?_
  refine (zqc 1 (x := (607, .invokevirtual 86, 3, 149, 0, 939, .null)) (M' := M_Mo_crash) (qq := ([.ref 54], [])) (h := h) (s' := (610, [(3, .int 0), (2, .ref 54), (1, .ref 0), (0, .retAddr 0)], [])) rfl rfl rfl rfl rfl (zhk rfl e3 rfl) e2 rfl).trans ?_
  refine (zq1 (q := ((636, [(3, .int 0), (2, .ref 54), (1, .ref 0), (0, .retAddr 0)], []), k)) rfl rfl rfl).trans ?_
  refine (zq1 (q := ((639, [(3, .int 5), (2, .ref 54), (1, .ref 0), (0, .retAddr 0)], []), k)) rfl rfl rfl).trans ?_
  refine (zq1 (q := ((18, [(3, .int 5), (2, .ref 54), (1, .ref 0), (0, .retAddr 0)], []), k)) rfl rfl rfl).trans ?_
  refine (zq1 (q := ((19, [(3, .int 5), (2, .ref 54), (1, .ref 0), (0, .retAddr 0)], [.int 5]), k)) rfl rfl rfl).trans ?_
  refine (zq1 (q := ((20, [(3, .int 5), (2, .ref 54), (1, .ref 0), (0, .retAddr 0)], [.retAddr 0, .int 5]), k)) rfl rfl rfl).trans ?_
  refine (zq1 (q := ((21, [(3, .int 5), (2, .ref 54), (1, .ref 0), (0, .retAddr 0)], [.int 5, .int 5]), k)) rfl rfl rfl).trans ?_
  refine (zq1 (q := ((22, [(3, .int 5), (2, .ref 54), (1, .ref 0), (0, .retAddr 0)], [.int 5, .int 5, .int 5]), k)) rfl rfl rfl).trans ?_
  refine (zq1 (q := ((23, [(3, .int 5), (2, .ref 54), (1, .ref 0), (0, .retAddr 0)], [.int 0, .int 5]), k)) rfl rfl rfl).trans ?_
  refine (zq1 (q := ((642, [(3, .int 5), (2, .ref 54), (1, .ref 0), (0, .retAddr 0)], []), k)) rfl rfl rfl).trans ?_
  refine (zq1 (q := ((643, [(3, .int 5), (2, .ref 54), (1, .ref 0), (0, .retAddr 0)], [.int 1]), k)) rfl rfl rfl).trans ?_
  exact zqr rfl rfl
set_option maxRecDepth 1000000 in
set_option maxHeartbeats 4000000 in
theorem zy_case17 (xs : Nat → Int32) : ∃ (h : zH), zloop zmt (zcal zmt 100000 9 420) 10 420 (some (5, xs)) M_law 99979 (32, [(3, .int 0), (2, .ref 54), (1, .ref 0), (0, .retAddr 0)], [.int (nI 17)]) zh3 = some (some (.int 1), h) ∧ Nat.ble h.1.length 600000 = true ∧ Nat.ble h.2 7302250 = true := by
  obtain ⟨a, h, k, e1, e2, e3, b1, b2⟩ := zo_frame (xs 1)
  refine ⟨k, ?_, b1, b2⟩
  refine (zq1 (q := ((613, [(3, .int 0), (2, .ref 54), (1, .ref 0), (0, .retAddr 0)], []), zh3)) rfl rfl rfl).trans ?_
  refine (zq1 (q := ((614, [(3, .int 0), (2, .ref 54), (1, .ref 0), (0, .retAddr 0)], [.ref 0]), zh3)) rfl rfl rfl).trans ?_
  refine (zq1 (q := ((615, [(3, .int 0), (2, .ref 54), (1, .ref 0), (0, .retAddr 0)], [.retAddr 0, .ref 0]), zh3)) rfl rfl rfl).trans ?_
  refine (zq1 (q := ((616, [(3, .int 0), (2, .ref 54), (1, .ref 0), (0, .retAddr 0)], [.int 0, .retAddr 0, .ref 0]), zh3)) rfl rfl rfl).trans ?_
  refine (zq1 (q := ((617, [(3, .int 0), (2, .ref 54), (1, .ref 0), (0, .retAddr 0)], [.int 1, .int 0, .retAddr 0, .ref 0]), zh3)) rfl rfl rfl).trans ?_
  refine (zq1 (q := ((618, [(3, .int 0), (2, .ref 54), (1, .ref 0), (0, .retAddr 0)], [.int 1, .retAddr 0, .ref 0]), zh3)) rfl rfl rfl).trans ?_
  refine (zq1 (q := ((619, [(3, .int 0), (2, .ref 54), (1, .ref 0), (0, .retAddr 0)], [.int (xs 1), .ref 0]), zh3)) rfl rfl rfl).trans ?_
  refine (zqc 1 (x := (619, .invokevirtual 87, 3, 94, 0, 627, .null)) (M' := M_ST_frame) (qq := ([.ref 0, .int (xs 1)], [])) (h := zh3) (s' := (622, [(3, .int 0), (2, .ref 54), (1, .ref 0), (0, .retAddr 0)], [.int a])) rfl rfl rfl rfl rfl rfl e1 rfl).trans ?_
  refine (zq1 (q := ((623, [(3, .int 0), (2, .ref 54), (1, .ref 0), (0, .retAddr 0)], [.ref 54, .int a]), h)) rfl rfl rfl).trans ?_
  refine (zq1 (q := ((624, [(3, .int 0), (2, .ref 54), (1, .ref 0), (0, .retAddr 0)], [.retAddr 0, .ref 54, .int a]), h)) rfl rfl rfl).trans ?_
  refine (zq1 (q := ((625, [(3, .int 0), (2, .ref 54), (1, .ref 0), (0, .retAddr 0)], [.int 0, .retAddr 0, .ref 54, .int a]), h)) rfl rfl rfl).trans ?_
  refine (zq1 (q := ((626, [(3, .int 0), (2, .ref 54), (1, .ref 0), (0, .retAddr 0)], [.int 1, .int 0, .retAddr 0, .ref 54, .int a]), h)) rfl rfl rfl).trans ?_
  refine (zq1 (q := ((627, [(3, .int 0), (2, .ref 54), (1, .ref 0), (0, .retAddr 0)], [.int 1, .retAddr 0, .ref 54, .int a]), h)) rfl rfl rfl).trans ?_
  refine (zq1 (q := ((628, [(3, .int 0), (2, .ref 54), (1, .ref 0), (0, .retAddr 0)], [.int (xs 1), .ref 54, .int a]), h)) rfl rfl rfl).trans ?_
  refine (zqc 1 (x := (628, .invokevirtual 90, 3, 152, 0, 940, .null)) (M' := M_Mo_frame) (qq := ([.ref 54, .int (xs 1)], [.int a])) (h := h) (s' := (631, [(3, .int 0), (2, .ref 54), (1, .ref 0), (0, .retAddr 0)], [.int a, .int a])) rfl rfl rfl rfl rfl (zhk rfl e3 rfl) e2 rfl).trans ?_
  refine (zqb (q := (636, [(3, .int 0), (2, .ref 54), (1, .ref 0), (0, .retAddr 0)], [])) (cB := zc .eq a (a)) (v := true) (off := 5) (lv := [(3, .int 0), (2, .ref 54), (1, .ref 0), (0, .retAddr 0)]) (r := []) rfl rfl rfl (decide_eq_true rfl) rfl).trans ?_
  refine (zq1 (q := ((639, [(3, .int 5), (2, .ref 54), (1, .ref 0), (0, .retAddr 0)], []), k)) rfl rfl rfl).trans ?_
  refine (zq1 (q := ((18, [(3, .int 5), (2, .ref 54), (1, .ref 0), (0, .retAddr 0)], []), k)) rfl rfl rfl).trans ?_
  refine (zq1 (q := ((19, [(3, .int 5), (2, .ref 54), (1, .ref 0), (0, .retAddr 0)], [.int 5]), k)) rfl rfl rfl).trans ?_
  refine (zq1 (q := ((20, [(3, .int 5), (2, .ref 54), (1, .ref 0), (0, .retAddr 0)], [.retAddr 0, .int 5]), k)) rfl rfl rfl).trans ?_
  refine (zq1 (q := ((21, [(3, .int 5), (2, .ref 54), (1, .ref 0), (0, .retAddr 0)], [.int 5, .int 5]), k)) rfl rfl rfl).trans ?_
  refine (zq1 (q := ((22, [(3, .int 5), (2, .ref 54), (1, .ref 0), (0, .retAddr 0)], [.int 5, .int 5, .int 5]), k)) rfl rfl rfl).trans ?_
  refine (zq1 (q := ((23, [(3, .int 5), (2, .ref 54), (1, .ref 0), (0, .retAddr 0)], [.int 0, .int 5]), k)) rfl rfl rfl).trans ?_
  refine (zq1 (q := ((642, [(3, .int 5), (2, .ref 54), (1, .ref 0), (0, .retAddr 0)], []), k)) rfl rfl rfl).trans ?_
  refine (zq1 (q := ((643, [(3, .int 5), (2, .ref 54), (1, .ref 0), (0, .retAddr 0)], [.int 1]), k)) rfl rfl rfl).trans ?_
  exact zqr rfl rfl
set_option maxRecDepth 1000000 in
set_option maxHeartbeats 4000000 in
theorem zy_case18 (xs : Nat → Int32) : ∃ (h : zH), zloop zmt (zcal zmt 100000 9 420) 10 420 (some (5, xs)) M_law 99979 (32, [(3, .int 0), (2, .ref 54), (1, .ref 0), (0, .retAddr 0)], [.int (nI 18)]) zh3 = some (some (.int 1), h) ∧ Nat.ble h.1.length 600000 = true ∧ Nat.ble h.2 7302250 = true := by
  refine ⟨zh3, ?_, rfl, rfl⟩
  refine (zq1 (q := ((636, [(3, .int 0), (2, .ref 54), (1, .ref 0), (0, .retAddr 0)], []), zh3)) rfl rfl rfl).trans ?_
  refine (zq1 (q := ((639, [(3, .int 5), (2, .ref 54), (1, .ref 0), (0, .retAddr 0)], []), zh3)) rfl rfl rfl).trans ?_
  refine (zq1 (q := ((18, [(3, .int 5), (2, .ref 54), (1, .ref 0), (0, .retAddr 0)], []), zh3)) rfl rfl rfl).trans ?_
  refine (zq1 (q := ((19, [(3, .int 5), (2, .ref 54), (1, .ref 0), (0, .retAddr 0)], [.int 5]), zh3)) rfl rfl rfl).trans ?_
  refine (zq1 (q := ((20, [(3, .int 5), (2, .ref 54), (1, .ref 0), (0, .retAddr 0)], [.retAddr 0, .int 5]), zh3)) rfl rfl rfl).trans ?_
  refine (zq1 (q := ((21, [(3, .int 5), (2, .ref 54), (1, .ref 0), (0, .retAddr 0)], [.int 5, .int 5]), zh3)) rfl rfl rfl).trans ?_
  refine (zq1 (q := ((22, [(3, .int 5), (2, .ref 54), (1, .ref 0), (0, .retAddr 0)], [.int 5, .int 5, .int 5]), zh3)) rfl rfl rfl).trans ?_
  refine (zq1 (q := ((23, [(3, .int 5), (2, .ref 54), (1, .ref 0), (0, .retAddr 0)], [.int 0, .int 5]), zh3)) rfl rfl rfl).trans ?_
  refine (zq1 (q := ((642, [(3, .int 5), (2, .ref 54), (1, .ref 0), (0, .retAddr 0)], []), zh3)) rfl rfl rfl).trans ?_
  refine (zq1 (q := ((643, [(3, .int 5), (2, .ref 54), (1, .ref 0), (0, .retAddr 0)], [.int 1]), zh3)) rfl rfl rfl).trans ?_
  exact zqr rfl rfl
set_option maxRecDepth 1000000 in
set_option maxHeartbeats 4000000 in
theorem zy_case19 (xs : Nat → Int32) : ∃ (h : zH), zloop zmt (zcal zmt 100000 9 420) 10 420 (some (5, xs)) M_law 99979 (32, [(3, .int 0), (2, .ref 54), (1, .ref 0), (0, .retAddr 0)], [.int (nI 19)]) zh3 = some (some (.int 1), h) ∧ Nat.ble h.1.length 600000 = true ∧ Nat.ble h.2 7302250 = true := by
  refine ⟨zh3, ?_, rfl, rfl⟩
  refine (zq1 (q := ((636, [(3, .int 0), (2, .ref 54), (1, .ref 0), (0, .retAddr 0)], []), zh3)) rfl rfl rfl).trans ?_
  refine (zq1 (q := ((639, [(3, .int 5), (2, .ref 54), (1, .ref 0), (0, .retAddr 0)], []), zh3)) rfl rfl rfl).trans ?_
  refine (zq1 (q := ((18, [(3, .int 5), (2, .ref 54), (1, .ref 0), (0, .retAddr 0)], []), zh3)) rfl rfl rfl).trans ?_
  refine (zq1 (q := ((19, [(3, .int 5), (2, .ref 54), (1, .ref 0), (0, .retAddr 0)], [.int 5]), zh3)) rfl rfl rfl).trans ?_
  refine (zq1 (q := ((20, [(3, .int 5), (2, .ref 54), (1, .ref 0), (0, .retAddr 0)], [.retAddr 0, .int 5]), zh3)) rfl rfl rfl).trans ?_
  refine (zq1 (q := ((21, [(3, .int 5), (2, .ref 54), (1, .ref 0), (0, .retAddr 0)], [.int 5, .int 5]), zh3)) rfl rfl rfl).trans ?_
  refine (zq1 (q := ((22, [(3, .int 5), (2, .ref 54), (1, .ref 0), (0, .retAddr 0)], [.int 5, .int 5, .int 5]), zh3)) rfl rfl rfl).trans ?_
  refine (zq1 (q := ((23, [(3, .int 5), (2, .ref 54), (1, .ref 0), (0, .retAddr 0)], [.int 0, .int 5]), zh3)) rfl rfl rfl).trans ?_
  refine (zq1 (q := ((642, [(3, .int 5), (2, .ref 54), (1, .ref 0), (0, .retAddr 0)], []), zh3)) rfl rfl rfl).trans ?_
  refine (zq1 (q := ((643, [(3, .int 5), (2, .ref 54), (1, .ref 0), (0, .retAddr 0)], [.int 1]), zh3)) rfl rfl rfl).trans ?_
  exact zqr rfl rfl
set_option maxRecDepth 1000000 in
set_option maxHeartbeats 4000000 in
theorem zy_case20 (xs : Nat → Int32) : ∃ (h : zH), zloop zmt (zcal zmt 100000 9 420) 10 420 (some (5, xs)) M_law 99979 (32, [(3, .int 0), (2, .ref 54), (1, .ref 0), (0, .retAddr 0)], [.int (nI 20)]) zh3 = some (some (.int 1), h) ∧ Nat.ble h.1.length 600000 = true ∧ Nat.ble h.2 7302250 = true := by
  refine ⟨zh3, ?_, rfl, rfl⟩
  refine (zq1 (q := ((636, [(3, .int 0), (2, .ref 54), (1, .ref 0), (0, .retAddr 0)], []), zh3)) rfl rfl rfl).trans ?_
  refine (zq1 (q := ((639, [(3, .int 5), (2, .ref 54), (1, .ref 0), (0, .retAddr 0)], []), zh3)) rfl rfl rfl).trans ?_
  refine (zq1 (q := ((18, [(3, .int 5), (2, .ref 54), (1, .ref 0), (0, .retAddr 0)], []), zh3)) rfl rfl rfl).trans ?_
  refine (zq1 (q := ((19, [(3, .int 5), (2, .ref 54), (1, .ref 0), (0, .retAddr 0)], [.int 5]), zh3)) rfl rfl rfl).trans ?_
  refine (zq1 (q := ((20, [(3, .int 5), (2, .ref 54), (1, .ref 0), (0, .retAddr 0)], [.retAddr 0, .int 5]), zh3)) rfl rfl rfl).trans ?_
  refine (zq1 (q := ((21, [(3, .int 5), (2, .ref 54), (1, .ref 0), (0, .retAddr 0)], [.int 5, .int 5]), zh3)) rfl rfl rfl).trans ?_
  refine (zq1 (q := ((22, [(3, .int 5), (2, .ref 54), (1, .ref 0), (0, .retAddr 0)], [.int 5, .int 5, .int 5]), zh3)) rfl rfl rfl).trans ?_
  refine (zq1 (q := ((23, [(3, .int 5), (2, .ref 54), (1, .ref 0), (0, .retAddr 0)], [.int 0, .int 5]), zh3)) rfl rfl rfl).trans ?_
  refine (zq1 (q := ((642, [(3, .int 5), (2, .ref 54), (1, .ref 0), (0, .retAddr 0)], []), zh3)) rfl rfl rfl).trans ?_
  refine (zq1 (q := ((643, [(3, .int 5), (2, .ref 54), (1, .ref 0), (0, .retAddr 0)], [.int 1]), zh3)) rfl rfl rfl).trans ?_
  exact zqr rfl rfl
set_option maxRecDepth 1000000 in
set_option maxHeartbeats 4000000 in
theorem zy_case21 (xs : Nat → Int32) : ∃ (h : zH), zloop zmt (zcal zmt 100000 9 420) 10 420 (some (5, xs)) M_law 99979 (32, [(3, .int 0), (2, .ref 54), (1, .ref 0), (0, .retAddr 0)], [.int (nI 21)]) zh3 = some (some (.int 1), h) ∧ Nat.ble h.1.length 600000 = true ∧ Nat.ble h.2 7302250 = true := by
  refine ⟨zh3, ?_, rfl, rfl⟩
  refine (zq1 (q := ((636, [(3, .int 0), (2, .ref 54), (1, .ref 0), (0, .retAddr 0)], []), zh3)) rfl rfl rfl).trans ?_
  refine (zq1 (q := ((639, [(3, .int 5), (2, .ref 54), (1, .ref 0), (0, .retAddr 0)], []), zh3)) rfl rfl rfl).trans ?_
  refine (zq1 (q := ((18, [(3, .int 5), (2, .ref 54), (1, .ref 0), (0, .retAddr 0)], []), zh3)) rfl rfl rfl).trans ?_
  refine (zq1 (q := ((19, [(3, .int 5), (2, .ref 54), (1, .ref 0), (0, .retAddr 0)], [.int 5]), zh3)) rfl rfl rfl).trans ?_
  refine (zq1 (q := ((20, [(3, .int 5), (2, .ref 54), (1, .ref 0), (0, .retAddr 0)], [.retAddr 0, .int 5]), zh3)) rfl rfl rfl).trans ?_
  refine (zq1 (q := ((21, [(3, .int 5), (2, .ref 54), (1, .ref 0), (0, .retAddr 0)], [.int 5, .int 5]), zh3)) rfl rfl rfl).trans ?_
  refine (zq1 (q := ((22, [(3, .int 5), (2, .ref 54), (1, .ref 0), (0, .retAddr 0)], [.int 5, .int 5, .int 5]), zh3)) rfl rfl rfl).trans ?_
  refine (zq1 (q := ((23, [(3, .int 5), (2, .ref 54), (1, .ref 0), (0, .retAddr 0)], [.int 0, .int 5]), zh3)) rfl rfl rfl).trans ?_
  refine (zq1 (q := ((642, [(3, .int 5), (2, .ref 54), (1, .ref 0), (0, .retAddr 0)], []), zh3)) rfl rfl rfl).trans ?_
  refine (zq1 (q := ((643, [(3, .int 5), (2, .ref 54), (1, .ref 0), (0, .retAddr 0)], [.int 1]), zh3)) rfl rfl rfl).trans ?_
  exact zqr rfl rfl
set_option maxRecDepth 1000000 in
set_option maxHeartbeats 4000000 in
theorem zy_case22 (xs : Nat → Int32) : ∃ (h : zH), zloop zmt (zcal zmt 100000 9 420) 10 420 (some (5, xs)) M_law 99979 (32, [(3, .int 0), (2, .ref 54), (1, .ref 0), (0, .retAddr 0)], [.int (nI 22)]) zh3 = some (some (.int 1), h) ∧ Nat.ble h.1.length 600000 = true ∧ Nat.ble h.2 7302250 = true := by
  refine ⟨zh3, ?_, rfl, rfl⟩
  refine (zq1 (q := ((636, [(3, .int 0), (2, .ref 54), (1, .ref 0), (0, .retAddr 0)], []), zh3)) rfl rfl rfl).trans ?_
  refine (zq1 (q := ((639, [(3, .int 5), (2, .ref 54), (1, .ref 0), (0, .retAddr 0)], []), zh3)) rfl rfl rfl).trans ?_
  refine (zq1 (q := ((18, [(3, .int 5), (2, .ref 54), (1, .ref 0), (0, .retAddr 0)], []), zh3)) rfl rfl rfl).trans ?_
  refine (zq1 (q := ((19, [(3, .int 5), (2, .ref 54), (1, .ref 0), (0, .retAddr 0)], [.int 5]), zh3)) rfl rfl rfl).trans ?_
  refine (zq1 (q := ((20, [(3, .int 5), (2, .ref 54), (1, .ref 0), (0, .retAddr 0)], [.retAddr 0, .int 5]), zh3)) rfl rfl rfl).trans ?_
  refine (zq1 (q := ((21, [(3, .int 5), (2, .ref 54), (1, .ref 0), (0, .retAddr 0)], [.int 5, .int 5]), zh3)) rfl rfl rfl).trans ?_
  refine (zq1 (q := ((22, [(3, .int 5), (2, .ref 54), (1, .ref 0), (0, .retAddr 0)], [.int 5, .int 5, .int 5]), zh3)) rfl rfl rfl).trans ?_
  refine (zq1 (q := ((23, [(3, .int 5), (2, .ref 54), (1, .ref 0), (0, .retAddr 0)], [.int 0, .int 5]), zh3)) rfl rfl rfl).trans ?_
  refine (zq1 (q := ((642, [(3, .int 5), (2, .ref 54), (1, .ref 0), (0, .retAddr 0)], []), zh3)) rfl rfl rfl).trans ?_
  refine (zq1 (q := ((643, [(3, .int 5), (2, .ref 54), (1, .ref 0), (0, .retAddr 0)], [.int 1]), zh3)) rfl rfl rfl).trans ?_
  exact zqr rfl rfl
set_option maxRecDepth 1000000 in
set_option maxHeartbeats 4000000 in
theorem zy_case23 (xs : Nat → Int32) : ∃ (h : zH), zloop zmt (zcal zmt 100000 9 420) 10 420 (some (5, xs)) M_law 99979 (32, [(3, .int 0), (2, .ref 54), (1, .ref 0), (0, .retAddr 0)], [.int (nI 23)]) zh3 = some (some (.int 1), h) ∧ Nat.ble h.1.length 600000 = true ∧ Nat.ble h.2 7302250 = true := by
  refine ⟨zh3, ?_, rfl, rfl⟩
  refine (zq1 (q := ((636, [(3, .int 0), (2, .ref 54), (1, .ref 0), (0, .retAddr 0)], []), zh3)) rfl rfl rfl).trans ?_
  refine (zq1 (q := ((639, [(3, .int 5), (2, .ref 54), (1, .ref 0), (0, .retAddr 0)], []), zh3)) rfl rfl rfl).trans ?_
  refine (zq1 (q := ((18, [(3, .int 5), (2, .ref 54), (1, .ref 0), (0, .retAddr 0)], []), zh3)) rfl rfl rfl).trans ?_
  refine (zq1 (q := ((19, [(3, .int 5), (2, .ref 54), (1, .ref 0), (0, .retAddr 0)], [.int 5]), zh3)) rfl rfl rfl).trans ?_
  refine (zq1 (q := ((20, [(3, .int 5), (2, .ref 54), (1, .ref 0), (0, .retAddr 0)], [.retAddr 0, .int 5]), zh3)) rfl rfl rfl).trans ?_
  refine (zq1 (q := ((21, [(3, .int 5), (2, .ref 54), (1, .ref 0), (0, .retAddr 0)], [.int 5, .int 5]), zh3)) rfl rfl rfl).trans ?_
  refine (zq1 (q := ((22, [(3, .int 5), (2, .ref 54), (1, .ref 0), (0, .retAddr 0)], [.int 5, .int 5, .int 5]), zh3)) rfl rfl rfl).trans ?_
  refine (zq1 (q := ((23, [(3, .int 5), (2, .ref 54), (1, .ref 0), (0, .retAddr 0)], [.int 0, .int 5]), zh3)) rfl rfl rfl).trans ?_
  refine (zq1 (q := ((642, [(3, .int 5), (2, .ref 54), (1, .ref 0), (0, .retAddr 0)], []), zh3)) rfl rfl rfl).trans ?_
  refine (zq1 (q := ((643, [(3, .int 5), (2, .ref 54), (1, .ref 0), (0, .retAddr 0)], [.int 1]), zh3)) rfl rfl rfl).trans ?_
  exact zqr rfl rfl
set_option maxRecDepth 1000000 in
set_option maxHeartbeats 4000000 in
theorem zy_case24 (xs : Nat → Int32) : ∃ (h : zH), zloop zmt (zcal zmt 100000 9 420) 10 420 (some (5, xs)) M_law 99979 (32, [(3, .int 0), (2, .ref 54), (1, .ref 0), (0, .retAddr 0)], [.int (nI 24)]) zh3 = some (some (.int 1), h) ∧ Nat.ble h.1.length 600000 = true ∧ Nat.ble h.2 7302250 = true := by
  refine ⟨zh3, ?_, rfl, rfl⟩
  refine (zq1 (q := ((636, [(3, .int 0), (2, .ref 54), (1, .ref 0), (0, .retAddr 0)], []), zh3)) rfl rfl rfl).trans ?_
  refine (zq1 (q := ((639, [(3, .int 5), (2, .ref 54), (1, .ref 0), (0, .retAddr 0)], []), zh3)) rfl rfl rfl).trans ?_
  refine (zq1 (q := ((18, [(3, .int 5), (2, .ref 54), (1, .ref 0), (0, .retAddr 0)], []), zh3)) rfl rfl rfl).trans ?_
  refine (zq1 (q := ((19, [(3, .int 5), (2, .ref 54), (1, .ref 0), (0, .retAddr 0)], [.int 5]), zh3)) rfl rfl rfl).trans ?_
  refine (zq1 (q := ((20, [(3, .int 5), (2, .ref 54), (1, .ref 0), (0, .retAddr 0)], [.retAddr 0, .int 5]), zh3)) rfl rfl rfl).trans ?_
  refine (zq1 (q := ((21, [(3, .int 5), (2, .ref 54), (1, .ref 0), (0, .retAddr 0)], [.int 5, .int 5]), zh3)) rfl rfl rfl).trans ?_
  refine (zq1 (q := ((22, [(3, .int 5), (2, .ref 54), (1, .ref 0), (0, .retAddr 0)], [.int 5, .int 5, .int 5]), zh3)) rfl rfl rfl).trans ?_
  refine (zq1 (q := ((23, [(3, .int 5), (2, .ref 54), (1, .ref 0), (0, .retAddr 0)], [.int 0, .int 5]), zh3)) rfl rfl rfl).trans ?_
  refine (zq1 (q := ((642, [(3, .int 5), (2, .ref 54), (1, .ref 0), (0, .retAddr 0)], []), zh3)) rfl rfl rfl).trans ?_
  refine (zq1 (q := ((643, [(3, .int 5), (2, .ref 54), (1, .ref 0), (0, .retAddr 0)], [.int 1]), zh3)) rfl rfl rfl).trans ?_
  exact zqr rfl rfl
set_option maxRecDepth 1000000 in
set_option maxHeartbeats 4000000 in
theorem zy_case25 (xs : Nat → Int32) : ∃ (h : zH), zloop zmt (zcal zmt 100000 9 420) 10 420 (some (5, xs)) M_law 99979 (32, [(3, .int 0), (2, .ref 54), (1, .ref 0), (0, .retAddr 0)], [.int (nI 25)]) zh3 = some (some (.int 1), h) ∧ Nat.ble h.1.length 600000 = true ∧ Nat.ble h.2 7302250 = true := by
  refine ⟨zh3, ?_, rfl, rfl⟩
  refine (zq1 (q := ((636, [(3, .int 0), (2, .ref 54), (1, .ref 0), (0, .retAddr 0)], []), zh3)) rfl rfl rfl).trans ?_
  refine (zq1 (q := ((639, [(3, .int 5), (2, .ref 54), (1, .ref 0), (0, .retAddr 0)], []), zh3)) rfl rfl rfl).trans ?_
  refine (zq1 (q := ((18, [(3, .int 5), (2, .ref 54), (1, .ref 0), (0, .retAddr 0)], []), zh3)) rfl rfl rfl).trans ?_
  refine (zq1 (q := ((19, [(3, .int 5), (2, .ref 54), (1, .ref 0), (0, .retAddr 0)], [.int 5]), zh3)) rfl rfl rfl).trans ?_
  refine (zq1 (q := ((20, [(3, .int 5), (2, .ref 54), (1, .ref 0), (0, .retAddr 0)], [.retAddr 0, .int 5]), zh3)) rfl rfl rfl).trans ?_
  refine (zq1 (q := ((21, [(3, .int 5), (2, .ref 54), (1, .ref 0), (0, .retAddr 0)], [.int 5, .int 5]), zh3)) rfl rfl rfl).trans ?_
  refine (zq1 (q := ((22, [(3, .int 5), (2, .ref 54), (1, .ref 0), (0, .retAddr 0)], [.int 5, .int 5, .int 5]), zh3)) rfl rfl rfl).trans ?_
  refine (zq1 (q := ((23, [(3, .int 5), (2, .ref 54), (1, .ref 0), (0, .retAddr 0)], [.int 0, .int 5]), zh3)) rfl rfl rfl).trans ?_
  refine (zq1 (q := ((642, [(3, .int 5), (2, .ref 54), (1, .ref 0), (0, .retAddr 0)], []), zh3)) rfl rfl rfl).trans ?_
  refine (zq1 (q := ((643, [(3, .int 5), (2, .ref 54), (1, .ref 0), (0, .retAddr 0)], [.int 1]), zh3)) rfl rfl rfl).trans ?_
  exact zqr rfl rfl
set_option maxRecDepth 1000000 in
set_option maxHeartbeats 4000000 in
theorem zy_case26 (xs : Nat → Int32) : ∃ (h : zH), zloop zmt (zcal zmt 100000 9 420) 10 420 (some (5, xs)) M_law 99979 (32, [(3, .int 0), (2, .ref 54), (1, .ref 0), (0, .retAddr 0)], [.int (nI 26)]) zh3 = some (some (.int 1), h) ∧ Nat.ble h.1.length 600000 = true ∧ Nat.ble h.2 7302250 = true := by
  refine ⟨zh3, ?_, rfl, rfl⟩
  refine (zq1 (q := ((636, [(3, .int 0), (2, .ref 54), (1, .ref 0), (0, .retAddr 0)], []), zh3)) rfl rfl rfl).trans ?_
  refine (zq1 (q := ((639, [(3, .int 5), (2, .ref 54), (1, .ref 0), (0, .retAddr 0)], []), zh3)) rfl rfl rfl).trans ?_
  refine (zq1 (q := ((18, [(3, .int 5), (2, .ref 54), (1, .ref 0), (0, .retAddr 0)], []), zh3)) rfl rfl rfl).trans ?_
  refine (zq1 (q := ((19, [(3, .int 5), (2, .ref 54), (1, .ref 0), (0, .retAddr 0)], [.int 5]), zh3)) rfl rfl rfl).trans ?_
  refine (zq1 (q := ((20, [(3, .int 5), (2, .ref 54), (1, .ref 0), (0, .retAddr 0)], [.retAddr 0, .int 5]), zh3)) rfl rfl rfl).trans ?_
  refine (zq1 (q := ((21, [(3, .int 5), (2, .ref 54), (1, .ref 0), (0, .retAddr 0)], [.int 5, .int 5]), zh3)) rfl rfl rfl).trans ?_
  refine (zq1 (q := ((22, [(3, .int 5), (2, .ref 54), (1, .ref 0), (0, .retAddr 0)], [.int 5, .int 5, .int 5]), zh3)) rfl rfl rfl).trans ?_
  refine (zq1 (q := ((23, [(3, .int 5), (2, .ref 54), (1, .ref 0), (0, .retAddr 0)], [.int 0, .int 5]), zh3)) rfl rfl rfl).trans ?_
  refine (zq1 (q := ((642, [(3, .int 5), (2, .ref 54), (1, .ref 0), (0, .retAddr 0)], []), zh3)) rfl rfl rfl).trans ?_
  refine (zq1 (q := ((643, [(3, .int 5), (2, .ref 54), (1, .ref 0), (0, .retAddr 0)], [.int 1]), zh3)) rfl rfl rfl).trans ?_
  exact zqr rfl rfl
set_option maxRecDepth 1000000 in
set_option maxHeartbeats 4000000 in
theorem zy_case27 (xs : Nat → Int32) : ∃ (h : zH), zloop zmt (zcal zmt 100000 9 420) 10 420 (some (5, xs)) M_law 99979 (32, [(3, .int 0), (2, .ref 54), (1, .ref 0), (0, .retAddr 0)], [.int (nI 27)]) zh3 = some (some (.int 1), h) ∧ Nat.ble h.1.length 600000 = true ∧ Nat.ble h.2 7302250 = true := by
  refine ⟨zh3, ?_, rfl, rfl⟩
  refine (zq1 (q := ((636, [(3, .int 0), (2, .ref 54), (1, .ref 0), (0, .retAddr 0)], []), zh3)) rfl rfl rfl).trans ?_
  refine (zq1 (q := ((639, [(3, .int 5), (2, .ref 54), (1, .ref 0), (0, .retAddr 0)], []), zh3)) rfl rfl rfl).trans ?_
  refine (zq1 (q := ((18, [(3, .int 5), (2, .ref 54), (1, .ref 0), (0, .retAddr 0)], []), zh3)) rfl rfl rfl).trans ?_
  refine (zq1 (q := ((19, [(3, .int 5), (2, .ref 54), (1, .ref 0), (0, .retAddr 0)], [.int 5]), zh3)) rfl rfl rfl).trans ?_
  refine (zq1 (q := ((20, [(3, .int 5), (2, .ref 54), (1, .ref 0), (0, .retAddr 0)], [.retAddr 0, .int 5]), zh3)) rfl rfl rfl).trans ?_
  refine (zq1 (q := ((21, [(3, .int 5), (2, .ref 54), (1, .ref 0), (0, .retAddr 0)], [.int 5, .int 5]), zh3)) rfl rfl rfl).trans ?_
  refine (zq1 (q := ((22, [(3, .int 5), (2, .ref 54), (1, .ref 0), (0, .retAddr 0)], [.int 5, .int 5, .int 5]), zh3)) rfl rfl rfl).trans ?_
  refine (zq1 (q := ((23, [(3, .int 5), (2, .ref 54), (1, .ref 0), (0, .retAddr 0)], [.int 0, .int 5]), zh3)) rfl rfl rfl).trans ?_
  refine (zq1 (q := ((642, [(3, .int 5), (2, .ref 54), (1, .ref 0), (0, .retAddr 0)], []), zh3)) rfl rfl rfl).trans ?_
  refine (zq1 (q := ((643, [(3, .int 5), (2, .ref 54), (1, .ref 0), (0, .retAddr 0)], [.int 1]), zh3)) rfl rfl rfl).trans ?_
  exact zqr rfl rfl
set_option maxRecDepth 1000000 in
set_option maxHeartbeats 4000000 in
theorem zy_case28 (xs : Nat → Int32) : ∃ (h : zH), zloop zmt (zcal zmt 100000 9 420) 10 420 (some (5, xs)) M_law 99979 (32, [(3, .int 0), (2, .ref 54), (1, .ref 0), (0, .retAddr 0)], [.int (nI 28)]) zh3 = some (some (.int 1), h) ∧ Nat.ble h.1.length 600000 = true ∧ Nat.ble h.2 7302250 = true := by
  refine ⟨zh3, ?_, rfl, rfl⟩
  refine (zq1 (q := ((636, [(3, .int 0), (2, .ref 54), (1, .ref 0), (0, .retAddr 0)], []), zh3)) rfl rfl rfl).trans ?_
  refine (zq1 (q := ((639, [(3, .int 5), (2, .ref 54), (1, .ref 0), (0, .retAddr 0)], []), zh3)) rfl rfl rfl).trans ?_
  refine (zq1 (q := ((18, [(3, .int 5), (2, .ref 54), (1, .ref 0), (0, .retAddr 0)], []), zh3)) rfl rfl rfl).trans ?_
  refine (zq1 (q := ((19, [(3, .int 5), (2, .ref 54), (1, .ref 0), (0, .retAddr 0)], [.int 5]), zh3)) rfl rfl rfl).trans ?_
  refine (zq1 (q := ((20, [(3, .int 5), (2, .ref 54), (1, .ref 0), (0, .retAddr 0)], [.retAddr 0, .int 5]), zh3)) rfl rfl rfl).trans ?_
  refine (zq1 (q := ((21, [(3, .int 5), (2, .ref 54), (1, .ref 0), (0, .retAddr 0)], [.int 5, .int 5]), zh3)) rfl rfl rfl).trans ?_
  refine (zq1 (q := ((22, [(3, .int 5), (2, .ref 54), (1, .ref 0), (0, .retAddr 0)], [.int 5, .int 5, .int 5]), zh3)) rfl rfl rfl).trans ?_
  refine (zq1 (q := ((23, [(3, .int 5), (2, .ref 54), (1, .ref 0), (0, .retAddr 0)], [.int 0, .int 5]), zh3)) rfl rfl rfl).trans ?_
  refine (zq1 (q := ((642, [(3, .int 5), (2, .ref 54), (1, .ref 0), (0, .retAddr 0)], []), zh3)) rfl rfl rfl).trans ?_
  refine (zq1 (q := ((643, [(3, .int 5), (2, .ref 54), (1, .ref 0), (0, .retAddr 0)], [.int 1]), zh3)) rfl rfl rfl).trans ?_
  exact zqr rfl rfl
set_option maxRecDepth 1000000 in
set_option maxHeartbeats 4000000 in
theorem zy_case29 (xs : Nat → Int32) : ∃ (h : zH), zloop zmt (zcal zmt 100000 9 420) 10 420 (some (5, xs)) M_law 99979 (32, [(3, .int 0), (2, .ref 54), (1, .ref 0), (0, .retAddr 0)], [.int (nI 29)]) zh3 = some (some (.int 1), h) ∧ Nat.ble h.1.length 600000 = true ∧ Nat.ble h.2 7302250 = true := by
  refine ⟨zh3, ?_, rfl, rfl⟩
  refine (zq1 (q := ((636, [(3, .int 0), (2, .ref 54), (1, .ref 0), (0, .retAddr 0)], []), zh3)) rfl rfl rfl).trans ?_
  refine (zq1 (q := ((639, [(3, .int 5), (2, .ref 54), (1, .ref 0), (0, .retAddr 0)], []), zh3)) rfl rfl rfl).trans ?_
  refine (zq1 (q := ((18, [(3, .int 5), (2, .ref 54), (1, .ref 0), (0, .retAddr 0)], []), zh3)) rfl rfl rfl).trans ?_
  refine (zq1 (q := ((19, [(3, .int 5), (2, .ref 54), (1, .ref 0), (0, .retAddr 0)], [.int 5]), zh3)) rfl rfl rfl).trans ?_
  refine (zq1 (q := ((20, [(3, .int 5), (2, .ref 54), (1, .ref 0), (0, .retAddr 0)], [.retAddr 0, .int 5]), zh3)) rfl rfl rfl).trans ?_
  refine (zq1 (q := ((21, [(3, .int 5), (2, .ref 54), (1, .ref 0), (0, .retAddr 0)], [.int 5, .int 5]), zh3)) rfl rfl rfl).trans ?_
  refine (zq1 (q := ((22, [(3, .int 5), (2, .ref 54), (1, .ref 0), (0, .retAddr 0)], [.int 5, .int 5, .int 5]), zh3)) rfl rfl rfl).trans ?_
  refine (zq1 (q := ((23, [(3, .int 5), (2, .ref 54), (1, .ref 0), (0, .retAddr 0)], [.int 0, .int 5]), zh3)) rfl rfl rfl).trans ?_
  refine (zq1 (q := ((642, [(3, .int 5), (2, .ref 54), (1, .ref 0), (0, .retAddr 0)], []), zh3)) rfl rfl rfl).trans ?_
  refine (zq1 (q := ((643, [(3, .int 5), (2, .ref 54), (1, .ref 0), (0, .retAddr 0)], [.int 1]), zh3)) rfl rfl rfl).trans ?_
  exact zqr rfl rfl
set_option maxRecDepth 1000000 in
set_option maxHeartbeats 4000000 in
theorem zy_case30 (xs : Nat → Int32) : ∃ (h : zH), zloop zmt (zcal zmt 100000 9 420) 10 420 (some (5, xs)) M_law 99979 (32, [(3, .int 0), (2, .ref 54), (1, .ref 0), (0, .retAddr 0)], [.int (nI 30)]) zh3 = some (some (.int 1), h) ∧ Nat.ble h.1.length 600000 = true ∧ Nat.ble h.2 7302250 = true := by
  refine ⟨zh3, ?_, rfl, rfl⟩
  refine (zq1 (q := ((636, [(3, .int 0), (2, .ref 54), (1, .ref 0), (0, .retAddr 0)], []), zh3)) rfl rfl rfl).trans ?_
  refine (zq1 (q := ((639, [(3, .int 5), (2, .ref 54), (1, .ref 0), (0, .retAddr 0)], []), zh3)) rfl rfl rfl).trans ?_
  refine (zq1 (q := ((18, [(3, .int 5), (2, .ref 54), (1, .ref 0), (0, .retAddr 0)], []), zh3)) rfl rfl rfl).trans ?_
  refine (zq1 (q := ((19, [(3, .int 5), (2, .ref 54), (1, .ref 0), (0, .retAddr 0)], [.int 5]), zh3)) rfl rfl rfl).trans ?_
  refine (zq1 (q := ((20, [(3, .int 5), (2, .ref 54), (1, .ref 0), (0, .retAddr 0)], [.retAddr 0, .int 5]), zh3)) rfl rfl rfl).trans ?_
  refine (zq1 (q := ((21, [(3, .int 5), (2, .ref 54), (1, .ref 0), (0, .retAddr 0)], [.int 5, .int 5]), zh3)) rfl rfl rfl).trans ?_
  refine (zq1 (q := ((22, [(3, .int 5), (2, .ref 54), (1, .ref 0), (0, .retAddr 0)], [.int 5, .int 5, .int 5]), zh3)) rfl rfl rfl).trans ?_
  refine (zq1 (q := ((23, [(3, .int 5), (2, .ref 54), (1, .ref 0), (0, .retAddr 0)], [.int 0, .int 5]), zh3)) rfl rfl rfl).trans ?_
  refine (zq1 (q := ((642, [(3, .int 5), (2, .ref 54), (1, .ref 0), (0, .retAddr 0)], []), zh3)) rfl rfl rfl).trans ?_
  refine (zq1 (q := ((643, [(3, .int 5), (2, .ref 54), (1, .ref 0), (0, .retAddr 0)], [.int 1]), zh3)) rfl rfl rfl).trans ?_
  exact zqr rfl rfl
set_option maxRecDepth 1000000 in
set_option maxHeartbeats 4000000 in
theorem zy_case31 (xs : Nat → Int32) : ∃ (h : zH), zloop zmt (zcal zmt 100000 9 420) 10 420 (some (5, xs)) M_law 99979 (32, [(3, .int 0), (2, .ref 54), (1, .ref 0), (0, .retAddr 0)], [.int (nI 31)]) zh3 = some (some (.int 1), h) ∧ Nat.ble h.1.length 600000 = true ∧ Nat.ble h.2 7302250 = true := by
  refine ⟨zh3, ?_, rfl, rfl⟩
  refine (zq1 (q := ((636, [(3, .int 0), (2, .ref 54), (1, .ref 0), (0, .retAddr 0)], []), zh3)) rfl rfl rfl).trans ?_
  refine (zq1 (q := ((639, [(3, .int 5), (2, .ref 54), (1, .ref 0), (0, .retAddr 0)], []), zh3)) rfl rfl rfl).trans ?_
  refine (zq1 (q := ((18, [(3, .int 5), (2, .ref 54), (1, .ref 0), (0, .retAddr 0)], []), zh3)) rfl rfl rfl).trans ?_
  refine (zq1 (q := ((19, [(3, .int 5), (2, .ref 54), (1, .ref 0), (0, .retAddr 0)], [.int 5]), zh3)) rfl rfl rfl).trans ?_
  refine (zq1 (q := ((20, [(3, .int 5), (2, .ref 54), (1, .ref 0), (0, .retAddr 0)], [.retAddr 0, .int 5]), zh3)) rfl rfl rfl).trans ?_
  refine (zq1 (q := ((21, [(3, .int 5), (2, .ref 54), (1, .ref 0), (0, .retAddr 0)], [.int 5, .int 5]), zh3)) rfl rfl rfl).trans ?_
  refine (zq1 (q := ((22, [(3, .int 5), (2, .ref 54), (1, .ref 0), (0, .retAddr 0)], [.int 5, .int 5, .int 5]), zh3)) rfl rfl rfl).trans ?_
  refine (zq1 (q := ((23, [(3, .int 5), (2, .ref 54), (1, .ref 0), (0, .retAddr 0)], [.int 0, .int 5]), zh3)) rfl rfl rfl).trans ?_
  refine (zq1 (q := ((642, [(3, .int 5), (2, .ref 54), (1, .ref 0), (0, .retAddr 0)], []), zh3)) rfl rfl rfl).trans ?_
  refine (zq1 (q := ((643, [(3, .int 5), (2, .ref 54), (1, .ref 0), (0, .retAddr 0)], [.int 1]), zh3)) rfl rfl rfl).trans ?_
  exact zqr rfl rfl
theorem zy_sw (xs : Nat → Int32) : ∃ (h : zH), zloop zmt (zcal zmt 100000 9 420) 10 420 (some (5, xs)) M_law 99979 (32, [(3, .int 0), (2, .ref 54), (1, .ref 0), (0, .retAddr 0)], [.int (xs 0 &&& 31)]) zh3 = some (some (.int 1), h) ∧ Nat.ble h.1.length 600000 = true ∧ Nat.ble h.2 7302250 = true := by
  obtain ⟨j, hj, e⟩ := pk_andE (xs 0) (m := 31) 5 (by decide)
  rw [e]
  have hj : j < 32 := hj
  match j, hj with
  | 0, _ => exact zy_case0 xs
  | 1, _ => exact zy_case1 xs
  | 2, _ => exact zy_case2 xs
  | 3, _ => exact zy_case3 xs
  | 4, _ =>
    by_cases h4 : (xs 4).toInt = 0
    · exact zy_case4z xs h4
    · exact zy_case4n xs h4
  | 5, _ => exact zy_case5 xs
  | 6, _ => exact zy_case6 xs
  | 7, _ => exact zy_case7 xs
  | 8, _ => exact zy_case8 xs
  | 9, _ => exact zy_case9 xs
  | 10, _ => exact zy_case10 xs
  | 11, _ => exact zy_case11 xs
  | 12, _ => exact zy_case12 xs
  | 13, _ => exact zy_case13 xs
  | 14, _ => exact zy_case14 xs
  | 15, _ => exact zy_case15 xs
  | 16, _ => exact zy_case16 xs
  | 17, _ => exact zy_case17 xs
  | 18, _ => exact zy_case18 xs
  | 19, _ => exact zy_case19 xs
  | 20, _ => exact zy_case20 xs
  | 21, _ => exact zy_case21 xs
  | 22, _ => exact zy_case22 xs
  | 23, _ => exact zy_case23 xs
  | 24, _ => exact zy_case24 xs
  | 25, _ => exact zy_case25 xs
  | 26, _ => exact zy_case26 xs
  | 27, _ => exact zy_case27 xs
  | 28, _ => exact zy_case28 xs
  | 29, _ => exact zy_case29 xs
  | 30, _ => exact zy_case30 xs
  | 31, _ => exact zy_case31 xs
  | n + 32, h => exact absurd h (by omega)
theorem zy_run (L : Nat) (hL : L ≤ 5) (xs : Nat → Int32) : ∃ (h : zH), zloop zmt (zcal zmt 100000 9 420) 10 420 (some (L, xs)) M_law 100000 (0, [(0, .retAddr 0)], []) ([], 0) = some (some (.int 1), h) ∧ Nat.ble h.1.length 600000 = true ∧ Nat.ble h.2 7302250 = true := by
  rw [zy_pre]
  match L, hL with
  | 0, _ => exact ⟨zh3, zy_short0 xs, rfl, rfl⟩
  | 1, _ => exact ⟨zh3, zy_short1 xs, rfl, rfl⟩
  | 2, _ => exact ⟨zh3, zy_short2 xs, rfl, rfl⟩
  | 3, _ => exact ⟨zh3, zy_short3 xs, rfl, rfl⟩
  | 4, _ => exact ⟨zh3, zy_short4 xs, rfl, rfl⟩
  | 5, _ =>
    rw [zy_mid]
    exact zy_sw xs
  | n + 6, h => exact absurd h (by omega)
