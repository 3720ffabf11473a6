def e_Mo_around (s : Int32) (w : yW) : yW := wI (wI (wI (wI w 54 17 (w.1 61 s.toNatClampNeg)) 54 18 ((wI w 54 17 (w.1 61 s.toNatClampNeg)).1 62 s.toNatClampNeg)) 54 19 ((wI (wI w 54 17 (w.1 61 s.toNatClampNeg)) 54 18 ((wI w 54 17 (w.1 61 s.toNatClampNeg)).1 62 s.toNatClampNeg)).1 63 s.toNatClampNeg)) 54 20 ((wI (wI (wI w 54 17 (w.1 61 s.toNatClampNeg)) 54 18 ((wI w 54 17 (w.1 61 s.toNatClampNeg)).1 62 s.toNatClampNeg)) 54 19 ((wI (wI w 54 17 (w.1 61 s.toNatClampNeg)) 54 18 ((wI w 54 17 (w.1 61 s.toNatClampNeg)).1 62 s.toNatClampNeg)).1 63 s.toNatClampNeg)).1 64 s.toNatClampNeg)
set_option maxRecDepth 100000 in
theorem r_Mo_around {fr lo sz : Nat} {G : List zC} (s : Int32) (w : yW) (hs : zIx s 65) (hlo : 21 ≤ lo) : zAns (fr + 1) lo 128 [.ref 54, .int s] (yhp w G sz) (none, yhp (e_Mo_around s w) G sz) := by
  unfold e_Mo_around
  refine zeb (fr := fr + 0) (M := M_Mo_around) rfl (Nat.le_trans (by decide) hlo) rfl ?_
  have e0 : mL M_Mo_around = 2 := rfl
  refine zeN (q := ((2, [(0, .ref 54), (1, .int s)], [.ref 54, .ref 54]), yhp w G sz)) 2 rfl ?_
  refine ygf (kk := .inl (.ref 61)) (v := .ref 61) rfl rfl rfl rfl rfl rfl rfl ?_
  refine zeN (q := ((6, [(0, .ref 54), (1, .int s)], [.int s, .ref 61, .ref 54]), yhp w G sz)) 1 rfl ?_
  refine yia (N := 65) rfl rfl rfl (by assumption) ?_
  refine ypI (v := w.1 61 s.toNatClampNeg) rfl rfl rfl rfl rfl rfl rfl ?_
  refine zeN (q := ((12, [(0, .ref 54), (1, .int s)], [.ref 54, .ref 54]), yhp (wI w 54 17 (w.1 61 s.toNatClampNeg)) G sz)) 2 rfl ?_
  refine ygf (kk := .inl (.ref 62)) (v := .ref 62) rfl rfl rfl rfl rfl rfl rfl ?_
  refine zeN (q := ((16, [(0, .ref 54), (1, .int s)], [.int s, .ref 62, .ref 54]), yhp (wI w 54 17 (w.1 61 s.toNatClampNeg)) G sz)) 1 rfl ?_
  refine yia (N := 65) rfl rfl rfl (by assumption) ?_
  refine ypI (v := (wI w 54 17 (w.1 61 s.toNatClampNeg)).1 62 s.toNatClampNeg) rfl rfl rfl rfl rfl rfl rfl ?_
  refine zeN (q := ((22, [(0, .ref 54), (1, .int s)], [.ref 54, .ref 54]), yhp (wI (wI w 54 17 (w.1 61 s.toNatClampNeg)) 54 18 ((wI w 54 17 (w.1 61 s.toNatClampNeg)).1 62 s.toNatClampNeg)) G sz)) 2 rfl ?_
  refine ygf (kk := .inl (.ref 63)) (v := .ref 63) rfl rfl rfl rfl rfl rfl rfl ?_
  refine zeN (q := ((26, [(0, .ref 54), (1, .int s)], [.int s, .ref 63, .ref 54]), yhp (wI (wI w 54 17 (w.1 61 s.toNatClampNeg)) 54 18 ((wI w 54 17 (w.1 61 s.toNatClampNeg)).1 62 s.toNatClampNeg)) G sz)) 1 rfl ?_
  refine yia (N := 65) rfl rfl rfl (by assumption) ?_
  refine ypI (v := (wI (wI w 54 17 (w.1 61 s.toNatClampNeg)) 54 18 ((wI w 54 17 (w.1 61 s.toNatClampNeg)).1 62 s.toNatClampNeg)).1 63 s.toNatClampNeg) rfl rfl rfl rfl rfl rfl rfl ?_
  refine zeN (q := ((32, [(0, .ref 54), (1, .int s)], [.ref 54, .ref 54]), yhp (wI (wI (wI w 54 17 (w.1 61 s.toNatClampNeg)) 54 18 ((wI w 54 17 (w.1 61 s.toNatClampNeg)).1 62 s.toNatClampNeg)) 54 19 ((wI (wI w 54 17 (w.1 61 s.toNatClampNeg)) 54 18 ((wI w 54 17 (w.1 61 s.toNatClampNeg)).1 62 s.toNatClampNeg)).1 63 s.toNatClampNeg)) G sz)) 2 rfl ?_
  refine ygf (kk := .inl (.ref 64)) (v := .ref 64) rfl rfl rfl rfl rfl rfl rfl ?_
  refine zeN (q := ((36, [(0, .ref 54), (1, .int s)], [.int s, .ref 64, .ref 54]), yhp (wI (wI (wI w 54 17 (w.1 61 s.toNatClampNeg)) 54 18 ((wI w 54 17 (w.1 61 s.toNatClampNeg)).1 62 s.toNatClampNeg)) 54 19 ((wI (wI w 54 17 (w.1 61 s.toNatClampNeg)) 54 18 ((wI w 54 17 (w.1 61 s.toNatClampNeg)).1 62 s.toNatClampNeg)).1 63 s.toNatClampNeg)) G sz)) 1 rfl ?_
  refine yia (N := 65) rfl rfl rfl (by assumption) ?_
  refine ypI (v := (wI (wI (wI w 54 17 (w.1 61 s.toNatClampNeg)) 54 18 ((wI w 54 17 (w.1 61 s.toNatClampNeg)).1 62 s.toNatClampNeg)) 54 19 ((wI (wI w 54 17 (w.1 61 s.toNatClampNeg)) 54 18 ((wI w 54 17 (w.1 61 s.toNatClampNeg)).1 62 s.toNatClampNeg)).1 63 s.toNatClampNeg)).1 64 s.toNatClampNeg) rfl rfl rfl rfl rfl rfl rfl ?_
  exact zer rfl rfl
def e_Mo_finds (s u l : Int32) (w : yW) : yW × Int32 := (bif zc .ne (w.1 55 u.toNatClampNeg) 0 then (bif zc .gt (lg_cmp ((e_Mo_measureOut s u w).2.1 54 13) (l.toInt64 * ((e_Mo_measureOut s u w).2.1 54 14))) 0 then (e_Mo_measureOut s u w, 0) else (e_Mo_measureOut s u w, 1)) else (w, 0))
set_option maxRecDepth 100000 in
theorem r_Mo_finds {fr lo sz : Nat} {G : List zC} (s u l : Int32) (w : yW) (hs : zIx s 65) (hk1 : 1 ≤ (gI (yA w 58 65) s).toInt) (hk2 : (gI (yA w 58 65) s).toInt ≤ 6) (hu : zIx u 65) (hq1 : ¬ w.1 55 u.toNatClampNeg = 0 → 1 ≤ (gI (yA w 58 65) u).toInt) (hq2 : ¬ w.1 55 u.toNatClampNeg = 0 → (gI (yA w 58 65) u).toInt ≤ 6) (hlo : 184 ≤ lo) : zAns (fr + 7) lo 116 [.ref 54, .int s, .int u, .int l] (yhp w G sz) (some (.int (e_Mo_finds s u l w).2), yhp (e_Mo_finds s u l w).1 G sz) := by
  unfold e_Mo_finds
  refine zeb (fr := fr + 6) (M := M_Mo_finds) rfl (Nat.le_trans (by decide) hlo) rfl ?_
  have e0 : mL M_Mo_finds = 4 := rfl
  refine zeN (q := ((1, [(0, .ref 54), (1, .int s), (2, .int u), (3, .int l)], [.ref 54]), yhp w G sz)) 1 rfl ?_
  refine ygf (kk := .inl (.ref 55)) (v := .ref 55) rfl rfl rfl rfl rfl rfl rfl ?_
  refine zeN (q := ((5, [(0, .ref 54), (1, .int s), (2, .int u), (3, .int l)], [.int u, .ref 55]), yhp w G sz)) 1 rfl ?_
  refine yba (N := 65) rfl rfl rfl (by assumption) ?_
  refine zbc (q1 := (11, [(0, .ref 54), (1, .int s), (2, .int u), (3, .int l)], [])) (q2 := (9, [(0, .ref 54), (1, .int s), (2, .int u), (3, .int l)], [])) (cB := zc .ne (w.1 55 u.toNatClampNeg) 0) (off := 5) (lv := [(0, .ref 54), (1, .int s), (2, .int u), (3, .int l)]) (st := []) rfl rfl rfl rfl rfl (fun c6 => ?_) (fun c6 => ?_)
  · rw [c6]
    have hne : ¬ w.1 55 u.toNatClampNeg = 0 := of_decide_eq_true c6
    refine zeN (q := ((14, [(0, .ref 54), (1, .int s), (2, .int u), (3, .int l)], [.int u, .int s, .ref 54]), yhp w G sz)) 3 rfl ?_
    refine zec 1 (M' := M_Mo_measureOut) (qq := ([.ref 54, .int s, .int u], [])) (s' := (17, [(0, .ref 54), (1, .int s), (2, .int u), (3, .int l)], [])) rfl rfl (fun _ => rfl) rfl rfl (zhk rfl (zrc_ok (yhp_o rfl)) rfl) (r_Mo_measureOut s u _ hs hk1 hk2 hu (hq1 hne) (hq2 hne) (by omega)) rfl ?_
    refine zeN (q := ((18, [(0, .ref 54), (1, .int s), (2, .int u), (3, .int l)], [.ref 54]), yhp (e_Mo_measureOut s u w) G sz)) 1 rfl ?_
    refine ygf (kk := .inr 1) (v := .long ((e_Mo_measureOut s u w).2.1 54 13)) rfl rfl rfl rfl rfl rfl rfl ?_
    refine zeN (q := ((24, [(0, .ref 54), (1, .int s), (2, .int u), (3, .int l)], [.ref 54, .long l.toInt64, .long ((e_Mo_measureOut s u w).2.1 54 13)]), yhp (e_Mo_measureOut s u w) G sz)) 3 rfl ?_
    refine ygf (kk := .inr 1) (v := .long ((e_Mo_measureOut s u w).2.1 54 14)) rfl rfl rfl rfl rfl rfl rfl ?_
    refine zeN (q := ((29, [(0, .ref 54), (1, .int s), (2, .int u), (3, .int l)], [.int (lg_cmp ((e_Mo_measureOut s u w).2.1 54 13) (l.toInt64 * ((e_Mo_measureOut s u w).2.1 54 14)))]), yhp (e_Mo_measureOut s u w) G sz)) 2 rfl ?_
    refine zbc (q1 := (36, [(0, .ref 54), (1, .int s), (2, .int u), (3, .int l)], [])) (q2 := (32, [(0, .ref 54), (1, .int s), (2, .int u), (3, .int l)], [])) (cB := zc .gt (lg_cmp ((e_Mo_measureOut s u w).2.1 54 13) (l.toInt64 * ((e_Mo_measureOut s u w).2.1 54 14))) 0) (off := 7) (lv := [(0, .ref 54), (1, .int s), (2, .int u), (3, .int l)]) (st := []) rfl rfl rfl rfl rfl (fun c29 => ?_) (fun c29 => ?_)
    · rw [c29]
      refine zeN (q := ((37, [(0, .ref 54), (1, .int s), (2, .int u), (3, .int l)], [.int 0]), yhp (e_Mo_measureOut s u w) G sz)) 1 rfl ?_
      exact zer rfl rfl
    · rw [c29]
      refine zeN (q := ((37, [(0, .ref 54), (1, .int s), (2, .int u), (3, .int l)], [.int 1]), yhp (e_Mo_measureOut s u w) G sz)) 2 rfl ?_
      exact zer rfl rfl
  · rw [c6]
    refine zeN (q := ((10, [(0, .ref 54), (1, .int s), (2, .int u), (3, .int l)], [.int 0]), yhp w G sz)) 1 rfl ?_
    exact zer rfl rfl
def e_Mo_vertex (x y : Int32) (w : yW) : yW × Int32 := (bif zc .lt x 0 then (w, (-1)) else (bif zc .gt x 255 then (w, (-1)) else (bif zc .lt y 0 then (w, (-1)) else (bif zc .gt y 255 then (w, (-1)) else (bif zc .lt (w.1 54 10) 6 then (wI (wI (wI w 65 (w.1 54 10).toNatClampNeg x) 66 ((wI w 65 (w.1 54 10).toNatClampNeg x).1 54 10).toNatClampNeg y) 54 10 (((wI (wI w 65 (w.1 54 10).toNatClampNeg x) 66 ((wI w 65 (w.1 54 10).toNatClampNeg x).1 54 10).toNatClampNeg y).1 54 10) + 1), (wI (wI (wI w 65 (w.1 54 10).toNatClampNeg x) 66 ((wI w 65 (w.1 54 10).toNatClampNeg x).1 54 10).toNatClampNeg y) 54 10 (((wI (wI w 65 (w.1 54 10).toNatClampNeg x) 66 ((wI w 65 (w.1 54 10).toNatClampNeg x).1 54 10).toNatClampNeg y).1 54 10) + 1)).1 54 10) else (w, (-1)))))))
set_option maxRecDepth 100000 in
theorem r_Mo_vertex {fr lo sz : Nat} {G : List zC} (x y : Int32) (w : yW) (hd0 : 0 ≤ (w.1 54 10).toInt) (hlo : 22 ≤ lo) : zAns (fr + 1) lo 98 [.ref 54, .int x, .int y] (yhp w G sz) (some (.int (e_Mo_vertex x y w).2), yhp (e_Mo_vertex x y w).1 G sz) := by
  unfold e_Mo_vertex
  refine zeb (fr := fr + 0) (M := M_Mo_vertex) rfl (Nat.le_trans (by decide) hlo) rfl ?_
  have e0 : mL M_Mo_vertex = 3 := rfl
  refine zeN (q := ((1, [(0, .ref 54), (1, .int x), (2, .int y)], [.int x]), yhp w G sz)) 1 rfl ?_
  refine zbc (q1 := (31, [(0, .ref 54), (1, .int x), (2, .int y)], [])) (q2 := (4, [(0, .ref 54), (1, .int x), (2, .int y)], [])) (cB := zc .lt x 0) (off := 30) (lv := [(0, .ref 54), (1, .int x), (2, .int y)]) (st := []) rfl rfl rfl rfl rfl (fun c1 => ?_) (fun c1 => ?_)
  · rw [c1]
    refine zeN (q := ((32, [(0, .ref 54), (1, .int x), (2, .int y)], [.int ((-1))]), yhp w G sz)) 1 rfl ?_
    exact zer rfl rfl
  · rw [c1]
    refine zeN (q := ((8, [(0, .ref 54), (1, .int x), (2, .int y)], [.int 255, .int x]), yhp w G sz)) 2 rfl ?_
    refine zbc (q1 := (31, [(0, .ref 54), (1, .int x), (2, .int y)], [])) (q2 := (11, [(0, .ref 54), (1, .int x), (2, .int y)], [])) (cB := zc .gt x 255) (off := 23) (lv := [(0, .ref 54), (1, .int x), (2, .int y)]) (st := []) rfl rfl rfl rfl rfl (fun c8 => ?_) (fun c8 => ?_)
    · rw [c8]
      refine zeN (q := ((32, [(0, .ref 54), (1, .int x), (2, .int y)], [.int ((-1))]), yhp w G sz)) 1 rfl ?_
      exact zer rfl rfl
    · rw [c8]
      refine zeN (q := ((12, [(0, .ref 54), (1, .int x), (2, .int y)], [.int y]), yhp w G sz)) 1 rfl ?_
      refine zbc (q1 := (31, [(0, .ref 54), (1, .int x), (2, .int y)], [])) (q2 := (15, [(0, .ref 54), (1, .int x), (2, .int y)], [])) (cB := zc .lt y 0) (off := 19) (lv := [(0, .ref 54), (1, .int x), (2, .int y)]) (st := []) rfl rfl rfl rfl rfl (fun c12 => ?_) (fun c12 => ?_)
      · rw [c12]
        refine zeN (q := ((32, [(0, .ref 54), (1, .int x), (2, .int y)], [.int ((-1))]), yhp w G sz)) 1 rfl ?_
        exact zer rfl rfl
      · rw [c12]
        refine zeN (q := ((19, [(0, .ref 54), (1, .int x), (2, .int y)], [.int 255, .int y]), yhp w G sz)) 2 rfl ?_
        refine zbc (q1 := (31, [(0, .ref 54), (1, .int x), (2, .int y)], [])) (q2 := (22, [(0, .ref 54), (1, .int x), (2, .int y)], [])) (cB := zc .gt y 255) (off := 12) (lv := [(0, .ref 54), (1, .int x), (2, .int y)]) (st := []) rfl rfl rfl rfl rfl (fun c19 => ?_) (fun c19 => ?_)
        · rw [c19]
          refine zeN (q := ((32, [(0, .ref 54), (1, .int x), (2, .int y)], [.int ((-1))]), yhp w G sz)) 1 rfl ?_
          exact zer rfl rfl
        · rw [c19]
          refine zeN (q := ((23, [(0, .ref 54), (1, .int x), (2, .int y)], [.ref 54]), yhp w G sz)) 1 rfl ?_
          refine ygf (kk := .inr 0) (v := .int (w.1 54 10)) rfl rfl rfl rfl rfl rfl rfl ?_
          refine zeN (q := ((28, [(0, .ref 54), (1, .int x), (2, .int y)], [.int 6, .int (w.1 54 10)]), yhp w G sz)) 1 rfl ?_
          refine zbc (q1 := (33, [(0, .ref 54), (1, .int x), (2, .int y)], [])) (q2 := (31, [(0, .ref 54), (1, .int x), (2, .int y)], [])) (cB := zc .lt (w.1 54 10) 6) (off := 5) (lv := [(0, .ref 54), (1, .int x), (2, .int y)]) (st := []) rfl rfl rfl rfl rfl (fun c28 => ?_) (fun c28 => ?_)
          · rw [c28]
            have hd : zIx (w.1 54 10) 6 := ⟨hd0, Int32.lt_iff_toInt_lt.mp (of_decide_eq_true c28)⟩
            refine zeN (q := ((34, [(0, .ref 54), (1, .int x), (2, .int y)], [.ref 54]), yhp w G sz)) 1 rfl ?_
            refine ygf (kk := .inl (.ref 65)) (v := .ref 65) rfl rfl rfl rfl rfl rfl rfl ?_
            refine zeN (q := ((38, [(0, .ref 54), (1, .int x), (2, .int y)], [.ref 54, .ref 65]), yhp w G sz)) 1 rfl ?_
            refine ygf (kk := .inr 0) (v := .int (w.1 54 10)) rfl rfl rfl rfl rfl rfl rfl ?_
            refine zeN (q := ((42, [(0, .ref 54), (1, .int x), (2, .int y)], [.int x, .int (w.1 54 10), .ref 65]), yhp w G sz)) 1 rfl ?_
            refine yis (N := 6) rfl rfl rfl (by assumption) ?_
            refine zeN (q := ((44, [(0, .ref 54), (1, .int x), (2, .int y)], [.ref 54]), yhp (wI w 65 (w.1 54 10).toNatClampNeg x) G sz)) 1 rfl ?_
            refine ygf (kk := .inl (.ref 66)) (v := .ref 66) rfl rfl rfl rfl rfl rfl rfl ?_
            refine zeN (q := ((48, [(0, .ref 54), (1, .int x), (2, .int y)], [.ref 54, .ref 66]), yhp (wI w 65 (w.1 54 10).toNatClampNeg x) G sz)) 1 rfl ?_
            refine ygf (kk := .inr 0) (v := .int ((wI w 65 (w.1 54 10).toNatClampNeg x).1 54 10)) rfl rfl rfl rfl rfl rfl rfl ?_
            refine zeN (q := ((52, [(0, .ref 54), (1, .int x), (2, .int y)], [.int y, .int ((wI w 65 (w.1 54 10).toNatClampNeg x).1 54 10), .ref 66]), yhp (wI w 65 (w.1 54 10).toNatClampNeg x) G sz)) 1 rfl ?_
            refine yis (N := 6) rfl rfl rfl (by assumption) ?_
            refine zeN (q := ((55, [(0, .ref 54), (1, .int x), (2, .int y)], [.ref 54, .ref 54]), yhp (wI (wI w 65 (w.1 54 10).toNatClampNeg x) 66 ((wI w 65 (w.1 54 10).toNatClampNeg x).1 54 10).toNatClampNeg y) G sz)) 2 rfl ?_
            refine ygf (kk := .inr 0) (v := .int ((wI (wI w 65 (w.1 54 10).toNatClampNeg x) 66 ((wI w 65 (w.1 54 10).toNatClampNeg x).1 54 10).toNatClampNeg y).1 54 10)) rfl rfl rfl rfl rfl rfl rfl ?_
            refine zeN (q := ((60, [(0, .ref 54), (1, .int x), (2, .int y)], [.int (((wI (wI w 65 (w.1 54 10).toNatClampNeg x) 66 ((wI w 65 (w.1 54 10).toNatClampNeg x).1 54 10).toNatClampNeg y).1 54 10) + 1), .ref 54]), yhp (wI (wI w 65 (w.1 54 10).toNatClampNeg x) 66 ((wI w 65 (w.1 54 10).toNatClampNeg x).1 54 10).toNatClampNeg y) G sz)) 2 rfl ?_
            refine ypI (v := ((wI (wI w 65 (w.1 54 10).toNatClampNeg x) 66 ((wI w 65 (w.1 54 10).toNatClampNeg x).1 54 10).toNatClampNeg y).1 54 10) + 1) rfl rfl rfl rfl rfl rfl rfl ?_
            refine zeN (q := ((64, [(0, .ref 54), (1, .int x), (2, .int y)], [.ref 54]), yhp (wI (wI (wI w 65 (w.1 54 10).toNatClampNeg x) 66 ((wI w 65 (w.1 54 10).toNatClampNeg x).1 54 10).toNatClampNeg y) 54 10 (((wI (wI w 65 (w.1 54 10).toNatClampNeg x) 66 ((wI w 65 (w.1 54 10).toNatClampNeg x).1 54 10).toNatClampNeg y).1 54 10) + 1)) G sz)) 1 rfl ?_
            refine ygf (kk := .inr 0) (v := .int ((wI (wI (wI w 65 (w.1 54 10).toNatClampNeg x) 66 ((wI w 65 (w.1 54 10).toNatClampNeg x).1 54 10).toNatClampNeg y) 54 10 (((wI (wI w 65 (w.1 54 10).toNatClampNeg x) 66 ((wI w 65 (w.1 54 10).toNatClampNeg x).1 54 10).toNatClampNeg y).1 54 10) + 1)).1 54 10)) rfl rfl rfl rfl rfl rfl rfl ?_
            exact zer rfl rfl
          · rw [c28]
            refine zeN (q := ((32, [(0, .ref 54), (1, .int x), (2, .int y)], [.int ((-1))]), yhp w G sz)) 1 rfl ?_
            exact zer rfl rfl
