theorem zIx_six {s : Int32} {n : Nat} (h0 : 0 ≤ s.toInt) (h1 : s.toInt ≤ 64) (hn : n = 390) : zIx (6 * s) n := by
  have e : (6 * s).toInt = 6 * s.toInt := z_mul (by show _ ≤ (6 : Int) * s.toInt; omega) (by show (6 : Int) * s.toInt < _; omega)
  unfold zIx
  rw [e]
  omega
def f_Mo_meet_L14 (X Y SO MA : List Int32) (s u : Int32) (i : Int32) (K : Int32) : Nat → Int32 → Int32
  | 0, _ => 0
  | n + 1, j => (bif zc .ge j (f_Mo_sides SO MA u) then (K) else (bif zc .eq (f_Mo_touching X Y (f_Mo_corner MA s i 0) (f_Mo_corner MA s i 1) (f_Mo_corner MA u j 0) (f_Mo_corner MA u j 1)) 0 then (f_Mo_meet_L14 X Y SO MA s u i K n (j + Int32.ofInt 1)) else 1))
theorem b_Mo_meet_L14 (X Y SO MA : List Int32) (s u : Int32) (i : Int32) (K : Int32) (hK : zB K) : ∀ (n : Nat) (j : Int32) , zB (f_Mo_meet_L14 X Y SO MA s u i K n j) := by
  intro n
  induction n with
  | zero => intro j; exact zB0
  | succ n ih => intro j; rw [f_Mo_meet_L14]; exact (zbi hK (zbi (ih (j + Int32.ofInt 1) ) (zB1)))
set_option maxRecDepth 100000 in
theorem s_Mo_meet_L14 {fr lo : Nat} {h : zH} (X Y SO MA : List Int32) (s u : Int32) (i : Int32) (m : Nat) (fs : List Value) (hm : h.1[m]? = some (.inr (8, fs))) (p_sort : Nat) (hf_sort : fs[2]? = some (.ref p_sort)) (ha_sort : h.1[p_sort]? = some (.inl (0, SO.map Value.int))) (p_many : Nat) (hf_many : fs[3]? = some (.ref p_many)) (ha_many : h.1[p_many]? = some (.inl (0, MA.map Value.int))) (p_xs : Nat) (hf_xs : fs[4]? = some (.ref p_xs)) (ha_xs : h.1[p_xs]? = some (.inl (0, X.map Value.int))) (p_ys : Nat) (hf_ys : fs[5]? = some (.ref p_ys)) (ha_ys : h.1[p_ys]? = some (.inl (0, Y.map Value.int))) (hXl : X.length = 390) (hYl : Y.length = 390) (hSl : SO.length = 65) (hMl : MA.length = 65) (hs : zIx s MA.length) (hk1 : 1 ≤ (gI MA s).toInt) (hk2 : (gI MA s).toInt ≤ 6) (hu : zIx u MA.length) (hq1 : 1 ≤ (gI MA u).toInt) (hq2 : (gI MA u).toInt ≤ 6) (h0 : 0 ≤ i.toInt) (h2 : i.toInt < (gI MA s).toInt) (K : Int32) (hK : zRun (fr + 4) lo none M_Mo_meet (85, [(0, .ref m), (1, .int s), (2, .int u), (3, .int i)], []) h (some (.int K), h)) (hlo : 105 ≤ lo) : ∀ (n : Nat) (j : Int32) (k0 : 0 ≤ j.toInt) (k1 : j.toInt ≤ 6) (km : 6 < j.toInt + n), zRun (fr + 4) lo none M_Mo_meet (14, [(0, .ref m), (1, .int s), (2, .int u), (3, .int i), (4, .int j)], []) h (some (.int (f_Mo_meet_L14 X Y SO MA s u i K n j)), h) := by
  intro n
  induction n with
  | zero => intro j k0 k1 km; exfalso; omega
  | succ n ih =>
    intro j k0 k1 km
    rw [f_Mo_meet_L14]
    refine zeN (q := ((18, [(0, .ref m), (1, .int s), (2, .int u), (3, .int i), (4, .int j)], [.int u, .ref m, .int j]), h)) 3 rfl ?_
    refine zec 1 (M' := M_Mo_sides) (qq := ([.ref m, .int u], [.int j])) (s' := (21, [(0, .ref m), (1, .int s), (2, .int u), (3, .int i), (4, .int j)], [.int (f_Mo_sides SO MA u), .int j])) rfl rfl (fun _ => rfl) rfl rfl (zhk rfl (zrc_ok hm) rfl) (s_Mo_sides SO MA u m fs hm p_sort hf_sort ha_sort p_many hf_many ha_many (by omega) (zIx_s hu (by omega)) (by omega)) rfl ?_
    refine zbc (q1 := (85, [(0, .ref m), (1, .int s), (2, .int u), (3, .int i), (4, .int j)], [])) (q2 := (24, [(0, .ref m), (1, .int s), (2, .int u), (3, .int i), (4, .int j)], [])) (cB := zc .ge j (f_Mo_sides SO MA u)) (off := 64) (lv := [(0, .ref m), (1, .int s), (2, .int u), (3, .int i), (4, .int j)]) (st := []) rfl rfl rfl rfl rfl (fun c21 => ?_) (fun c21 => ?_)
    · rw [c21]
      refine zeS [(0, .ref m), (1, .int s), (2, .int u), (3, .int i)] (zsub_pick [0, 1, 2, 3] rfl rfl) ?_
      exact hK
    · rw [c21]
      have hcc := of_decide_eq_false (z_ge c21).symm
      have hms := z_msides (SO := SO) hq1 hq2
      have hj1 := z_inc (a := j) (by omega) (by omega)
      have hnz : ¬ gI MA s = 0 := fun e => by rw [e] at hk1; exact absurd hk1 (by decide)
      have hnzu : ¬ gI MA u = 0 := fun e => by rw [e] at hq1; exact absurd hq1 (by decide)
      have hA := zIx_corner (MA := MA) (s := s) (j := i) (e := 0) hs.1 (by have := hs.2; omega) hk1 hk2 h0 (by omega) (by decide) (by decide) hXl
      have hB := zIx_corner (MA := MA) (s := s) (j := i) (e := 1) hs.1 (by have := hs.2; omega) hk1 hk2 h0 (by omega) (by decide) (by decide) hXl
      have hC := zIx_corner (MA := MA) (s := u) (j := j) (e := 0) hu.1 (by have := hu.2; omega) hq1 hq2 k0 (by omega) (by decide) (by decide) hXl
      have hD := zIx_corner (MA := MA) (s := u) (j := j) (e := 1) hu.1 (by have := hu.2; omega) hq1 hq2 k0 (by omega) (by decide) (by decide) hXl
      refine zeN (q := ((28, [(0, .ref m), (1, .int s), (2, .int u), (3, .int i), (4, .int j)], [.int 0, .int i, .int s, .ref m]), h)) 4 rfl ?_
      refine zec 1 (M' := M_Mo_corner) (qq := ([.ref m, .int s, .int i, .int 0], [])) (s' := (31, [(0, .ref m), (1, .int s), (2, .int u), (3, .int i), (4, .int j)], [.int (f_Mo_corner MA s i 0)])) rfl rfl (fun _ => rfl) rfl rfl (zhk rfl (zrc_ok hm) rfl) (s_Mo_corner MA s i 0 m fs hm p_many hf_many ha_many hs hnz (by omega)) rfl ?_
      refine zeN (q := ((37, [(5, .int (f_Mo_corner MA s i 0)), (0, .ref m), (1, .int s), (2, .int u), (3, .int i), (4, .int j)], [.int 1, .int i, .int s, .ref m]), h)) 5 rfl ?_
      refine zec 1 (M' := M_Mo_corner) (qq := ([.ref m, .int s, .int i, .int 1], [])) (s' := (40, [(5, .int (f_Mo_corner MA s i 0)), (0, .ref m), (1, .int s), (2, .int u), (3, .int i), (4, .int j)], [.int (f_Mo_corner MA s i 1)])) rfl rfl (fun _ => rfl) rfl rfl (zhk rfl (zrc_ok hm) rfl) (s_Mo_corner MA s i 1 m fs hm p_many hf_many ha_many hs hnz (by omega)) rfl ?_
      refine zeN (q := ((47, [(6, .int (f_Mo_corner MA s i 1)), (5, .int (f_Mo_corner MA s i 0)), (0, .ref m), (1, .int s), (2, .int u), (3, .int i), (4, .int j)], [.int 0, .int j, .int u, .ref m]), h)) 5 rfl ?_
      refine zec 1 (M' := M_Mo_corner) (qq := ([.ref m, .int u, .int j, .int 0], [])) (s' := (50, [(6, .int (f_Mo_corner MA s i 1)), (5, .int (f_Mo_corner MA s i 0)), (0, .ref m), (1, .int s), (2, .int u), (3, .int i), (4, .int j)], [.int (f_Mo_corner MA u j 0)])) rfl rfl (fun _ => rfl) rfl rfl (zhk rfl (zrc_ok hm) rfl) (s_Mo_corner MA u j 0 m fs hm p_many hf_many ha_many hu hnzu (by omega)) rfl ?_
      refine zeN (q := ((57, [(7, .int (f_Mo_corner MA u j 0)), (6, .int (f_Mo_corner MA s i 1)), (5, .int (f_Mo_corner MA s i 0)), (0, .ref m), (1, .int s), (2, .int u), (3, .int i), (4, .int j)], [.int 1, .int j, .int u, .ref m]), h)) 5 rfl ?_
      refine zec 1 (M' := M_Mo_corner) (qq := ([.ref m, .int u, .int j, .int 1], [])) (s' := (60, [(7, .int (f_Mo_corner MA u j 0)), (6, .int (f_Mo_corner MA s i 1)), (5, .int (f_Mo_corner MA s i 0)), (0, .ref m), (1, .int s), (2, .int u), (3, .int i), (4, .int j)], [.int (f_Mo_corner MA u j 1)])) rfl rfl (fun _ => rfl) rfl rfl (zhk rfl (zrc_ok hm) rfl) (s_Mo_corner MA u j 1 m fs hm p_many hf_many ha_many hu hnzu (by omega)) rfl ?_
      refine zeN (q := ((71, [(8, .int (f_Mo_corner MA u j 1)), (7, .int (f_Mo_corner MA u j 0)), (6, .int (f_Mo_corner MA s i 1)), (5, .int (f_Mo_corner MA s i 0)), (0, .ref m), (1, .int s), (2, .int u), (3, .int i), (4, .int j)], [.int (f_Mo_corner MA u j 1), .int (f_Mo_corner MA u j 0), .int (f_Mo_corner MA s i 1), .int (f_Mo_corner MA s i 0), .ref m]), h)) 6 rfl ?_
      refine zec 1 (M' := M_Mo_touching) (qq := ([.ref m, .int (f_Mo_corner MA s i 0), .int (f_Mo_corner MA s i 1), .int (f_Mo_corner MA u j 0), .int (f_Mo_corner MA u j 1)], [])) (s' := (74, [(8, .int (f_Mo_corner MA u j 1)), (7, .int (f_Mo_corner MA u j 0)), (6, .int (f_Mo_corner MA s i 1)), (5, .int (f_Mo_corner MA s i 0)), (0, .ref m), (1, .int s), (2, .int u), (3, .int i), (4, .int j)], [.int (f_Mo_touching X Y (f_Mo_corner MA s i 0) (f_Mo_corner MA s i 1) (f_Mo_corner MA u j 0) (f_Mo_corner MA u j 1))])) rfl rfl (fun _ => rfl) rfl rfl (zhk rfl (zrc_ok hm) rfl) (s_Mo_touching X Y (f_Mo_corner MA s i 0) (f_Mo_corner MA s i 1) (f_Mo_corner MA u j 0) (f_Mo_corner MA u j 1) m fs hm p_xs hf_xs ha_xs p_ys hf_ys ha_ys (by omega) hA hB hC hD (by omega)) rfl ?_
      refine zbc (q1 := (79, [(8, .int (f_Mo_corner MA u j 1)), (7, .int (f_Mo_corner MA u j 0)), (6, .int (f_Mo_corner MA s i 1)), (5, .int (f_Mo_corner MA s i 0)), (0, .ref m), (1, .int s), (2, .int u), (3, .int i), (4, .int j)], [])) (q2 := (77, [(8, .int (f_Mo_corner MA u j 1)), (7, .int (f_Mo_corner MA u j 0)), (6, .int (f_Mo_corner MA s i 1)), (5, .int (f_Mo_corner MA s i 0)), (0, .ref m), (1, .int s), (2, .int u), (3, .int i), (4, .int j)], [])) (cB := zc .eq (f_Mo_touching X Y (f_Mo_corner MA s i 0) (f_Mo_corner MA s i 1) (f_Mo_corner MA u j 0) (f_Mo_corner MA u j 1)) 0) (off := 5) (lv := [(8, .int (f_Mo_corner MA u j 1)), (7, .int (f_Mo_corner MA u j 0)), (6, .int (f_Mo_corner MA s i 1)), (5, .int (f_Mo_corner MA s i 0)), (0, .ref m), (1, .int s), (2, .int u), (3, .int i), (4, .int j)]) (st := []) rfl rfl rfl rfl rfl (fun c74 => ?_) (fun c74 => ?_)
      · rw [c74]
        refine zeN (q := ((14, [(4, .int (j + Int32.ofInt 1)), (8, .int (f_Mo_corner MA u j 1)), (7, .int (f_Mo_corner MA u j 0)), (6, .int (f_Mo_corner MA s i 1)), (5, .int (f_Mo_corner MA s i 0)), (0, .ref m), (1, .int s), (2, .int u), (3, .int i)], []), h)) 2 rfl ?_
        refine zeS [(0, .ref m), (1, .int s), (2, .int u), (3, .int i), (4, .int (j + Int32.ofInt 1))] (zsub_pick [5, 6, 7, 8, 0] rfl rfl) ?_
        exact ih (j + Int32.ofInt 1) (by omega) (by omega) (by omega)
      · rw [c74]
        refine zeN (q := ((78, [(8, .int (f_Mo_corner MA u j 1)), (7, .int (f_Mo_corner MA u j 0)), (6, .int (f_Mo_corner MA s i 1)), (5, .int (f_Mo_corner MA s i 0)), (0, .ref m), (1, .int s), (2, .int u), (3, .int i), (4, .int j)], [.int 1]), h)) 1 rfl ?_
        exact zer rfl rfl
def f_Mo_meet_L2 (X Y SO MA : List Int32) (s u : Int32)  : Nat → Int32 → Int32
  | 0, _ => 0
  | n + 1, i => (bif zc .ge i (f_Mo_sides SO MA s) then (bif zc .ne (gI SO u) 2 then (bif zc .ne (gI SO s) 2 then 0 else bif zc .eq (f_Mo_within X Y MA s (6 * u)) 0 then 0 else 1) else (bif zc .ne (f_Mo_within X Y MA u (6 * s)) 0 then 1 else (bif zc .ne (gI SO s) 2 then 0 else bif zc .eq (f_Mo_within X Y MA s (6 * u)) 0 then 0 else 1))) else (f_Mo_meet_L14 X Y SO MA s u i ((f_Mo_meet_L2 X Y SO MA s u n (i + Int32.ofInt 1))) 7 0))
theorem b_Mo_meet_L2 (X Y SO MA : List Int32) (s u : Int32)  : ∀ (n : Nat) (i : Int32) , zB (f_Mo_meet_L2 X Y SO MA s u n i) := by
  intro n
  induction n with
  | zero => intro i; exact zB0
  | succ n ih => intro i; rw [f_Mo_meet_L2]; exact (zbi (zbi (zbi (zB0) (zbb _)) (zbi (zB1) (zbi (zB0) (zbb _)))) (b_Mo_meet_L14 X Y SO MA s u i ((f_Mo_meet_L2 X Y SO MA s u n (i + Int32.ofInt 1))) (ih (i + Int32.ofInt 1) ) 7 0))
set_option maxRecDepth 100000 in
theorem s_Mo_meet_L2 {fr lo : Nat} {h : zH} (X Y SO MA : List Int32) (s u : Int32)  (m : Nat) (fs : List Value) (hm : h.1[m]? = some (.inr (8, fs))) (p_sort : Nat) (hf_sort : fs[2]? = some (.ref p_sort)) (ha_sort : h.1[p_sort]? = some (.inl (0, SO.map Value.int))) (p_many : Nat) (hf_many : fs[3]? = some (.ref p_many)) (ha_many : h.1[p_many]? = some (.inl (0, MA.map Value.int))) (p_xs : Nat) (hf_xs : fs[4]? = some (.ref p_xs)) (ha_xs : h.1[p_xs]? = some (.inl (0, X.map Value.int))) (p_ys : Nat) (hf_ys : fs[5]? = some (.ref p_ys)) (ha_ys : h.1[p_ys]? = some (.inl (0, Y.map Value.int))) (hXl : X.length = 390) (hYl : Y.length = 390) (hSl : SO.length = 65) (hMl : MA.length = 65) (hs : zIx s MA.length) (hk1 : 1 ≤ (gI MA s).toInt) (hk2 : (gI MA s).toInt ≤ 6) (hu : zIx u MA.length) (hq1 : 1 ≤ (gI MA u).toInt) (hq2 : (gI MA u).toInt ≤ 6)  (hlo : 105 ≤ lo) : ∀ (n : Nat) (i : Int32) (h0 : 0 ≤ i.toInt) (h1 : i.toInt ≤ 6) (hm2 : 6 < i.toInt + n), zRun (fr + 4) lo none M_Mo_meet (2, [(0, .ref m), (1, .int s), (2, .int u), (3, .int i)], []) h (some (.int (f_Mo_meet_L2 X Y SO MA s u n i)), h) := by
  intro n
  induction n with
  | zero => intro i h0 h1 hm2; exfalso; omega
  | succ n ih =>
    intro i h0 h1 hm2
    rw [f_Mo_meet_L2]
    refine zeN (q := ((5, [(0, .ref m), (1, .int s), (2, .int u), (3, .int i)], [.int s, .ref m, .int i]), h)) 3 rfl ?_
    refine zec 1 (M' := M_Mo_sides) (qq := ([.ref m, .int s], [.int i])) (s' := (8, [(0, .ref m), (1, .int s), (2, .int u), (3, .int i)], [.int (f_Mo_sides SO MA s), .int i])) rfl rfl (fun _ => rfl) rfl rfl (zhk rfl (zrc_ok hm) rfl) (s_Mo_sides SO MA s m fs hm p_sort hf_sort ha_sort p_many hf_many ha_many (by omega) (zIx_s hs (by omega)) (by omega)) rfl ?_
    refine zbc (q1 := (91, [(0, .ref m), (1, .int s), (2, .int u), (3, .int i)], [])) (q2 := (11, [(0, .ref m), (1, .int s), (2, .int u), (3, .int i)], [])) (cB := zc .ge i (f_Mo_sides SO MA s)) (off := 83) (lv := [(0, .ref m), (1, .int s), (2, .int u), (3, .int i)]) (st := []) rfl rfl rfl rfl rfl (fun c8 => ?_) (fun c8 => ?_)
    · rw [c8]
      have hsS : zIx s SO.length := zIx_s hs (by omega)
      have huS : zIx u SO.length := zIx_s hu (by omega)
      refine zeN (q := ((92, [(0, .ref m), (1, .int s), (2, .int u), (3, .int i)], [.ref m]), h)) 1 rfl ?_
      refine zegf (fs := fs) (v := .ref p_sort) rfl rfl rfl rfl hm hf_sort ?_
      refine zeN (q := ((96, [(0, .ref m), (1, .int s), (2, .int u), (3, .int i)], [.int u, .ref p_sort]), h)) 1 rfl ?_
      refine zeia (l := SO.map Value.int) (k := u.toNatClampNeg) (v := .int (gI SO u)) rfl rfl ha_sort (zIx_a huS) (zIx_b huS) ?_
      refine zeN (q := ((98, [(0, .ref m), (1, .int s), (2, .int u), (3, .int i)], [.int 2, .int (gI SO u)]), h)) 1 rfl ?_
      refine zbc (q1 := (113, [(0, .ref m), (1, .int s), (2, .int u), (3, .int i)], [])) (q2 := (101, [(0, .ref m), (1, .int s), (2, .int u), (3, .int i)], [])) (cB := zc .ne (gI SO u) 2) (off := 15) (lv := [(0, .ref m), (1, .int s), (2, .int u), (3, .int i)]) (st := []) rfl rfl rfl rfl rfl (fun c98 => ?_) (fun c98 => ?_)
      · rw [c98]
        refine zeN (q := ((114, [(0, .ref m), (1, .int s), (2, .int u), (3, .int i)], [.ref m]), h)) 1 rfl ?_
        refine zegf (fs := fs) (v := .ref p_sort) rfl rfl rfl rfl hm hf_sort ?_
        refine zeN (q := ((118, [(0, .ref m), (1, .int s), (2, .int u), (3, .int i)], [.int s, .ref p_sort]), h)) 1 rfl ?_
        refine zeia (l := SO.map Value.int) (k := s.toNatClampNeg) (v := .int (gI SO s)) rfl rfl ha_sort (zIx_a hsS) (zIx_b hsS) ?_
        refine zeN (q := ((120, [(0, .ref m), (1, .int s), (2, .int u), (3, .int i)], [.int 2, .int (gI SO s)]), h)) 1 rfl ?_
        refine zbc (q1 := (139, [(0, .ref m), (1, .int s), (2, .int u), (3, .int i)], [])) (q2 := (123, [(0, .ref m), (1, .int s), (2, .int u), (3, .int i)], [])) (cB := zc .ne (gI SO s) 2) (off := 19) (lv := [(0, .ref m), (1, .int s), (2, .int u), (3, .int i)]) (st := []) rfl rfl rfl rfl rfl (fun c120 => ?_) (fun c120 => ?_)
        · rw [c120]
          refine zeN (q := ((140, [(0, .ref m), (1, .int s), (2, .int u), (3, .int i)], [.int 0]), h)) 1 rfl ?_
          exact zer rfl rfl
        · rw [c120]
          refine zeN (q := ((129, [(0, .ref m), (1, .int s), (2, .int u), (3, .int i)], [.int (6 * u), .int s, .ref m]), h)) 5 rfl ?_
          refine zec 1 (M' := M_Mo_within) (qq := ([.ref m, .int s, .int (6 * u)], [])) (s' := (132, [(0, .ref m), (1, .int s), (2, .int u), (3, .int i)], [.int (f_Mo_within X Y MA s (6 * u))])) rfl rfl (fun _ => rfl) rfl rfl (zhk rfl (zrc_ok hm) rfl) (s_Mo_within X Y MA s (6 * u) m fs hm p_many hf_many ha_many p_xs hf_xs ha_xs p_ys hf_ys ha_ys hXl hYl hs (by have := hs.2; omega) hk1 hk2 (zIx_six hu.1 (by have := hu.2; omega) hXl) (by omega)) rfl ?_
          refine zdia (q1 := (139, [(0, .ref m), (1, .int s), (2, .int u), (3, .int i)], [])) (q2 := (135, [(0, .ref m), (1, .int s), (2, .int u), (3, .int i)], [])) (cB := zc .eq (f_Mo_within X Y MA s (6 * u)) 0) (off := 7) (lv := [(0, .ref m), (1, .int s), (2, .int u), (3, .int i)]) (st := []) (lv2 := [(0, .ref m), (1, .int s), (2, .int u), (3, .int i)]) (st2 := []) (J := 140) (vA := 0) (vB := 1) 1 2 rfl rfl rfl rfl rfl rfl rfl ?_
          exact zer rfl (zreb (zbb _))
      · rw [c98]
        refine zeN (q := ((107, [(0, .ref m), (1, .int s), (2, .int u), (3, .int i)], [.int (6 * s), .int u, .ref m]), h)) 5 rfl ?_
        refine zec 1 (M' := M_Mo_within) (qq := ([.ref m, .int u, .int (6 * s)], [])) (s' := (110, [(0, .ref m), (1, .int s), (2, .int u), (3, .int i)], [.int (f_Mo_within X Y MA u (6 * s))])) rfl rfl (fun _ => rfl) rfl rfl (zhk rfl (zrc_ok hm) rfl) (s_Mo_within X Y MA u (6 * s) m fs hm p_many hf_many ha_many p_xs hf_xs ha_xs p_ys hf_ys ha_ys hXl hYl hu (by have := hu.2; omega) hq1 hq2 (zIx_six hs.1 (by have := hs.2; omega) hXl) (by omega)) rfl ?_
        refine zbc (q1 := (135, [(0, .ref m), (1, .int s), (2, .int u), (3, .int i)], [])) (q2 := (113, [(0, .ref m), (1, .int s), (2, .int u), (3, .int i)], [])) (cB := zc .ne (f_Mo_within X Y MA u (6 * s)) 0) (off := 25) (lv := [(0, .ref m), (1, .int s), (2, .int u), (3, .int i)]) (st := []) rfl rfl rfl rfl rfl (fun c110 => ?_) (fun c110 => ?_)
        · rw [c110]
          refine zeN (q := ((140, [(0, .ref m), (1, .int s), (2, .int u), (3, .int i)], [.int 1]), h)) 2 rfl ?_
          exact zer rfl rfl
        · rw [c110]
          refine zeN (q := ((114, [(0, .ref m), (1, .int s), (2, .int u), (3, .int i)], [.ref m]), h)) 1 rfl ?_
          refine zegf (fs := fs) (v := .ref p_sort) rfl rfl rfl rfl hm hf_sort ?_
          refine zeN (q := ((118, [(0, .ref m), (1, .int s), (2, .int u), (3, .int i)], [.int s, .ref p_sort]), h)) 1 rfl ?_
          refine zeia (l := SO.map Value.int) (k := s.toNatClampNeg) (v := .int (gI SO s)) rfl rfl ha_sort (zIx_a hsS) (zIx_b hsS) ?_
          refine zeN (q := ((120, [(0, .ref m), (1, .int s), (2, .int u), (3, .int i)], [.int 2, .int (gI SO s)]), h)) 1 rfl ?_
          refine zbc (q1 := (139, [(0, .ref m), (1, .int s), (2, .int u), (3, .int i)], [])) (q2 := (123, [(0, .ref m), (1, .int s), (2, .int u), (3, .int i)], [])) (cB := zc .ne (gI SO s) 2) (off := 19) (lv := [(0, .ref m), (1, .int s), (2, .int u), (3, .int i)]) (st := []) rfl rfl rfl rfl rfl (fun c120 => ?_) (fun c120 => ?_)
          · rw [c120]
            refine zeN (q := ((140, [(0, .ref m), (1, .int s), (2, .int u), (3, .int i)], [.int 0]), h)) 1 rfl ?_
            exact zer rfl rfl
          · rw [c120]
            refine zeN (q := ((129, [(0, .ref m), (1, .int s), (2, .int u), (3, .int i)], [.int (6 * u), .int s, .ref m]), h)) 5 rfl ?_
            refine zec 1 (M' := M_Mo_within) (qq := ([.ref m, .int s, .int (6 * u)], [])) (s' := (132, [(0, .ref m), (1, .int s), (2, .int u), (3, .int i)], [.int (f_Mo_within X Y MA s (6 * u))])) rfl rfl (fun _ => rfl) rfl rfl (zhk rfl (zrc_ok hm) rfl) (s_Mo_within X Y MA s (6 * u) m fs hm p_many hf_many ha_many p_xs hf_xs ha_xs p_ys hf_ys ha_ys hXl hYl hs (by have := hs.2; omega) hk1 hk2 (zIx_six hu.1 (by have := hu.2; omega) hXl) (by omega)) rfl ?_
            refine zdia (q1 := (139, [(0, .ref m), (1, .int s), (2, .int u), (3, .int i)], [])) (q2 := (135, [(0, .ref m), (1, .int s), (2, .int u), (3, .int i)], [])) (cB := zc .eq (f_Mo_within X Y MA s (6 * u)) 0) (off := 7) (lv := [(0, .ref m), (1, .int s), (2, .int u), (3, .int i)]) (st := []) (lv2 := [(0, .ref m), (1, .int s), (2, .int u), (3, .int i)]) (st2 := []) (J := 140) (vA := 0) (vB := 1) 1 2 rfl rfl rfl rfl rfl rfl rfl ?_
            exact zer rfl (zreb (zbb _))
    · rw [c8]
      have hcc := of_decide_eq_false (z_ge c8).symm
      have hms := z_msides (SO := SO) hk1 hk2
      have hi1 := z_inc (a := i) (by omega) (by omega)
      have h2 : i.toInt < (gI MA s).toInt := by omega
      refine zeN (q := ((14, [(4, .int 0), (0, .ref m), (1, .int s), (2, .int u), (3, .int i)], []), h)) 2 rfl ?_
      have hK : zRun (fr + 4) lo none M_Mo_meet (85, [(0, .ref m), (1, .int s), (2, .int u), (3, .int i)], []) h (some (.int ((f_Mo_meet_L2 X Y SO MA s u n (i + Int32.ofInt 1)))), h) := by
        refine zeN (q := ((2, [(3, .int (i + Int32.ofInt 1)), (0, .ref m), (1, .int s), (2, .int u)], []), h)) 2 rfl ?_
        refine zeS [(0, .ref m), (1, .int s), (2, .int u), (3, .int (i + Int32.ofInt 1))] (zsub_pick [1, 2, 3, 0] rfl rfl) ?_
        exact ih (i + Int32.ofInt 1) (by omega) (by omega) (by omega)
      refine zeS [(0, .ref m), (1, .int s), (2, .int u), (3, .int i), (4, .int 0)] (zsub_pick [1, 2, 3, 4, 0] rfl rfl) ?_
      exact s_Mo_meet_L14 X Y SO MA s u i m fs hm p_sort hf_sort ha_sort p_many hf_many ha_many p_xs hf_xs ha_xs p_ys hf_ys ha_ys hXl hYl hSl hMl hs hk1 hk2 hu hq1 hq2 h0 h2 ((f_Mo_meet_L2 X Y SO MA s u n (i + Int32.ofInt 1))) hK (by omega) 7 0 (by decide) (by decide) (by decide)
def f_Mo_meet (X Y SO MA : List Int32) (s u : Int32) : Int32 := (f_Mo_meet_L2 X Y SO MA s u 7 0)
theorem b_Mo_meet (X Y SO MA : List Int32) (s u : Int32) : zB (f_Mo_meet X Y SO MA s u) := by unfold f_Mo_meet; exact (b_Mo_meet_L2 X Y SO MA s u 7 0 )
set_option maxRecDepth 100000 in
theorem s_Mo_meet {fr lo : Nat} {h : zH} (X Y SO MA : List Int32) (s u : Int32) (m : Nat) (fs : List Value) (hm : h.1[m]? = some (.inr (8, fs))) (p_sort : Nat) (hf_sort : fs[2]? = some (.ref p_sort)) (ha_sort : h.1[p_sort]? = some (.inl (0, SO.map Value.int))) (p_many : Nat) (hf_many : fs[3]? = some (.ref p_many)) (ha_many : h.1[p_many]? = some (.inl (0, MA.map Value.int))) (p_xs : Nat) (hf_xs : fs[4]? = some (.ref p_xs)) (ha_xs : h.1[p_xs]? = some (.inl (0, X.map Value.int))) (p_ys : Nat) (hf_ys : fs[5]? = some (.ref p_ys)) (ha_ys : h.1[p_ys]? = some (.inl (0, Y.map Value.int))) (hXl : X.length = 390) (hYl : Y.length = 390) (hSl : SO.length = 65) (hMl : MA.length = 65) (hs : zIx s MA.length) (hk1 : 1 ≤ (gI MA s).toInt) (hk2 : (gI MA s).toInt ≤ 6) (hu : zIx u MA.length) (hq1 : 1 ≤ (gI MA u).toInt) (hq2 : (gI MA u).toInt ≤ 6) (hlo : 133 ≤ lo) : zAns (fr + 5) lo 118 [.ref m, .int s, .int u] h (some (.int (f_Mo_meet X Y SO MA s u)), h) := by
  unfold f_Mo_meet
  refine zeb (fr := fr + 4) (M := M_Mo_meet) rfl (Nat.le_trans (by decide) hlo) rfl ?_
  have e0 : mL M_Mo_meet = 9 := rfl
  refine zeN (q := ((2, [(3, .int 0), (0, .ref m), (1, .int s), (2, .int u)], []), h)) 2 rfl ?_
  refine zeS [(0, .ref m), (1, .int s), (2, .int u), (3, .int 0)] (zsub_pick [1, 2, 3, 0] rfl rfl) ?_
  exact s_Mo_meet_L2 X Y SO MA s u m fs hm p_sort hf_sort ha_sort p_many hf_many ha_many p_xs hf_xs ha_xs p_ys hf_ys ha_ys hXl hYl hSl hMl hs hk1 hk2 hu hq1 hq2 (by omega) 7 0 (by decide) (by decide) (by decide)
