theorem yA_eq {w w' : yW} {c N : Nat} (h : w.1 = w'.1) : yA w c N = yA w' c N := by unfold yA; rw [h]
theorem wL_1 {w : yW} {c j : Nat} {v : Int64} : (wL w c j v).1 = w.1 := rfl
theorem yf1 {b : Bool} {x y : yW} {W : Nat → Nat → Int32} (hx : x.1 = W) (hy : y.1 = W) : (bif b then x else y).1 = W := by cases b <;> assumption
theorem yf3 {α : Type} {b : Bool} {x y : yW × α} {w : yW} (hx : x.1 = w) (hy : y.1 = w) : (bif b then x else y).1 = w := by cases b <;> assumption
theorem i_Mo_reach_122 (ux uy vx vy al ln wx wy : Int64) (w : yW) : (g_Mo_reach_122 ux uy vx vy al ln wx wy w).1 = w := by unfold g_Mo_reach_122; first | exact yf3 rfl (yf3 rfl rfl) | exact yf3 (yf3 rfl rfl) rfl
theorem i_Mo_reach_190 (al ln t : Int64) (w : yW) : (g_Mo_reach_190 al ln t w).1 = w := by unfold g_Mo_reach_190; first | exact yf3 rfl (yf3 rfl rfl) | exact yf3 (yf3 rfl rfl) rfl
theorem i_Mo_reach_213 (t u : Int64) (w : yW) : (g_Mo_reach_213 t u w).1 = w.1 := by unfold g_Mo_reach_213; exact yf1 rfl rfl
theorem i_Mo_reach (a b c : Int32) (w : yW) : (e_Mo_reach a b c w).1 = w.1 := by
  unfold e_Mo_reach
  rw [i_Mo_reach_213, i_Mo_reach_190, i_Mo_reach_122]
def g_Mo_measureOut_0 (s u : Int32) (w : yW)  : yW := (bif zc .eq (f_Mo_meet (yA (wL w 54 14 1) 59 390) (yA (wL w 54 14 1) 60 390) (yA (wL w 54 14 1) 57 65) (yA (wL w 54 14 1) 58 65) s u) 0 then wL (wL w 54 14 1) 54 13 1000000 else wL (wL w 54 14 1) 54 13 0)
set_option maxRecDepth 100000 in
theorem t_Mo_measureOut_0 {fr lo sz : Nat} {G : List zC} {r : Option Value × zH} (s u : Int32) (w : yW)  (hs : zIx s 65) (hk1 : 1 ≤ (gI (yA w 58 65) s).toInt) (hk2 : (gI (yA w 58 65) s).toInt ≤ 6) (hu : zIx u 65) (hq1 : 1 ≤ (gI (yA w 58 65) u).toInt) (hq2 : (gI (yA w 58 65) u).toInt ≤ 6) (hlo : 133 ≤ lo) (k : zRun (fr + 5) lo none M_Mo_measureOut (25, [(0, .ref 54), (1, .int s), (2, .int u)], []) (yhp (g_Mo_measureOut_0 s u w ) G sz) r) : zRun (fr + 5) lo none M_Mo_measureOut (0, [(0, .ref 54), (1, .int s), (2, .int u)], []) (yhp w G sz) r := by
  unfold g_Mo_measureOut_0 at k
  refine zeN (q := ((2, [(0, .ref 54), (1, .int s), (2, .int u)], [.long 1, .ref 54]), yhp w G sz)) 2 rfl ?_
  refine ypL (v := 1) rfl rfl rfl rfl rfl rfl rfl ?_
  refine zeN (q := ((9, [(0, .ref 54), (1, .int s), (2, .int u)], [.int u, .int s, .ref 54, .ref 54]), yhp (wL w 54 14 1) G sz)) 4 rfl ?_
  refine zec 1 (M' := M_Mo_meet) (qq := ([.ref 54, .int s, .int u], [.ref 54])) (s' := (12, [(0, .ref 54), (1, .int s), (2, .int u)], [.int (f_Mo_meet (yA (wL w 54 14 1) 59 390) (yA (wL w 54 14 1) 60 390) (yA (wL w 54 14 1) 57 65) (yA (wL w 54 14 1) 58 65) s u), .ref 54])) rfl rfl (fun _ => rfl) rfl rfl (zhk rfl (zrc_ok (yhp_o rfl)) rfl) (y_meet s u hs hk1 hk2 hu hq1 hq2 (by omega)) rfl ?_
  refine zbc (q1 := (19, [(0, .ref 54), (1, .int s), (2, .int u)], [.ref 54])) (q2 := (15, [(0, .ref 54), (1, .int s), (2, .int u)], [.ref 54])) (cB := zc .eq (f_Mo_meet (yA (wL w 54 14 1) 59 390) (yA (wL w 54 14 1) 60 390) (yA (wL w 54 14 1) 57 65) (yA (wL w 54 14 1) 58 65) s u) 0) (off := 7) (lv := [(0, .ref 54), (1, .int s), (2, .int u)]) (st := [.ref 54]) rfl rfl rfl rfl rfl (fun c12 => ?_) (fun c12 => ?_)
  · rw [c12] at k
    refine zeN (q := ((22, [(0, .ref 54), (1, .int s), (2, .int u)], [.long 1000000, .ref 54]), yhp (wL w 54 14 1) G sz)) 1 rfl ?_
    refine ypL (v := 1000000) rfl rfl rfl rfl rfl rfl rfl ?_
    exact k
  · rw [c12] at k
    refine zeN (q := ((22, [(0, .ref 54), (1, .int s), (2, .int u)], [.long 0, .ref 54]), yhp (wL w 54 14 1) G sz)) 2 rfl ?_
    refine ypL (v := 0) rfl rfl rfl rfl rfl rfl rfl ?_
    exact k
def g_Mo_measureOut_49 (w0 : yW) (s u : Int32) (i j : Int32) (w : yW)  : yW := e_Mo_reach (f_Mo_corner (yA w 58 65) u j 0) (f_Mo_corner (yA w 58 65) u j 1) (f_Mo_corner (yA w 58 65) s i 1) (e_Mo_reach (f_Mo_corner (yA w 58 65) u j 0) (f_Mo_corner (yA w 58 65) u j 1) (f_Mo_corner (yA w 58 65) s i 0) (e_Mo_reach (f_Mo_corner (yA w 58 65) s i 0) (f_Mo_corner (yA w 58 65) s i 1) (f_Mo_corner (yA w 58 65) u j 1) (e_Mo_reach (f_Mo_corner (yA w 58 65) s i 0) (f_Mo_corner (yA w 58 65) s i 1) (f_Mo_corner (yA w 58 65) u j 0) w)))
set_option maxRecDepth 100000 in
theorem t_Mo_measureOut_49 {fr lo sz : Nat} {G : List zC} {r : Option Value × zH} (w0 : yW) (s u : Int32) (i j : Int32) (w : yW)  (hs : zIx s 65) (hk1 : 1 ≤ (gI (yA w0 58 65) s).toInt) (hk2 : (gI (yA w0 58 65) s).toInt ≤ 6) (hu : zIx u 65) (hq1 : 1 ≤ (gI (yA w0 58 65) u).toInt) (hq2 : (gI (yA w0 58 65) u).toInt ≤ 6) (hw : w.1 = w0.1) (h0 : 0 ≤ i.toInt) (h2 : i.toInt ≤ 6) (k0 : 0 ≤ j.toInt) (k2 : j.toInt ≤ 6) (hlo : 133 ≤ lo) (k : zRun (fr + 5) lo none M_Mo_measureOut (127, [(0, .ref 54), (1, .int s), (2, .int u), (3, .int i), (4, .int j)], []) (yhp (g_Mo_measureOut_49 w0 s u i j w ) G sz) r) : zRun (fr + 5) lo none M_Mo_measureOut (49, [(0, .ref 54), (1, .int s), (2, .int u), (3, .int i), (4, .int j)], []) (yhp w G sz) r := by
  unfold g_Mo_measureOut_49 at k
  have eM : yA w 58 65 = yA w0 58 65 := yA_eq hw
  have hnz : ¬ gI (yA w 58 65) s = 0 := fun e => by rw [eM] at e; rw [e] at hk1; exact absurd hk1 (by decide)
  have hnzu : ¬ gI (yA w 58 65) u = 0 := fun e => by rw [eM] at e; rw [e] at hq1; exact absurd hq1 (by decide)
  have hA : zIx (f_Mo_corner (yA w 58 65) s i 0) 390 := by rw [eM]; exact zIx_corner (s := s) (j := i) (e := 0) hs.1 (by have := hs.2; omega) hk1 hk2 h0 (by omega) (by decide) (by decide) rfl
  have hB : zIx (f_Mo_corner (yA w 58 65) s i 1) 390 := by rw [eM]; exact zIx_corner (s := s) (j := i) (e := 1) hs.1 (by have := hs.2; omega) hk1 hk2 h0 (by omega) (by decide) (by decide) rfl
  have hC : zIx (f_Mo_corner (yA w 58 65) u j 0) 390 := by rw [eM]; exact zIx_corner (s := u) (j := j) (e := 0) hu.1 (by have := hu.2; omega) hq1 hq2 k0 (by omega) (by decide) (by decide) rfl
  have hD : zIx (f_Mo_corner (yA w 58 65) u j 1) 390 := by rw [eM]; exact zIx_corner (s := u) (j := j) (e := 1) hu.1 (by have := hu.2; omega) hq1 hq2 k0 (by omega) (by decide) (by decide) rfl
  refine zeN (q := ((53, [(0, .ref 54), (1, .int s), (2, .int u), (3, .int i), (4, .int j)], [.int 0, .int i, .int s, .ref 54]), yhp w G sz)) 4 rfl ?_
  refine zec 1 (M' := M_Mo_corner) (qq := ([.ref 54, .int s, .int i, .int 0], [])) (s' := (56, [(0, .ref 54), (1, .int s), (2, .int u), (3, .int i), (4, .int j)], [.int (f_Mo_corner (yA w 58 65) s i 0)])) rfl rfl (fun _ => rfl) rfl rfl (zhk rfl (zrc_ok (yhp_o rfl)) rfl) (y_corner s i 0 hs hnz (by omega)) rfl ?_
  refine zeN (q := ((62, [(5, .int (f_Mo_corner (yA w 58 65) s i 0)), (0, .ref 54), (1, .int s), (2, .int u), (3, .int i), (4, .int j)], [.int 1, .int i, .int s, .ref 54]), yhp w G sz)) 5 rfl ?_
  refine zec 1 (M' := M_Mo_corner) (qq := ([.ref 54, .int s, .int i, .int 1], [])) (s' := (65, [(5, .int (f_Mo_corner (yA w 58 65) s i 0)), (0, .ref 54), (1, .int s), (2, .int u), (3, .int i), (4, .int j)], [.int (f_Mo_corner (yA w 58 65) s i 1)])) rfl rfl (fun _ => rfl) rfl rfl (zhk rfl (zrc_ok (yhp_o rfl)) rfl) (y_corner s i 1 hs hnz (by omega)) rfl ?_
  refine zeN (q := ((72, [(6, .int (f_Mo_corner (yA w 58 65) s i 1)), (5, .int (f_Mo_corner (yA w 58 65) s i 0)), (0, .ref 54), (1, .int s), (2, .int u), (3, .int i), (4, .int j)], [.int 0, .int j, .int u, .ref 54]), yhp w G sz)) 5 rfl ?_
  refine zec 1 (M' := M_Mo_corner) (qq := ([.ref 54, .int u, .int j, .int 0], [])) (s' := (75, [(6, .int (f_Mo_corner (yA w 58 65) s i 1)), (5, .int (f_Mo_corner (yA w 58 65) s i 0)), (0, .ref 54), (1, .int s), (2, .int u), (3, .int i), (4, .int j)], [.int (f_Mo_corner (yA w 58 65) u j 0)])) rfl rfl (fun _ => rfl) rfl rfl (zhk rfl (zrc_ok (yhp_o rfl)) rfl) (y_corner u j 0 hu hnzu (by omega)) rfl ?_
  refine zeN (q := ((82, [(7, .int (f_Mo_corner (yA w 58 65) u j 0)), (6, .int (f_Mo_corner (yA w 58 65) s i 1)), (5, .int (f_Mo_corner (yA w 58 65) s i 0)), (0, .ref 54), (1, .int s), (2, .int u), (3, .int i), (4, .int j)], [.int 1, .int j, .int u, .ref 54]), yhp w G sz)) 5 rfl ?_
  refine zec 1 (M' := M_Mo_corner) (qq := ([.ref 54, .int u, .int j, .int 1], [])) (s' := (85, [(7, .int (f_Mo_corner (yA w 58 65) u j 0)), (6, .int (f_Mo_corner (yA w 58 65) s i 1)), (5, .int (f_Mo_corner (yA w 58 65) s i 0)), (0, .ref 54), (1, .int s), (2, .int u), (3, .int i), (4, .int j)], [.int (f_Mo_corner (yA w 58 65) u j 1)])) rfl rfl (fun _ => rfl) rfl rfl (zhk rfl (zrc_ok (yhp_o rfl)) rfl) (y_corner u j 1 hu hnzu (by omega)) rfl ?_
  refine zeN (q := ((94, [(8, .int (f_Mo_corner (yA w 58 65) u j 1)), (7, .int (f_Mo_corner (yA w 58 65) u j 0)), (6, .int (f_Mo_corner (yA w 58 65) s i 1)), (5, .int (f_Mo_corner (yA w 58 65) s i 0)), (0, .ref 54), (1, .int s), (2, .int u), (3, .int i), (4, .int j)], [.int (f_Mo_corner (yA w 58 65) u j 0), .int (f_Mo_corner (yA w 58 65) s i 1), .int (f_Mo_corner (yA w 58 65) s i 0), .ref 54]), yhp w G sz)) 5 rfl ?_
  refine zec 1 (M' := M_Mo_reach) (qq := ([.ref 54, .int (f_Mo_corner (yA w 58 65) s i 0), .int (f_Mo_corner (yA w 58 65) s i 1), .int (f_Mo_corner (yA w 58 65) u j 0)], [])) (s' := (97, [(8, .int (f_Mo_corner (yA w 58 65) u j 1)), (7, .int (f_Mo_corner (yA w 58 65) u j 0)), (6, .int (f_Mo_corner (yA w 58 65) s i 1)), (5, .int (f_Mo_corner (yA w 58 65) s i 0)), (0, .ref 54), (1, .int s), (2, .int u), (3, .int i), (4, .int j)], [])) rfl rfl (fun _ => rfl) rfl rfl (zhk rfl (zrc_ok (yhp_o rfl)) rfl) (r_Mo_reach (f_Mo_corner (yA w 58 65) s i 0) (f_Mo_corner (yA w 58 65) s i 1) (f_Mo_corner (yA w 58 65) u j 0) _ (by assumption) (by assumption) (by assumption) (by omega)) rfl ?_
  refine zeN (q := ((104, [(8, .int (f_Mo_corner (yA w 58 65) u j 1)), (7, .int (f_Mo_corner (yA w 58 65) u j 0)), (6, .int (f_Mo_corner (yA w 58 65) s i 1)), (5, .int (f_Mo_corner (yA w 58 65) s i 0)), (0, .ref 54), (1, .int s), (2, .int u), (3, .int i), (4, .int j)], [.int (f_Mo_corner (yA w 58 65) u j 1), .int (f_Mo_corner (yA w 58 65) s i 1), .int (f_Mo_corner (yA w 58 65) s i 0), .ref 54]), yhp (e_Mo_reach (f_Mo_corner (yA w 58 65) s i 0) (f_Mo_corner (yA w 58 65) s i 1) (f_Mo_corner (yA w 58 65) u j 0) w) G sz)) 4 rfl ?_
  refine zec 1 (M' := M_Mo_reach) (qq := ([.ref 54, .int (f_Mo_corner (yA w 58 65) s i 0), .int (f_Mo_corner (yA w 58 65) s i 1), .int (f_Mo_corner (yA w 58 65) u j 1)], [])) (s' := (107, [(8, .int (f_Mo_corner (yA w 58 65) u j 1)), (7, .int (f_Mo_corner (yA w 58 65) u j 0)), (6, .int (f_Mo_corner (yA w 58 65) s i 1)), (5, .int (f_Mo_corner (yA w 58 65) s i 0)), (0, .ref 54), (1, .int s), (2, .int u), (3, .int i), (4, .int j)], [])) rfl rfl (fun _ => rfl) rfl rfl (zhk rfl (zrc_ok (yhp_o rfl)) rfl) (r_Mo_reach (f_Mo_corner (yA w 58 65) s i 0) (f_Mo_corner (yA w 58 65) s i 1) (f_Mo_corner (yA w 58 65) u j 1) _ (by assumption) (by assumption) (by assumption) (by omega)) rfl ?_
  refine zeN (q := ((114, [(8, .int (f_Mo_corner (yA w 58 65) u j 1)), (7, .int (f_Mo_corner (yA w 58 65) u j 0)), (6, .int (f_Mo_corner (yA w 58 65) s i 1)), (5, .int (f_Mo_corner (yA w 58 65) s i 0)), (0, .ref 54), (1, .int s), (2, .int u), (3, .int i), (4, .int j)], [.int (f_Mo_corner (yA w 58 65) s i 0), .int (f_Mo_corner (yA w 58 65) u j 1), .int (f_Mo_corner (yA w 58 65) u j 0), .ref 54]), yhp (e_Mo_reach (f_Mo_corner (yA w 58 65) s i 0) (f_Mo_corner (yA w 58 65) s i 1) (f_Mo_corner (yA w 58 65) u j 1) (e_Mo_reach (f_Mo_corner (yA w 58 65) s i 0) (f_Mo_corner (yA w 58 65) s i 1) (f_Mo_corner (yA w 58 65) u j 0) w)) G sz)) 4 rfl ?_
  refine zec 1 (M' := M_Mo_reach) (qq := ([.ref 54, .int (f_Mo_corner (yA w 58 65) u j 0), .int (f_Mo_corner (yA w 58 65) u j 1), .int (f_Mo_corner (yA w 58 65) s i 0)], [])) (s' := (117, [(8, .int (f_Mo_corner (yA w 58 65) u j 1)), (7, .int (f_Mo_corner (yA w 58 65) u j 0)), (6, .int (f_Mo_corner (yA w 58 65) s i 1)), (5, .int (f_Mo_corner (yA w 58 65) s i 0)), (0, .ref 54), (1, .int s), (2, .int u), (3, .int i), (4, .int j)], [])) rfl rfl (fun _ => rfl) rfl rfl (zhk rfl (zrc_ok (yhp_o rfl)) rfl) (r_Mo_reach (f_Mo_corner (yA w 58 65) u j 0) (f_Mo_corner (yA w 58 65) u j 1) (f_Mo_corner (yA w 58 65) s i 0) _ (by assumption) (by assumption) (by assumption) (by omega)) rfl ?_
  refine zeN (q := ((124, [(8, .int (f_Mo_corner (yA w 58 65) u j 1)), (7, .int (f_Mo_corner (yA w 58 65) u j 0)), (6, .int (f_Mo_corner (yA w 58 65) s i 1)), (5, .int (f_Mo_corner (yA w 58 65) s i 0)), (0, .ref 54), (1, .int s), (2, .int u), (3, .int i), (4, .int j)], [.int (f_Mo_corner (yA w 58 65) s i 1), .int (f_Mo_corner (yA w 58 65) u j 1), .int (f_Mo_corner (yA w 58 65) u j 0), .ref 54]), yhp (e_Mo_reach (f_Mo_corner (yA w 58 65) u j 0) (f_Mo_corner (yA w 58 65) u j 1) (f_Mo_corner (yA w 58 65) s i 0) (e_Mo_reach (f_Mo_corner (yA w 58 65) s i 0) (f_Mo_corner (yA w 58 65) s i 1) (f_Mo_corner (yA w 58 65) u j 1) (e_Mo_reach (f_Mo_corner (yA w 58 65) s i 0) (f_Mo_corner (yA w 58 65) s i 1) (f_Mo_corner (yA w 58 65) u j 0) w))) G sz)) 4 rfl ?_
  refine zec 1 (M' := M_Mo_reach) (qq := ([.ref 54, .int (f_Mo_corner (yA w 58 65) u j 0), .int (f_Mo_corner (yA w 58 65) u j 1), .int (f_Mo_corner (yA w 58 65) s i 1)], [])) (s' := (127, [(8, .int (f_Mo_corner (yA w 58 65) u j 1)), (7, .int (f_Mo_corner (yA w 58 65) u j 0)), (6, .int (f_Mo_corner (yA w 58 65) s i 1)), (5, .int (f_Mo_corner (yA w 58 65) s i 0)), (0, .ref 54), (1, .int s), (2, .int u), (3, .int i), (4, .int j)], [])) rfl rfl (fun _ => rfl) rfl rfl (zhk rfl (zrc_ok (yhp_o rfl)) rfl) (r_Mo_reach (f_Mo_corner (yA w 58 65) u j 0) (f_Mo_corner (yA w 58 65) u j 1) (f_Mo_corner (yA w 58 65) s i 1) _ (by assumption) (by assumption) (by assumption) (by omega)) rfl ?_
  refine zeS [(0, .ref 54), (1, .int s), (2, .int u), (3, .int i), (4, .int j)] (zsub_pick [4, 5, 6, 7, 8] rfl rfl) ?_
  exact k
theorem i_Mo_mo49 (w0 : yW) (s u i j : Int32) (w : yW) : (g_Mo_measureOut_49 w0 s u i j w).1 = w.1 := by unfold g_Mo_measureOut_49; simp only [i_Mo_reach]
def g_Mo_measureOut_39 (w0 : yW) (s u : Int32) (i : Int32) : Nat → yW → Int32 → yW
  | 0, w, j => w
  | n + 1, w, j => (bif zc .ge j (f_Mo_sides (yA w 57 65) (yA w 58 65) u) then w else g_Mo_measureOut_39 w0 s u i n ((g_Mo_measureOut_49 w0 s u i j  w )) (j + Int32.ofInt 1))
set_option maxRecDepth 100000 in
theorem t_Mo_measureOut_39 {fr lo sz : Nat} {G : List zC} {r : Option Value × zH} (w0 : yW) (s u : Int32) (i : Int32) (hs : zIx s 65) (hk1 : 1 ≤ (gI (yA w0 58 65) s).toInt) (hk2 : (gI (yA w0 58 65) s).toInt ≤ 6) (hu : zIx u 65) (hq1 : 1 ≤ (gI (yA w0 58 65) u).toInt) (hq2 : (gI (yA w0 58 65) u).toInt ≤ 6) (h0 : 0 ≤ i.toInt) (h2 : i.toInt ≤ 6) (hlo : 133 ≤ lo) : ∀ (n : Nat) (w : yW) (j : Int32) (hw : w.1 = w0.1) (k0 : 0 ≤ j.toInt) (k1 : j.toInt ≤ 6) (km : 6 < j.toInt + n) (k : zRun (fr + 5) lo none M_Mo_measureOut (133, [(0, .ref 54), (1, .int s), (2, .int u), (3, .int i)], []) (yhp (g_Mo_measureOut_39 w0 s u i n w j) G sz) r), zRun (fr + 5) lo none M_Mo_measureOut (39, [(0, .ref 54), (1, .int s), (2, .int u), (3, .int i), (4, .int j)], []) (yhp w G sz) r := by
  intro n
  induction n with
  | zero => intro w j hw k0 k1 km k; exfalso; omega
  | succ n ih =>
    intro w j hw k0 k1 km k
    rw [g_Mo_measureOut_39] at k
    refine zeN (q := ((43, [(0, .ref 54), (1, .int s), (2, .int u), (3, .int i), (4, .int j)], [.int u, .ref 54, .int j]), yhp w G sz)) 3 rfl ?_
    refine zec 1 (M' := M_Mo_sides) (qq := ([.ref 54, .int u], [.int j])) (s' := (46, [(0, .ref 54), (1, .int s), (2, .int u), (3, .int i), (4, .int j)], [.int (f_Mo_sides (yA w 57 65) (yA w 58 65) u), .int j])) rfl rfl (fun _ => rfl) rfl rfl (zhk rfl (zrc_ok (yhp_o rfl)) rfl) (y_sides u hu (by omega)) rfl ?_
    refine zbc (q1 := (133, [(0, .ref 54), (1, .int s), (2, .int u), (3, .int i), (4, .int j)], [])) (q2 := (49, [(0, .ref 54), (1, .int s), (2, .int u), (3, .int i), (4, .int j)], [])) (cB := zc .ge j (f_Mo_sides (yA w 57 65) (yA w 58 65) u)) (off := 87) (lv := [(0, .ref 54), (1, .int s), (2, .int u), (3, .int i), (4, .int j)]) (st := []) rfl rfl rfl rfl rfl (fun c46 => ?_) (fun c46 => ?_)
    · rw [c46] at k
      refine zeS [(0, .ref 54), (1, .int s), (2, .int u), (3, .int i)] (zsub_pick [0, 1, 2, 3] rfl rfl) ?_
      exact k
    · rw [c46] at k
      have eM : yA w 58 65 = yA w0 58 65 := yA_eq hw
      rw [eM] at c46
      have hcc := of_decide_eq_false (z_ge c46).symm
      have hms := z_msides (SO := yA w 57 65) hq1 hq2
      have hj1 := z_inc (a := j) (by omega) (by omega)
      have k2 : j.toInt ≤ 6 := k1
      refine t_Mo_measureOut_49 w0 s u i j w  hs hk1 hk2 hu hq1 hq2 hw h0 h2 k0 k2 (by omega) ?_
      refine zeN (q := ((39, [(4, .int (j + Int32.ofInt 1)), (0, .ref 54), (1, .int s), (2, .int u), (3, .int i)], []), yhp ((g_Mo_measureOut_49 w0 s u i j  w )) G sz)) 2 rfl ?_
      refine zeS [(0, .ref 54), (1, .int s), (2, .int u), (3, .int i), (4, .int (j + Int32.ofInt 1))] (zsub_pick [1, 2, 3, 4, 0] rfl rfl) ?_
      exact ih ((g_Mo_measureOut_49 w0 s u i j  w )) (j + Int32.ofInt 1) (by rw [i_Mo_mo49]; exact hw) (by omega) (by omega) (by omega) k
theorem i_Mo_mo39 (w0 : yW) (s u i : Int32) : ∀ (n : Nat) (w : yW) (j : Int32), (g_Mo_measureOut_39 w0 s u i n w j).1 = w.1
  | 0, w, j => rfl
  | n + 1, w, j => by
    rw [g_Mo_measureOut_39]
    exact yf1 rfl ((i_Mo_mo39 w0 s u i n _ _).trans (i_Mo_mo49 ..))
def g_Mo_measureOut_27 (w0 : yW) (s u : Int32) : Nat → yW → Int32 → yW
  | 0, w, i => w
  | n + 1, w, i => (bif zc .ge i (f_Mo_sides (yA w 57 65) (yA w 58 65) s) then w else g_Mo_measureOut_27 w0 s u n ((g_Mo_measureOut_39 w0 s u i 7 w 0)) (i + Int32.ofInt 1))
set_option maxRecDepth 100000 in
theorem t_Mo_measureOut_27 {fr lo sz : Nat} {G : List zC} {r : Option Value × zH} (w0 : yW) (s u : Int32) (hs : zIx s 65) (hk1 : 1 ≤ (gI (yA w0 58 65) s).toInt) (hk2 : (gI (yA w0 58 65) s).toInt ≤ 6) (hu : zIx u 65) (hq1 : 1 ≤ (gI (yA w0 58 65) u).toInt) (hq2 : (gI (yA w0 58 65) u).toInt ≤ 6) (hlo : 133 ≤ lo) : ∀ (n : Nat) (w : yW) (i : Int32) (hw : w.1 = w0.1) (h0 : 0 ≤ i.toInt) (h1 : i.toInt ≤ 6) (hn : 6 < i.toInt + n) (k : zRun (fr + 5) lo none M_Mo_measureOut (139, [(0, .ref 54), (1, .int s), (2, .int u)], []) (yhp (g_Mo_measureOut_27 w0 s u n w i) G sz) r), zRun (fr + 5) lo none M_Mo_measureOut (27, [(0, .ref 54), (1, .int s), (2, .int u), (3, .int i)], []) (yhp w G sz) r := by
  intro n
  induction n with
  | zero => intro w i hw h0 h1 hn k; exfalso; omega
  | succ n ih =>
    intro w i hw h0 h1 hn k
    rw [g_Mo_measureOut_27] at k
    refine zeN (q := ((30, [(0, .ref 54), (1, .int s), (2, .int u), (3, .int i)], [.int s, .ref 54, .int i]), yhp w G sz)) 3 rfl ?_
    refine zec 1 (M' := M_Mo_sides) (qq := ([.ref 54, .int s], [.int i])) (s' := (33, [(0, .ref 54), (1, .int s), (2, .int u), (3, .int i)], [.int (f_Mo_sides (yA w 57 65) (yA w 58 65) s), .int i])) rfl rfl (fun _ => rfl) rfl rfl (zhk rfl (zrc_ok (yhp_o rfl)) rfl) (y_sides s hs (by omega)) rfl ?_
    refine zbc (q1 := (139, [(0, .ref 54), (1, .int s), (2, .int u), (3, .int i)], [])) (q2 := (36, [(0, .ref 54), (1, .int s), (2, .int u), (3, .int i)], [])) (cB := zc .ge i (f_Mo_sides (yA w 57 65) (yA w 58 65) s)) (off := 106) (lv := [(0, .ref 54), (1, .int s), (2, .int u), (3, .int i)]) (st := []) rfl rfl rfl rfl rfl (fun c33 => ?_) (fun c33 => ?_)
    · rw [c33] at k
      refine zeS [(0, .ref 54), (1, .int s), (2, .int u)] (zsub_pick [0, 1, 2] rfl rfl) ?_
      exact k
    · rw [c33] at k
      have eM : yA w 58 65 = yA w0 58 65 := yA_eq hw
      rw [eM] at c33
      have hcc := of_decide_eq_false (z_ge c33).symm
      have hms := z_msides (SO := yA w 57 65) hk1 hk2
      have hi1 := z_inc (a := i) (by omega) (by omega)
      have h2 : i.toInt ≤ 6 := h1
      refine zeN (q := ((39, [(4, .int 0), (0, .ref 54), (1, .int s), (2, .int u), (3, .int i)], []), yhp w G sz)) 2 rfl ?_
      refine zeS [(0, .ref 54), (1, .int s), (2, .int u), (3, .int i), (4, .int 0)] (zsub_pick [1, 2, 3, 4, 0] rfl rfl) ?_
      refine t_Mo_measureOut_39 w0 s u i hs hk1 hk2 hu hq1 hq2 h0 h2 (by omega) 7 w 0 hw (by decide) (by decide) (by decide) ?_
      refine zeN (q := ((27, [(3, .int (i + Int32.ofInt 1)), (0, .ref 54), (1, .int s), (2, .int u)], []), yhp ((g_Mo_measureOut_39 w0 s u i 7 w 0)) G sz)) 2 rfl ?_
      refine zeS [(0, .ref 54), (1, .int s), (2, .int u), (3, .int (i + Int32.ofInt 1))] (zsub_pick [1, 2, 3, 0] rfl rfl) ?_
      exact ih ((g_Mo_measureOut_39 w0 s u i 7 w 0)) (i + Int32.ofInt 1) (by rw [i_Mo_mo39]; exact hw) (by omega) (by omega) (by omega) k
def e_Mo_measureOut (s u : Int32) (w : yW) : yW := (g_Mo_measureOut_27 w s u 7 ((g_Mo_measureOut_0 s u  w )) 0)
set_option maxRecDepth 100000 in
theorem r_Mo_measureOut {fr lo sz : Nat} {G : List zC} (s u : Int32) (w : yW) (hs : zIx s 65) (hk1 : 1 ≤ (gI (yA w 58 65) s).toInt) (hk2 : (gI (yA w 58 65) s).toInt ≤ 6) (hu : zIx u 65) (hq1 : 1 ≤ (gI (yA w 58 65) u).toInt) (hq2 : (gI (yA w 58 65) u).toInt ≤ 6) (hlo : 161 ≤ lo) : zAns (fr + 6) lo 117 [.ref 54, .int s, .int u] (yhp w G sz) (none, yhp (e_Mo_measureOut s u w) G sz) := by
  unfold e_Mo_measureOut
  refine zeb (fr := fr + 5) (M := M_Mo_measureOut) rfl (Nat.le_trans (by decide) hlo) rfl ?_
  have e0 : mL M_Mo_measureOut = 9 := rfl
  refine t_Mo_measureOut_0 s u w  hs hk1 hk2 hu hq1 hq2 (by omega) ?_
  have hw : (g_Mo_measureOut_0 s u w).1 = w.1 := by unfold g_Mo_measureOut_0; exact yf1 rfl rfl
  refine zeN (q := ((27, [(3, .int 0), (0, .ref 54), (1, .int s), (2, .int u)], []), yhp ((g_Mo_measureOut_0 s u  w )) G sz)) 2 rfl ?_
  refine zeS [(0, .ref 54), (1, .int s), (2, .int u), (3, .int 0)] (zsub_pick [1, 2, 3, 0] rfl rfl) ?_
  refine t_Mo_measureOut_27 w s u hs hk1 hk2 hu hq1 hq2 (by omega) 7 ((g_Mo_measureOut_0 s u  w )) 0 hw (by decide) (by decide) (by decide) ?_
  exact zer rfl rfl
