theorem h_Mo_home_3 (s : Int32) : ∀ (n : Nat) (w : yW) (l : Int32), -2147483648 + (n : Int) ≤ l.toInt → l.toInt ≤ 8 → (g_Mo_home_3 s n w l).2.toInt ≤ 8
  | 0, w, l, _, h => h
  | n + 1, w, l, h0, h => by
    have e : (l + Int32.ofInt (-1)).toInt = l.toInt - 1 := z_add (by show _ ≤ l.toInt + (-1); omega) (by show l.toInt + (-1) < _; omega)
    have ih := h_Mo_home_3 s n w (l + Int32.ofInt (-1)) (by rw [e]; omega) (by rw [e]; omega)
    rw [g_Mo_home_3]
    generalize zc _ _ _ = b1
    cases b1
    · show ((bif _ then _ else _ : yW × Int32)).2.toInt ≤ 8
      generalize zc _ _ _ = b2
      cases b2
      · first | exact h | exact ih
      · first | exact h | exact ih
    · first | exact h | exact ih
theorem h_Mo_home (s : Int32) (w : yW) : (e_Mo_home s w).2.toInt ≤ 8 := h_Mo_home_3 s 9 w 8 (by decide) (by decide)
def g_Mo_readBy_40 (p tb : Int32) (t u : Int64) (q : Int32) (w : yW) (c : Int32) : yW × Int32 := (bif zc .eq (lg_cmp u 0) 0 then (w, (c + Int32.ofInt 1)) else (bif zc .eq ((e_Mo_close p t u w).2) 0 then (w, c) else (w, (c + Int32.ofInt 1))))
set_option maxRecDepth 100000 in
theorem t_Mo_readBy_40 {fr lo sz : Nat} {r : Option Value × zH} {G : List zC} (p tb : Int32) (t u : Int64) (q : Int32) (w : yW) (c : Int32) (hp : zIx p 65) (hlo : 68 ≤ lo) (k : zRun (fr + 3) lo none M_Mo_readBy (61, [(0, .ref 54), (1, .int p), (2, .int tb), (3, .long t), (5, .long u), (8, .int q), (7, .int ((g_Mo_readBy_40 p tb t u q w c).2))], []) (yhp (g_Mo_readBy_40 p tb t u q w c).1 G sz) r) : zRun (fr + 3) lo none M_Mo_readBy (40, [(0, .ref 54), (1, .int p), (2, .int tb), (3, .long t), (5, .long u), (8, .int q), (7, .int c)], []) (yhp w G sz) r := by
  unfold g_Mo_readBy_40 at k
  refine zeN (q := ((44, [(0, .ref 54), (1, .int p), (2, .int tb), (3, .long t), (5, .long u), (8, .int q), (7, .int c)], [.int (lg_cmp u 0)]), yhp w G sz)) 3 rfl ?_
  refine zbc (q1 := (58, [(0, .ref 54), (1, .int p), (2, .int tb), (3, .long t), (5, .long u), (8, .int q), (7, .int c)], [])) (q2 := (47, [(0, .ref 54), (1, .int p), (2, .int tb), (3, .long t), (5, .long u), (8, .int q), (7, .int c)], [])) (cB := zc .eq (lg_cmp u 0) 0) (off := 14) (lv := [(0, .ref 54), (1, .int p), (2, .int tb), (3, .long t), (5, .long u), (8, .int q), (7, .int c)]) (st := []) rfl rfl rfl rfl rfl (fun c44 => ?_) (fun c44 => ?_)
  · rw [c44] at k
    refine zeN (q := ((61, [(7, .int (c + Int32.ofInt 1)), (0, .ref 54), (1, .int p), (2, .int tb), (3, .long t), (5, .long u), (8, .int q)], []), yhp w G sz)) 1 rfl ?_
    refine zeS [(0, .ref 54), (1, .int p), (2, .int tb), (3, .long t), (5, .long u), (8, .int q), (7, .int (c + Int32.ofInt 1))] (zsub_pick [1, 2, 3, 4, 5, 6, 0] rfl rfl) ?_
    exact k
  · rw [c44] at k
    refine zeN (q := ((52, [(0, .ref 54), (1, .int p), (2, .int tb), (3, .long t), (5, .long u), (8, .int q), (7, .int c)], [.long u, .long t, .int p, .ref 54]), yhp w G sz)) 4 rfl ?_
    refine zec 1 (M' := M_Mo_close) (qq := ([.ref 54, .int p, .long t, .long u], [])) (s' := (55, [(0, .ref 54), (1, .int p), (2, .int tb), (3, .long t), (5, .long u), (8, .int q), (7, .int c)], [.int ((e_Mo_close p t u w).2)])) rfl rfl (fun _ => rfl) rfl rfl (zhk rfl (zrc_ok (yhp_o rfl)) rfl) (p_Mo_close p t u hp (by omega)) rfl ?_
    refine zbc (q1 := (61, [(0, .ref 54), (1, .int p), (2, .int tb), (3, .long t), (5, .long u), (8, .int q), (7, .int c)], [])) (q2 := (58, [(0, .ref 54), (1, .int p), (2, .int tb), (3, .long t), (5, .long u), (8, .int q), (7, .int c)], [])) (cB := zc .eq ((e_Mo_close p t u w).2) 0) (off := 6) (lv := [(0, .ref 54), (1, .int p), (2, .int tb), (3, .long t), (5, .long u), (8, .int q), (7, .int c)]) (st := []) rfl rfl rfl rfl rfl (fun c55 => ?_) (fun c55 => ?_)
    · rw [c55] at k
      exact k
    · rw [c55] at k
      refine zeN (q := ((61, [(7, .int (c + Int32.ofInt 1)), (0, .ref 54), (1, .int p), (2, .int tb), (3, .long t), (5, .long u), (8, .int q)], []), yhp w G sz)) 1 rfl ?_
      refine zeS [(0, .ref 54), (1, .int p), (2, .int tb), (3, .long t), (5, .long u), (8, .int q), (7, .int (c + Int32.ofInt 1))] (zsub_pick [1, 2, 3, 4, 5, 6, 0] rfl rfl) ?_
      exact k
set_option maxRecDepth 100000 in
theorem kf_Mo_readBy_40 (p tb : Int32) (t u : Int64) (q : Int32) (w : yW) (c : Int32) : yK [(54, some 17), (54, some 18), (54, some 19), (54, some 20)] w (g_Mo_readBy_40 p tb t u q w c).1 := by unfold g_Mo_readBy_40; exact (yK_if1 (yK_p yK_rfl) (yK_if1 (yK_p yK_rfl) (yK_p yK_rfl)))
def g_Mo_readBy_101 (p tb : Int32) (t u : Int64) (q dp l : Int32) (w : yW) (c : Int32) : yW × Int32 := (bif zc .eq (lg_cmp u 0) 0 then (w, (c + Int32.ofInt 1)) else (bif zc .eq ((e_Mo_close p t u w).2) 0 then (w, c) else (w, (c + Int32.ofInt 1))))
set_option maxRecDepth 100000 in
theorem t_Mo_readBy_101 {fr lo sz : Nat} {r : Option Value × zH} {G : List zC} (p tb : Int32) (t u : Int64) (q dp l : Int32) (w : yW) (c : Int32) (hp : zIx p 65) (hlo : 68 ≤ lo) (k : zRun (fr + 3) lo none M_Mo_readBy (122, [(0, .ref 54), (1, .int p), (2, .int tb), (3, .long t), (5, .long u), (8, .int q), (9, .int dp), (10, .int l), (7, .int ((g_Mo_readBy_101 p tb t u q dp l w c).2))], []) (yhp (g_Mo_readBy_101 p tb t u q dp l w c).1 G sz) r) : zRun (fr + 3) lo none M_Mo_readBy (101, [(0, .ref 54), (1, .int p), (2, .int tb), (3, .long t), (5, .long u), (8, .int q), (9, .int dp), (10, .int l), (7, .int c)], []) (yhp w G sz) r := by
  unfold g_Mo_readBy_101 at k
  refine zeN (q := ((105, [(0, .ref 54), (1, .int p), (2, .int tb), (3, .long t), (5, .long u), (8, .int q), (9, .int dp), (10, .int l), (7, .int c)], [.int (lg_cmp u 0)]), yhp w G sz)) 3 rfl ?_
  refine zbc (q1 := (119, [(0, .ref 54), (1, .int p), (2, .int tb), (3, .long t), (5, .long u), (8, .int q), (9, .int dp), (10, .int l), (7, .int c)], [])) (q2 := (108, [(0, .ref 54), (1, .int p), (2, .int tb), (3, .long t), (5, .long u), (8, .int q), (9, .int dp), (10, .int l), (7, .int c)], [])) (cB := zc .eq (lg_cmp u 0) 0) (off := 14) (lv := [(0, .ref 54), (1, .int p), (2, .int tb), (3, .long t), (5, .long u), (8, .int q), (9, .int dp), (10, .int l), (7, .int c)]) (st := []) rfl rfl rfl rfl rfl (fun c105 => ?_) (fun c105 => ?_)
  · rw [c105] at k
    refine zeN (q := ((122, [(7, .int (c + Int32.ofInt 1)), (0, .ref 54), (1, .int p), (2, .int tb), (3, .long t), (5, .long u), (8, .int q), (9, .int dp), (10, .int l)], []), yhp w G sz)) 1 rfl ?_
    refine zeS [(0, .ref 54), (1, .int p), (2, .int tb), (3, .long t), (5, .long u), (8, .int q), (9, .int dp), (10, .int l), (7, .int (c + Int32.ofInt 1))] (zsub_pick [1, 2, 3, 4, 5, 6, 7, 8, 0] rfl rfl) ?_
    exact k
  · rw [c105] at k
    refine zeN (q := ((113, [(0, .ref 54), (1, .int p), (2, .int tb), (3, .long t), (5, .long u), (8, .int q), (9, .int dp), (10, .int l), (7, .int c)], [.long u, .long t, .int p, .ref 54]), yhp w G sz)) 4 rfl ?_
    refine zec 1 (M' := M_Mo_close) (qq := ([.ref 54, .int p, .long t, .long u], [])) (s' := (116, [(0, .ref 54), (1, .int p), (2, .int tb), (3, .long t), (5, .long u), (8, .int q), (9, .int dp), (10, .int l), (7, .int c)], [.int ((e_Mo_close p t u w).2)])) rfl rfl (fun _ => rfl) rfl rfl (zhk rfl (zrc_ok (yhp_o rfl)) rfl) (p_Mo_close p t u hp (by omega)) rfl ?_
    refine zbc (q1 := (122, [(0, .ref 54), (1, .int p), (2, .int tb), (3, .long t), (5, .long u), (8, .int q), (9, .int dp), (10, .int l), (7, .int c)], [])) (q2 := (119, [(0, .ref 54), (1, .int p), (2, .int tb), (3, .long t), (5, .long u), (8, .int q), (9, .int dp), (10, .int l), (7, .int c)], [])) (cB := zc .eq ((e_Mo_close p t u w).2) 0) (off := 6) (lv := [(0, .ref 54), (1, .int p), (2, .int tb), (3, .long t), (5, .long u), (8, .int q), (9, .int dp), (10, .int l), (7, .int c)]) (st := []) rfl rfl rfl rfl rfl (fun c116 => ?_) (fun c116 => ?_)
    · rw [c116] at k
      exact k
    · rw [c116] at k
      refine zeN (q := ((122, [(7, .int (c + Int32.ofInt 1)), (0, .ref 54), (1, .int p), (2, .int tb), (3, .long t), (5, .long u), (8, .int q), (9, .int dp), (10, .int l)], []), yhp w G sz)) 1 rfl ?_
      refine zeS [(0, .ref 54), (1, .int p), (2, .int tb), (3, .long t), (5, .long u), (8, .int q), (9, .int dp), (10, .int l), (7, .int (c + Int32.ofInt 1))] (zsub_pick [1, 2, 3, 4, 5, 6, 7, 8, 0] rfl rfl) ?_
      exact k
set_option maxRecDepth 100000 in
theorem kf_Mo_readBy_101 (p tb : Int32) (t u : Int64) (q dp l : Int32) (w : yW) (c : Int32) : yK [(54, some 17), (54, some 18), (54, some 19), (54, some 20)] w (g_Mo_readBy_101 p tb t u q dp l w c).1 := by unfold g_Mo_readBy_101; exact (yK_if1 (yK_p yK_rfl) (yK_if1 (yK_p yK_rfl) (yK_p yK_rfl)))
def g_Mo_readBy_72 (p tb : Int32) (t u : Int64) (q : Int32) : Nat → yW → Int32 → Int32 → Int32 → yW × Int32
  | 0, w, c, dp, l => (w, c)
  | n + 1, w, c, dp, l => (bif zc .gt l dp then (w, c) else (bif zc .ne (e_Mo_foremost q l w) 0 then g_Mo_readBy_72 p tb t u q  n ((g_Mo_readBy_101 p tb t u q dp l  (e_Mo_nodeBound q l w) c).1) ((g_Mo_readBy_101 p tb t u q dp l  (e_Mo_nodeBound q l w) c).2) dp (l + Int32.ofInt 1) else g_Mo_readBy_72 p tb t u q  n w c dp (l + Int32.ofInt 1)))
set_option maxRecDepth 100000 in
theorem t_Mo_readBy_72 {fr lo sz : Nat} {r : Option Value × zH} {G : List zC} (p tb : Int32) (t u : Int64) (q : Int32) (hp : zIx p 65) (hq : zIx q 32) (hlo : 68 ≤ lo) : ∀ (n : Nat) (w : yW) (c : Int32) (dp : Int32) (l : Int32) (hM : yM w) (hdp : dp.toInt ≤ 8) (h0 : 0 ≤ l.toInt) (h1 : l.toInt ≤ 9) (hn : 9 < l.toInt + n) (k : zRun (fr + 3) lo none M_Mo_readBy (128, [(0, .ref 54), (1, .int p), (2, .int tb), (3, .long t), (5, .long u), (8, .int q), (7, .int ((g_Mo_readBy_72 p tb t u q n w c dp l).2))], []) (yhp (g_Mo_readBy_72 p tb t u q n w c dp l).1 G sz) r), zRun (fr + 3) lo none M_Mo_readBy (72, [(0, .ref 54), (1, .int p), (2, .int tb), (3, .long t), (5, .long u), (8, .int q), (7, .int c), (9, .int dp), (10, .int l)], []) (yhp w G sz) r := by
  intro n
  induction n with
  | zero => intro w c dp l hM hdp h0 h1 hn k; exfalso; omega
  | succ n ih =>
    intro w c dp l hM hdp h0 h1 hn k
    rw [g_Mo_readBy_72] at k
    refine zeN (q := ((76, [(0, .ref 54), (1, .int p), (2, .int tb), (3, .long t), (5, .long u), (8, .int q), (7, .int c), (9, .int dp), (10, .int l)], [.int dp, .int l]), yhp w G sz)) 2 rfl ?_
    refine zbc (q1 := (128, [(0, .ref 54), (1, .int p), (2, .int tb), (3, .long t), (5, .long u), (8, .int q), (7, .int c), (9, .int dp), (10, .int l)], [])) (q2 := (79, [(0, .ref 54), (1, .int p), (2, .int tb), (3, .long t), (5, .long u), (8, .int q), (7, .int c), (9, .int dp), (10, .int l)], [])) (cB := zc .gt l dp) (off := 52) (lv := [(0, .ref 54), (1, .int p), (2, .int tb), (3, .long t), (5, .long u), (8, .int q), (7, .int c), (9, .int dp), (10, .int l)]) (st := []) rfl rfl rfl rfl rfl (fun c76 => ?_) (fun c76 => ?_)
    · rw [c76] at k
      refine zeS [(0, .ref 54), (1, .int p), (2, .int tb), (3, .long t), (5, .long u), (8, .int q), (7, .int c)] (zsub_pick [0, 1, 2, 3, 4, 5, 6] rfl rfl) ?_
      exact k
    · rw [c76] at k
      have hcc := of_decide_eq_false ((zc_gt l dp).symm.trans c76)
      have hi1 := z_inc (a := l) (by omega) (by omega)
      refine zeN (q := ((84, [(0, .ref 54), (1, .int p), (2, .int tb), (3, .long t), (5, .long u), (8, .int q), (7, .int c), (9, .int dp), (10, .int l)], [.int l, .int q, .ref 54]), yhp w G sz)) 3 rfl ?_
      refine zec 1 (M' := M_Mo_foremost) (qq := ([.ref 54, .int q, .int l], [])) (s' := (87, [(0, .ref 54), (1, .int p), (2, .int tb), (3, .long t), (5, .long u), (8, .int q), (7, .int c), (9, .int dp), (10, .int l)], [.int (e_Mo_foremost q l w)])) rfl rfl (fun _ => rfl) rfl rfl (zhk rfl (zrc_ok (yhp_o rfl)) rfl) (r_Mo_foremost q l _ hq hM (by omega)) rfl ?_
      refine zbc (q1 := (93, [(0, .ref 54), (1, .int p), (2, .int tb), (3, .long t), (5, .long u), (8, .int q), (7, .int c), (9, .int dp), (10, .int l)], [])) (q2 := (90, [(0, .ref 54), (1, .int p), (2, .int tb), (3, .long t), (5, .long u), (8, .int q), (7, .int c), (9, .int dp), (10, .int l)], [])) (cB := zc .ne (e_Mo_foremost q l w) 0) (off := 6) (lv := [(0, .ref 54), (1, .int p), (2, .int tb), (3, .long t), (5, .long u), (8, .int q), (7, .int c), (9, .int dp), (10, .int l)]) (st := []) rfl rfl rfl rfl rfl (fun c87 => ?_) (fun c87 => ?_)
      · rw [c87] at k
        refine zeN (q := ((98, [(0, .ref 54), (1, .int p), (2, .int tb), (3, .long t), (5, .long u), (8, .int q), (7, .int c), (9, .int dp), (10, .int l)], [.int l, .int q, .ref 54]), yhp w G sz)) 3 rfl ?_
        refine zec 1 (M' := M_Mo_nodeBound) (qq := ([.ref 54, .int q, .int l], [])) (s' := (101, [(0, .ref 54), (1, .int p), (2, .int tb), (3, .long t), (5, .long u), (8, .int q), (7, .int c), (9, .int dp), (10, .int l)], [])) rfl rfl (fun _ => rfl) rfl rfl (zhk rfl (zrc_ok (yhp_o rfl)) rfl) (r_Mo_nodeBound q l _ hq hM (by omega)) rfl ?_
        refine zeS [(0, .ref 54), (1, .int p), (2, .int tb), (3, .long t), (5, .long u), (8, .int q), (9, .int dp), (10, .int l), (7, .int c)] (zsub_pick [0, 1, 2, 3, 4, 5, 7, 8, 6] rfl rfl) ?_
        refine t_Mo_readBy_101 p tb t u q dp l (e_Mo_nodeBound q l w) c hp (by omega) ?_
        refine zeN (q := ((72, [(10, .int (l + Int32.ofInt 1)), (0, .ref 54), (1, .int p), (2, .int tb), (3, .long t), (5, .long u), (8, .int q), (9, .int dp), (7, .int ((g_Mo_readBy_101 p tb t u q dp l  (e_Mo_nodeBound q l w) c).2))], []), yhp ((g_Mo_readBy_101 p tb t u q dp l  (e_Mo_nodeBound q l w) c).1) G sz)) 2 rfl ?_
        refine zeS [(0, .ref 54), (1, .int p), (2, .int tb), (3, .long t), (5, .long u), (8, .int q), (7, .int ((g_Mo_readBy_101 p tb t u q dp l  (e_Mo_nodeBound q l w) c).2)), (9, .int dp), (10, .int (l + Int32.ofInt 1))] (zsub_pick [1, 2, 3, 4, 5, 6, 8, 7, 0] rfl rfl) ?_
        exact ih ((g_Mo_readBy_101 p tb t u q dp l  (e_Mo_nodeBound q l w) c).1) ((g_Mo_readBy_101 p tb t u q dp l  (e_Mo_nodeBound q l w) c).2) dp (l + Int32.ofInt 1) (yM_K (S := [(54, some 17), (54, some 18), (54, some 19), (54, some 20)]) (yK_tr (yK_tr yK_rfl (yK_mono rfl (kf_Mo_nodeBound ..))) (yK_mono rfl (kf_Mo_readBy_101 ..))) rfl rfl hM) hdp (by omega) (by omega) (by omega) k
      · rw [c87] at k
        refine zeN (q := ((72, [(10, .int (l + Int32.ofInt 1)), (0, .ref 54), (1, .int p), (2, .int tb), (3, .long t), (5, .long u), (8, .int q), (7, .int c), (9, .int dp)], []), yhp w G sz)) 3 rfl ?_
        refine zeS [(0, .ref 54), (1, .int p), (2, .int tb), (3, .long t), (5, .long u), (8, .int q), (7, .int c), (9, .int dp), (10, .int (l + Int32.ofInt 1))] (zsub_pick [1, 2, 3, 4, 5, 6, 7, 8, 0] rfl rfl) ?_
        exact ih w c dp (l + Int32.ofInt 1) (yM_K (S := [(54, some 17), (54, some 18), (54, some 19), (54, some 20)]) yK_rfl rfl rfl hM) hdp (by omega) (by omega) (by omega) k
set_option maxRecDepth 100000 in
theorem kf_Mo_readBy_72 (p tb : Int32) (t u : Int64) (q : Int32) : ∀ (n : Nat) (w : yW) (c : Int32) (dp : Int32) (l : Int32), yK [(54, some 17), (54, some 18), (54, some 19), (54, some 20)] w (g_Mo_readBy_72 p tb t u q n w c dp l).1 := by
  intro n
  induction n with
  | zero => intros; exact yK_rfl
  | succ n ih => intro w c dp l; rw [g_Mo_readBy_72]; exact (yK_if1 (yK_p yK_rfl) (yK_if1 (yK_tr (yK_tr (yK_tr yK_rfl (yK_mono rfl (kf_Mo_nodeBound ..))) (yK_mono rfl (kf_Mo_readBy_101 ..))) (ih _ _ _ _)) (yK_tr yK_rfl (ih _ _ _ _))))
def g_Mo_readBy_9 (p tb : Int32) (t u : Int64) : Nat → yW → Int32 → Int32 → yW × Int32
  | 0, w, c, q => (w, c)
  | n + 1, w, c, q => (bif zc .ge q ((16 * tb) + 16) then (w, c) else (bif zc .ne (w.1 55 q.toNatClampNeg) 0 then g_Mo_readBy_9 p tb t u  n ((g_Mo_readBy_72 p tb t u q 10 ((g_Mo_readBy_40 p tb t u q  (e_Mo_around q w) c).1) ((g_Mo_readBy_40 p tb t u q  (e_Mo_around q w) c).2) ((e_Mo_home q ((g_Mo_readBy_40 p tb t u q  (e_Mo_around q w) c).1)).2) 0).1) ((g_Mo_readBy_72 p tb t u q 10 ((g_Mo_readBy_40 p tb t u q  (e_Mo_around q w) c).1) ((g_Mo_readBy_40 p tb t u q  (e_Mo_around q w) c).2) ((e_Mo_home q ((g_Mo_readBy_40 p tb t u q  (e_Mo_around q w) c).1)).2) 0).2) (q + Int32.ofInt 1) else g_Mo_readBy_9 p tb t u  n w c (q + Int32.ofInt 1)))
set_option maxRecDepth 100000 in
theorem t_Mo_readBy_9 {fr lo sz : Nat} {r : Option Value × zH} {G : List zC} (p tb : Int32) (t u : Int64) (hp : zIx p 65) (ht0 : 0 ≤ tb.toInt) (ht1 : tb.toInt ≤ 1) (hlo : 68 ≤ lo) : ∀ (n : Nat) (w : yW) (c : Int32) (q : Int32) (hM : yM w) (h0 : 16 * tb.toInt ≤ q.toInt) (h1 : q.toInt ≤ 16 * tb.toInt + 16) (hn : 16 * tb.toInt + 16 < q.toInt + n) (k : zRun (fr + 3) lo none M_Mo_readBy (134, [(0, .ref 54), (1, .int p), (2, .int tb), (3, .long t), (5, .long u), (7, .int ((g_Mo_readBy_9 p tb t u n w c q).2))], []) (yhp (g_Mo_readBy_9 p tb t u n w c q).1 G sz) r), zRun (fr + 3) lo none M_Mo_readBy (9, [(0, .ref 54), (1, .int p), (2, .int tb), (3, .long t), (5, .long u), (7, .int c), (8, .int q)], []) (yhp w G sz) r := by
  intro n
  induction n with
  | zero => intro w c q hM h0 h1 hn k; exfalso; omega
  | succ n ih =>
    intro w c q hM h0 h1 hn k
    rw [g_Mo_readBy_9] at k
    refine zeN (q := ((18, [(0, .ref 54), (1, .int p), (2, .int tb), (3, .long t), (5, .long u), (7, .int c), (8, .int q)], [.int ((16 * tb) + 16), .int q]), yhp w G sz)) 6 rfl ?_
    refine zbc (q1 := (134, [(0, .ref 54), (1, .int p), (2, .int tb), (3, .long t), (5, .long u), (7, .int c), (8, .int q)], [])) (q2 := (21, [(0, .ref 54), (1, .int p), (2, .int tb), (3, .long t), (5, .long u), (7, .int c), (8, .int q)], [])) (cB := zc .ge q ((16 * tb) + 16)) (off := 116) (lv := [(0, .ref 54), (1, .int p), (2, .int tb), (3, .long t), (5, .long u), (7, .int c), (8, .int q)]) (st := []) rfl rfl rfl rfl rfl (fun c18 => ?_) (fun c18 => ?_)
    · rw [c18] at k
      refine zeS [(0, .ref 54), (1, .int p), (2, .int tb), (3, .long t), (5, .long u), (7, .int c)] (zsub_pick [0, 1, 2, 3, 4, 5] rfl rfl) ?_
      exact k
    · rw [c18] at k
      have hcc := of_decide_eq_false (z_ge c18).symm
      rw [z_1616 ht0 ht1] at hcc
      have hq : zIx q 32 := ⟨by omega, by omega⟩
      have hq65 := zIx_65 hq
      have hi1 := z_inc (a := q) (by omega) (by omega)
      refine zeN (q := ((22, [(0, .ref 54), (1, .int p), (2, .int tb), (3, .long t), (5, .long u), (7, .int c), (8, .int q)], [.ref 54]), yhp w G sz)) 1 rfl ?_
      refine ygf (kk := .inl (.ref 55)) (v := .ref 55) rfl rfl rfl rfl rfl rfl rfl ?_
      refine zeN (q := ((27, [(0, .ref 54), (1, .int p), (2, .int tb), (3, .long t), (5, .long u), (7, .int c), (8, .int q)], [.int q, .ref 55]), yhp w G sz)) 1 rfl ?_
      refine yba (N := 65) rfl rfl rfl (by assumption) ?_
      refine zbc (q1 := (34, [(0, .ref 54), (1, .int p), (2, .int tb), (3, .long t), (5, .long u), (7, .int c), (8, .int q)], [])) (q2 := (31, [(0, .ref 54), (1, .int p), (2, .int tb), (3, .long t), (5, .long u), (7, .int c), (8, .int q)], [])) (cB := zc .ne (w.1 55 q.toNatClampNeg) 0) (off := 6) (lv := [(0, .ref 54), (1, .int p), (2, .int tb), (3, .long t), (5, .long u), (7, .int c), (8, .int q)]) (st := []) rfl rfl rfl rfl rfl (fun c28 => ?_) (fun c28 => ?_)
      · rw [c28] at k
        refine zeN (q := ((37, [(0, .ref 54), (1, .int p), (2, .int tb), (3, .long t), (5, .long u), (7, .int c), (8, .int q)], [.int q, .ref 54]), yhp w G sz)) 2 rfl ?_
        refine zec 1 (M' := M_Mo_around) (qq := ([.ref 54, .int q], [])) (s' := (40, [(0, .ref 54), (1, .int p), (2, .int tb), (3, .long t), (5, .long u), (7, .int c), (8, .int q)], [])) rfl rfl (fun _ => rfl) rfl rfl (zhk rfl (zrc_ok (yhp_o rfl)) rfl) (r_Mo_around q _ hq65 (by omega)) rfl ?_
        refine zeS [(0, .ref 54), (1, .int p), (2, .int tb), (3, .long t), (5, .long u), (8, .int q), (7, .int c)] (zsub_pick [0, 1, 2, 3, 4, 6, 5] rfl rfl) ?_
        refine t_Mo_readBy_40 p tb t u q (e_Mo_around q w) c hp (by omega) ?_
        have hK : yK [(54, some 17), (54, some 18), (54, some 19), (54, some 20)] w ((g_Mo_readBy_40 p tb t u q  (e_Mo_around q w) c).1) := (yK_tr (yK_tr yK_rfl (yK_mono rfl (kf_Mo_around ..))) (yK_mono rfl (kf_Mo_readBy_40 ..)))
        have hMh := yM_K hK rfl rfl hM
        have hne : ¬ ((g_Mo_readBy_40 p tb t u q  (e_Mo_around q w) c).1).1 55 q.toNatClampNeg = 0 := by rw [yKi hK rfl]; exact of_decide_eq_true c28
        refine zeN (q := ((64, [(0, .ref 54), (1, .int p), (2, .int tb), (3, .long t), (5, .long u), (8, .int q), (7, .int ((g_Mo_readBy_40 p tb t u q  (e_Mo_around q w) c).2))], [.int q, .ref 54]), yhp ((g_Mo_readBy_40 p tb t u q  (e_Mo_around q w) c).1) G sz)) 2 rfl ?_
        refine zec 1 (M' := M_Mo_home) (qq := ([.ref 54, .int q], [])) (s' := (67, [(0, .ref 54), (1, .int p), (2, .int tb), (3, .long t), (5, .long u), (8, .int q), (7, .int ((g_Mo_readBy_40 p tb t u q  (e_Mo_around q w) c).2))], [.int ((e_Mo_home q ((g_Mo_readBy_40 p tb t u q  (e_Mo_around q w) c).1)).2)])) rfl rfl (fun _ => rfl) rfl rfl (zhk rfl (zrc_ok (yhp_o rfl)) rfl) (p_Mo_home q hq65 hMh hne (by omega)) rfl ?_
        refine zeN (q := ((72, [(10, .int 0), (9, .int ((e_Mo_home q ((g_Mo_readBy_40 p tb t u q  (e_Mo_around q w) c).1)).2)), (0, .ref 54), (1, .int p), (2, .int tb), (3, .long t), (5, .long u), (8, .int q), (7, .int ((g_Mo_readBy_40 p tb t u q  (e_Mo_around q w) c).2))], []), yhp ((g_Mo_readBy_40 p tb t u q  (e_Mo_around q w) c).1) G sz)) 3 rfl ?_
        refine zeS [(0, .ref 54), (1, .int p), (2, .int tb), (3, .long t), (5, .long u), (8, .int q), (7, .int ((g_Mo_readBy_40 p tb t u q  (e_Mo_around q w) c).2)), (9, .int ((e_Mo_home q ((g_Mo_readBy_40 p tb t u q  (e_Mo_around q w) c).1)).2)), (10, .int 0)] (zsub_pick [2, 3, 4, 5, 6, 7, 8, 1, 0] rfl rfl) ?_
        refine t_Mo_readBy_72 p tb t u q hp hq (by omega) 10 ((g_Mo_readBy_40 p tb t u q  (e_Mo_around q w) c).1) ((g_Mo_readBy_40 p tb t u q  (e_Mo_around q w) c).2) ((e_Mo_home q ((g_Mo_readBy_40 p tb t u q  (e_Mo_around q w) c).1)).2) 0 (yM_K (S := [(54, some 17), (54, some 18), (54, some 19), (54, some 20)]) (yK_tr (yK_tr yK_rfl (yK_mono rfl (kf_Mo_around ..))) (yK_mono rfl (kf_Mo_readBy_40 ..))) rfl rfl hM) (h_Mo_home ..) (by decide) (by decide) (by decide) ?_
        refine zeN (q := ((9, [(8, .int (q + Int32.ofInt 1)), (0, .ref 54), (1, .int p), (2, .int tb), (3, .long t), (5, .long u), (7, .int ((g_Mo_readBy_72 p tb t u q 10 ((g_Mo_readBy_40 p tb t u q  (e_Mo_around q w) c).1) ((g_Mo_readBy_40 p tb t u q  (e_Mo_around q w) c).2) ((e_Mo_home q ((g_Mo_readBy_40 p tb t u q  (e_Mo_around q w) c).1)).2) 0).2))], []), yhp ((g_Mo_readBy_72 p tb t u q 10 ((g_Mo_readBy_40 p tb t u q  (e_Mo_around q w) c).1) ((g_Mo_readBy_40 p tb t u q  (e_Mo_around q w) c).2) ((e_Mo_home q ((g_Mo_readBy_40 p tb t u q  (e_Mo_around q w) c).1)).2) 0).1) G sz)) 2 rfl ?_
        refine zeS [(0, .ref 54), (1, .int p), (2, .int tb), (3, .long t), (5, .long u), (7, .int ((g_Mo_readBy_72 p tb t u q 10 ((g_Mo_readBy_40 p tb t u q  (e_Mo_around q w) c).1) ((g_Mo_readBy_40 p tb t u q  (e_Mo_around q w) c).2) ((e_Mo_home q ((g_Mo_readBy_40 p tb t u q  (e_Mo_around q w) c).1)).2) 0).2)), (8, .int (q + Int32.ofInt 1))] (zsub_pick [1, 2, 3, 4, 5, 6, 0] rfl rfl) ?_
        exact ih ((g_Mo_readBy_72 p tb t u q 10 ((g_Mo_readBy_40 p tb t u q  (e_Mo_around q w) c).1) ((g_Mo_readBy_40 p tb t u q  (e_Mo_around q w) c).2) ((e_Mo_home q ((g_Mo_readBy_40 p tb t u q  (e_Mo_around q w) c).1)).2) 0).1) ((g_Mo_readBy_72 p tb t u q 10 ((g_Mo_readBy_40 p tb t u q  (e_Mo_around q w) c).1) ((g_Mo_readBy_40 p tb t u q  (e_Mo_around q w) c).2) ((e_Mo_home q ((g_Mo_readBy_40 p tb t u q  (e_Mo_around q w) c).1)).2) 0).2) (q + Int32.ofInt 1) (yM_K (S := [(54, some 17), (54, some 18), (54, some 19), (54, some 20)]) (yK_tr (yK_tr (yK_tr yK_rfl (yK_mono rfl (kf_Mo_around ..))) (yK_mono rfl (kf_Mo_readBy_40 ..))) (yK_mono rfl (kf_Mo_readBy_72 ..))) rfl rfl hM) (by omega) (by omega) (by omega) k
      · rw [c28] at k
        refine zeN (q := ((9, [(8, .int (q + Int32.ofInt 1)), (0, .ref 54), (1, .int p), (2, .int tb), (3, .long t), (5, .long u), (7, .int c)], []), yhp w G sz)) 3 rfl ?_
        refine zeS [(0, .ref 54), (1, .int p), (2, .int tb), (3, .long t), (5, .long u), (7, .int c), (8, .int (q + Int32.ofInt 1))] (zsub_pick [1, 2, 3, 4, 5, 6, 0] rfl rfl) ?_
        exact ih w c (q + Int32.ofInt 1) (yM_K (S := [(54, some 17), (54, some 18), (54, some 19), (54, some 20)]) yK_rfl rfl rfl hM) (by omega) (by omega) (by omega) k
set_option maxRecDepth 100000 in
theorem kf_Mo_readBy_9 (p tb : Int32) (t u : Int64) : ∀ (n : Nat) (w : yW) (c : Int32) (q : Int32), yK [(54, some 17), (54, some 18), (54, some 19), (54, some 20)] w (g_Mo_readBy_9 p tb t u n w c q).1 := by
  intro n
  induction n with
  | zero => intros; exact yK_rfl
  | succ n ih => intro w c q; rw [g_Mo_readBy_9]; exact (yK_if1 (yK_p yK_rfl) (yK_if1 (yK_tr (yK_tr (yK_tr (yK_tr yK_rfl (yK_mono rfl (kf_Mo_around ..))) (yK_mono rfl (kf_Mo_readBy_40 ..))) (yK_mono rfl (kf_Mo_readBy_72 ..))) (ih _ _ _)) (yK_tr yK_rfl (ih _ _ _))))
def e_Mo_readBy (p tb : Int32) (t u : Int64) (w : yW) : yW × Int32 := ((g_Mo_readBy_9 p tb t u 17 w 0 (16 * tb)).1, (g_Mo_readBy_9 p tb t u 17 w 0 (16 * tb)).2)
set_option maxRecDepth 100000 in
theorem r_Mo_readBy {fr lo sz : Nat} {G : List zC} (p tb : Int32) (t u : Int64) (w : yW) (hp : zIx p 65) (ht0 : 0 ≤ tb.toInt) (ht1 : tb.toInt ≤ 1) (hM : yM w) (hlo : 98 ≤ lo) : zAns (fr + 4) lo 127 [.ref 54, .int p, .int tb, .long t, .long u] (yhp w G sz) (some (.int ((e_Mo_readBy p tb t u w).2)), yhp ((e_Mo_readBy p tb t u w).1) G sz) := by
  unfold e_Mo_readBy
  refine zeb (fr := fr + 3) (M := M_Mo_readBy) rfl (Nat.le_trans (by decide) hlo) rfl ?_
  have e0 : mL M_Mo_readBy = 11 := rfl
  refine zeN (q := ((9, [(8, .int (16 * tb)), (7, .int 0), (0, .ref 54), (1, .int p), (2, .int tb), (3, .long t), (5, .long u)], []), yhp w G sz)) 6 rfl ?_
  refine zeS [(0, .ref 54), (1, .int p), (2, .int tb), (3, .long t), (5, .long u), (7, .int 0), (8, .int (16 * tb))] (zsub_pick [2, 3, 4, 5, 6, 1, 0] rfl rfl) ?_
  refine t_Mo_readBy_9 p tb t u hp ht0 ht1 (by omega) 17 w 0 (16 * tb) hM (by rw [z_16 ht0 ht1]; omega) (by rw [z_16 ht0 ht1]; omega) (by rw [z_16 ht0 ht1]; omega) ?_
  refine zeN (q := ((136, [(0, .ref 54), (1, .int p), (2, .int tb), (3, .long t), (5, .long u), (7, .int ((g_Mo_readBy_9 p tb t u 17 w 0 (16 * tb)).2))], [.int ((g_Mo_readBy_9 p tb t u 17 w 0 (16 * tb)).2)]), yhp ((g_Mo_readBy_9 p tb t u 17 w 0 (16 * tb)).1) G sz)) 1 rfl ?_
  exact zer rfl rfl
set_option maxRecDepth 100000 in
theorem kf_Mo_readBy (p tb : Int32) (t u : Int64) (w : yW)  : yK [(54, some 17), (54, some 18), (54, some 19), (54, some 20)] w (e_Mo_readBy p tb t u w ).1 := by unfold e_Mo_readBy; exact (yK_p (yK_tr yK_rfl (yK_mono rfl (kf_Mo_readBy_9 ..))))
