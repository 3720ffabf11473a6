def g_Mo_nearest_67 (t ka q : Int32) (w : yW)  : yW := wL (wL w 67 q.toNatClampNeg (w.2.1 54 13)) 68 q.toNatClampNeg ((wL w 67 q.toNatClampNeg (w.2.1 54 13)).2.1 54 14)
set_option maxRecDepth 100000 in
theorem t_Mo_nearest_67 {fr lo sz : Nat} {r : Option Value × zH} {G : List zC} (t ka q : Int32) (w : yW)  (hq : zIx q 16) (hlo : 161 ≤ lo) (k : zRun (fr + 6) lo none M_Mo_nearest (87, [(0, .ref 54), (1, .int t), (2, .int ka), (3, .int q)], []) (yhp (g_Mo_nearest_67 t ka q w ) G sz) r) : zRun (fr + 6) lo none M_Mo_nearest (67, [(0, .ref 54), (1, .int t), (2, .int ka), (3, .int q)], []) (yhp w G sz) r := by
  unfold g_Mo_nearest_67 at k
  refine zeN (q := ((68, [(0, .ref 54), (1, .int t), (2, .int ka), (3, .int q)], [.ref 54]), yhp w G sz)) 1 rfl ?_
  refine ygf (kk := .inl (.ref 67)) (v := .ref 67) rfl rfl rfl rfl rfl rfl rfl ?_
  refine zeN (q := ((73, [(0, .ref 54), (1, .int t), (2, .int ka), (3, .int q)], [.ref 54, .int q, .ref 67]), yhp w G sz)) 2 rfl ?_
  refine ygf (kk := .inr 1) (v := .long (w.2.1 54 13)) rfl rfl rfl rfl rfl rfl rfl ?_
  refine yls (N := 16) rfl rfl rfl (by assumption) ?_
  refine zeN (q := ((78, [(0, .ref 54), (1, .int t), (2, .int ka), (3, .int q)], [.ref 54]), yhp (wL w 67 q.toNatClampNeg (w.2.1 54 13)) G sz)) 1 rfl ?_
  refine ygf (kk := .inl (.ref 68)) (v := .ref 68) rfl rfl rfl rfl rfl rfl rfl ?_
  refine zeN (q := ((83, [(0, .ref 54), (1, .int t), (2, .int ka), (3, .int q)], [.ref 54, .int q, .ref 68]), yhp (wL w 67 q.toNatClampNeg (w.2.1 54 13)) G sz)) 2 rfl ?_
  refine ygf (kk := .inr 1) (v := .long ((wL w 67 q.toNatClampNeg (w.2.1 54 13)).2.1 54 14)) rfl rfl rfl rfl rfl rfl rfl ?_
  refine yls (N := 16) rfl rfl rfl (by assumption) ?_
  exact k
set_option maxRecDepth 100000 in
theorem kf_Mo_nearest_67 (t ka q : Int32) (w : yW)  : yK [(54, some 13), (54, some 14), (54, some 17), (54, some 18), (54, some 19), (54, some 20), (54, some 21), (54, some 22), (67, none), (68, none), (69, none)] w (g_Mo_nearest_67 t ka q w ) := by unfold g_Mo_nearest_67; exact (yK_wL rfl (yK_wL rfl yK_rfl))
def g_Mo_nearest_32 (t ka : Int32) : Nat → yW → Int32 → yW
  | 0, w, q => w
  | n + 1, w, q => (bif zc .ge q 16 then w else (bif zc .ne (w.1 55 ((16 * t) + q).toNatClampNeg) 0 then g_Mo_nearest_32 t ka  n ((g_Mo_nearest_67 t ka q  (e_Mo_measureOut foc (16 * t + q) w) )) (q + Int32.ofInt 1) else g_Mo_nearest_32 t ka  n w (q + Int32.ofInt 1)))
set_option maxRecDepth 100000 in
theorem t_Mo_nearest_32 {fr lo sz : Nat} {r : Option Value × zH} {G : List zC} (t ka : Int32) (ht0 : 0 ≤ t.toInt) (ht1 : t.toInt ≤ 1) (hlo : 161 ≤ lo) : ∀ (n : Nat) (w : yW) (q : Int32) (hM : yM w) (hf : ¬ w.1 55 (64 : Int32).toNatClampNeg = 0) (h0 : 0 ≤ q.toInt) (h1 : q.toInt ≤ 16) (hn : 16 < q.toInt + n) (k : zRun (fr + 6) lo none M_Mo_nearest (93, [(0, .ref 54), (1, .int t), (2, .int ka)], []) (yhp (g_Mo_nearest_32 t ka n w q) G sz) r), zRun (fr + 6) lo none M_Mo_nearest (32, [(0, .ref 54), (1, .int t), (2, .int ka), (3, .int q)], []) (yhp w G sz) r := by
  intro n
  induction n with
  | zero => intro w q hM hf h0 h1 hn k; exfalso; omega
  | succ n ih =>
    intro w q hM hf h0 h1 hn k
    rw [g_Mo_nearest_32] at k
    refine zeN (q := ((35, [(0, .ref 54), (1, .int t), (2, .int ka), (3, .int q)], [.int 16, .int q]), yhp w G sz)) 2 rfl ?_
    refine zbc (q1 := (93, [(0, .ref 54), (1, .int t), (2, .int ka), (3, .int q)], [])) (q2 := (38, [(0, .ref 54), (1, .int t), (2, .int ka), (3, .int q)], [])) (cB := zc .ge q 16) (off := 58) (lv := [(0, .ref 54), (1, .int t), (2, .int ka), (3, .int q)]) (st := []) rfl rfl rfl rfl rfl (fun c35 => ?_) (fun c35 => ?_)
    · rw [c35] at k
      refine zeS [(0, .ref 54), (1, .int t), (2, .int ka)] (zsub_pick [0, 1, 2] rfl rfl) ?_
      exact k
    · rw [c35] at k
      have hcc : ¬ (16 : Int) ≤ q.toInt := of_decide_eq_false (z_ge c35).symm
      have hx := zIx_16r ht0 ht1 h0 (show q.toInt ≤ 15 by omega)
      have hi1 := z_inc (a := q) (by omega) (by omega)
      have hq : zIx q 16 := ⟨h0, by omega⟩
      refine zeN (q := ((39, [(0, .ref 54), (1, .int t), (2, .int ka), (3, .int q)], [.ref 54]), yhp w G sz)) 1 rfl ?_
      refine ygf (kk := .inl (.ref 55)) (v := .ref 55) rfl rfl rfl rfl rfl rfl rfl ?_
      refine zeN (q := ((48, [(0, .ref 54), (1, .int t), (2, .int ka), (3, .int q)], [.int ((16 * t) + q), .ref 55]), yhp w G sz)) 5 rfl ?_
      refine yba (N := 65) rfl rfl rfl (by assumption) ?_
      refine zbc (q1 := (55, [(0, .ref 54), (1, .int t), (2, .int ka), (3, .int q)], [])) (q2 := (52, [(0, .ref 54), (1, .int t), (2, .int ka), (3, .int q)], [])) (cB := zc .ne (w.1 55 ((16 * t) + q).toNatClampNeg) 0) (off := 6) (lv := [(0, .ref 54), (1, .int t), (2, .int ka), (3, .int q)]) (st := []) rfl rfl rfl rfl rfl (fun c49 => ?_) (fun c49 => ?_)
      · rw [c49] at k
        have hne : ¬ w.1 55 (16 * t + q).toNatClampNeg = 0 := of_decide_eq_true c49
        refine zeN (q := ((64, [(0, .ref 54), (1, .int t), (2, .int ka), (3, .int q)], [.int ((16 * t) + q), .int 64, .ref 54]), yhp w G sz)) 7 rfl ?_
        refine zec 1 (M' := M_Mo_measureOut) (qq := ([.ref 54, .int 64, .int ((16 * t) + q)], [])) (s' := (67, [(0, .ref 54), (1, .int t), (2, .int ka), (3, .int q)], [])) rfl rfl (fun _ => rfl) rfl rfl (zhk rfl (zrc_ok (yhp_o rfl)) rfl) (p_Mo_measureOut foc (16 * t + q) zIx_foc hx hM hf hne (by omega)) rfl ?_
        refine t_Mo_nearest_67 t ka q (e_Mo_measureOut foc (16 * t + q) w)  hq (by omega) ?_
        refine zeN (q := ((32, [(3, .int (q + Int32.ofInt 1)), (0, .ref 54), (1, .int t), (2, .int ka)], []), yhp ((g_Mo_nearest_67 t ka q  (e_Mo_measureOut foc (16 * t + q) w) )) G sz)) 2 rfl ?_
        refine zeS [(0, .ref 54), (1, .int t), (2, .int ka), (3, .int (q + Int32.ofInt 1))] (zsub_pick [1, 2, 3, 0] rfl rfl) ?_
        exact ih ((g_Mo_nearest_67 t ka q  (e_Mo_measureOut foc (16 * t + q) w) )) (q + Int32.ofInt 1) (yM_K (S := [(54, some 13), (54, some 14), (54, some 17), (54, some 18), (54, some 19), (54, some 20), (54, some 21), (54, some 22), (67, none), (68, none), (69, none)]) (yK_tr (yK_tr yK_rfl (yK_mono rfl (kf_Mo_measureOut ..))) (yK_mono rfl (kf_Mo_nearest_67 ..))) rfl rfl hM) (by rw [yKi (S := [(54, some 13), (54, some 14), (54, some 17), (54, some 18), (54, some 19), (54, some 20), (54, some 21), (54, some 22), (67, none), (68, none), (69, none)]) (yK_tr (yK_tr yK_rfl (yK_mono rfl (kf_Mo_measureOut ..))) (yK_mono rfl (kf_Mo_nearest_67 ..))) rfl]; exact hf) (by omega) (by omega) (by omega) k
      · rw [c49] at k
        refine zeN (q := ((32, [(3, .int (q + Int32.ofInt 1)), (0, .ref 54), (1, .int t), (2, .int ka)], []), yhp w G sz)) 3 rfl ?_
        refine zeS [(0, .ref 54), (1, .int t), (2, .int ka), (3, .int (q + Int32.ofInt 1))] (zsub_pick [1, 2, 3, 0] rfl rfl) ?_
        exact ih w (q + Int32.ofInt 1) (yM_K (S := [(54, some 13), (54, some 14), (54, some 17), (54, some 18), (54, some 19), (54, some 20), (54, some 21), (54, some 22), (67, none), (68, none), (69, none)]) yK_rfl rfl rfl hM) (by rw [yKi (S := [(54, some 13), (54, some 14), (54, some 17), (54, some 18), (54, some 19), (54, some 20), (54, some 21), (54, some 22), (67, none), (68, none), (69, none)]) yK_rfl rfl]; exact hf) (by omega) (by omega) (by omega) k
set_option maxRecDepth 100000 in
theorem kf_Mo_nearest_32 (t ka : Int32) : ∀ (n : Nat) (w : yW) (q : Int32), yK [(54, some 13), (54, some 14), (54, some 17), (54, some 18), (54, some 19), (54, some 20), (54, some 21), (54, some 22), (67, none), (68, none), (69, none)] w (g_Mo_nearest_32 t ka n w q) := by
  intro n
  induction n with
  | zero => intros; exact yK_rfl
  | succ n ih => intro w q; rw [g_Mo_nearest_32]; exact (yK_if yK_rfl (yK_if (yK_tr (yK_tr (yK_tr yK_rfl (yK_mono rfl (kf_Mo_measureOut ..))) (yK_mono rfl (kf_Mo_nearest_67 ..))) (ih _ _)) (yK_tr yK_rfl (ih _ _))))
def g_Mo_nearest_99 (t ka nn : Int32) (w : yW)  : yW := (bif zc .ge nn ka then wI w 54 21 ka else wI w 54 21 nn)
set_option maxRecDepth 100000 in
theorem t_Mo_nearest_99 {fr lo sz : Nat} {r : Option Value × zH} {G : List zC} (t ka nn : Int32) (w : yW)   (hlo : 161 ≤ lo) (k : zRun (fr + 6) lo none M_Mo_nearest (113, [(0, .ref 54), (1, .int t), (2, .int ka), (3, .int nn)], []) (yhp (g_Mo_nearest_99 t ka nn w ) G sz) r) : zRun (fr + 6) lo none M_Mo_nearest (99, [(0, .ref 54), (1, .int t), (2, .int ka), (3, .int nn)], []) (yhp w G sz) r := by
  unfold g_Mo_nearest_99 at k
  refine zeN (q := ((102, [(0, .ref 54), (1, .int t), (2, .int ka), (3, .int nn)], [.int ka, .int nn, .ref 54]), yhp w G sz)) 3 rfl ?_
  refine zbc (q1 := (109, [(0, .ref 54), (1, .int t), (2, .int ka), (3, .int nn)], [.ref 54])) (q2 := (105, [(0, .ref 54), (1, .int t), (2, .int ka), (3, .int nn)], [.ref 54])) (cB := zc .ge nn ka) (off := 7) (lv := [(0, .ref 54), (1, .int t), (2, .int ka), (3, .int nn)]) (st := [.ref 54]) rfl rfl rfl rfl rfl (fun c102 => ?_) (fun c102 => ?_)
  · rw [c102] at k
    refine zeN (q := ((110, [(0, .ref 54), (1, .int t), (2, .int ka), (3, .int nn)], [.int ka, .ref 54]), yhp w G sz)) 1 rfl ?_
    refine ypI (v := ka) rfl rfl rfl rfl rfl rfl rfl ?_
    exact k
  · rw [c102] at k
    refine zeN (q := ((110, [(0, .ref 54), (1, .int t), (2, .int ka), (3, .int nn)], [.int nn, .ref 54]), yhp w G sz)) 2 rfl ?_
    refine ypI (v := nn) rfl rfl rfl rfl rfl rfl rfl ?_
    exact k
set_option maxRecDepth 100000 in
theorem kf_Mo_nearest_99 (t ka nn : Int32) (w : yW)  : yK [(54, some 13), (54, some 14), (54, some 17), (54, some 18), (54, some 19), (54, some 20), (54, some 21), (54, some 22), (67, none), (68, none), (69, none)] w (g_Mo_nearest_99 t ka nn w ) := by unfold g_Mo_nearest_99; exact (yK_if (yK_wI rfl yK_rfl) (yK_wI rfl yK_rfl))
def g_Mo_nearest_147 (t ka nn q : Int32) : Nat → yW → Int32 → Int32 → yW × Int32
  | 0, w, c, u => (w, c)
  | n + 1, w, c, u => (bif zc .ge u 16 then (w, c) else (bif zc .eq (w.1 55 ((16 * t) + u).toNatClampNeg) 0 then g_Mo_nearest_147 t ka nn q  n w (c + 0) (u + Int32.ofInt 1) else (bif zc .eq (e_Mo_nearer u q w) 0 then g_Mo_nearest_147 t ka nn q  n w (c + 0) (u + Int32.ofInt 1) else g_Mo_nearest_147 t ka nn q  n w (c + 1) (u + Int32.ofInt 1))))
set_option maxRecDepth 100000 in
theorem t_Mo_nearest_147 {fr lo sz : Nat} {r : Option Value × zH} {G : List zC} (t ka nn q : Int32) (ht0 : 0 ≤ t.toInt) (ht1 : t.toInt ≤ 1) (hq : zIx q 16) (hlo : 161 ≤ lo) : ∀ (n : Nat) (w : yW) (c : Int32) (u : Int32) (h0 : 0 ≤ u.toInt) (h1 : u.toInt ≤ 16) (hn : 16 < u.toInt + n) (k : zRun (fr + 6) lo none M_Mo_nearest (196, [(0, .ref 54), (1, .int t), (2, .int ka), (3, .int nn), (4, .int q), (5, .int ((g_Mo_nearest_147 t ka nn q n w c u).2))], []) (yhp (g_Mo_nearest_147 t ka nn q n w c u).1 G sz) r), zRun (fr + 6) lo none M_Mo_nearest (147, [(0, .ref 54), (1, .int t), (2, .int ka), (3, .int nn), (4, .int q), (5, .int c), (6, .int u)], []) (yhp w G sz) r := by
  intro n
  induction n with
  | zero => intro w c u h0 h1 hn k; exfalso; omega
  | succ n ih =>
    intro w c u h0 h1 hn k
    rw [g_Mo_nearest_147] at k
    refine zeN (q := ((151, [(0, .ref 54), (1, .int t), (2, .int ka), (3, .int nn), (4, .int q), (5, .int c), (6, .int u)], [.int 16, .int u]), yhp w G sz)) 2 rfl ?_
    refine zbc (q1 := (196, [(0, .ref 54), (1, .int t), (2, .int ka), (3, .int nn), (4, .int q), (5, .int c), (6, .int u)], [])) (q2 := (154, [(0, .ref 54), (1, .int t), (2, .int ka), (3, .int nn), (4, .int q), (5, .int c), (6, .int u)], [])) (cB := zc .ge u 16) (off := 45) (lv := [(0, .ref 54), (1, .int t), (2, .int ka), (3, .int nn), (4, .int q), (5, .int c), (6, .int u)]) (st := []) rfl rfl rfl rfl rfl (fun c151 => ?_) (fun c151 => ?_)
    · rw [c151] at k
      refine zeS [(0, .ref 54), (1, .int t), (2, .int ka), (3, .int nn), (4, .int q), (5, .int c)] (zsub_pick [0, 1, 2, 3, 4, 5] rfl rfl) ?_
      exact k
    · rw [c151] at k
      have hcc : ¬ (16 : Int) ≤ u.toInt := of_decide_eq_false (z_ge c151).symm
      have hx := zIx_16r ht0 ht1 h0 (show u.toInt ≤ 15 by omega)
      have hi1 := z_inc (a := u) (by omega) (by omega)
      have hu : zIx u 16 := ⟨h0, by omega⟩
      refine zeN (q := ((157, [(0, .ref 54), (1, .int t), (2, .int ka), (3, .int nn), (4, .int q), (5, .int c), (6, .int u)], [.ref 54, .int c]), yhp w G sz)) 2 rfl ?_
      refine ygf (kk := .inl (.ref 55)) (v := .ref 55) rfl rfl rfl rfl rfl rfl rfl ?_
      refine zeN (q := ((167, [(0, .ref 54), (1, .int t), (2, .int ka), (3, .int nn), (4, .int q), (5, .int c), (6, .int u)], [.int ((16 * t) + u), .ref 55, .int c]), yhp w G sz)) 5 rfl ?_
      refine yba (N := 65) rfl rfl rfl (by assumption) ?_
      refine zbc (q1 := (186, [(0, .ref 54), (1, .int t), (2, .int ka), (3, .int nn), (4, .int q), (5, .int c), (6, .int u)], [.int c])) (q2 := (171, [(0, .ref 54), (1, .int t), (2, .int ka), (3, .int nn), (4, .int q), (5, .int c), (6, .int u)], [.int c])) (cB := zc .eq (w.1 55 ((16 * t) + u).toNatClampNeg) 0) (off := 18) (lv := [(0, .ref 54), (1, .int t), (2, .int ka), (3, .int nn), (4, .int q), (5, .int c), (6, .int u)]) (st := [.int c]) rfl rfl rfl rfl rfl (fun c168 => ?_) (fun c168 => ?_)
      · rw [c168] at k
        refine zeN (q := ((147, [(6, .int (u + Int32.ofInt 1)), (5, .int (c + 0)), (0, .ref 54), (1, .int t), (2, .int ka), (3, .int nn), (4, .int q)], []), yhp w G sz)) 5 rfl ?_
        refine zeS [(0, .ref 54), (1, .int t), (2, .int ka), (3, .int nn), (4, .int q), (5, .int (c + 0)), (6, .int (u + Int32.ofInt 1))] (zsub_pick [2, 3, 4, 5, 6, 1, 0] rfl rfl) ?_
        exact ih w (c + 0) (u + Int32.ofInt 1) (by omega) (by omega) (by omega) k
      · rw [c168] at k
        refine zeN (q := ((176, [(0, .ref 54), (1, .int t), (2, .int ka), (3, .int nn), (4, .int q), (5, .int c), (6, .int u)], [.int q, .int u, .ref 54, .int c]), yhp w G sz)) 3 rfl ?_
        refine zec 1 (M' := M_Mo_nearer) (qq := ([.ref 54, .int u, .int q], [.int c])) (s' := (179, [(0, .ref 54), (1, .int t), (2, .int ka), (3, .int nn), (4, .int q), (5, .int c), (6, .int u)], [.int (e_Mo_nearer u q w), .int c])) rfl rfl (fun _ => rfl) rfl rfl (zhk rfl (zrc_ok (yhp_o rfl)) rfl) (r_Mo_nearer u q _ hu hq (by omega)) rfl ?_
        refine zbc (q1 := (186, [(0, .ref 54), (1, .int t), (2, .int ka), (3, .int nn), (4, .int q), (5, .int c), (6, .int u)], [.int c])) (q2 := (182, [(0, .ref 54), (1, .int t), (2, .int ka), (3, .int nn), (4, .int q), (5, .int c), (6, .int u)], [.int c])) (cB := zc .eq (e_Mo_nearer u q w) 0) (off := 7) (lv := [(0, .ref 54), (1, .int t), (2, .int ka), (3, .int nn), (4, .int q), (5, .int c), (6, .int u)]) (st := [.int c]) rfl rfl rfl rfl rfl (fun c179 => ?_) (fun c179 => ?_)
        · rw [c179] at k
          refine zeN (q := ((147, [(6, .int (u + Int32.ofInt 1)), (5, .int (c + 0)), (0, .ref 54), (1, .int t), (2, .int ka), (3, .int nn), (4, .int q)], []), yhp w G sz)) 5 rfl ?_
          refine zeS [(0, .ref 54), (1, .int t), (2, .int ka), (3, .int nn), (4, .int q), (5, .int (c + 0)), (6, .int (u + Int32.ofInt 1))] (zsub_pick [2, 3, 4, 5, 6, 1, 0] rfl rfl) ?_
          exact ih w (c + 0) (u + Int32.ofInt 1) (by omega) (by omega) (by omega) k
        · rw [c179] at k
          refine zeN (q := ((147, [(6, .int (u + Int32.ofInt 1)), (5, .int (c + 1)), (0, .ref 54), (1, .int t), (2, .int ka), (3, .int nn), (4, .int q)], []), yhp w G sz)) 6 rfl ?_
          refine zeS [(0, .ref 54), (1, .int t), (2, .int ka), (3, .int nn), (4, .int q), (5, .int (c + 1)), (6, .int (u + Int32.ofInt 1))] (zsub_pick [2, 3, 4, 5, 6, 1, 0] rfl rfl) ?_
          exact ih w (c + 1) (u + Int32.ofInt 1) (by omega) (by omega) (by omega) k
set_option maxRecDepth 100000 in
theorem kf_Mo_nearest_147 (t ka nn q : Int32) : ∀ (n : Nat) (w : yW) (c : Int32) (u : Int32), yK [(54, some 13), (54, some 14), (54, some 17), (54, some 18), (54, some 19), (54, some 20), (54, some 21), (54, some 22), (67, none), (68, none), (69, none)] w (g_Mo_nearest_147 t ka nn q n w c u).1 := by
  intro n
  induction n with
  | zero => intros; exact yK_rfl
  | succ n ih => intro w c u; rw [g_Mo_nearest_147]; exact (yK_if1 (yK_p yK_rfl) (yK_if1 (yK_tr yK_rfl (ih _ _ _)) (yK_if1 (yK_tr yK_rfl (ih _ _ _)) (yK_tr yK_rfl (ih _ _ _)))))
theorem d_Mo_nearest_147 (t ka nn q : Int32) : ∀ (n : Nat) (w : yW) (c u : Int32), 0 ≤ u.toInt → u.toInt ≤ 16 → 0 ≤ c.toInt → c.toInt ≤ u.toInt → 0 ≤ (g_Mo_nearest_147 t ka nn q n w c u).2.toInt ∧ (g_Mo_nearest_147 t ka nn q n w c u).2.toInt ≤ 16 ∧ (g_Mo_nearest_147 t ka nn q n w c u).1 = w := by
  intro n
  induction n with
  | zero => intro w c u h1 h2 h3 h4; exact ⟨h3, by show c.toInt ≤ 16; omega, rfl⟩
  | succ n ih =>
    intro w c u h1 h2 h3 h4
    rw [g_Mo_nearest_147]
    cases cc : zc .ge u 16
    · have hcc : ¬ (16 : Int) ≤ u.toInt := of_decide_eq_false (z_ge cc).symm
      have hi1 := z_inc (a := u) (by omega) (by omega)
      have e0 : (c + 0).toInt = c.toInt := z_add (by show _ ≤ c.toInt + 0; omega) (by show c.toInt + 0 < _; omega) |>.trans (Int.add_zero _)
      have e1 : (c + 1).toInt = c.toInt + 1 := z_add (by show _ ≤ c.toInt + 1; omega) (by show c.toInt + 1 < _; omega)
      have k0 := ih w (c + 0) (u + Int32.ofInt 1) (by omega) (by omega) (by omega) (by omega)
      have k1 := ih w (c + 1) (u + Int32.ofInt 1) (by omega) (by omega) (by omega) (by omega)
      simp only [cond_false]
      generalize zc .eq (w.1 55 _) 0 = b1
      cases b1
      · generalize zc .eq (e_Mo_nearer u q w) 0 = b2
        cases b2
        · exact k1
        · exact k0
      · exact k0
    · exact ⟨h3, by show c.toInt ≤ 16; omega, rfl⟩
def g_Mo_nearest_116 (t ka nn : Int32) : Nat → yW → Int32 → yW
  | 0, w, q => w
  | n + 1, w, q => (bif zc .ge q 16 then w else (bif zc .ne (w.1 55 ((16 * t) + q).toNatClampNeg) 0 then (bif zc .ge ((g_Mo_nearest_147 t ka nn q 17 w 0 0).2) (((g_Mo_nearest_147 t ka nn q 17 w 0 0).1).1 54 21) then g_Mo_nearest_116 t ka nn  n ((g_Mo_nearest_147 t ka nn q 17 w 0 0).1) (q + Int32.ofInt 1) else g_Mo_nearest_116 t ka nn  n (wI ((g_Mo_nearest_147 t ka nn q 17 w 0 0).1) 69 ((g_Mo_nearest_147 t ka nn q 17 w 0 0).2).toNatClampNeg q) (q + Int32.ofInt 1)) else g_Mo_nearest_116 t ka nn  n w (q + Int32.ofInt 1)))
set_option maxRecDepth 100000 in
theorem t_Mo_nearest_116 {fr lo sz : Nat} {r : Option Value × zH} {G : List zC} (t ka nn : Int32) (ht0 : 0 ≤ t.toInt) (ht1 : t.toInt ≤ 1) (hlo : 161 ≤ lo) : ∀ (n : Nat) (w : yW) (q : Int32) (hr : (w.1 54 21).toInt ≤ 16) (h0 : 0 ≤ q.toInt) (h1 : q.toInt ≤ 16) (hn : 16 < q.toInt + n) (k : zRun (fr + 6) lo none M_Mo_nearest (220, [(0, .ref 54), (1, .int t), (2, .int ka), (3, .int nn)], []) (yhp (g_Mo_nearest_116 t ka nn n w q) G sz) r), zRun (fr + 6) lo none M_Mo_nearest (116, [(0, .ref 54), (1, .int t), (2, .int ka), (3, .int nn), (4, .int q)], []) (yhp w G sz) r := by
  intro n
  induction n with
  | zero => intro w q hr h0 h1 hn k; exfalso; omega
  | succ n ih =>
    intro w q hr h0 h1 hn k
    rw [g_Mo_nearest_116] at k
    refine zeN (q := ((120, [(0, .ref 54), (1, .int t), (2, .int ka), (3, .int nn), (4, .int q)], [.int 16, .int q]), yhp w G sz)) 2 rfl ?_
    refine zbc (q1 := (220, [(0, .ref 54), (1, .int t), (2, .int ka), (3, .int nn), (4, .int q)], [])) (q2 := (123, [(0, .ref 54), (1, .int t), (2, .int ka), (3, .int nn), (4, .int q)], [])) (cB := zc .ge q 16) (off := 100) (lv := [(0, .ref 54), (1, .int t), (2, .int ka), (3, .int nn), (4, .int q)]) (st := []) rfl rfl rfl rfl rfl (fun c120 => ?_) (fun c120 => ?_)
    · rw [c120] at k
      refine zeS [(0, .ref 54), (1, .int t), (2, .int ka), (3, .int nn)] (zsub_pick [0, 1, 2, 3] rfl rfl) ?_
      exact k
    · rw [c120] at k
      have hcc : ¬ (16 : Int) ≤ q.toInt := of_decide_eq_false (z_ge c120).symm
      have hx := zIx_16r ht0 ht1 h0 (show q.toInt ≤ 15 by omega)
      have hi1 := z_inc (a := q) (by omega) (by omega)
      have hq : zIx q 16 := ⟨h0, by omega⟩
      have hdd := d_Mo_nearest_147 t ka nn q 17 w 0 0 (by decide) (by decide) (by decide) (by decide)
      refine zeN (q := ((124, [(0, .ref 54), (1, .int t), (2, .int ka), (3, .int nn), (4, .int q)], [.ref 54]), yhp w G sz)) 1 rfl ?_
      refine ygf (kk := .inl (.ref 55)) (v := .ref 55) rfl rfl rfl rfl rfl rfl rfl ?_
      refine zeN (q := ((134, [(0, .ref 54), (1, .int t), (2, .int ka), (3, .int nn), (4, .int q)], [.int ((16 * t) + q), .ref 55]), yhp w G sz)) 5 rfl ?_
      refine yba (N := 65) rfl rfl rfl (by assumption) ?_
      refine zbc (q1 := (141, [(0, .ref 54), (1, .int t), (2, .int ka), (3, .int nn), (4, .int q)], [])) (q2 := (138, [(0, .ref 54), (1, .int t), (2, .int ka), (3, .int nn), (4, .int q)], [])) (cB := zc .ne (w.1 55 ((16 * t) + q).toNatClampNeg) 0) (off := 6) (lv := [(0, .ref 54), (1, .int t), (2, .int ka), (3, .int nn), (4, .int q)]) (st := []) rfl rfl rfl rfl rfl (fun c135 => ?_) (fun c135 => ?_)
      · rw [c135] at k
        refine zeN (q := ((147, [(6, .int 0), (5, .int 0), (0, .ref 54), (1, .int t), (2, .int ka), (3, .int nn), (4, .int q)], []), yhp w G sz)) 4 rfl ?_
        refine zeS [(0, .ref 54), (1, .int t), (2, .int ka), (3, .int nn), (4, .int q), (5, .int 0), (6, .int 0)] (zsub_pick [2, 3, 4, 5, 6, 1, 0] rfl rfl) ?_
        refine t_Mo_nearest_147 t ka nn q ht0 ht1 hq (by omega) 17 w 0 0 (by decide) (by decide) (by decide) ?_
        refine zeN (q := ((199, [(0, .ref 54), (1, .int t), (2, .int ka), (3, .int nn), (4, .int q), (5, .int ((g_Mo_nearest_147 t ka nn q 17 w 0 0).2))], [.ref 54, .int ((g_Mo_nearest_147 t ka nn q 17 w 0 0).2)]), yhp ((g_Mo_nearest_147 t ka nn q 17 w 0 0).1) G sz)) 2 rfl ?_
        refine ygf (kk := .inr 0) (v := .int (((g_Mo_nearest_147 t ka nn q 17 w 0 0).1).1 54 21)) rfl rfl rfl rfl rfl rfl rfl ?_
        refine zbc (q1 := (214, [(0, .ref 54), (1, .int t), (2, .int ka), (3, .int nn), (4, .int q), (5, .int ((g_Mo_nearest_147 t ka nn q 17 w 0 0).2))], [])) (q2 := (205, [(0, .ref 54), (1, .int t), (2, .int ka), (3, .int nn), (4, .int q), (5, .int ((g_Mo_nearest_147 t ka nn q 17 w 0 0).2))], [])) (cB := zc .ge ((g_Mo_nearest_147 t ka nn q 17 w 0 0).2) (((g_Mo_nearest_147 t ka nn q 17 w 0 0).1).1 54 21)) (off := 12) (lv := [(0, .ref 54), (1, .int t), (2, .int ka), (3, .int nn), (4, .int q), (5, .int ((g_Mo_nearest_147 t ka nn q 17 w 0 0).2))]) (st := []) rfl rfl rfl rfl rfl (fun c202 => ?_) (fun c202 => ?_)
        · rw [c202] at k
          refine zeN (q := ((116, [(4, .int (q + Int32.ofInt 1)), (0, .ref 54), (1, .int t), (2, .int ka), (3, .int nn), (5, .int ((g_Mo_nearest_147 t ka nn q 17 w 0 0).2))], []), yhp ((g_Mo_nearest_147 t ka nn q 17 w 0 0).1) G sz)) 2 rfl ?_
          refine zeS [(0, .ref 54), (1, .int t), (2, .int ka), (3, .int nn), (4, .int (q + Int32.ofInt 1))] (zsub_pick [1, 2, 3, 4, 0] rfl rfl) ?_
          exact ih ((g_Mo_nearest_147 t ka nn q 17 w 0 0).1) (q + Int32.ofInt 1) (by first | exact hr | (rw [yKi (S := [(69, none)]) (by repeat' first | refine yK_wI rfl ?_ | (rw [hdd.2.2]; exact yK_rfl)) rfl]; exact hr) | (rw [hdd.2.2]; exact hr)) (by omega) (by omega) (by omega) k
        · rw [c202] at k
          have hbf := of_decide_eq_false (z_ge c202).symm
          rw [hdd.2.2] at hbf
          have hbx : zIx (g_Mo_nearest_147 t ka nn q 17 w 0 0).2 256 := ⟨hdd.1, by omega⟩
          refine zeN (q := ((206, [(0, .ref 54), (1, .int t), (2, .int ka), (3, .int nn), (4, .int q), (5, .int ((g_Mo_nearest_147 t ka nn q 17 w 0 0).2))], [.ref 54]), yhp ((g_Mo_nearest_147 t ka nn q 17 w 0 0).1) G sz)) 1 rfl ?_
          refine ygf (kk := .inl (.ref 69)) (v := .ref 69) rfl rfl rfl rfl rfl rfl rfl ?_
          refine zeN (q := ((213, [(0, .ref 54), (1, .int t), (2, .int ka), (3, .int nn), (4, .int q), (5, .int ((g_Mo_nearest_147 t ka nn q 17 w 0 0).2))], [.int q, .int ((g_Mo_nearest_147 t ka nn q 17 w 0 0).2), .ref 69]), yhp ((g_Mo_nearest_147 t ka nn q 17 w 0 0).1) G sz)) 2 rfl ?_
          refine yis (N := 256) rfl rfl rfl (by assumption) ?_
          refine zeN (q := ((116, [(4, .int (q + Int32.ofInt 1)), (0, .ref 54), (1, .int t), (2, .int ka), (3, .int nn), (5, .int ((g_Mo_nearest_147 t ka nn q 17 w 0 0).2))], []), yhp (wI ((g_Mo_nearest_147 t ka nn q 17 w 0 0).1) 69 ((g_Mo_nearest_147 t ka nn q 17 w 0 0).2).toNatClampNeg q) G sz)) 2 rfl ?_
          refine zeS [(0, .ref 54), (1, .int t), (2, .int ka), (3, .int nn), (4, .int (q + Int32.ofInt 1))] (zsub_pick [1, 2, 3, 4, 0] rfl rfl) ?_
          exact ih (wI ((g_Mo_nearest_147 t ka nn q 17 w 0 0).1) 69 ((g_Mo_nearest_147 t ka nn q 17 w 0 0).2).toNatClampNeg q) (q + Int32.ofInt 1) (by first | exact hr | (rw [yKi (S := [(69, none)]) (by repeat' first | refine yK_wI rfl ?_ | (rw [hdd.2.2]; exact yK_rfl)) rfl]; exact hr) | (rw [hdd.2.2]; exact hr)) (by omega) (by omega) (by omega) k
      · rw [c135] at k
        refine zeN (q := ((116, [(4, .int (q + Int32.ofInt 1)), (0, .ref 54), (1, .int t), (2, .int ka), (3, .int nn)], []), yhp w G sz)) 3 rfl ?_
        refine zeS [(0, .ref 54), (1, .int t), (2, .int ka), (3, .int nn), (4, .int (q + Int32.ofInt 1))] (zsub_pick [1, 2, 3, 4, 0] rfl rfl) ?_
        exact ih w (q + Int32.ofInt 1) (by first | exact hr | (rw [yKi (S := [(69, none)]) (by repeat' first | refine yK_wI rfl ?_ | (rw [hdd.2.2]; exact yK_rfl)) rfl]; exact hr) | (rw [hdd.2.2]; exact hr)) (by omega) (by omega) (by omega) k
set_option maxRecDepth 100000 in
theorem kf_Mo_nearest_116 (t ka nn : Int32) : ∀ (n : Nat) (w : yW) (q : Int32), yK [(54, some 13), (54, some 14), (54, some 17), (54, some 18), (54, some 19), (54, some 20), (54, some 21), (54, some 22), (67, none), (68, none), (69, none)] w (g_Mo_nearest_116 t ka nn n w q) := by
  intro n
  induction n with
  | zero => intros; exact yK_rfl
  | succ n ih => intro w q; rw [g_Mo_nearest_116]; exact (yK_if yK_rfl (yK_if (yK_if (yK_tr (yK_tr yK_rfl (yK_mono rfl (kf_Mo_nearest_147 ..))) (ih _ _)) (yK_tr (yK_wI rfl (yK_tr yK_rfl (yK_mono rfl (kf_Mo_nearest_147 ..)))) (ih _ _))) (yK_tr yK_rfl (ih _ _))))
def g_Mo_nearest_220 (t ka nn : Int32) (w : yW)  : yW × Int32 := (bif zc .ge nn ka then (w, 0) else (w, 1))
set_option maxRecDepth 100000 in
theorem t_Mo_nearest_220 {fr lo sz : Nat} {r : Option Value × zH} {G : List zC} (t ka nn : Int32) (w : yW)   (hlo : 161 ≤ lo) (k : zRun (fr + 6) lo none M_Mo_nearest (232, [(0, .ref 54), (1, .int t), (2, .int ka), (3, .int nn), (4, .int ((g_Mo_nearest_220 t ka nn w ).2))], []) (yhp (g_Mo_nearest_220 t ka nn w ).1 G sz) r) : zRun (fr + 6) lo none M_Mo_nearest (220, [(0, .ref 54), (1, .int t), (2, .int ka), (3, .int nn)], []) (yhp w G sz) r := by
  unfold g_Mo_nearest_220 at k
  refine zeN (q := ((222, [(0, .ref 54), (1, .int t), (2, .int ka), (3, .int nn)], [.int ka, .int nn]), yhp w G sz)) 2 rfl ?_
  refine zbc (q1 := (229, [(0, .ref 54), (1, .int t), (2, .int ka), (3, .int nn)], [])) (q2 := (225, [(0, .ref 54), (1, .int t), (2, .int ka), (3, .int nn)], [])) (cB := zc .ge nn ka) (off := 7) (lv := [(0, .ref 54), (1, .int t), (2, .int ka), (3, .int nn)]) (st := []) rfl rfl rfl rfl rfl (fun c222 => ?_) (fun c222 => ?_)
  · rw [c222] at k
    refine zeN (q := ((232, [(4, .int 0), (0, .ref 54), (1, .int t), (2, .int ka), (3, .int nn)], []), yhp w G sz)) 2 rfl ?_
    refine zeS [(0, .ref 54), (1, .int t), (2, .int ka), (3, .int nn), (4, .int 0)] (zsub_pick [1, 2, 3, 4, 0] rfl rfl) ?_
    exact k
  · rw [c222] at k
    refine zeN (q := ((232, [(4, .int 1), (0, .ref 54), (1, .int t), (2, .int ka), (3, .int nn)], []), yhp w G sz)) 3 rfl ?_
    refine zeS [(0, .ref 54), (1, .int t), (2, .int ka), (3, .int nn), (4, .int 1)] (zsub_pick [1, 2, 3, 4, 0] rfl rfl) ?_
    exact k
set_option maxRecDepth 100000 in
theorem kf_Mo_nearest_220 (t ka nn : Int32) (w : yW)  : yK [(54, some 13), (54, some 14), (54, some 17), (54, some 18), (54, some 19), (54, some 20), (54, some 21), (54, some 22), (67, none), (68, none), (69, none)] w (g_Mo_nearest_220 t ka nn w ).1 := by unfold g_Mo_nearest_220; exact (yK_if1 (yK_p yK_rfl) (yK_p yK_rfl))
def W_Mo_nearest (t ka : Int32) (w : yW) : yW := (g_Mo_nearest_116 t ka (e_Mo_size t (g_Mo_nearest_32 t ka 17 w 0)).2 17 (g_Mo_nearest_99 t ka (e_Mo_size t (g_Mo_nearest_32 t ka 17 w 0)).2 (g_Mo_nearest_32 t ka 17 w 0)) 0)
def N_Mo_nearest (t ka : Int32) (w : yW) : Int32 := (e_Mo_size t (g_Mo_nearest_32 t ka 17 w 0)).2
theorem i_Mo_nearest_220 (t ka nn : Int32) (w : yW) : (g_Mo_nearest_220 t ka nn w).1 = w := by unfold g_Mo_nearest_220; exact yf3 rfl rfl
theorem v_Mo_nearest_99 (t ka nn : Int32) (w : yW) (h : ka.toInt ≤ 16) : ((g_Mo_nearest_99 t ka nn w).1 54 21).toInt ≤ 16 := by
  unfold g_Mo_nearest_99
  cases c : zc .ge nn ka
  · have := of_decide_eq_false (z_ge c).symm
    simp only [cond_false, wI_self]
    omega
  · simp only [cond_true, wI_self]
    exact h
def g_Mo_nearest_292 (t ka : Int32) (w : yW)  : yW × Int32 := (w, w.1 54 21)
set_option maxRecDepth 100000 in
theorem t_Mo_nearest_292 {fr lo sz : Nat} {G : List zC} (t ka : Int32) (w : yW)   (hlo : 161 ≤ lo)  : zRun (fr + 6) lo none M_Mo_nearest (292, [(0, .ref 54), (1, .int t), (2, .int ka)], []) (yhp w G sz) (some (.int ((g_Mo_nearest_292 t ka w ).2)), yhp ((g_Mo_nearest_292 t ka w ).1) G sz) := by
  unfold g_Mo_nearest_292
  refine zeN (q := ((293, [(0, .ref 54), (1, .int t), (2, .int ka)], [.ref 54]), yhp w G sz)) 1 rfl ?_
  refine ygf (kk := .inr 0) (v := .int (w.1 54 21)) rfl rfl rfl rfl rfl rfl rfl ?_
  exact zer rfl rfl
set_option maxRecDepth 100000 in
theorem kf_Mo_nearest_292 (t ka : Int32) (w : yW)  : yK [(54, some 13), (54, some 14), (54, some 17), (54, some 18), (54, some 19), (54, some 20), (54, some 21), (54, some 22), (67, none), (68, none), (69, none)] w (g_Mo_nearest_292 t ka w ).1 := by unfold g_Mo_nearest_292; exact (yK_p yK_rfl)
def g_Mo_nearest_232 (t ka al : Int32) (w : yW)  : yW × Int32 := (bif zc .eq al 0 then g_Mo_nearest_292 t ka  (wI ((e_Mo_readBy 64 t (w.2.1 67 (w.1 69 ((w.1 54 21) - 1).toNatClampNeg).toNatClampNeg) (w.2.1 68 (w.1 69 ((w.1 54 21) - 1).toNatClampNeg).toNatClampNeg) w).1) 54 22 ((e_Mo_readBy 64 t (w.2.1 67 (w.1 69 ((w.1 54 21) - 1).toNatClampNeg).toNatClampNeg) (w.2.1 68 (w.1 69 ((w.1 54 21) - 1).toNatClampNeg).toNatClampNeg) w).2))  else g_Mo_nearest_292 t ka  (wI ((e_Mo_readBy 64 t 0 0 w).1) 54 22 ((e_Mo_readBy 64 t 0 0 w).2)) )
set_option maxRecDepth 100000 in
theorem t_Mo_nearest_232 {fr lo sz : Nat} {G : List zC} (t ka al : Int32) (w : yW)  (ht0 : 0 ≤ t.toInt) (ht1 : t.toInt ≤ 1) (hMs : yM w) (hz1 : zc .eq al 0 = true → zIx (w.1 54 21 - 1) 256) (hz2 : zc .eq al 0 = true → zIx (w.1 69 (w.1 54 21 - 1).toNatClampNeg) 16) (hlo : 161 ≤ lo)  : zRun (fr + 6) lo none M_Mo_nearest (232, [(0, .ref 54), (1, .int t), (2, .int ka), (4, .int al)], []) (yhp w G sz) (some (.int ((g_Mo_nearest_232 t ka al w ).2)), yhp ((g_Mo_nearest_232 t ka al w ).1) G sz) := by
  unfold g_Mo_nearest_232
  refine zeN (q := ((235, [(0, .ref 54), (1, .int t), (2, .int ka), (4, .int al)], [.int al, .ref 54]), yhp w G sz)) 2 rfl ?_
  refine zbc (q1 := (250, [(0, .ref 54), (1, .int t), (2, .int ka), (4, .int al)], [.ref 54])) (q2 := (238, [(0, .ref 54), (1, .int t), (2, .int ka), (4, .int al)], [.ref 54])) (cB := zc .eq al 0) (off := 15) (lv := [(0, .ref 54), (1, .int t), (2, .int ka), (4, .int al)]) (st := [.ref 54]) rfl rfl rfl rfl rfl (fun c235 => ?_) (fun c235 => ?_)
  · rw [c235]
    refine zeN (q := ((255, [(0, .ref 54), (1, .int t), (2, .int ka), (4, .int al)], [.ref 54, .int t, .int 64, .ref 54, .ref 54]), yhp w G sz)) 4 rfl ?_
    refine ygf (kk := .inl (.ref 67)) (v := .ref 67) rfl rfl rfl rfl rfl rfl rfl ?_
    refine zeN (q := ((259, [(0, .ref 54), (1, .int t), (2, .int ka), (4, .int al)], [.ref 54, .ref 67, .int t, .int 64, .ref 54, .ref 54]), yhp w G sz)) 1 rfl ?_
    refine ygf (kk := .inl (.ref 69)) (v := .ref 69) rfl rfl rfl rfl rfl rfl rfl ?_
    refine zeN (q := ((263, [(0, .ref 54), (1, .int t), (2, .int ka), (4, .int al)], [.ref 54, .ref 69, .ref 67, .int t, .int 64, .ref 54, .ref 54]), yhp w G sz)) 1 rfl ?_
    refine ygf (kk := .inr 0) (v := .int (w.1 54 21)) rfl rfl rfl rfl rfl rfl rfl ?_
    refine zeN (q := ((268, [(0, .ref 54), (1, .int t), (2, .int ka), (4, .int al)], [.int ((w.1 54 21) - 1), .ref 69, .ref 67, .int t, .int 64, .ref 54, .ref 54]), yhp w G sz)) 2 rfl ?_
    refine yia (N := 256) rfl rfl rfl (hz1 c235) ?_
    refine yla (N := 16) rfl rfl rfl (hz2 c235) ?_
    refine zeN (q := ((271, [(0, .ref 54), (1, .int t), (2, .int ka), (4, .int al)], [.ref 54, .long (w.2.1 67 (w.1 69 ((w.1 54 21) - 1).toNatClampNeg).toNatClampNeg), .int t, .int 64, .ref 54, .ref 54]), yhp w G sz)) 1 rfl ?_
    refine ygf (kk := .inl (.ref 68)) (v := .ref 68) rfl rfl rfl rfl rfl rfl rfl ?_
    refine zeN (q := ((275, [(0, .ref 54), (1, .int t), (2, .int ka), (4, .int al)], [.ref 54, .ref 68, .long (w.2.1 67 (w.1 69 ((w.1 54 21) - 1).toNatClampNeg).toNatClampNeg), .int t, .int 64, .ref 54, .ref 54]), yhp w G sz)) 1 rfl ?_
    refine ygf (kk := .inl (.ref 69)) (v := .ref 69) rfl rfl rfl rfl rfl rfl rfl ?_
    refine zeN (q := ((279, [(0, .ref 54), (1, .int t), (2, .int ka), (4, .int al)], [.ref 54, .ref 69, .ref 68, .long (w.2.1 67 (w.1 69 ((w.1 54 21) - 1).toNatClampNeg).toNatClampNeg), .int t, .int 64, .ref 54, .ref 54]), yhp w G sz)) 1 rfl ?_
    refine ygf (kk := .inr 0) (v := .int (w.1 54 21)) rfl rfl rfl rfl rfl rfl rfl ?_
    refine zeN (q := ((284, [(0, .ref 54), (1, .int t), (2, .int ka), (4, .int al)], [.int ((w.1 54 21) - 1), .ref 69, .ref 68, .long (w.2.1 67 (w.1 69 ((w.1 54 21) - 1).toNatClampNeg).toNatClampNeg), .int t, .int 64, .ref 54, .ref 54]), yhp w G sz)) 2 rfl ?_
    refine yia (N := 256) rfl rfl rfl (hz1 c235) ?_
    refine yla (N := 16) rfl rfl rfl (hz2 c235) ?_
    refine zec 1 (M' := M_Mo_readBy) (qq := ([.ref 54, .int 64, .int t, .long (w.2.1 67 (w.1 69 ((w.1 54 21) - 1).toNatClampNeg).toNatClampNeg), .long (w.2.1 68 (w.1 69 ((w.1 54 21) - 1).toNatClampNeg).toNatClampNeg)], [.ref 54])) (s' := (289, [(0, .ref 54), (1, .int t), (2, .int ka), (4, .int al)], [.int ((e_Mo_readBy 64 t (w.2.1 67 (w.1 69 ((w.1 54 21) - 1).toNatClampNeg).toNatClampNeg) (w.2.1 68 (w.1 69 ((w.1 54 21) - 1).toNatClampNeg).toNatClampNeg) w).2), .ref 54])) rfl rfl (fun _ => rfl) rfl rfl (zhk rfl (zrc_ok (yhp_o rfl)) rfl) (r_Mo_readBy 64 t (w.2.1 67 (w.1 69 ((w.1 54 21) - 1).toNatClampNeg).toNatClampNeg) (w.2.1 68 (w.1 69 ((w.1 54 21) - 1).toNatClampNeg).toNatClampNeg) _ zIx_64 ht0 ht1 hMs (by omega)) rfl ?_
    refine ypI (v := (e_Mo_readBy 64 t (w.2.1 67 (w.1 69 ((w.1 54 21) - 1).toNatClampNeg).toNatClampNeg) (w.2.1 68 (w.1 69 ((w.1 54 21) - 1).toNatClampNeg).toNatClampNeg) w).2) rfl rfl rfl rfl rfl rfl rfl ?_
    refine zeS [(0, .ref 54), (1, .int t), (2, .int ka)] (zsub_pick [0, 1, 2] rfl rfl) ?_
    exact t_Mo_nearest_292 t ka (wI ((e_Mo_readBy 64 t (w.2.1 67 (w.1 69 ((w.1 54 21) - 1).toNatClampNeg).toNatClampNeg) (w.2.1 68 (w.1 69 ((w.1 54 21) - 1).toNatClampNeg).toNatClampNeg) w).1) 54 22 ((e_Mo_readBy 64 t (w.2.1 67 (w.1 69 ((w.1 54 21) - 1).toNatClampNeg).toNatClampNeg) (w.2.1 68 (w.1 69 ((w.1 54 21) - 1).toNatClampNeg).toNatClampNeg) w).2))   (by omega)
  · rw [c235]
    refine zeN (q := ((244, [(0, .ref 54), (1, .int t), (2, .int ka), (4, .int al)], [.long 0, .long 0, .int t, .int 64, .ref 54, .ref 54]), yhp w G sz)) 5 rfl ?_
    refine zec 1 (M' := M_Mo_readBy) (qq := ([.ref 54, .int 64, .int t, .long 0, .long 0], [.ref 54])) (s' := (247, [(0, .ref 54), (1, .int t), (2, .int ka), (4, .int al)], [.int ((e_Mo_readBy 64 t 0 0 w).2), .ref 54])) rfl rfl (fun _ => rfl) rfl rfl (zhk rfl (zrc_ok (yhp_o rfl)) rfl) (r_Mo_readBy 64 t 0 0 _ zIx_64 ht0 ht1 hMs (by omega)) rfl ?_
    refine zeN (q := ((289, [(0, .ref 54), (1, .int t), (2, .int ka), (4, .int al)], [.int ((e_Mo_readBy 64 t 0 0 w).2), .ref 54]), yhp ((e_Mo_readBy 64 t 0 0 w).1) G sz)) 1 rfl ?_
    refine ypI (v := (e_Mo_readBy 64 t 0 0 w).2) rfl rfl rfl rfl rfl rfl rfl ?_
    refine zeS [(0, .ref 54), (1, .int t), (2, .int ka)] (zsub_pick [0, 1, 2] rfl rfl) ?_
    exact t_Mo_nearest_292 t ka (wI ((e_Mo_readBy 64 t 0 0 w).1) 54 22 ((e_Mo_readBy 64 t 0 0 w).2))   (by omega)
set_option maxRecDepth 100000 in
theorem kf_Mo_nearest_232 (t ka al : Int32) (w : yW)  : yK [(54, some 13), (54, some 14), (54, some 17), (54, some 18), (54, some 19), (54, some 20), (54, some 21), (54, some 22), (67, none), (68, none), (69, none)] w (g_Mo_nearest_232 t ka al w ).1 := by unfold g_Mo_nearest_232; exact (yK_if1 (yK_tr (yK_wI rfl (yK_tr yK_rfl (yK_mono rfl (kf_Mo_readBy ..)))) (yK_mono rfl (kf_Mo_nearest_292 ..))) (yK_tr (yK_wI rfl (yK_tr yK_rfl (yK_mono rfl (kf_Mo_readBy ..)))) (yK_mono rfl (kf_Mo_nearest_292 ..))))
def e_Mo_nearest (t ka : Int32) (w : yW) : yW × Int32 := (bif zc .eq (f_Mo_isTable t) 0 then (w, (-1)) else (bif zc .eq (w.1 55 (64 : Int32).toNatClampNeg) 0 then (w, (-1)) else (bif zc .lt ka 1 then (w, (-1)) else (bif zc .le ka 16 then g_Mo_nearest_232 t ka ((g_Mo_nearest_220 t ka ((e_Mo_size t ((g_Mo_nearest_32 t ka 17 w 0))).2)  ((g_Mo_nearest_116 t ka ((e_Mo_size t ((g_Mo_nearest_32 t ka 17 w 0))).2) 17 ((g_Mo_nearest_99 t ka ((e_Mo_size t ((g_Mo_nearest_32 t ka 17 w 0))).2)  ((g_Mo_nearest_32 t ka 17 w 0)) )) 0)) ).2)  ((g_Mo_nearest_220 t ka ((e_Mo_size t ((g_Mo_nearest_32 t ka 17 w 0))).2)  ((g_Mo_nearest_116 t ka ((e_Mo_size t ((g_Mo_nearest_32 t ka 17 w 0))).2) 17 ((g_Mo_nearest_99 t ka ((e_Mo_size t ((g_Mo_nearest_32 t ka 17 w 0))).2)  ((g_Mo_nearest_32 t ka 17 w 0)) )) 0)) ).1)  else (w, (-1))))))
set_option maxRecDepth 100000 in
theorem r_Mo_nearest {fr lo sz : Nat} {G : List zC} (t ka : Int32) (w : yW) (hM : yM w) (hfx0 : zc .eq (f_Mo_isTable t) 0 = false → zc .eq (w.1 55 (64 : Int32).toNatClampNeg) 0 = false → zc .lt ka 1 = false → zc .le ka 16 = true → zc .eq (g_Mo_nearest_220 t ka (N_Mo_nearest t ka w) (W_Mo_nearest t ka w)).2 0 = true → zIx ((W_Mo_nearest t ka w).1 54 21 - 1) 256 ∧ zIx ((W_Mo_nearest t ka w).1 69 ((W_Mo_nearest t ka w).1 54 21 - 1).toNatClampNeg) 16) (hlo : 187 ≤ lo) : zAns (fr + 7) lo 135 [.ref 54, .int t, .int ka] (yhp w G sz) (some (.int ((e_Mo_nearest t ka w).2)), yhp ((e_Mo_nearest t ka w).1) G sz) := by
  unfold e_Mo_nearest
  refine zeb (fr := fr + 6) (M := M_Mo_nearest) rfl (Nat.le_trans (by decide) hlo) rfl ?_
  have e0 : mL M_Mo_nearest = 7 := rfl
  refine zeN (q := ((1, [(0, .ref 54), (1, .int t), (2, .int ka)], [.int t]), yhp w G sz)) 1 rfl ?_
  refine zec 0 (M' := M_Mo_isTable) (qq := ([.int t], [])) (s' := (4, [(0, .ref 54), (1, .int t), (2, .int ka)], [.int (f_Mo_isTable t)])) rfl rfl (fun _ => rfl) rfl rfl rfl (s_Mo_isTable t (by omega)) rfl ?_
  refine zbc (q1 := (28, [(0, .ref 54), (1, .int t), (2, .int ka)], [])) (q2 := (7, [(0, .ref 54), (1, .int t), (2, .int ka)], [])) (cB := zc .eq (f_Mo_isTable t) 0) (off := 24) (lv := [(0, .ref 54), (1, .int t), (2, .int ka)]) (st := []) rfl rfl rfl rfl rfl (fun c4 => ?_) (fun c4 => ?_)
  · rw [c4]
    refine zeN (q := ((29, [(0, .ref 54), (1, .int t), (2, .int ka)], [.int ((-1))]), yhp w G sz)) 1 rfl ?_
    exact zer rfl rfl
  · rw [c4]
    have hit := z_isT (of_decide_eq_false ((rfl : zc .eq (f_Mo_isTable t) 0 = decide (f_Mo_isTable t = 0)).symm.trans c4))
    have ht0 := hit.1
    have ht1 := hit.2
    refine zeN (q := ((8, [(0, .ref 54), (1, .int t), (2, .int ka)], [.ref 54]), yhp w G sz)) 1 rfl ?_
    refine ygf (kk := .inl (.ref 55)) (v := .ref 55) rfl rfl rfl rfl rfl rfl rfl ?_
    refine zeN (q := ((13, [(0, .ref 54), (1, .int t), (2, .int ka)], [.int 64, .ref 55]), yhp w G sz)) 1 rfl ?_
    refine yba (N := 65) rfl rfl rfl zIx_64 ?_
    refine zbc (q1 := (28, [(0, .ref 54), (1, .int t), (2, .int ka)], [])) (q2 := (17, [(0, .ref 54), (1, .int t), (2, .int ka)], [])) (cB := zc .eq (w.1 55 (64 : Int32).toNatClampNeg) 0) (off := 14) (lv := [(0, .ref 54), (1, .int t), (2, .int ka)]) (st := []) rfl rfl rfl rfl rfl (fun c14 => ?_) (fun c14 => ?_)
    · rw [c14]
      refine zeN (q := ((29, [(0, .ref 54), (1, .int t), (2, .int ka)], [.int ((-1))]), yhp w G sz)) 1 rfl ?_
      exact zer rfl rfl
    · rw [c14]
      have hf : ¬ w.1 55 (64 : Int32).toNatClampNeg = 0 := of_decide_eq_false c14
      refine zeN (q := ((19, [(0, .ref 54), (1, .int t), (2, .int ka)], [.int 1, .int ka]), yhp w G sz)) 2 rfl ?_
      refine zbc (q1 := (28, [(0, .ref 54), (1, .int t), (2, .int ka)], [])) (q2 := (22, [(0, .ref 54), (1, .int t), (2, .int ka)], [])) (cB := zc .lt ka 1) (off := 9) (lv := [(0, .ref 54), (1, .int t), (2, .int ka)]) (st := []) rfl rfl rfl rfl rfl (fun c19 => ?_) (fun c19 => ?_)
      · rw [c19]
        refine zeN (q := ((29, [(0, .ref 54), (1, .int t), (2, .int ka)], [.int ((-1))]), yhp w G sz)) 1 rfl ?_
        exact zer rfl rfl
      · rw [c19]
        refine zeN (q := ((25, [(0, .ref 54), (1, .int t), (2, .int ka)], [.int 16, .int ka]), yhp w G sz)) 2 rfl ?_
        refine zbc (q1 := (30, [(0, .ref 54), (1, .int t), (2, .int ka)], [])) (q2 := (28, [(0, .ref 54), (1, .int t), (2, .int ka)], [])) (cB := zc .le ka 16) (off := 5) (lv := [(0, .ref 54), (1, .int t), (2, .int ka)]) (st := []) rfl rfl rfl rfl rfl (fun c25 => ?_) (fun c25 => ?_)
        · rw [c25]
          have hka := of_decide_eq_true ((zc_le ka 16).symm.trans c25)
          have hfx := hfx0 c4 c14 c19 c25
          refine zeN (q := ((32, [(3, .int 0), (0, .ref 54), (1, .int t), (2, .int ka)], []), yhp w G sz)) 2 rfl ?_
          refine zeS [(0, .ref 54), (1, .int t), (2, .int ka), (3, .int 0)] (zsub_pick [1, 2, 3, 0] rfl rfl) ?_
          refine t_Mo_nearest_32 t ka ht0 ht1 (by omega) 17 w 0 hM hf (by decide) (by decide) (by decide) ?_
          refine zeN (q := ((95, [(0, .ref 54), (1, .int t), (2, .int ka)], [.int t, .ref 54]), yhp ((g_Mo_nearest_32 t ka 17 w 0)) G sz)) 2 rfl ?_
          refine zec 1 (M' := M_Mo_size) (qq := ([.ref 54, .int t], [])) (s' := (98, [(0, .ref 54), (1, .int t), (2, .int ka)], [.int ((e_Mo_size t ((g_Mo_nearest_32 t ka 17 w 0))).2)])) rfl rfl (fun _ => rfl) rfl rfl (zhk rfl (zrc_ok (yhp_o rfl)) rfl) (p_Mo_size t ht0 ht1 (by omega)) rfl ?_
          refine zeN (q := ((99, [(3, .int ((e_Mo_size t ((g_Mo_nearest_32 t ka 17 w 0))).2)), (0, .ref 54), (1, .int t), (2, .int ka)], []), yhp ((g_Mo_nearest_32 t ka 17 w 0)) G sz)) 1 rfl ?_
          refine zeS [(0, .ref 54), (1, .int t), (2, .int ka), (3, .int ((e_Mo_size t ((g_Mo_nearest_32 t ka 17 w 0))).2))] (zsub_pick [1, 2, 3, 0] rfl rfl) ?_
          refine t_Mo_nearest_99 t ka ((e_Mo_size t ((g_Mo_nearest_32 t ka 17 w 0))).2) ((g_Mo_nearest_32 t ka 17 w 0))   (by omega) ?_
          have hr := v_Mo_nearest_99 t ka (e_Mo_size t (g_Mo_nearest_32 t ka 17 w 0)).2 (g_Mo_nearest_32 t ka 17 w 0) hka
          refine zeN (q := ((116, [(4, .int 0), (0, .ref 54), (1, .int t), (2, .int ka), (3, .int ((e_Mo_size t ((g_Mo_nearest_32 t ka 17 w 0))).2))], []), yhp ((g_Mo_nearest_99 t ka ((e_Mo_size t ((g_Mo_nearest_32 t ka 17 w 0))).2)  ((g_Mo_nearest_32 t ka 17 w 0)) )) G sz)) 2 rfl ?_
          refine zeS [(0, .ref 54), (1, .int t), (2, .int ka), (3, .int ((e_Mo_size t ((g_Mo_nearest_32 t ka 17 w 0))).2)), (4, .int 0)] (zsub_pick [1, 2, 3, 4, 0] rfl rfl) ?_
          refine t_Mo_nearest_116 t ka ((e_Mo_size t ((g_Mo_nearest_32 t ka 17 w 0))).2) ht0 ht1 (by omega) 17 ((g_Mo_nearest_99 t ka ((e_Mo_size t ((g_Mo_nearest_32 t ka 17 w 0))).2)  ((g_Mo_nearest_32 t ka 17 w 0)) )) 0 hr (by decide) (by decide) (by decide) ?_
          refine t_Mo_nearest_220 t ka ((e_Mo_size t ((g_Mo_nearest_32 t ka 17 w 0))).2) ((g_Mo_nearest_116 t ka ((e_Mo_size t ((g_Mo_nearest_32 t ka 17 w 0))).2) 17 ((g_Mo_nearest_99 t ka ((e_Mo_size t ((g_Mo_nearest_32 t ka 17 w 0))).2)  ((g_Mo_nearest_32 t ka 17 w 0)) )) 0))   (by omega) ?_
          have hMs : yM ((g_Mo_nearest_220 t ka ((e_Mo_size t ((g_Mo_nearest_32 t ka 17 w 0))).2)  ((g_Mo_nearest_116 t ka ((e_Mo_size t ((g_Mo_nearest_32 t ka 17 w 0))).2) 17 ((g_Mo_nearest_99 t ka ((e_Mo_size t ((g_Mo_nearest_32 t ka 17 w 0))).2)  ((g_Mo_nearest_32 t ka 17 w 0)) )) 0)) ).1) := (yM_K (S := [(54, some 13), (54, some 14), (54, some 17), (54, some 18), (54, some 19), (54, some 20), (54, some 21), (54, some 22), (67, none), (68, none), (69, none)]) (yK_tr (yK_tr (yK_tr (yK_tr yK_rfl (yK_mono rfl (kf_Mo_nearest_32 ..))) (yK_mono rfl (kf_Mo_nearest_99 ..))) (yK_mono rfl (kf_Mo_nearest_116 ..))) (yK_mono rfl (kf_Mo_nearest_220 ..))) rfl rfl hM)
          have hz1 : zc .eq (g_Mo_nearest_220 t ka (N_Mo_nearest t ka w) (W_Mo_nearest t ka w)).2 0 = true → zIx (((g_Mo_nearest_220 t ka ((e_Mo_size t ((g_Mo_nearest_32 t ka 17 w 0))).2)  ((g_Mo_nearest_116 t ka ((e_Mo_size t ((g_Mo_nearest_32 t ka 17 w 0))).2) 17 ((g_Mo_nearest_99 t ka ((e_Mo_size t ((g_Mo_nearest_32 t ka 17 w 0))).2)  ((g_Mo_nearest_32 t ka 17 w 0)) )) 0)) ).1).1 54 21 - 1) 256 := fun cc => by rw [i_Mo_nearest_220]; exact (hfx cc).1
          have hz2 : zc .eq (g_Mo_nearest_220 t ka (N_Mo_nearest t ka w) (W_Mo_nearest t ka w)).2 0 = true → zIx (((g_Mo_nearest_220 t ka ((e_Mo_size t ((g_Mo_nearest_32 t ka 17 w 0))).2)  ((g_Mo_nearest_116 t ka ((e_Mo_size t ((g_Mo_nearest_32 t ka 17 w 0))).2) 17 ((g_Mo_nearest_99 t ka ((e_Mo_size t ((g_Mo_nearest_32 t ka 17 w 0))).2)  ((g_Mo_nearest_32 t ka 17 w 0)) )) 0)) ).1).1 69 (((g_Mo_nearest_220 t ka ((e_Mo_size t ((g_Mo_nearest_32 t ka 17 w 0))).2)  ((g_Mo_nearest_116 t ka ((e_Mo_size t ((g_Mo_nearest_32 t ka 17 w 0))).2) 17 ((g_Mo_nearest_99 t ka ((e_Mo_size t ((g_Mo_nearest_32 t ka 17 w 0))).2)  ((g_Mo_nearest_32 t ka 17 w 0)) )) 0)) ).1).1 54 21 - 1).toNatClampNeg) 16 := fun cc => by rw [i_Mo_nearest_220]; exact (hfx cc).2
          refine zeS [(0, .ref 54), (1, .int t), (2, .int ka), (4, .int ((g_Mo_nearest_220 t ka ((e_Mo_size t ((g_Mo_nearest_32 t ka 17 w 0))).2)  ((g_Mo_nearest_116 t ka ((e_Mo_size t ((g_Mo_nearest_32 t ka 17 w 0))).2) 17 ((g_Mo_nearest_99 t ka ((e_Mo_size t ((g_Mo_nearest_32 t ka 17 w 0))).2)  ((g_Mo_nearest_32 t ka 17 w 0)) )) 0)) ).2))] (zsub_pick [0, 1, 2, 4] rfl rfl) ?_
          exact t_Mo_nearest_232 t ka ((g_Mo_nearest_220 t ka ((e_Mo_size t ((g_Mo_nearest_32 t ka 17 w 0))).2)  ((g_Mo_nearest_116 t ka ((e_Mo_size t ((g_Mo_nearest_32 t ka 17 w 0))).2) 17 ((g_Mo_nearest_99 t ka ((e_Mo_size t ((g_Mo_nearest_32 t ka 17 w 0))).2)  ((g_Mo_nearest_32 t ka 17 w 0)) )) 0)) ).2) ((g_Mo_nearest_220 t ka ((e_Mo_size t ((g_Mo_nearest_32 t ka 17 w 0))).2)  ((g_Mo_nearest_116 t ka ((e_Mo_size t ((g_Mo_nearest_32 t ka 17 w 0))).2) 17 ((g_Mo_nearest_99 t ka ((e_Mo_size t ((g_Mo_nearest_32 t ka 17 w 0))).2)  ((g_Mo_nearest_32 t ka 17 w 0)) )) 0)) ).1)  ht0 ht1 hMs hz1 hz2 (by omega)
        · rw [c25]
          refine zeN (q := ((29, [(0, .ref 54), (1, .int t), (2, .int ka)], [.int ((-1))]), yhp w G sz)) 1 rfl ?_
          exact zer rfl rfl
set_option maxRecDepth 100000 in
theorem kf_Mo_nearest (t ka : Int32) (w : yW)  : yK [(54, some 13), (54, some 14), (54, some 17), (54, some 18), (54, some 19), (54, some 20), (54, some 21), (54, some 22), (67, none), (68, none), (69, none)] w (e_Mo_nearest t ka w ).1 := by unfold e_Mo_nearest; exact (yK_if1 (yK_p yK_rfl) (yK_if1 (yK_p yK_rfl) (yK_if1 (yK_p yK_rfl) (yK_if1 (yK_tr (yK_tr (yK_tr (yK_tr (yK_tr yK_rfl (yK_mono rfl (kf_Mo_nearest_32 ..))) (yK_mono rfl (kf_Mo_nearest_99 ..))) (yK_mono rfl (kf_Mo_nearest_116 ..))) (yK_mono rfl (kf_Mo_nearest_220 ..))) (yK_mono rfl (kf_Mo_nearest_232 ..))) (yK_p yK_rfl)))))
