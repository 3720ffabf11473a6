def g_Mo_commit_10 (mo : Int32) : Nat → yW → Int32 → yW
  | 0, w, p => w
  | n + 1, w, p => (bif zc .ge p 9 then w else g_Mo_commit_10 mo  n (wI w 71 p.toNatClampNeg ((-1))) (p + Int32.ofInt 1))
set_option maxRecDepth 100000 in
theorem t_Mo_commit_10 {fr lo sz : Nat} {r : Option Value × zH} {G : List zC} (mo : Int32)  (hlo : 109 ≤ lo) : ∀ (n : Nat) (w : yW) (p : Int32) (h0 : 0 ≤ p.toInt) (h1 : p.toInt ≤ 9) (hn : 9 < p.toInt + n) (k : zRun (fr + 5) lo none M_Mo_commit (31, [(0, .ref 54), (1, .int mo), (2, .int 0), (3, .int 0), (4, .int 1)], []) (yhp (g_Mo_commit_10 mo n w p) G sz) r), zRun (fr + 5) lo none M_Mo_commit (10, [(0, .ref 54), (1, .int mo), (2, .int 0), (3, .int 0), (4, .int 1), (5, .int p)], []) (yhp w G sz) r := by
  intro n
  induction n with
  | zero => intro w p h0 h1 hn k; exfalso; omega
  | succ n ih =>
    intro w p h0 h1 hn k
    rw [g_Mo_commit_10] at k
    refine zeN (q := ((14, [(0, .ref 54), (1, .int mo), (2, .int 0), (3, .int 0), (4, .int 1), (5, .int p)], [.int 9, .int p]), yhp w G sz)) 2 rfl ?_
    refine zbc (q1 := (31, [(0, .ref 54), (1, .int mo), (2, .int 0), (3, .int 0), (4, .int 1), (5, .int p)], [])) (q2 := (17, [(0, .ref 54), (1, .int mo), (2, .int 0), (3, .int 0), (4, .int 1), (5, .int p)], [])) (cB := zc .ge p 9) (off := 17) (lv := [(0, .ref 54), (1, .int mo), (2, .int 0), (3, .int 0), (4, .int 1), (5, .int p)]) (st := []) rfl rfl rfl rfl rfl (fun c14 => ?_) (fun c14 => ?_)
    · rw [c14] at k
      refine zeS [(0, .ref 54), (1, .int mo), (2, .int 0), (3, .int 0), (4, .int 1)] (zsub_pick [0, 1, 2, 3, 4] rfl rfl) ?_
      exact k
    · rw [c14] at k
      have hcc : ¬ (9 : Int) ≤ p.toInt := of_decide_eq_false (z_ge c14).symm
      have hp : zIx p 9 := ⟨h0, by omega⟩
      have hi1 := z_inc (a := p) (by omega) (by omega)
      refine zeN (q := ((18, [(0, .ref 54), (1, .int mo), (2, .int 0), (3, .int 0), (4, .int 1), (5, .int p)], [.ref 54]), yhp w G sz)) 1 rfl ?_
      refine ygf (kk := .inl (.ref 71)) (v := .ref 71) rfl rfl rfl rfl rfl rfl rfl ?_
      refine zeN (q := ((24, [(0, .ref 54), (1, .int mo), (2, .int 0), (3, .int 0), (4, .int 1), (5, .int p)], [.int ((-1)), .int p, .ref 71]), yhp w G sz)) 2 rfl ?_
      refine yis (N := 9) rfl rfl rfl (by assumption) ?_
      refine zeN (q := ((10, [(5, .int (p + Int32.ofInt 1)), (0, .ref 54), (1, .int mo), (2, .int 0), (3, .int 0), (4, .int 1)], []), yhp (wI w 71 p.toNatClampNeg ((-1))) G sz)) 2 rfl ?_
      refine zeS [(0, .ref 54), (1, .int mo), (2, .int 0), (3, .int 0), (4, .int 1), (5, .int (p + Int32.ofInt 1))] (zsub_pick [1, 2, 3, 4, 5, 0] rfl rfl) ?_
      exact ih (wI w 71 p.toNatClampNeg ((-1))) (p + Int32.ofInt 1) (by omega) (by omega) (by omega) k
set_option maxRecDepth 100000 in
theorem kf_Mo_commit_10 (mo : Int32) : ∀ (n : Nat) (w : yW) (p : Int32), yK [(55, none), (56, none), (57, none), (58, none), (59, none), (60, none), (61, none), (62, none), (63, none), (64, none), (54, some 10), (54, some 21), (54, some 22), (70, none), (71, none)] w (g_Mo_commit_10 mo n w p) := by
  intro n
  induction n with
  | zero => intros; exact yK_rfl
  | succ n ih => intro w p; rw [g_Mo_commit_10]; exact (yK_if yK_rfl (yK_tr (yK_wI rfl yK_rfl) (ih _ _)))
theorem kg_Mo_commit_10 (mo : Int32) : ∀ (n : Nat) (w : yW) (p : Int32), yK [(70, none), (71, none)] w (g_Mo_commit_10 mo n w p) := by
  intro n
  induction n with
  | zero => intros; exact yK_rfl
  | succ n ih => intro w p; rw [g_Mo_commit_10]; exact (yK_if yK_rfl (yK_tr (yK_wI rfl yK_rfl) (ih _ _)))
def g_Mo_commit_49 (mo wr ro p ch : Int32) (w : yW) (an : Int32) : yW × Int32 := (bif zc .ne an 0 then (w, 1) else (bif zc .eq ch 0 then (w, 0) else (w, 1)))
set_option maxRecDepth 100000 in
theorem t_Mo_commit_49 {fr lo sz : Nat} {r : Option Value × zH} {G : List zC} (mo wr ro p ch : Int32) (w : yW) (an : Int32)  (hlo : 109 ≤ lo) (k : zRun (fr + 5) lo none M_Mo_commit (64, [(0, .ref 54), (1, .int mo), (2, .int wr), (4, .int ro), (5, .int p), (6, .int ch), (3, .int ((g_Mo_commit_49 mo wr ro p ch w an).2))], []) (yhp (g_Mo_commit_49 mo wr ro p ch w an).1 G sz) r) : zRun (fr + 5) lo none M_Mo_commit (49, [(0, .ref 54), (1, .int mo), (2, .int wr), (4, .int ro), (5, .int p), (6, .int ch), (3, .int an)], []) (yhp w G sz) r := by
  unfold g_Mo_commit_49 at k
  refine zeN (q := ((50, [(0, .ref 54), (1, .int mo), (2, .int wr), (4, .int ro), (5, .int p), (6, .int ch), (3, .int an)], [.int an]), yhp w G sz)) 1 rfl ?_
  refine zbc (q1 := (58, [(0, .ref 54), (1, .int mo), (2, .int wr), (4, .int ro), (5, .int p), (6, .int ch), (3, .int an)], [])) (q2 := (53, [(0, .ref 54), (1, .int mo), (2, .int wr), (4, .int ro), (5, .int p), (6, .int ch), (3, .int an)], [])) (cB := zc .ne an 0) (off := 8) (lv := [(0, .ref 54), (1, .int mo), (2, .int wr), (4, .int ro), (5, .int p), (6, .int ch), (3, .int an)]) (st := []) rfl rfl rfl rfl rfl (fun c50 => ?_) (fun c50 => ?_)
  · rw [c50] at k
    refine zeN (q := ((64, [(3, .int 1), (0, .ref 54), (1, .int mo), (2, .int wr), (4, .int ro), (5, .int p), (6, .int ch)], []), yhp w G sz)) 3 rfl ?_
    refine zeS [(0, .ref 54), (1, .int mo), (2, .int wr), (4, .int ro), (5, .int p), (6, .int ch), (3, .int 1)] (zsub_pick [1, 2, 3, 4, 5, 6, 0] rfl rfl) ?_
    exact k
  · rw [c50] at k
    refine zeN (q := ((55, [(0, .ref 54), (1, .int mo), (2, .int wr), (4, .int ro), (5, .int p), (6, .int ch), (3, .int an)], [.int ch]), yhp w G sz)) 1 rfl ?_
    refine zbc (q1 := (62, [(0, .ref 54), (1, .int mo), (2, .int wr), (4, .int ro), (5, .int p), (6, .int ch), (3, .int an)], [])) (q2 := (58, [(0, .ref 54), (1, .int mo), (2, .int wr), (4, .int ro), (5, .int p), (6, .int ch), (3, .int an)], [])) (cB := zc .eq ch 0) (off := 7) (lv := [(0, .ref 54), (1, .int mo), (2, .int wr), (4, .int ro), (5, .int p), (6, .int ch), (3, .int an)]) (st := []) rfl rfl rfl rfl rfl (fun c55 => ?_) (fun c55 => ?_)
    · rw [c55] at k
      refine zeN (q := ((64, [(3, .int 0), (0, .ref 54), (1, .int mo), (2, .int wr), (4, .int ro), (5, .int p), (6, .int ch)], []), yhp w G sz)) 2 rfl ?_
      refine zeS [(0, .ref 54), (1, .int mo), (2, .int wr), (4, .int ro), (5, .int p), (6, .int ch), (3, .int 0)] (zsub_pick [1, 2, 3, 4, 5, 6, 0] rfl rfl) ?_
      exact k
    · rw [c55] at k
      refine zeN (q := ((64, [(3, .int 1), (0, .ref 54), (1, .int mo), (2, .int wr), (4, .int ro), (5, .int p), (6, .int ch)], []), yhp w G sz)) 3 rfl ?_
      refine zeS [(0, .ref 54), (1, .int mo), (2, .int wr), (4, .int ro), (5, .int p), (6, .int ch), (3, .int 1)] (zsub_pick [1, 2, 3, 4, 5, 6, 0] rfl rfl) ?_
      exact k
set_option maxRecDepth 100000 in
theorem kf_Mo_commit_49 (mo wr ro p ch : Int32) (w : yW) (an : Int32) : yK [(55, none), (56, none), (57, none), (58, none), (59, none), (60, none), (61, none), (62, none), (63, none), (64, none), (54, some 10), (54, some 21), (54, some 22), (70, none), (71, none)] w (g_Mo_commit_49 mo wr ro p ch w an).1 := by unfold g_Mo_commit_49; exact (yK_if1 (yK_p yK_rfl) (yK_if1 (yK_p yK_rfl) (yK_p yK_rfl)))
theorem kg_Mo_commit_49 (mo wr ro p ch : Int32) (w : yW) (an : Int32) : yK [(70, none), (71, none)] w (g_Mo_commit_49 mo wr ro p ch w an).1 := by unfold g_Mo_commit_49; exact (yK_if1 (yK_p yK_rfl) (yK_if1 (yK_p yK_rfl) (yK_p yK_rfl)))
def g_Mo_commit_81 (mo wr an p : Int32) (w : yW) (ro : Int32) : yW × Int32 := (bif zc .eq ro 0 then (w, 0) else (bif zc .eq ((e_Mo_write p w).2) 0 then ((e_Mo_write p w).1, 0) else ((e_Mo_write p w).1, 1)))
set_option maxRecDepth 100000 in
theorem t_Mo_commit_81 {fr lo sz : Nat} {r : Option Value × zH} {G : List zC} (mo wr an p : Int32) (w : yW) (ro : Int32) (hp9 : zIx p 9) (hlo : 109 ≤ lo) (k : zRun (fr + 5) lo none M_Mo_commit (102, [(0, .ref 54), (1, .int mo), (2, .int wr), (3, .int an), (5, .int p), (4, .int ((g_Mo_commit_81 mo wr an p w ro).2))], []) (yhp (g_Mo_commit_81 mo wr an p w ro).1 G sz) r) : zRun (fr + 5) lo none M_Mo_commit (81, [(0, .ref 54), (1, .int mo), (2, .int wr), (3, .int an), (5, .int p), (4, .int ro)], []) (yhp w G sz) r := by
  unfold g_Mo_commit_81 at k
  refine zeN (q := ((83, [(0, .ref 54), (1, .int mo), (2, .int wr), (3, .int an), (5, .int p), (4, .int ro)], [.int ro]), yhp w G sz)) 1 rfl ?_
  refine zbc (q1 := (99, [(0, .ref 54), (1, .int mo), (2, .int wr), (3, .int an), (5, .int p), (4, .int ro)], [])) (q2 := (86, [(0, .ref 54), (1, .int mo), (2, .int wr), (3, .int an), (5, .int p), (4, .int ro)], [])) (cB := zc .eq ro 0) (off := 16) (lv := [(0, .ref 54), (1, .int mo), (2, .int wr), (3, .int an), (5, .int p), (4, .int ro)]) (st := []) rfl rfl rfl rfl rfl (fun c83 => ?_) (fun c83 => ?_)
  · rw [c83] at k
    refine zeN (q := ((102, [(4, .int 0), (0, .ref 54), (1, .int mo), (2, .int wr), (3, .int an), (5, .int p)], []), yhp w G sz)) 2 rfl ?_
    refine zeS [(0, .ref 54), (1, .int mo), (2, .int wr), (3, .int an), (5, .int p), (4, .int 0)] (zsub_pick [1, 2, 3, 4, 5, 0] rfl rfl) ?_
    exact k
  · rw [c83] at k
    refine zeN (q := ((89, [(0, .ref 54), (1, .int mo), (2, .int wr), (3, .int an), (5, .int p), (4, .int ro)], [.int p, .ref 54]), yhp w G sz)) 2 rfl ?_
    refine zec 1 (M' := M_Mo_write) (qq := ([.ref 54, .int p], [])) (s' := (92, [(0, .ref 54), (1, .int mo), (2, .int wr), (3, .int an), (5, .int p), (4, .int ro)], [.int ((e_Mo_write p w).2)])) rfl rfl (fun _ => rfl) rfl rfl (zhk rfl (zrc_ok (yhp_o rfl)) rfl) (r_Mo_write p _ hp9 (by omega)) rfl ?_
    refine zbc (q1 := (99, [(0, .ref 54), (1, .int mo), (2, .int wr), (3, .int an), (5, .int p), (4, .int ro)], [])) (q2 := (95, [(0, .ref 54), (1, .int mo), (2, .int wr), (3, .int an), (5, .int p), (4, .int ro)], [])) (cB := zc .eq ((e_Mo_write p w).2) 0) (off := 7) (lv := [(0, .ref 54), (1, .int mo), (2, .int wr), (3, .int an), (5, .int p), (4, .int ro)]) (st := []) rfl rfl rfl rfl rfl (fun c92 => ?_) (fun c92 => ?_)
    · rw [c92] at k
      refine zeN (q := ((102, [(4, .int 0), (0, .ref 54), (1, .int mo), (2, .int wr), (3, .int an), (5, .int p)], []), yhp ((e_Mo_write p w).1) G sz)) 2 rfl ?_
      refine zeS [(0, .ref 54), (1, .int mo), (2, .int wr), (3, .int an), (5, .int p), (4, .int 0)] (zsub_pick [1, 2, 3, 4, 5, 0] rfl rfl) ?_
      exact k
    · rw [c92] at k
      refine zeN (q := ((102, [(4, .int 1), (0, .ref 54), (1, .int mo), (2, .int wr), (3, .int an), (5, .int p)], []), yhp ((e_Mo_write p w).1) G sz)) 3 rfl ?_
      refine zeS [(0, .ref 54), (1, .int mo), (2, .int wr), (3, .int an), (5, .int p), (4, .int 1)] (zsub_pick [1, 2, 3, 4, 5, 0] rfl rfl) ?_
      exact k
set_option maxRecDepth 100000 in
theorem kf_Mo_commit_81 (mo wr an p : Int32) (w : yW) (ro : Int32) : yK [(55, none), (56, none), (57, none), (58, none), (59, none), (60, none), (61, none), (62, none), (63, none), (64, none), (54, some 10), (54, some 21), (54, some 22), (70, none), (71, none)] w (g_Mo_commit_81 mo wr an p w ro).1 := by unfold g_Mo_commit_81; exact (yK_if1 (yK_p yK_rfl) (yK_if1 (yK_p (yK_tr yK_rfl (yK_mono rfl (kf_Mo_write ..)))) (yK_p (yK_tr yK_rfl (yK_mono rfl (kf_Mo_write ..))))))
theorem kg_Mo_commit_81 (mo wr an p : Int32) (w : yW) (ro : Int32) : yK [(70, none), (71, none)] w (g_Mo_commit_81 mo wr an p w ro).1 := by unfold g_Mo_commit_81; exact (yK_if1 (yK_p yK_rfl) (yK_if1 (yK_p (yK_tr yK_rfl (yK_mono rfl (kf_Mo_write ..)))) (yK_p (yK_tr yK_rfl (yK_mono rfl (kf_Mo_write ..))))))
def g_Mo_commit_34 (mo : Int32) : Nat → yW → Int32 → Int32 → Int32 → Int32 → yW × Int32 × Int32 × Int32
  | 0, w, wr, an, ro, p => (w, wr, an, ro)
  | n + 1, w, wr, an, ro, p => (bif zc .ge p 8 then (w, wr, an, ro) else (bif zc .eq (e_Mo_changed p w) 0 then g_Mo_commit_34 mo  n ((g_Mo_commit_49 mo wr ro p (e_Mo_changed p w)  w an).1) wr ((g_Mo_commit_49 mo wr ro p (e_Mo_changed p w)  w an).2) ro (p + Int32.ofInt 1) else (bif zc .ne (e_Mo_filled p ((g_Mo_commit_49 mo wr ro p (e_Mo_changed p w)  w an).1)) 0 then g_Mo_commit_34 mo  n ((g_Mo_commit_81 mo wr ((g_Mo_commit_49 mo wr ro p (e_Mo_changed p w)  w an).2) p  ((g_Mo_commit_49 mo wr ro p (e_Mo_changed p w)  w an).1) ro).1) (wr + Int32.ofInt 1) ((g_Mo_commit_49 mo wr ro p (e_Mo_changed p w)  w an).2) ((g_Mo_commit_81 mo wr ((g_Mo_commit_49 mo wr ro p (e_Mo_changed p w)  w an).2) p  ((g_Mo_commit_49 mo wr ro p (e_Mo_changed p w)  w an).1) ro).2) (p + Int32.ofInt 1) else g_Mo_commit_34 mo  n ((g_Mo_commit_49 mo wr ro p (e_Mo_changed p w)  w an).1) wr ((g_Mo_commit_49 mo wr ro p (e_Mo_changed p w)  w an).2) ro (p + Int32.ofInt 1))))
set_option maxRecDepth 100000 in
theorem t_Mo_commit_34 {fr lo sz : Nat} {r : Option Value × zH} {G : List zC} (mo : Int32)  (hlo : 109 ≤ lo) : ∀ (n : Nat) (w : yW) (wr : Int32) (an : Int32) (ro : Int32) (p : Int32) (hMm : yMm w) (h0 : 0 ≤ p.toInt) (h1 : p.toInt ≤ 8) (hn : 8 < p.toInt + n) (k : zRun (fr + 5) lo none M_Mo_commit (111, [(0, .ref 54), (1, .int mo), (2, .int ((g_Mo_commit_34 mo n w wr an ro p).2.1)), (3, .int ((g_Mo_commit_34 mo n w wr an ro p).2.2.1)), (4, .int ((g_Mo_commit_34 mo n w wr an ro p).2.2.2))], []) (yhp (g_Mo_commit_34 mo n w wr an ro p).1 G sz) r), zRun (fr + 5) lo none M_Mo_commit (34, [(0, .ref 54), (1, .int mo), (2, .int wr), (3, .int an), (4, .int ro), (5, .int p)], []) (yhp w G sz) r := by
  intro n
  induction n with
  | zero => intro w wr an ro p hMm h0 h1 hn k; exfalso; omega
  | succ n ih =>
    intro w wr an ro p hMm h0 h1 hn k
    rw [g_Mo_commit_34] at k
    refine zeN (q := ((38, [(0, .ref 54), (1, .int mo), (2, .int wr), (3, .int an), (4, .int ro), (5, .int p)], [.int 8, .int p]), yhp w G sz)) 2 rfl ?_
    refine zbc (q1 := (111, [(0, .ref 54), (1, .int mo), (2, .int wr), (3, .int an), (4, .int ro), (5, .int p)], [])) (q2 := (41, [(0, .ref 54), (1, .int mo), (2, .int wr), (3, .int an), (4, .int ro), (5, .int p)], [])) (cB := zc .ge p 8) (off := 73) (lv := [(0, .ref 54), (1, .int mo), (2, .int wr), (3, .int an), (4, .int ro), (5, .int p)]) (st := []) rfl rfl rfl rfl rfl (fun c38 => ?_) (fun c38 => ?_)
    · rw [c38] at k
      refine zeS [(0, .ref 54), (1, .int mo), (2, .int wr), (3, .int an), (4, .int ro)] (zsub_pick [0, 1, 2, 3, 4] rfl rfl) ?_
      exact k
    · rw [c38] at k
      have hcc : ¬ (8 : Int) ≤ p.toInt := of_decide_eq_false (z_ge c38).symm
      have hp9 : zIx p 9 := ⟨h0, by omega⟩
      have hi1 := z_inc (a := p) (by omega) (by omega)
      refine zeN (q := ((44, [(0, .ref 54), (1, .int mo), (2, .int wr), (3, .int an), (4, .int ro), (5, .int p)], [.int p, .ref 54]), yhp w G sz)) 2 rfl ?_
      refine zec 1 (M' := M_Mo_changed) (qq := ([.ref 54, .int p], [])) (s' := (47, [(0, .ref 54), (1, .int mo), (2, .int wr), (3, .int an), (4, .int ro), (5, .int p)], [.int (e_Mo_changed p w)])) rfl rfl (fun _ => rfl) rfl rfl (zhk rfl (zrc_ok (yhp_o rfl)) rfl) (r_Mo_changed p _ h0 (by omega) hMm (by omega)) rfl ?_
      refine zeN (q := ((49, [(6, .int (e_Mo_changed p w)), (0, .ref 54), (1, .int mo), (2, .int wr), (3, .int an), (4, .int ro), (5, .int p)], []), yhp w G sz)) 1 rfl ?_
      refine zeS [(0, .ref 54), (1, .int mo), (2, .int wr), (4, .int ro), (5, .int p), (6, .int (e_Mo_changed p w)), (3, .int an)] (zsub_pick [1, 2, 3, 5, 6, 0, 4] rfl rfl) ?_
      refine t_Mo_commit_49 mo wr ro p (e_Mo_changed p w) w an  (by omega) ?_
      refine zeN (q := ((66, [(0, .ref 54), (1, .int mo), (2, .int wr), (4, .int ro), (5, .int p), (6, .int (e_Mo_changed p w)), (3, .int ((g_Mo_commit_49 mo wr ro p (e_Mo_changed p w)  w an).2))], [.int (e_Mo_changed p w)]), yhp ((g_Mo_commit_49 mo wr ro p (e_Mo_changed p w)  w an).1) G sz)) 1 rfl ?_
      refine zbc (q1 := (105, [(0, .ref 54), (1, .int mo), (2, .int wr), (4, .int ro), (5, .int p), (6, .int (e_Mo_changed p w)), (3, .int ((g_Mo_commit_49 mo wr ro p (e_Mo_changed p w)  w an).2))], [])) (q2 := (69, [(0, .ref 54), (1, .int mo), (2, .int wr), (4, .int ro), (5, .int p), (6, .int (e_Mo_changed p w)), (3, .int ((g_Mo_commit_49 mo wr ro p (e_Mo_changed p w)  w an).2))], [])) (cB := zc .eq (e_Mo_changed p w) 0) (off := 39) (lv := [(0, .ref 54), (1, .int mo), (2, .int wr), (4, .int ro), (5, .int p), (6, .int (e_Mo_changed p w)), (3, .int ((g_Mo_commit_49 mo wr ro p (e_Mo_changed p w)  w an).2))]) (st := []) rfl rfl rfl rfl rfl (fun c66 => ?_) (fun c66 => ?_)
      · rw [c66] at k
        refine zeN (q := ((34, [(5, .int (p + Int32.ofInt 1)), (0, .ref 54), (1, .int mo), (2, .int wr), (4, .int ro), (6, .int (e_Mo_changed p w)), (3, .int ((g_Mo_commit_49 mo wr ro p (e_Mo_changed p w)  w an).2))], []), yhp ((g_Mo_commit_49 mo wr ro p (e_Mo_changed p w)  w an).1) G sz)) 2 rfl ?_
        refine zeS [(0, .ref 54), (1, .int mo), (2, .int wr), (3, .int ((g_Mo_commit_49 mo wr ro p (e_Mo_changed p w)  w an).2)), (4, .int ro), (5, .int (p + Int32.ofInt 1))] (zsub_pick [1, 2, 3, 6, 4, 0] rfl rfl) ?_
        exact ih ((g_Mo_commit_49 mo wr ro p (e_Mo_changed p w)  w an).1) wr ((g_Mo_commit_49 mo wr ro p (e_Mo_changed p w)  w an).2) ro (p + Int32.ofInt 1) (yMm_K (S := [(70, none), (71, none)]) (yK_tr yK_rfl (yK_mono rfl (kg_Mo_commit_49 ..))) (fun _ => rfl) hMm) (by omega) (by omega) (by omega) k
      · rw [c66] at k
        refine zeN (q := ((72, [(0, .ref 54), (1, .int mo), (2, .int wr), (4, .int ro), (5, .int p), (6, .int (e_Mo_changed p w)), (3, .int ((g_Mo_commit_49 mo wr ro p (e_Mo_changed p w)  w an).2))], [.int p, .ref 54]), yhp ((g_Mo_commit_49 mo wr ro p (e_Mo_changed p w)  w an).1) G sz)) 2 rfl ?_
        refine zec 1 (M' := M_Mo_filled) (qq := ([.ref 54, .int p], [])) (s' := (75, [(0, .ref 54), (1, .int mo), (2, .int wr), (4, .int ro), (5, .int p), (6, .int (e_Mo_changed p w)), (3, .int ((g_Mo_commit_49 mo wr ro p (e_Mo_changed p w)  w an).2))], [.int (e_Mo_filled p ((g_Mo_commit_49 mo wr ro p (e_Mo_changed p w)  w an).1))])) rfl rfl (fun _ => rfl) rfl rfl (zhk rfl (zrc_ok (yhp_o rfl)) rfl) (r_Mo_filled p _ h0 (by omega) (by omega)) rfl ?_
        refine zbc (q1 := (81, [(0, .ref 54), (1, .int mo), (2, .int wr), (4, .int ro), (5, .int p), (6, .int (e_Mo_changed p w)), (3, .int ((g_Mo_commit_49 mo wr ro p (e_Mo_changed p w)  w an).2))], [])) (q2 := (78, [(0, .ref 54), (1, .int mo), (2, .int wr), (4, .int ro), (5, .int p), (6, .int (e_Mo_changed p w)), (3, .int ((g_Mo_commit_49 mo wr ro p (e_Mo_changed p w)  w an).2))], [])) (cB := zc .ne (e_Mo_filled p ((g_Mo_commit_49 mo wr ro p (e_Mo_changed p w)  w an).1)) 0) (off := 6) (lv := [(0, .ref 54), (1, .int mo), (2, .int wr), (4, .int ro), (5, .int p), (6, .int (e_Mo_changed p w)), (3, .int ((g_Mo_commit_49 mo wr ro p (e_Mo_changed p w)  w an).2))]) (st := []) rfl rfl rfl rfl rfl (fun c75 => ?_) (fun c75 => ?_)
        · rw [c75] at k
          refine zeS [(0, .ref 54), (1, .int mo), (2, .int wr), (3, .int ((g_Mo_commit_49 mo wr ro p (e_Mo_changed p w)  w an).2)), (5, .int p), (4, .int ro)] (zsub_pick [0, 1, 2, 6, 4, 3] rfl rfl) ?_
          refine t_Mo_commit_81 mo wr ((g_Mo_commit_49 mo wr ro p (e_Mo_changed p w)  w an).2) p ((g_Mo_commit_49 mo wr ro p (e_Mo_changed p w)  w an).1) ro hp9 (by omega) ?_
          refine zeN (q := ((34, [(5, .int (p + Int32.ofInt 1)), (2, .int (wr + Int32.ofInt 1)), (0, .ref 54), (1, .int mo), (3, .int ((g_Mo_commit_49 mo wr ro p (e_Mo_changed p w)  w an).2)), (4, .int ((g_Mo_commit_81 mo wr ((g_Mo_commit_49 mo wr ro p (e_Mo_changed p w)  w an).2) p  ((g_Mo_commit_49 mo wr ro p (e_Mo_changed p w)  w an).1) ro).2))], []), yhp ((g_Mo_commit_81 mo wr ((g_Mo_commit_49 mo wr ro p (e_Mo_changed p w)  w an).2) p  ((g_Mo_commit_49 mo wr ro p (e_Mo_changed p w)  w an).1) ro).1) G sz)) 3 rfl ?_
          refine zeS [(0, .ref 54), (1, .int mo), (2, .int (wr + Int32.ofInt 1)), (3, .int ((g_Mo_commit_49 mo wr ro p (e_Mo_changed p w)  w an).2)), (4, .int ((g_Mo_commit_81 mo wr ((g_Mo_commit_49 mo wr ro p (e_Mo_changed p w)  w an).2) p  ((g_Mo_commit_49 mo wr ro p (e_Mo_changed p w)  w an).1) ro).2)), (5, .int (p + Int32.ofInt 1))] (zsub_pick [2, 3, 1, 4, 5, 0] rfl rfl) ?_
          exact ih ((g_Mo_commit_81 mo wr ((g_Mo_commit_49 mo wr ro p (e_Mo_changed p w)  w an).2) p  ((g_Mo_commit_49 mo wr ro p (e_Mo_changed p w)  w an).1) ro).1) (wr + Int32.ofInt 1) ((g_Mo_commit_49 mo wr ro p (e_Mo_changed p w)  w an).2) ((g_Mo_commit_81 mo wr ((g_Mo_commit_49 mo wr ro p (e_Mo_changed p w)  w an).2) p  ((g_Mo_commit_49 mo wr ro p (e_Mo_changed p w)  w an).1) ro).2) (p + Int32.ofInt 1) (yMm_K (S := [(70, none), (71, none)]) (yK_tr (yK_tr yK_rfl (yK_mono rfl (kg_Mo_commit_49 ..))) (yK_mono rfl (kg_Mo_commit_81 ..))) (fun _ => rfl) hMm) (by omega) (by omega) (by omega) k
        · rw [c75] at k
          refine zeN (q := ((34, [(5, .int (p + Int32.ofInt 1)), (0, .ref 54), (1, .int mo), (2, .int wr), (4, .int ro), (6, .int (e_Mo_changed p w)), (3, .int ((g_Mo_commit_49 mo wr ro p (e_Mo_changed p w)  w an).2))], []), yhp ((g_Mo_commit_49 mo wr ro p (e_Mo_changed p w)  w an).1) G sz)) 3 rfl ?_
          refine zeS [(0, .ref 54), (1, .int mo), (2, .int wr), (3, .int ((g_Mo_commit_49 mo wr ro p (e_Mo_changed p w)  w an).2)), (4, .int ro), (5, .int (p + Int32.ofInt 1))] (zsub_pick [1, 2, 3, 6, 4, 0] rfl rfl) ?_
          exact ih ((g_Mo_commit_49 mo wr ro p (e_Mo_changed p w)  w an).1) wr ((g_Mo_commit_49 mo wr ro p (e_Mo_changed p w)  w an).2) ro (p + Int32.ofInt 1) (yMm_K (S := [(70, none), (71, none)]) (yK_tr yK_rfl (yK_mono rfl (kg_Mo_commit_49 ..))) (fun _ => rfl) hMm) (by omega) (by omega) (by omega) k
set_option maxRecDepth 100000 in
theorem kf_Mo_commit_34 (mo : Int32) : ∀ (n : Nat) (w : yW) (wr : Int32) (an : Int32) (ro : Int32) (p : Int32), yK [(55, none), (56, none), (57, none), (58, none), (59, none), (60, none), (61, none), (62, none), (63, none), (64, none), (54, some 10), (54, some 21), (54, some 22), (70, none), (71, none)] w (g_Mo_commit_34 mo n w wr an ro p).1 := by
  intro n
  induction n with
  | zero => intros; exact yK_rfl
  | succ n ih => intro w wr an ro p; rw [g_Mo_commit_34]; exact (yK_if1 (yK_p yK_rfl) (yK_if1 (yK_tr (yK_tr yK_rfl (yK_mono rfl (kf_Mo_commit_49 ..))) (ih _ _ _ _ _)) (yK_if1 (yK_tr (yK_tr (yK_tr yK_rfl (yK_mono rfl (kf_Mo_commit_49 ..))) (yK_mono rfl (kf_Mo_commit_81 ..))) (ih _ _ _ _ _)) (yK_tr (yK_tr yK_rfl (yK_mono rfl (kf_Mo_commit_49 ..))) (ih _ _ _ _ _)))))
theorem kg_Mo_commit_34 (mo : Int32) : ∀ (n : Nat) (w : yW) (wr : Int32) (an : Int32) (ro : Int32) (p : Int32), yK [(70, none), (71, none)] w (g_Mo_commit_34 mo n w wr an ro p).1 := by
  intro n
  induction n with
  | zero => intros; exact yK_rfl
  | succ n ih => intro w wr an ro p; rw [g_Mo_commit_34]; exact (yK_if1 (yK_p yK_rfl) (yK_if1 (yK_tr (yK_tr yK_rfl (yK_mono rfl (kg_Mo_commit_49 ..))) (ih _ _ _ _ _)) (yK_if1 (yK_tr (yK_tr (yK_tr yK_rfl (yK_mono rfl (kg_Mo_commit_49 ..))) (yK_mono rfl (kg_Mo_commit_81 ..))) (ih _ _ _ _ _)) (yK_tr (yK_tr yK_rfl (yK_mono rfl (kg_Mo_commit_49 ..))) (ih _ _ _ _ _)))))
def g_Mo_commit_117 (mo wr an : Int32) (w : yW) (ro : Int32) : yW × Int32 := (bif zc .eq ro 0 then (w, 0) else (bif zc .eq ((e_Mo_write 8 w).2) 0 then ((e_Mo_write 8 w).1, 0) else ((e_Mo_write 8 w).1, 1)))
set_option maxRecDepth 100000 in
theorem t_Mo_commit_117 {fr lo sz : Nat} {r : Option Value × zH} {G : List zC} (mo wr an : Int32) (w : yW) (ro : Int32)  (hlo : 109 ≤ lo) (k : zRun (fr + 5) lo none M_Mo_commit (138, [(0, .ref 54), (1, .int mo), (2, .int wr), (3, .int an), (4, .int ((g_Mo_commit_117 mo wr an w ro).2))], []) (yhp (g_Mo_commit_117 mo wr an w ro).1 G sz) r) : zRun (fr + 5) lo none M_Mo_commit (117, [(0, .ref 54), (1, .int mo), (2, .int wr), (3, .int an), (4, .int ro)], []) (yhp w G sz) r := by
  unfold g_Mo_commit_117 at k
  refine zeN (q := ((119, [(0, .ref 54), (1, .int mo), (2, .int wr), (3, .int an), (4, .int ro)], [.int ro]), yhp w G sz)) 1 rfl ?_
  refine zbc (q1 := (135, [(0, .ref 54), (1, .int mo), (2, .int wr), (3, .int an), (4, .int ro)], [])) (q2 := (122, [(0, .ref 54), (1, .int mo), (2, .int wr), (3, .int an), (4, .int ro)], [])) (cB := zc .eq ro 0) (off := 16) (lv := [(0, .ref 54), (1, .int mo), (2, .int wr), (3, .int an), (4, .int ro)]) (st := []) rfl rfl rfl rfl rfl (fun c119 => ?_) (fun c119 => ?_)
  · rw [c119] at k
    refine zeN (q := ((138, [(4, .int 0), (0, .ref 54), (1, .int mo), (2, .int wr), (3, .int an)], []), yhp w G sz)) 2 rfl ?_
    refine zeS [(0, .ref 54), (1, .int mo), (2, .int wr), (3, .int an), (4, .int 0)] (zsub_pick [1, 2, 3, 4, 0] rfl rfl) ?_
    exact k
  · rw [c119] at k
    refine zeN (q := ((125, [(0, .ref 54), (1, .int mo), (2, .int wr), (3, .int an), (4, .int ro)], [.int 8, .ref 54]), yhp w G sz)) 2 rfl ?_
    refine zec 1 (M' := M_Mo_write) (qq := ([.ref 54, .int 8], [])) (s' := (128, [(0, .ref 54), (1, .int mo), (2, .int wr), (3, .int an), (4, .int ro)], [.int ((e_Mo_write 8 w).2)])) rfl rfl (fun _ => rfl) rfl rfl (zhk rfl (zrc_ok (yhp_o rfl)) rfl) (r_Mo_write 8 _ ⟨by decide, by decide⟩ (by omega)) rfl ?_
    refine zbc (q1 := (135, [(0, .ref 54), (1, .int mo), (2, .int wr), (3, .int an), (4, .int ro)], [])) (q2 := (131, [(0, .ref 54), (1, .int mo), (2, .int wr), (3, .int an), (4, .int ro)], [])) (cB := zc .eq ((e_Mo_write 8 w).2) 0) (off := 7) (lv := [(0, .ref 54), (1, .int mo), (2, .int wr), (3, .int an), (4, .int ro)]) (st := []) rfl rfl rfl rfl rfl (fun c128 => ?_) (fun c128 => ?_)
    · rw [c128] at k
      refine zeN (q := ((138, [(4, .int 0), (0, .ref 54), (1, .int mo), (2, .int wr), (3, .int an)], []), yhp ((e_Mo_write 8 w).1) G sz)) 2 rfl ?_
      refine zeS [(0, .ref 54), (1, .int mo), (2, .int wr), (3, .int an), (4, .int 0)] (zsub_pick [1, 2, 3, 4, 0] rfl rfl) ?_
      exact k
    · rw [c128] at k
      refine zeN (q := ((138, [(4, .int 1), (0, .ref 54), (1, .int mo), (2, .int wr), (3, .int an)], []), yhp ((e_Mo_write 8 w).1) G sz)) 3 rfl ?_
      refine zeS [(0, .ref 54), (1, .int mo), (2, .int wr), (3, .int an), (4, .int 1)] (zsub_pick [1, 2, 3, 4, 0] rfl rfl) ?_
      exact k
set_option maxRecDepth 100000 in
theorem kf_Mo_commit_117 (mo wr an : Int32) (w : yW) (ro : Int32) : yK [(55, none), (56, none), (57, none), (58, none), (59, none), (60, none), (61, none), (62, none), (63, none), (64, none), (54, some 10), (54, some 21), (54, some 22), (70, none), (71, none)] w (g_Mo_commit_117 mo wr an w ro).1 := by unfold g_Mo_commit_117; exact (yK_if1 (yK_p yK_rfl) (yK_if1 (yK_p (yK_tr yK_rfl (yK_mono rfl (kf_Mo_write ..)))) (yK_p (yK_tr yK_rfl (yK_mono rfl (kf_Mo_write ..))))))
theorem kg_Mo_commit_117 (mo wr an : Int32) (w : yW) (ro : Int32) : yK [(70, none), (71, none)] w (g_Mo_commit_117 mo wr an w ro).1 := by unfold g_Mo_commit_117; exact (yK_if1 (yK_p yK_rfl) (yK_if1 (yK_p (yK_tr yK_rfl (yK_mono rfl (kf_Mo_write ..)))) (yK_p (yK_tr yK_rfl (yK_mono rfl (kf_Mo_write ..))))))
def g_Mo_commit_189 (mo wr p : Int32) (w : yW)  : yW := wI w 70 p.toNatClampNeg (w.1 71 p.toNatClampNeg)
set_option maxRecDepth 100000 in
theorem t_Mo_commit_189 {fr lo sz : Nat} {r : Option Value × zH} {G : List zC} (mo wr p : Int32) (w : yW)  (hp9 : zIx p 9) (hlo : 109 ≤ lo) (k : zRun (fr + 5) lo none M_Mo_commit (203, [(0, .ref 54), (1, .int mo), (2, .int wr), (5, .int p)], []) (yhp (g_Mo_commit_189 mo wr p w ) G sz) r) : zRun (fr + 5) lo none M_Mo_commit (189, [(0, .ref 54), (1, .int mo), (2, .int wr), (5, .int p)], []) (yhp w G sz) r := by
  unfold g_Mo_commit_189 at k
  refine zeN (q := ((190, [(0, .ref 54), (1, .int mo), (2, .int wr), (5, .int p)], [.ref 54]), yhp w G sz)) 1 rfl ?_
  refine ygf (kk := .inl (.ref 70)) (v := .ref 70) rfl rfl rfl rfl rfl rfl rfl ?_
  refine zeN (q := ((196, [(0, .ref 54), (1, .int mo), (2, .int wr), (5, .int p)], [.ref 54, .int p, .ref 70]), yhp w G sz)) 2 rfl ?_
  refine ygf (kk := .inl (.ref 71)) (v := .ref 71) rfl rfl rfl rfl rfl rfl rfl ?_
  refine zeN (q := ((201, [(0, .ref 54), (1, .int mo), (2, .int wr), (5, .int p)], [.int p, .ref 71, .int p, .ref 70]), yhp w G sz)) 1 rfl ?_
  refine yia (N := 9) rfl rfl rfl (by assumption) ?_
  refine yis (N := 9) rfl rfl rfl (by assumption) ?_
  exact k
set_option maxRecDepth 100000 in
theorem kf_Mo_commit_189 (mo wr p : Int32) (w : yW)  : yK [(55, none), (56, none), (57, none), (58, none), (59, none), (60, none), (61, none), (62, none), (63, none), (64, none), (54, some 10), (54, some 21), (54, some 22), (70, none), (71, none)] w (g_Mo_commit_189 mo wr p w ) := by unfold g_Mo_commit_189; exact (yK_wI rfl yK_rfl)
theorem kg_Mo_commit_189 (mo wr p : Int32) (w : yW)  : yK [(70, none), (71, none)] w (g_Mo_commit_189 mo wr p w ) := by unfold g_Mo_commit_189; exact (yK_wI rfl yK_rfl)
def g_Mo_commit_166 (mo wr : Int32) : Nat → yW → Int32 → yW
  | 0, w, p => w
  | n + 1, w, p => (bif zc .ge p 9 then w else (bif zc .eq p 8 then g_Mo_commit_166 mo wr  n ((g_Mo_commit_189 mo wr p  w )) (p + Int32.ofInt 1) else (bif zc .eq (e_Mo_changed p w) 0 then g_Mo_commit_166 mo wr  n w (p + Int32.ofInt 1) else g_Mo_commit_166 mo wr  n ((g_Mo_commit_189 mo wr p  w )) (p + Int32.ofInt 1))))
set_option maxRecDepth 100000 in
theorem t_Mo_commit_166 {fr lo sz : Nat} {r : Option Value × zH} {G : List zC} (mo wr : Int32)  (hlo : 109 ≤ lo) : ∀ (n : Nat) (w : yW) (p : Int32) (hMm : yMm w) (h0 : 0 ≤ p.toInt) (h1 : p.toInt ≤ 9) (hn : 9 < p.toInt + n) (k : zRun (fr + 5) lo none M_Mo_commit (209, [(0, .ref 54), (1, .int mo), (2, .int wr)], []) (yhp (g_Mo_commit_166 mo wr n w p) G sz) r), zRun (fr + 5) lo none M_Mo_commit (166, [(0, .ref 54), (1, .int mo), (2, .int wr), (5, .int p)], []) (yhp w G sz) r := by
  intro n
  induction n with
  | zero => intro w p hMm h0 h1 hn k; exfalso; omega
  | succ n ih =>
    intro w p hMm h0 h1 hn k
    rw [g_Mo_commit_166] at k
    refine zeN (q := ((170, [(0, .ref 54), (1, .int mo), (2, .int wr), (5, .int p)], [.int 9, .int p]), yhp w G sz)) 2 rfl ?_
    refine zbc (q1 := (209, [(0, .ref 54), (1, .int mo), (2, .int wr), (5, .int p)], [])) (q2 := (173, [(0, .ref 54), (1, .int mo), (2, .int wr), (5, .int p)], [])) (cB := zc .ge p 9) (off := 39) (lv := [(0, .ref 54), (1, .int mo), (2, .int wr), (5, .int p)]) (st := []) rfl rfl rfl rfl rfl (fun c170 => ?_) (fun c170 => ?_)
    · rw [c170] at k
      refine zeS [(0, .ref 54), (1, .int mo), (2, .int wr)] (zsub_pick [0, 1, 2] rfl rfl) ?_
      exact k
    · rw [c170] at k
      have hcc : ¬ (9 : Int) ≤ p.toInt := of_decide_eq_false (z_ge c170).symm
      have hp9 : zIx p 9 := ⟨h0, by omega⟩
      have hi1 := z_inc (a := p) (by omega) (by omega)
      refine zeN (q := ((177, [(0, .ref 54), (1, .int mo), (2, .int wr), (5, .int p)], [.int 8, .int p]), yhp w G sz)) 2 rfl ?_
      refine zbc (q1 := (189, [(0, .ref 54), (1, .int mo), (2, .int wr), (5, .int p)], [])) (q2 := (180, [(0, .ref 54), (1, .int mo), (2, .int wr), (5, .int p)], [])) (cB := zc .eq p 8) (off := 12) (lv := [(0, .ref 54), (1, .int mo), (2, .int wr), (5, .int p)]) (st := []) rfl rfl rfl rfl rfl (fun c177 => ?_) (fun c177 => ?_)
      · rw [c177] at k
        refine t_Mo_commit_189 mo wr p w  hp9 (by omega) ?_
        refine zeN (q := ((166, [(5, .int (p + Int32.ofInt 1)), (0, .ref 54), (1, .int mo), (2, .int wr)], []), yhp ((g_Mo_commit_189 mo wr p  w )) G sz)) 2 rfl ?_
        refine zeS [(0, .ref 54), (1, .int mo), (2, .int wr), (5, .int (p + Int32.ofInt 1))] (zsub_pick [1, 2, 3, 0] rfl rfl) ?_
        exact ih ((g_Mo_commit_189 mo wr p  w )) (p + Int32.ofInt 1) (yMm_K (S := [(70, none), (71, none)]) (yK_tr yK_rfl (yK_mono rfl (kg_Mo_commit_189 ..))) (fun _ => rfl) hMm) (by omega) (by omega) (by omega) k
      · rw [c177] at k
        have h7 : ¬ p.toInt = (8 : Int32).toInt := fun e => absurd ((zc_eq p 8).trans (decide_eq_true e)) (by rw [c177]; decide)
        have h8 : (8 : Int32).toInt = 8 := rfl
        refine zeN (q := ((183, [(0, .ref 54), (1, .int mo), (2, .int wr), (5, .int p)], [.int p, .ref 54]), yhp w G sz)) 2 rfl ?_
        refine zec 1 (M' := M_Mo_changed) (qq := ([.ref 54, .int p], [])) (s' := (186, [(0, .ref 54), (1, .int mo), (2, .int wr), (5, .int p)], [.int (e_Mo_changed p w)])) rfl rfl (fun _ => rfl) rfl rfl (zhk rfl (zrc_ok (yhp_o rfl)) rfl) (r_Mo_changed p _ h0 (by omega) hMm (by omega)) rfl ?_
        refine zbc (q1 := (203, [(0, .ref 54), (1, .int mo), (2, .int wr), (5, .int p)], [])) (q2 := (189, [(0, .ref 54), (1, .int mo), (2, .int wr), (5, .int p)], [])) (cB := zc .eq (e_Mo_changed p w) 0) (off := 17) (lv := [(0, .ref 54), (1, .int mo), (2, .int wr), (5, .int p)]) (st := []) rfl rfl rfl rfl rfl (fun c186 => ?_) (fun c186 => ?_)
        · rw [c186] at k
          refine zeN (q := ((166, [(5, .int (p + Int32.ofInt 1)), (0, .ref 54), (1, .int mo), (2, .int wr)], []), yhp w G sz)) 2 rfl ?_
          refine zeS [(0, .ref 54), (1, .int mo), (2, .int wr), (5, .int (p + Int32.ofInt 1))] (zsub_pick [1, 2, 3, 0] rfl rfl) ?_
          exact ih w (p + Int32.ofInt 1) (yMm_K (S := [(70, none), (71, none)]) yK_rfl (fun _ => rfl) hMm) (by omega) (by omega) (by omega) k
        · rw [c186] at k
          refine t_Mo_commit_189 mo wr p w  hp9 (by omega) ?_
          refine zeN (q := ((166, [(5, .int (p + Int32.ofInt 1)), (0, .ref 54), (1, .int mo), (2, .int wr)], []), yhp ((g_Mo_commit_189 mo wr p  w )) G sz)) 2 rfl ?_
          refine zeS [(0, .ref 54), (1, .int mo), (2, .int wr), (5, .int (p + Int32.ofInt 1))] (zsub_pick [1, 2, 3, 0] rfl rfl) ?_
          exact ih ((g_Mo_commit_189 mo wr p  w )) (p + Int32.ofInt 1) (yMm_K (S := [(70, none), (71, none)]) (yK_tr yK_rfl (yK_mono rfl (kg_Mo_commit_189 ..))) (fun _ => rfl) hMm) (by omega) (by omega) (by omega) k
set_option maxRecDepth 100000 in
theorem kf_Mo_commit_166 (mo wr : Int32) : ∀ (n : Nat) (w : yW) (p : Int32), yK [(55, none), (56, none), (57, none), (58, none), (59, none), (60, none), (61, none), (62, none), (63, none), (64, none), (54, some 10), (54, some 21), (54, some 22), (70, none), (71, none)] w (g_Mo_commit_166 mo wr n w p) := by
  intro n
  induction n with
  | zero => intros; exact yK_rfl
  | succ n ih => intro w p; rw [g_Mo_commit_166]; exact (yK_if yK_rfl (yK_if (yK_tr (yK_tr yK_rfl (yK_mono rfl (kf_Mo_commit_189 ..))) (ih _ _)) (yK_if (yK_tr yK_rfl (ih _ _)) (yK_tr (yK_tr yK_rfl (yK_mono rfl (kf_Mo_commit_189 ..))) (ih _ _)))))
theorem kg_Mo_commit_166 (mo wr : Int32) : ∀ (n : Nat) (w : yW) (p : Int32), yK [(70, none), (71, none)] w (g_Mo_commit_166 mo wr n w p) := by
  intro n
  induction n with
  | zero => intros; exact yK_rfl
  | succ n ih => intro w p; rw [g_Mo_commit_166]; exact (yK_if yK_rfl (yK_if (yK_tr (yK_tr yK_rfl (yK_mono rfl (kg_Mo_commit_189 ..))) (ih _ _)) (yK_if (yK_tr yK_rfl (ih _ _)) (yK_tr (yK_tr yK_rfl (yK_mono rfl (kg_Mo_commit_189 ..))) (ih _ _)))))
def g_Mo_commit_212 (mo wr : Int32) : Nat → yW → Int32 → yW
  | 0, w, s => w
  | n + 1, w, s => (bif zc .ge s 32 then w else g_Mo_commit_212 mo wr  n (e_Mo_copyRow s (s + 32) (w.1 58 s.toNatClampNeg) w) (s + Int32.ofInt 1))
set_option maxRecDepth 100000 in
theorem t_Mo_commit_212 {fr lo sz : Nat} {r : Option Value × zH} {G : List zC} (mo wr : Int32)  (hlo : 109 ≤ lo) : ∀ (n : Nat) (w : yW) (s : Int32) (hMm : yMm w) (h0 : 0 ≤ s.toInt) (h1 : s.toInt ≤ 32) (hn : 32 < s.toInt + n) (k : zRun (fr + 5) lo none M_Mo_commit (236, [(0, .ref 54), (1, .int mo), (2, .int wr)], []) (yhp (g_Mo_commit_212 mo wr n w s) G sz) r), zRun (fr + 5) lo none M_Mo_commit (212, [(0, .ref 54), (1, .int mo), (2, .int wr), (5, .int s)], []) (yhp w G sz) r := by
  intro n
  induction n with
  | zero => intro w s hMm h0 h1 hn k; exfalso; omega
  | succ n ih =>
    intro w s hMm h0 h1 hn k
    rw [g_Mo_commit_212] at k
    refine zeN (q := ((216, [(0, .ref 54), (1, .int mo), (2, .int wr), (5, .int s)], [.int 32, .int s]), yhp w G sz)) 2 rfl ?_
    refine zbc (q1 := (236, [(0, .ref 54), (1, .int mo), (2, .int wr), (5, .int s)], [])) (q2 := (219, [(0, .ref 54), (1, .int mo), (2, .int wr), (5, .int s)], [])) (cB := zc .ge s 32) (off := 20) (lv := [(0, .ref 54), (1, .int mo), (2, .int wr), (5, .int s)]) (st := []) rfl rfl rfl rfl rfl (fun c216 => ?_) (fun c216 => ?_)
    · rw [c216] at k
      refine zeS [(0, .ref 54), (1, .int mo), (2, .int wr)] (zsub_pick [0, 1, 2] rfl rfl) ?_
      exact k
    · rw [c216] at k
      have hcc : ¬ (32 : Int) ≤ s.toInt := of_decide_eq_false (z_ge c216).symm
      have e32 : (s + 32).toInt = s.toInt + 32 := z_add (by show _ ≤ _ + (32 : Int); omega) (by show _ + (32 : Int) < _; omega)
      have hs2 : zIx (s + 32) 65 := by unfold zIx; rw [e32]; omega
      have hs1 : zIx s 65 := ⟨h0, by omega⟩
      have hi1 := z_inc (a := s) (by omega) (by omega)
      refine zeN (q := ((227, [(0, .ref 54), (1, .int mo), (2, .int wr), (5, .int s)], [.int (s + 32), .int s, .ref 54]), yhp w G sz)) 5 rfl ?_
      refine zec 1 (M' := M_Mo_copyRow) (qq := ([.ref 54, .int s, .int (s + 32)], [])) (s' := (230, [(0, .ref 54), (1, .int mo), (2, .int wr), (5, .int s)], [])) rfl rfl (fun _ => rfl) rfl rfl (zhk rfl (zrc_ok (yhp_o rfl)) rfl) (p_Mo_copyRow s (s + 32) hs1 hs2 (hMm _ (zIx_n hs1)) (by omega)) rfl ?_
      refine zeN (q := ((212, [(5, .int (s + Int32.ofInt 1)), (0, .ref 54), (1, .int mo), (2, .int wr)], []), yhp (e_Mo_copyRow s (s + 32) (w.1 58 s.toNatClampNeg) w) G sz)) 2 rfl ?_
      refine zeS [(0, .ref 54), (1, .int mo), (2, .int wr), (5, .int (s + Int32.ofInt 1))] (zsub_pick [1, 2, 3, 0] rfl rfl) ?_
      exact ih (e_Mo_copyRow s (s + 32) (w.1 58 s.toNatClampNeg) w) (s + Int32.ofInt 1) (yMm_cr hs1 hMm) (by omega) (by omega) (by omega) k
set_option maxRecDepth 100000 in
theorem kf_Mo_commit_212 (mo wr : Int32) : ∀ (n : Nat) (w : yW) (s : Int32), yK [(55, none), (56, none), (57, none), (58, none), (59, none), (60, none), (61, none), (62, none), (63, none), (64, none), (54, some 10), (54, some 21), (54, some 22), (70, none), (71, none)] w (g_Mo_commit_212 mo wr n w s) := by
  intro n
  induction n with
  | zero => intros; exact yK_rfl
  | succ n ih => intro w s; rw [g_Mo_commit_212]; exact (yK_if yK_rfl (yK_tr (yK_tr yK_rfl (yK_mono rfl (kf_Mo_copyRow ..))) (ih _ _)))
theorem m_Mo_commit_212 (mo wr : Int32) : ∀ (n : Nat) (w : yW) (s : Int32), yMm w → 0 ≤ s.toInt → s.toInt ≤ 32 → yMm (g_Mo_commit_212 mo wr n w s) := by
  intro n
  induction n with
  | zero => intro w s h _ _; exact h
  | succ n ih =>
    intro w s hMm h0 h1
    rw [g_Mo_commit_212]
    cases c : zc .ge s 32
    · have hcc : ¬ (32 : Int) ≤ s.toInt := of_decide_eq_false (z_ge c).symm
      have hi1 := z_inc (a := s) (by omega) (by omega)
      exact ih _ _ (yMm_cr ⟨h0, by omega⟩ hMm) (by omega) (by omega)
    · exact hMm
def g_Mo_commit_236 (mo wr : Int32) (w : yW)  : yW × Int32 := (bif zc .ne mo wr then (w, wr) else (e_Mo_crash w, wr))
set_option maxRecDepth 100000 in
theorem t_Mo_commit_236 {fr lo sz : Nat} {G : List zC} (mo wr : Int32) (w : yW)  (hM2 : yMm w) (hlo : 109 ≤ lo)  : zRun (fr + 5) lo none M_Mo_commit (236, [(0, .ref 54), (1, .int mo), (2, .int wr)], []) (yhp w G sz) (some (.int ((g_Mo_commit_236 mo wr w ).2)), yhp ((g_Mo_commit_236 mo wr w ).1) G sz) := by
  unfold g_Mo_commit_236
  refine zeN (q := ((238, [(0, .ref 54), (1, .int mo), (2, .int wr)], [.int wr, .int mo]), yhp w G sz)) 2 rfl ?_
  refine zbc (q1 := (245, [(0, .ref 54), (1, .int mo), (2, .int wr)], [])) (q2 := (241, [(0, .ref 54), (1, .int mo), (2, .int wr)], [])) (cB := zc .ne mo wr) (off := 7) (lv := [(0, .ref 54), (1, .int mo), (2, .int wr)]) (st := []) rfl rfl rfl rfl rfl (fun c238 => ?_) (fun c238 => ?_)
  · rw [c238]
    refine zeN (q := ((246, [(0, .ref 54), (1, .int mo), (2, .int wr)], [.int wr]), yhp w G sz)) 1 rfl ?_
    exact zer rfl rfl
  · rw [c238]
    refine zeN (q := ((242, [(0, .ref 54), (1, .int mo), (2, .int wr)], [.ref 54]), yhp w G sz)) 1 rfl ?_
    refine zec 1 (M' := M_Mo_crash) (qq := ([.ref 54], [])) (s' := (245, [(0, .ref 54), (1, .int mo), (2, .int wr)], [])) rfl rfl (fun _ => rfl) rfl rfl (zhk rfl (zrc_ok (yhp_o rfl)) rfl) (r_Mo_crash _ (by first | exact hM1 | exact hM2) (by omega)) rfl ?_
    refine zeN (q := ((246, [(0, .ref 54), (1, .int mo), (2, .int wr)], [.int wr]), yhp (e_Mo_crash w) G sz)) 1 rfl ?_
    exact zer rfl rfl
set_option maxRecDepth 100000 in
theorem kf_Mo_commit_236 (mo wr : Int32) (w : yW)  : yK [(55, none), (56, none), (57, none), (58, none), (59, none), (60, none), (61, none), (62, none), (63, none), (64, none), (54, some 10), (54, some 21), (54, some 22), (70, none), (71, none)] w (g_Mo_commit_236 mo wr w ).1 := by unfold g_Mo_commit_236; exact (yK_if1 (yK_p yK_rfl) (yK_p (yK_tr yK_rfl (yK_mono rfl (kf_Mo_crash ..)))))
def g_Mo_commit_209 (mo wr : Int32) (w : yW)  : yW × Int32 := g_Mo_commit_236 mo wr  ((g_Mo_commit_212 mo wr 33 w 0)) 
set_option maxRecDepth 100000 in
theorem t_Mo_commit_209 {fr lo sz : Nat} {G : List zC} (mo wr : Int32) (w : yW)  (hM3 : yMm w) (hlo : 109 ≤ lo)  : zRun (fr + 5) lo none M_Mo_commit (209, [(0, .ref 54), (1, .int mo), (2, .int wr)], []) (yhp w G sz) (some (.int ((g_Mo_commit_209 mo wr w ).2)), yhp ((g_Mo_commit_209 mo wr w ).1) G sz) := by
  unfold g_Mo_commit_209
  refine zeN (q := ((212, [(5, .int 0), (0, .ref 54), (1, .int mo), (2, .int wr)], []), yhp w G sz)) 2 rfl ?_
  refine zeS [(0, .ref 54), (1, .int mo), (2, .int wr), (5, .int 0)] (zsub_pick [1, 2, 3, 0] rfl rfl) ?_
  refine t_Mo_commit_212 mo wr  (by omega) 33 w 0 hM3 (by decide) (by decide) (by decide) ?_
  have hM2 : yMm ((g_Mo_commit_212 mo wr 33 w 0)) := m_Mo_commit_212 _ _ _ _ _ hM3 (by decide) (by decide)
  exact t_Mo_commit_236 mo wr ((g_Mo_commit_212 mo wr 33 w 0))  hM2 (by omega)
set_option maxRecDepth 100000 in
theorem kf_Mo_commit_209 (mo wr : Int32) (w : yW)  : yK [(55, none), (56, none), (57, none), (58, none), (59, none), (60, none), (61, none), (62, none), (63, none), (64, none), (54, some 10), (54, some 21), (54, some 22), (70, none), (71, none)] w (g_Mo_commit_209 mo wr w ).1 := by unfold g_Mo_commit_209; exact (yK_tr (yK_tr yK_rfl (yK_mono rfl (kf_Mo_commit_212 ..))) (yK_mono rfl (kf_Mo_commit_236 ..)))
def g_Mo_commit_163 (mo wr : Int32) (w : yW)  : yW × Int32 := g_Mo_commit_209 mo wr  ((g_Mo_commit_166 mo wr 10 w 0)) 
set_option maxRecDepth 100000 in
theorem t_Mo_commit_163 {fr lo sz : Nat} {G : List zC} (mo wr : Int32) (w : yW)  (hM2 : yMm w) (hlo : 109 ≤ lo)  : zRun (fr + 5) lo none M_Mo_commit (163, [(0, .ref 54), (1, .int mo), (2, .int wr)], []) (yhp w G sz) (some (.int ((g_Mo_commit_163 mo wr w ).2)), yhp ((g_Mo_commit_163 mo wr w ).1) G sz) := by
  unfold g_Mo_commit_163
  have hMm := hM2
  refine zeN (q := ((166, [(5, .int 0), (0, .ref 54), (1, .int mo), (2, .int wr)], []), yhp w G sz)) 2 rfl ?_
  refine zeS [(0, .ref 54), (1, .int mo), (2, .int wr), (5, .int 0)] (zsub_pick [1, 2, 3, 0] rfl rfl) ?_
  refine t_Mo_commit_166 mo wr  (by omega) 10 w 0 hM2 (by decide) (by decide) (by decide) ?_
  have hM3 : yMm ((g_Mo_commit_166 mo wr 10 w 0)) := (yMm_K (S := [(70, none), (71, none)]) (yK_tr yK_rfl (yK_mono rfl (kg_Mo_commit_166 ..))) (fun _ => rfl) hMm)
  exact t_Mo_commit_209 mo wr ((g_Mo_commit_166 mo wr 10 w 0))  hM3 (by omega)
set_option maxRecDepth 100000 in
theorem kf_Mo_commit_163 (mo wr : Int32) (w : yW)  : yK [(55, none), (56, none), (57, none), (58, none), (59, none), (60, none), (61, none), (62, none), (63, none), (64, none), (54, some 10), (54, some 21), (54, some 22), (70, none), (71, none)] w (g_Mo_commit_163 mo wr w ).1 := by unfold g_Mo_commit_163; exact (yK_tr (yK_tr yK_rfl (yK_mono rfl (kf_Mo_commit_166 ..))) (yK_mono rfl (kf_Mo_commit_209 ..)))
def g_Mo_commit_138 (mo wr : Int32) (w : yW) (ro : Int32) : yW × Int32 := (bif zc .ne ro 0 then (bif zc .lt mo 0 then g_Mo_commit_163 mo (wr + Int32.ofInt 2)  w  else (bif zc .ge mo (wr + Int32.ofInt 2) then g_Mo_commit_163 mo (wr + Int32.ofInt 2)  w  else (e_Mo_crash w, mo))) else (w, (-1)))
set_option maxRecDepth 100000 in
theorem t_Mo_commit_138 {fr lo sz : Nat} {G : List zC} (mo wr : Int32) (w : yW) (ro : Int32) (hM1 : yMm w) (hlo : 109 ≤ lo)  : zRun (fr + 5) lo none M_Mo_commit (138, [(0, .ref 54), (1, .int mo), (2, .int wr), (4, .int ro)], []) (yhp w G sz) (some (.int ((g_Mo_commit_138 mo wr w ro).2)), yhp ((g_Mo_commit_138 mo wr w ro).1) G sz) := by
  unfold g_Mo_commit_138
  refine zeN (q := ((143, [(2, .int (wr + Int32.ofInt 2)), (0, .ref 54), (1, .int mo), (4, .int ro)], [.int ro]), yhp w G sz)) 2 rfl ?_
  refine zbc (q1 := (148, [(2, .int (wr + Int32.ofInt 2)), (0, .ref 54), (1, .int mo), (4, .int ro)], [])) (q2 := (146, [(2, .int (wr + Int32.ofInt 2)), (0, .ref 54), (1, .int mo), (4, .int ro)], [])) (cB := zc .ne ro 0) (off := 5) (lv := [(2, .int (wr + Int32.ofInt 2)), (0, .ref 54), (1, .int mo), (4, .int ro)]) (st := []) rfl rfl rfl rfl rfl (fun c143 => ?_) (fun c143 => ?_)
  · rw [c143]
    refine zeN (q := ((149, [(2, .int (wr + Int32.ofInt 2)), (0, .ref 54), (1, .int mo), (4, .int ro)], [.int mo]), yhp w G sz)) 1 rfl ?_
    refine zbc (q1 := (163, [(2, .int (wr + Int32.ofInt 2)), (0, .ref 54), (1, .int mo), (4, .int ro)], [])) (q2 := (152, [(2, .int (wr + Int32.ofInt 2)), (0, .ref 54), (1, .int mo), (4, .int ro)], [])) (cB := zc .lt mo 0) (off := 14) (lv := [(2, .int (wr + Int32.ofInt 2)), (0, .ref 54), (1, .int mo), (4, .int ro)]) (st := []) rfl rfl rfl rfl rfl (fun c149 => ?_) (fun c149 => ?_)
    · rw [c149]
      have hM2 := hM1
      refine zeS [(0, .ref 54), (1, .int mo), (2, .int (wr + Int32.ofInt 2))] (zsub_pick [1, 2, 0] rfl rfl) ?_
      exact t_Mo_commit_163 mo (wr + Int32.ofInt 2) w  hM2 (by omega)
    · rw [c149]
      refine zeN (q := ((154, [(2, .int (wr + Int32.ofInt 2)), (0, .ref 54), (1, .int mo), (4, .int ro)], [.int (wr + Int32.ofInt 2), .int mo]), yhp w G sz)) 2 rfl ?_
      refine zbc (q1 := (163, [(2, .int (wr + Int32.ofInt 2)), (0, .ref 54), (1, .int mo), (4, .int ro)], [])) (q2 := (157, [(2, .int (wr + Int32.ofInt 2)), (0, .ref 54), (1, .int mo), (4, .int ro)], [])) (cB := zc .ge mo (wr + Int32.ofInt 2)) (off := 9) (lv := [(2, .int (wr + Int32.ofInt 2)), (0, .ref 54), (1, .int mo), (4, .int ro)]) (st := []) rfl rfl rfl rfl rfl (fun c154 => ?_) (fun c154 => ?_)
      · rw [c154]
        have hM2 := hM1
        refine zeS [(0, .ref 54), (1, .int mo), (2, .int (wr + Int32.ofInt 2))] (zsub_pick [1, 2, 0] rfl rfl) ?_
        exact t_Mo_commit_163 mo (wr + Int32.ofInt 2) w  hM2 (by omega)
      · rw [c154]
        refine zeN (q := ((158, [(2, .int (wr + Int32.ofInt 2)), (0, .ref 54), (1, .int mo), (4, .int ro)], [.ref 54]), yhp w G sz)) 1 rfl ?_
        refine zec 1 (M' := M_Mo_crash) (qq := ([.ref 54], [])) (s' := (161, [(2, .int (wr + Int32.ofInt 2)), (0, .ref 54), (1, .int mo), (4, .int ro)], [])) rfl rfl (fun _ => rfl) rfl rfl (zhk rfl (zrc_ok (yhp_o rfl)) rfl) (r_Mo_crash _ (by first | exact hM1 | exact hM2) (by omega)) rfl ?_
        refine zeN (q := ((162, [(2, .int (wr + Int32.ofInt 2)), (0, .ref 54), (1, .int mo), (4, .int ro)], [.int mo]), yhp (e_Mo_crash w) G sz)) 1 rfl ?_
        exact zer rfl rfl
  · rw [c143]
    refine zeN (q := ((147, [(2, .int (wr + Int32.ofInt 2)), (0, .ref 54), (1, .int mo), (4, .int ro)], [.int ((-1))]), yhp w G sz)) 1 rfl ?_
    exact zer rfl rfl
set_option maxRecDepth 100000 in
theorem kf_Mo_commit_138 (mo wr : Int32) (w : yW) (ro : Int32) : yK [(55, none), (56, none), (57, none), (58, none), (59, none), (60, none), (61, none), (62, none), (63, none), (64, none), (54, some 10), (54, some 21), (54, some 22), (70, none), (71, none)] w (g_Mo_commit_138 mo wr w ro).1 := by unfold g_Mo_commit_138; exact (yK_if1 (yK_if1 (yK_tr yK_rfl (yK_mono rfl (kf_Mo_commit_163 ..))) (yK_if1 (yK_tr yK_rfl (yK_mono rfl (kf_Mo_commit_163 ..))) (yK_p (yK_tr yK_rfl (yK_mono rfl (kf_Mo_crash ..)))))) (yK_p yK_rfl))
def e_Mo_commit (mo : Int32) (w : yW) : yW × Int32 := (bif zc .ne ((g_Mo_commit_34 mo 9 ((g_Mo_commit_10 mo 10 w 0)) 0 0 1 0).2.2.1) 0 then g_Mo_commit_138 mo ((g_Mo_commit_34 mo 9 ((g_Mo_commit_10 mo 10 w 0)) 0 0 1 0).2.1)  ((g_Mo_commit_117 mo ((g_Mo_commit_34 mo 9 ((g_Mo_commit_10 mo 10 w 0)) 0 0 1 0).2.1) ((g_Mo_commit_34 mo 9 ((g_Mo_commit_10 mo 10 w 0)) 0 0 1 0).2.2.1)  ((g_Mo_commit_34 mo 9 ((g_Mo_commit_10 mo 10 w 0)) 0 0 1 0).1) ((g_Mo_commit_34 mo 9 ((g_Mo_commit_10 mo 10 w 0)) 0 0 1 0).2.2.2)).1) ((g_Mo_commit_117 mo ((g_Mo_commit_34 mo 9 ((g_Mo_commit_10 mo 10 w 0)) 0 0 1 0).2.1) ((g_Mo_commit_34 mo 9 ((g_Mo_commit_10 mo 10 w 0)) 0 0 1 0).2.2.1)  ((g_Mo_commit_34 mo 9 ((g_Mo_commit_10 mo 10 w 0)) 0 0 1 0).1) ((g_Mo_commit_34 mo 9 ((g_Mo_commit_10 mo 10 w 0)) 0 0 1 0).2.2.2)).2) else ((g_Mo_commit_34 mo 9 ((g_Mo_commit_10 mo 10 w 0)) 0 0 1 0).1, 0))
set_option maxRecDepth 100000 in
theorem r_Mo_commit {fr lo sz : Nat} {G : List zC} (mo : Int32) (w : yW) (hMm : yMm w) (hlo : 135 ≤ lo) : zAns (fr + 6) lo 144 [.ref 54, .int mo] (yhp w G sz) (some (.int ((e_Mo_commit mo w).2)), yhp ((e_Mo_commit mo w).1) G sz) := by
  unfold e_Mo_commit
  refine zeb (fr := fr + 5) (M := M_Mo_commit) rfl (Nat.le_trans (by decide) hlo) rfl ?_
  have e0 : mL M_Mo_commit = 7 := rfl
  refine zeN (q := ((10, [(5, .int 0), (4, .int 1), (3, .int 0), (2, .int 0), (0, .ref 54), (1, .int mo)], []), yhp w G sz)) 8 rfl ?_
  refine zeS [(0, .ref 54), (1, .int mo), (2, .int 0), (3, .int 0), (4, .int 1), (5, .int 0)] (zsub_pick [4, 5, 3, 2, 1, 0] rfl rfl) ?_
  refine t_Mo_commit_10 mo  (by omega) 10 w 0 (by decide) (by decide) (by decide) ?_
  have hM0 : yMm ((g_Mo_commit_10 mo 10 w 0)) := (yMm_K (S := [(70, none), (71, none)]) (yK_tr yK_rfl (yK_mono rfl (kg_Mo_commit_10 ..))) (fun _ => rfl) hMm)
  refine zeN (q := ((34, [(5, .int 0), (0, .ref 54), (1, .int mo), (2, .int 0), (3, .int 0), (4, .int 1)], []), yhp ((g_Mo_commit_10 mo 10 w 0)) G sz)) 2 rfl ?_
  refine zeS [(0, .ref 54), (1, .int mo), (2, .int 0), (3, .int 0), (4, .int 1), (5, .int 0)] (zsub_pick [1, 2, 3, 4, 5, 0] rfl rfl) ?_
  refine t_Mo_commit_34 mo  (by omega) 9 ((g_Mo_commit_10 mo 10 w 0)) 0 0 1 0 hM0 (by decide) (by decide) (by decide) ?_
  refine zeN (q := ((112, [(0, .ref 54), (1, .int mo), (2, .int ((g_Mo_commit_34 mo 9 ((g_Mo_commit_10 mo 10 w 0)) 0 0 1 0).2.1)), (3, .int ((g_Mo_commit_34 mo 9 ((g_Mo_commit_10 mo 10 w 0)) 0 0 1 0).2.2.1)), (4, .int ((g_Mo_commit_34 mo 9 ((g_Mo_commit_10 mo 10 w 0)) 0 0 1 0).2.2.2))], [.int ((g_Mo_commit_34 mo 9 ((g_Mo_commit_10 mo 10 w 0)) 0 0 1 0).2.2.1)]), yhp ((g_Mo_commit_34 mo 9 ((g_Mo_commit_10 mo 10 w 0)) 0 0 1 0).1) G sz)) 1 rfl ?_
  refine zbc (q1 := (117, [(0, .ref 54), (1, .int mo), (2, .int ((g_Mo_commit_34 mo 9 ((g_Mo_commit_10 mo 10 w 0)) 0 0 1 0).2.1)), (3, .int ((g_Mo_commit_34 mo 9 ((g_Mo_commit_10 mo 10 w 0)) 0 0 1 0).2.2.1)), (4, .int ((g_Mo_commit_34 mo 9 ((g_Mo_commit_10 mo 10 w 0)) 0 0 1 0).2.2.2))], [])) (q2 := (115, [(0, .ref 54), (1, .int mo), (2, .int ((g_Mo_commit_34 mo 9 ((g_Mo_commit_10 mo 10 w 0)) 0 0 1 0).2.1)), (3, .int ((g_Mo_commit_34 mo 9 ((g_Mo_commit_10 mo 10 w 0)) 0 0 1 0).2.2.1)), (4, .int ((g_Mo_commit_34 mo 9 ((g_Mo_commit_10 mo 10 w 0)) 0 0 1 0).2.2.2))], [])) (cB := zc .ne ((g_Mo_commit_34 mo 9 ((g_Mo_commit_10 mo 10 w 0)) 0 0 1 0).2.2.1) 0) (off := 5) (lv := [(0, .ref 54), (1, .int mo), (2, .int ((g_Mo_commit_34 mo 9 ((g_Mo_commit_10 mo 10 w 0)) 0 0 1 0).2.1)), (3, .int ((g_Mo_commit_34 mo 9 ((g_Mo_commit_10 mo 10 w 0)) 0 0 1 0).2.2.1)), (4, .int ((g_Mo_commit_34 mo 9 ((g_Mo_commit_10 mo 10 w 0)) 0 0 1 0).2.2.2))]) (st := []) rfl rfl rfl rfl rfl (fun c112 => ?_) (fun c112 => ?_)
  · rw [c112, cond_true]
    refine t_Mo_commit_117 mo ((g_Mo_commit_34 mo 9 ((g_Mo_commit_10 mo 10 w 0)) 0 0 1 0).2.1) ((g_Mo_commit_34 mo 9 ((g_Mo_commit_10 mo 10 w 0)) 0 0 1 0).2.2.1) ((g_Mo_commit_34 mo 9 ((g_Mo_commit_10 mo 10 w 0)) 0 0 1 0).1) ((g_Mo_commit_34 mo 9 ((g_Mo_commit_10 mo 10 w 0)) 0 0 1 0).2.2.2)  (by omega) ?_
    have hM1 : yMm ((g_Mo_commit_117 mo ((g_Mo_commit_34 mo 9 ((g_Mo_commit_10 mo 10 w 0)) 0 0 1 0).2.1) ((g_Mo_commit_34 mo 9 ((g_Mo_commit_10 mo 10 w 0)) 0 0 1 0).2.2.1)  ((g_Mo_commit_34 mo 9 ((g_Mo_commit_10 mo 10 w 0)) 0 0 1 0).1) ((g_Mo_commit_34 mo 9 ((g_Mo_commit_10 mo 10 w 0)) 0 0 1 0).2.2.2)).1) := (yMm_K (S := [(70, none), (71, none)]) (yK_tr (yK_tr (yK_tr yK_rfl (yK_mono rfl (kg_Mo_commit_10 ..))) (yK_mono rfl (kg_Mo_commit_34 ..))) (yK_mono rfl (kg_Mo_commit_117 ..))) (fun _ => rfl) hMm)
    refine zeS [(0, .ref 54), (1, .int mo), (2, .int ((g_Mo_commit_34 mo 9 ((g_Mo_commit_10 mo 10 w 0)) 0 0 1 0).2.1)), (4, .int ((g_Mo_commit_117 mo ((g_Mo_commit_34 mo 9 ((g_Mo_commit_10 mo 10 w 0)) 0 0 1 0).2.1) ((g_Mo_commit_34 mo 9 ((g_Mo_commit_10 mo 10 w 0)) 0 0 1 0).2.2.1)  ((g_Mo_commit_34 mo 9 ((g_Mo_commit_10 mo 10 w 0)) 0 0 1 0).1) ((g_Mo_commit_34 mo 9 ((g_Mo_commit_10 mo 10 w 0)) 0 0 1 0).2.2.2)).2))] (zsub_pick [0, 1, 2, 4] rfl rfl) ?_
    exact t_Mo_commit_138 mo ((g_Mo_commit_34 mo 9 ((g_Mo_commit_10 mo 10 w 0)) 0 0 1 0).2.1) ((g_Mo_commit_117 mo ((g_Mo_commit_34 mo 9 ((g_Mo_commit_10 mo 10 w 0)) 0 0 1 0).2.1) ((g_Mo_commit_34 mo 9 ((g_Mo_commit_10 mo 10 w 0)) 0 0 1 0).2.2.1)  ((g_Mo_commit_34 mo 9 ((g_Mo_commit_10 mo 10 w 0)) 0 0 1 0).1) ((g_Mo_commit_34 mo 9 ((g_Mo_commit_10 mo 10 w 0)) 0 0 1 0).2.2.2)).1) ((g_Mo_commit_117 mo ((g_Mo_commit_34 mo 9 ((g_Mo_commit_10 mo 10 w 0)) 0 0 1 0).2.1) ((g_Mo_commit_34 mo 9 ((g_Mo_commit_10 mo 10 w 0)) 0 0 1 0).2.2.1)  ((g_Mo_commit_34 mo 9 ((g_Mo_commit_10 mo 10 w 0)) 0 0 1 0).1) ((g_Mo_commit_34 mo 9 ((g_Mo_commit_10 mo 10 w 0)) 0 0 1 0).2.2.2)).2) hM1 (by omega)
  · rw [c112, cond_false]
    refine zeN (q := ((116, [(0, .ref 54), (1, .int mo), (2, .int ((g_Mo_commit_34 mo 9 ((g_Mo_commit_10 mo 10 w 0)) 0 0 1 0).2.1)), (3, .int ((g_Mo_commit_34 mo 9 ((g_Mo_commit_10 mo 10 w 0)) 0 0 1 0).2.2.1)), (4, .int ((g_Mo_commit_34 mo 9 ((g_Mo_commit_10 mo 10 w 0)) 0 0 1 0).2.2.2))], [.int 0]), yhp ((g_Mo_commit_34 mo 9 ((g_Mo_commit_10 mo 10 w 0)) 0 0 1 0).1) G sz)) 1 rfl ?_
    exact zer rfl rfl
set_option maxRecDepth 100000 in
theorem kf_Mo_commit (mo : Int32) (w : yW)  : yK [(55, none), (56, none), (57, none), (58, none), (59, none), (60, none), (61, none), (62, none), (63, none), (64, none), (54, some 10), (54, some 21), (54, some 22), (70, none), (71, none)] w (e_Mo_commit mo w ).1 := by unfold e_Mo_commit; exact (yK_if1 (yK_tr (yK_tr (yK_tr (yK_tr yK_rfl (yK_mono rfl (kf_Mo_commit_10 ..))) (yK_mono rfl (kf_Mo_commit_34 ..))) (yK_mono rfl (kf_Mo_commit_117 ..))) (yK_mono rfl (kf_Mo_commit_138 ..))) (yK_p (yK_tr (yK_tr yK_rfl (yK_mono rfl (kf_Mo_commit_10 ..))) (yK_mono rfl (kf_Mo_commit_34 ..)))))
