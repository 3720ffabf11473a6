def g_Mo_select_59 (t li a b : Int32) (q s : Int32) (w : yW)  : yW := (bif zc .gt a (w.1 56 s.toNatClampNeg) then w else (bif zc .gt (w.1 56 s.toNatClampNeg) b then w else wI (wI w 69 (w.1 54 21).toNatClampNeg q) 54 21 (((wI w 69 (w.1 54 21).toNatClampNeg q).1 54 21) + 1)))
set_option maxRecDepth 100000 in
theorem t_Mo_select_59 {fr lo sz : Nat} {r : Option Value × zH} {G : List zC} (t li a b : Int32) (q s : Int32) (w : yW)  (hx : zIx s 65) (hr : zIx (w.1 54 21) 256) (hlo : 184 ≤ lo) (k : zRun (fr + 7) lo none M_Mo_select (103, [(0, .ref 54), (1, .int t), (2, .int li), (3, .int a), (4, .int b), (5, .int q), (6, .int s)], []) (yhp (g_Mo_select_59 t li a b q s w ) G sz) r) : zRun (fr + 7) lo none M_Mo_select (59, [(0, .ref 54), (1, .int t), (2, .int li), (3, .int a), (4, .int b), (5, .int q), (6, .int s)], []) (yhp w G sz) r := by
  unfold g_Mo_select_59 at k
  refine zeN (q := ((61, [(0, .ref 54), (1, .int t), (2, .int li), (3, .int a), (4, .int b), (5, .int q), (6, .int s)], [.ref 54, .int a]), yhp w G sz)) 2 rfl ?_
  refine ygf (kk := .inl (.ref 56)) (v := .ref 56) rfl rfl rfl rfl rfl rfl rfl ?_
  refine zeN (q := ((66, [(0, .ref 54), (1, .int t), (2, .int li), (3, .int a), (4, .int b), (5, .int q), (6, .int s)], [.int s, .ref 56, .int a]), yhp w G sz)) 1 rfl ?_
  refine yia (N := 65) rfl rfl rfl (by assumption) ?_
  refine zbc (q1 := (103, [(0, .ref 54), (1, .int t), (2, .int li), (3, .int a), (4, .int b), (5, .int q), (6, .int s)], [])) (q2 := (70, [(0, .ref 54), (1, .int t), (2, .int li), (3, .int a), (4, .int b), (5, .int q), (6, .int s)], [])) (cB := zc .gt a (w.1 56 s.toNatClampNeg)) (off := 36) (lv := [(0, .ref 54), (1, .int t), (2, .int li), (3, .int a), (4, .int b), (5, .int q), (6, .int s)]) (st := []) rfl rfl rfl rfl rfl (fun c67 => ?_) (fun c67 => ?_)
  · rw [c67] at k
    exact k
  · rw [c67] at k
    refine zeN (q := ((71, [(0, .ref 54), (1, .int t), (2, .int li), (3, .int a), (4, .int b), (5, .int q), (6, .int s)], [.ref 54]), yhp w G sz)) 1 rfl ?_
    refine ygf (kk := .inl (.ref 56)) (v := .ref 56) rfl rfl rfl rfl rfl rfl rfl ?_
    refine zeN (q := ((76, [(0, .ref 54), (1, .int t), (2, .int li), (3, .int a), (4, .int b), (5, .int q), (6, .int s)], [.int s, .ref 56]), yhp w G sz)) 1 rfl ?_
    refine yia (N := 65) rfl rfl rfl (by assumption) ?_
    refine zeN (q := ((79, [(0, .ref 54), (1, .int t), (2, .int li), (3, .int a), (4, .int b), (5, .int q), (6, .int s)], [.int b, .int (w.1 56 s.toNatClampNeg)]), yhp w G sz)) 1 rfl ?_
    refine zbc (q1 := (103, [(0, .ref 54), (1, .int t), (2, .int li), (3, .int a), (4, .int b), (5, .int q), (6, .int s)], [])) (q2 := (82, [(0, .ref 54), (1, .int t), (2, .int li), (3, .int a), (4, .int b), (5, .int q), (6, .int s)], [])) (cB := zc .gt (w.1 56 s.toNatClampNeg) b) (off := 24) (lv := [(0, .ref 54), (1, .int t), (2, .int li), (3, .int a), (4, .int b), (5, .int q), (6, .int s)]) (st := []) rfl rfl rfl rfl rfl (fun c79 => ?_) (fun c79 => ?_)
    · rw [c79] at k
      exact k
    · rw [c79] at k
      refine zeN (q := ((83, [(0, .ref 54), (1, .int t), (2, .int li), (3, .int a), (4, .int b), (5, .int q), (6, .int s)], [.ref 54]), yhp w G sz)) 1 rfl ?_
      refine ygf (kk := .inl (.ref 69)) (v := .ref 69) rfl rfl rfl rfl rfl rfl rfl ?_
      refine zeN (q := ((87, [(0, .ref 54), (1, .int t), (2, .int li), (3, .int a), (4, .int b), (5, .int q), (6, .int s)], [.ref 54, .ref 69]), yhp w G sz)) 1 rfl ?_
      refine ygf (kk := .inr 0) (v := .int (w.1 54 21)) rfl rfl rfl rfl rfl rfl rfl ?_
      refine zeN (q := ((92, [(0, .ref 54), (1, .int t), (2, .int li), (3, .int a), (4, .int b), (5, .int q), (6, .int s)], [.int q, .int (w.1 54 21), .ref 69]), yhp w G sz)) 1 rfl ?_
      refine yis (N := 256) rfl rfl rfl (by assumption) ?_
      refine zeN (q := ((95, [(0, .ref 54), (1, .int t), (2, .int li), (3, .int a), (4, .int b), (5, .int q), (6, .int s)], [.ref 54, .ref 54]), yhp (wI w 69 (w.1 54 21).toNatClampNeg q) G sz)) 2 rfl ?_
      refine ygf (kk := .inr 0) (v := .int ((wI w 69 (w.1 54 21).toNatClampNeg q).1 54 21)) rfl rfl rfl rfl rfl rfl rfl ?_
      refine zeN (q := ((100, [(0, .ref 54), (1, .int t), (2, .int li), (3, .int a), (4, .int b), (5, .int q), (6, .int s)], [.int (((wI w 69 (w.1 54 21).toNatClampNeg q).1 54 21) + 1), .ref 54]), yhp (wI w 69 (w.1 54 21).toNatClampNeg q) G sz)) 2 rfl ?_
      refine ypI (v := ((wI w 69 (w.1 54 21).toNatClampNeg q).1 54 21) + 1) rfl rfl rfl rfl rfl rfl rfl ?_
      exact k
set_option maxRecDepth 100000 in
theorem kf_Mo_select_59 (t li a b : Int32) (q s : Int32) (w : yW)  : yK [(54, some 13), (54, some 14), (54, some 17), (54, some 18), (54, some 19), (54, some 20), (54, some 21), (54, some 22), (69, none)] w (g_Mo_select_59 t li a b q s w ) := by unfold g_Mo_select_59; exact (yK_if yK_rfl (yK_if yK_rfl (yK_wI rfl (yK_wI rfl yK_rfl))))
def g_Mo_select_121 (t li a b : Int32) (w : yW)  : yW × Int32 := (w, w.1 54 21)
set_option maxRecDepth 100000 in
theorem t_Mo_select_121 {fr lo sz : Nat} {G : List zC} (t li a b : Int32) (w : yW)   (hlo : 184 ≤ lo)  : zRun (fr + 7) lo none M_Mo_select (121, [(0, .ref 54), (1, .int t), (2, .int li), (3, .int a), (4, .int b)], []) (yhp w G sz) (some (.int ((g_Mo_select_121 t li a b w ).2)), yhp ((g_Mo_select_121 t li a b w ).1) G sz) := by
  unfold g_Mo_select_121
  refine zeN (q := ((122, [(0, .ref 54), (1, .int t), (2, .int li), (3, .int a), (4, .int b)], [.ref 54]), yhp w G sz)) 1 rfl ?_
  refine ygf (kk := .inr 0) (v := .int (w.1 54 21)) rfl rfl rfl rfl rfl rfl rfl ?_
  exact zer rfl rfl
set_option maxRecDepth 100000 in
theorem kf_Mo_select_121 (t li a b : Int32) (w : yW)  : yK [(54, some 13), (54, some 14), (54, some 17), (54, some 18), (54, some 19), (54, some 20), (54, some 21), (54, some 22), (69, none)] w (g_Mo_select_121 t li a b w ).1 := by unfold g_Mo_select_121; exact (yK_p yK_rfl)
theorem v_Mo_select_59 (t li a b q s : Int32) (w : yW) : (g_Mo_select_59 t li a b q s w).1 54 21 = w.1 54 21 ∨ (g_Mo_select_59 t li a b q s w).1 54 21 = w.1 54 21 + 1 := by
  unfold g_Mo_select_59
  cases zc .gt a (w.1 56 s.toNatClampNeg)
  · cases zc .gt (w.1 56 s.toNatClampNeg) b
    · right
      show (wI (wI w 69 (w.1 54 21).toNatClampNeg q) 54 21 _).1 54 21 = _
      rw [wI_self, wI_ne (by decide)]
    · left; rfl
  · left; rfl
def g_Mo_select_31 (t li a b : Int32) : Nat → yW → Int32 → yW
  | 0, w, q => w
  | n + 1, w, q => (bif zc .ge q 16 then w else (bif zc .eq ((e_Mo_finds foc ((16 * t) + q) li w).2) 0 then g_Mo_select_31 t li a b  n ((e_Mo_finds foc ((16 * t) + q) li w).1) (q + Int32.ofInt 1) else g_Mo_select_31 t li a b  n ((g_Mo_select_59 t li a b q ((16 * t) + q)  ((e_Mo_finds foc ((16 * t) + q) li w).1) )) (q + Int32.ofInt 1)))
set_option maxRecDepth 100000 in
theorem t_Mo_select_31 {fr lo sz : Nat} {r : Option Value × zH} {G : List zC} (t li a b : Int32) (ht0 : 0 ≤ t.toInt) (ht1 : t.toInt ≤ 1) (hlo : 184 ≤ lo) : ∀ (n : Nat) (w : yW) (q : Int32) (hM : yM w) (hf : ¬ w.1 55 (64 : Int32).toNatClampNeg = 0) (hr0 : 0 ≤ (w.1 54 21).toInt) (hr1 : (w.1 54 21).toInt ≤ q.toInt) (h0 : 0 ≤ q.toInt) (h1 : q.toInt ≤ 16) (hn : 16 < q.toInt + n) (k : zRun (fr + 7) lo none M_Mo_select (109, [(0, .ref 54), (1, .int t), (2, .int li), (3, .int a), (4, .int b)], []) (yhp (g_Mo_select_31 t li a b n w q) G sz) r), zRun (fr + 7) lo none M_Mo_select (31, [(0, .ref 54), (1, .int t), (2, .int li), (3, .int a), (4, .int b), (5, .int q)], []) (yhp w G sz) r := by
  intro n
  induction n with
  | zero => intro w q hM hf hr0 hr1 h0 h1 hn k; exfalso; omega
  | succ n ih =>
    intro w q hM hf hr0 hr1 h0 h1 hn k
    rw [g_Mo_select_31] at k
    refine zeN (q := ((35, [(0, .ref 54), (1, .int t), (2, .int li), (3, .int a), (4, .int b), (5, .int q)], [.int 16, .int q]), yhp w G sz)) 2 rfl ?_
    refine zbc (q1 := (109, [(0, .ref 54), (1, .int t), (2, .int li), (3, .int a), (4, .int b), (5, .int q)], [])) (q2 := (38, [(0, .ref 54), (1, .int t), (2, .int li), (3, .int a), (4, .int b), (5, .int q)], [])) (cB := zc .ge q 16) (off := 74) (lv := [(0, .ref 54), (1, .int t), (2, .int li), (3, .int a), (4, .int b), (5, .int q)]) (st := []) rfl rfl rfl rfl rfl (fun c35 => ?_) (fun c35 => ?_)
    · rw [c35] at k
      refine zeS [(0, .ref 54), (1, .int t), (2, .int li), (3, .int a), (4, .int b)] (zsub_pick [0, 1, 2, 3, 4] rfl rfl) ?_
      exact k
    · rw [c35] at k
      have hcc : ¬ (16 : Int) ≤ q.toInt := of_decide_eq_false (z_ge c35).symm
      have hx := zIx_16r ht0 ht1 h0 (show q.toInt ≤ 15 by omega)
      have hi1 := z_inc (a := q) (by omega) (by omega)
      have hp := zIx_foc
      have hinc : (w.1 54 21 + 1).toInt = (w.1 54 21).toInt + 1 := z_add (by show _ ≤ _ + (1 : Int); omega) (by show _ + (1 : Int) < _; omega)
      refine zeN (q := ((53, [(6, .int ((16 * t) + q)), (0, .ref 54), (1, .int t), (2, .int li), (3, .int a), (4, .int b), (5, .int q)], [.int li, .int ((16 * t) + q), .int 64, .ref 54]), yhp w G sz)) 10 rfl ?_
      refine zec 1 (M' := M_Mo_finds) (qq := ([.ref 54, .int 64, .int ((16 * t) + q), .int li], [])) (s' := (56, [(6, .int ((16 * t) + q)), (0, .ref 54), (1, .int t), (2, .int li), (3, .int a), (4, .int b), (5, .int q)], [.int ((e_Mo_finds foc ((16 * t) + q) li w).2)])) rfl rfl (fun _ => rfl) rfl rfl (zhk rfl (zrc_ok (yhp_o rfl)) rfl) (p_Mo_finds foc ((16 * t) + q) li hp hx hM hf (by omega)) rfl ?_
      refine zbc (q1 := (103, [(6, .int ((16 * t) + q)), (0, .ref 54), (1, .int t), (2, .int li), (3, .int a), (4, .int b), (5, .int q)], [])) (q2 := (59, [(6, .int ((16 * t) + q)), (0, .ref 54), (1, .int t), (2, .int li), (3, .int a), (4, .int b), (5, .int q)], [])) (cB := zc .eq ((e_Mo_finds foc ((16 * t) + q) li w).2) 0) (off := 47) (lv := [(6, .int ((16 * t) + q)), (0, .ref 54), (1, .int t), (2, .int li), (3, .int a), (4, .int b), (5, .int q)]) (st := []) rfl rfl rfl rfl rfl (fun c56 => ?_) (fun c56 => ?_)
      · rw [c56] at k
        refine zeN (q := ((31, [(5, .int (q + Int32.ofInt 1)), (6, .int ((16 * t) + q)), (0, .ref 54), (1, .int t), (2, .int li), (3, .int a), (4, .int b)], []), yhp ((e_Mo_finds foc ((16 * t) + q) li w).1) G sz)) 2 rfl ?_
        refine zeS [(0, .ref 54), (1, .int t), (2, .int li), (3, .int a), (4, .int b), (5, .int (q + Int32.ofInt 1))] (zsub_pick [2, 3, 4, 5, 6, 0] rfl rfl) ?_
        exact ih ((e_Mo_finds foc ((16 * t) + q) li w).1) (q + Int32.ofInt 1) (yM_K (S := [(54, some 13), (54, some 14), (54, some 17), (54, some 18), (54, some 19), (54, some 20), (54, some 21), (54, some 22), (69, none)]) (yK_tr yK_rfl (yK_mono rfl (kf_Mo_finds ..))) rfl rfl hM) (by rw [yKi (S := [(54, some 13), (54, some 14), (54, some 17), (54, some 18), (54, some 19), (54, some 20), (54, some 21), (54, some 22), (69, none)]) (yK_tr yK_rfl (yK_mono rfl (kf_Mo_finds ..))) rfl]; exact hf) (by first | omega | (rw [yKi (kf_Mo_finds ..) rfl]; omega) | (rcases v_Mo_select_59 t li a b q (16 * t + q) (e_Mo_finds foc (16 * t + q) li w).1 with e5 | e5 <;> (rw [e5, yKi (kf_Mo_finds ..) rfl]; omega))) (by first | omega | (rw [yKi (kf_Mo_finds ..) rfl]; omega) | (rcases v_Mo_select_59 t li a b q (16 * t + q) (e_Mo_finds foc (16 * t + q) li w).1 with e5 | e5 <;> (rw [e5, yKi (kf_Mo_finds ..) rfl]; omega))) (by omega) (by omega) (by omega) k
      · rw [c56] at k
        have hr : zIx (((e_Mo_finds foc ((16 * t) + q) li w).1).1 54 21) 256 := by rw [yKi (kf_Mo_finds ..) rfl]; exact ⟨hr0, by omega⟩
        refine zeS [(0, .ref 54), (1, .int t), (2, .int li), (3, .int a), (4, .int b), (5, .int q), (6, .int ((16 * t) + q))] (zsub_pick [1, 2, 3, 4, 5, 6, 0] rfl rfl) ?_
        refine t_Mo_select_59 t li a b q ((16 * t) + q) ((e_Mo_finds foc ((16 * t) + q) li w).1)  hx hr (by omega) ?_
        refine zeN (q := ((31, [(5, .int (q + Int32.ofInt 1)), (0, .ref 54), (1, .int t), (2, .int li), (3, .int a), (4, .int b), (6, .int ((16 * t) + q))], []), yhp ((g_Mo_select_59 t li a b q ((16 * t) + q)  ((e_Mo_finds foc ((16 * t) + q) li w).1) )) G sz)) 2 rfl ?_
        refine zeS [(0, .ref 54), (1, .int t), (2, .int li), (3, .int a), (4, .int b), (5, .int (q + Int32.ofInt 1))] (zsub_pick [1, 2, 3, 4, 5, 0] rfl rfl) ?_
        exact ih ((g_Mo_select_59 t li a b q ((16 * t) + q)  ((e_Mo_finds foc ((16 * t) + q) li w).1) )) (q + Int32.ofInt 1) (yM_K (S := [(54, some 13), (54, some 14), (54, some 17), (54, some 18), (54, some 19), (54, some 20), (54, some 21), (54, some 22), (69, none)]) (yK_tr (yK_tr yK_rfl (yK_mono rfl (kf_Mo_finds ..))) (yK_mono rfl (kf_Mo_select_59 ..))) rfl rfl hM) (by rw [yKi (S := [(54, some 13), (54, some 14), (54, some 17), (54, some 18), (54, some 19), (54, some 20), (54, some 21), (54, some 22), (69, none)]) (yK_tr (yK_tr yK_rfl (yK_mono rfl (kf_Mo_finds ..))) (yK_mono rfl (kf_Mo_select_59 ..))) rfl]; exact hf) (by first | omega | (rw [yKi (kf_Mo_finds ..) rfl]; omega) | (rcases v_Mo_select_59 t li a b q (16 * t + q) (e_Mo_finds foc (16 * t + q) li w).1 with e5 | e5 <;> (rw [e5, yKi (kf_Mo_finds ..) rfl]; omega))) (by first | omega | (rw [yKi (kf_Mo_finds ..) rfl]; omega) | (rcases v_Mo_select_59 t li a b q (16 * t + q) (e_Mo_finds foc (16 * t + q) li w).1 with e5 | e5 <;> (rw [e5, yKi (kf_Mo_finds ..) rfl]; omega))) (by omega) (by omega) (by omega) k
set_option maxRecDepth 100000 in
theorem kf_Mo_select_31 (t li a b : Int32) : ∀ (n : Nat) (w : yW) (q : Int32), yK [(54, some 13), (54, some 14), (54, some 17), (54, some 18), (54, some 19), (54, some 20), (54, some 21), (54, some 22), (69, none)] w (g_Mo_select_31 t li a b n w q) := by
  intro n
  induction n with
  | zero => intros; exact yK_rfl
  | succ n ih => intro w q; rw [g_Mo_select_31]; exact (yK_if yK_rfl (yK_if (yK_tr (yK_tr yK_rfl (yK_mono rfl (kf_Mo_finds ..))) (ih _ _)) (yK_tr (yK_tr (yK_tr yK_rfl (yK_mono rfl (kf_Mo_finds ..))) (yK_mono rfl (kf_Mo_select_59 ..))) (ih _ _))))
def e_Mo_select (t li a b : Int32) (w : yW) : yW × Int32 := (bif zc .eq (f_Mo_isTable t) 0 then (w, (-1)) else (bif zc .eq (w.1 55 (64 : Int32).toNatClampNeg) 0 then (w, (-1)) else (bif zc .ge li 0 then g_Mo_select_121 t li a b  (wI ((e_Mo_searchReads foc t li ((g_Mo_select_31 t li a b 17 (wI w 54 21 0) 0))).1) 54 22 ((e_Mo_searchReads foc t li ((g_Mo_select_31 t li a b 17 (wI w 54 21 0) 0))).2))  else (w, (-1)))))
set_option maxRecDepth 100000 in
theorem r_Mo_select {fr lo sz : Nat} {G : List zC} (t li a b : Int32) (w : yW) (hM : yM w) (hlo : 210 ≤ lo) : zAns (fr + 8) lo 115 [.ref 54, .int t, .int li, .int a, .int b] (yhp w G sz) (some (.int ((e_Mo_select t li a b w).2)), yhp ((e_Mo_select t li a b w).1) G sz) := by
  unfold e_Mo_select
  refine zeb (fr := fr + 7) (M := M_Mo_select) rfl (Nat.le_trans (by decide) hlo) rfl ?_
  have e0 : mL M_Mo_select = 7 := rfl
  refine zeN (q := ((1, [(0, .ref 54), (1, .int t), (2, .int li), (3, .int a), (4, .int b)], [.int t]), yhp w G sz)) 1 rfl ?_
  refine zec 0 (M' := M_Mo_isTable) (qq := ([.int t], [])) (s' := (4, [(0, .ref 54), (1, .int t), (2, .int li), (3, .int a), (4, .int b)], [.int (f_Mo_isTable t)])) rfl rfl (fun _ => rfl) rfl rfl rfl (s_Mo_isTable t (by omega)) rfl ?_
  refine zbc (q1 := (21, [(0, .ref 54), (1, .int t), (2, .int li), (3, .int a), (4, .int b)], [])) (q2 := (7, [(0, .ref 54), (1, .int t), (2, .int li), (3, .int a), (4, .int b)], [])) (cB := zc .eq (f_Mo_isTable t) 0) (off := 17) (lv := [(0, .ref 54), (1, .int t), (2, .int li), (3, .int a), (4, .int b)]) (st := []) rfl rfl rfl rfl rfl (fun c4 => ?_) (fun c4 => ?_)
  · rw [c4]
    refine zeN (q := ((22, [(0, .ref 54), (1, .int t), (2, .int li), (3, .int a), (4, .int b)], [.int ((-1))]), yhp w G sz)) 1 rfl ?_
    exact zer rfl rfl
  · rw [c4]
    have hit := z_isT (of_decide_eq_false ((rfl : zc .eq (f_Mo_isTable t) 0 = decide (f_Mo_isTable t = 0)).symm.trans c4))
    have ht0 := hit.1
    have ht1 := hit.2
    have hp := zIx_foc
    refine zeN (q := ((8, [(0, .ref 54), (1, .int t), (2, .int li), (3, .int a), (4, .int b)], [.ref 54]), yhp w G sz)) 1 rfl ?_
    refine ygf (kk := .inl (.ref 55)) (v := .ref 55) rfl rfl rfl rfl rfl rfl rfl ?_
    refine zeN (q := ((13, [(0, .ref 54), (1, .int t), (2, .int li), (3, .int a), (4, .int b)], [.int 64, .ref 55]), yhp w G sz)) 1 rfl ?_
    refine yba (N := 65) rfl rfl rfl zIx_64 ?_
    refine zbc (q1 := (21, [(0, .ref 54), (1, .int t), (2, .int li), (3, .int a), (4, .int b)], [])) (q2 := (17, [(0, .ref 54), (1, .int t), (2, .int li), (3, .int a), (4, .int b)], [])) (cB := zc .eq (w.1 55 (64 : Int32).toNatClampNeg) 0) (off := 7) (lv := [(0, .ref 54), (1, .int t), (2, .int li), (3, .int a), (4, .int b)]) (st := []) rfl rfl rfl rfl rfl (fun c14 => ?_) (fun c14 => ?_)
    · rw [c14]
      refine zeN (q := ((22, [(0, .ref 54), (1, .int t), (2, .int li), (3, .int a), (4, .int b)], [.int ((-1))]), yhp w G sz)) 1 rfl ?_
      exact zer rfl rfl
    · rw [c14]
      have hf : ¬ w.1 55 (64 : Int32).toNatClampNeg = 0 := of_decide_eq_false c14
      refine zeN (q := ((18, [(0, .ref 54), (1, .int t), (2, .int li), (3, .int a), (4, .int b)], [.int li]), yhp w G sz)) 1 rfl ?_
      refine zbc (q1 := (23, [(0, .ref 54), (1, .int t), (2, .int li), (3, .int a), (4, .int b)], [])) (q2 := (21, [(0, .ref 54), (1, .int t), (2, .int li), (3, .int a), (4, .int b)], [])) (cB := zc .ge li 0) (off := 5) (lv := [(0, .ref 54), (1, .int t), (2, .int li), (3, .int a), (4, .int b)]) (st := []) rfl rfl rfl rfl rfl (fun c18 => ?_) (fun c18 => ?_)
      · rw [c18]
        refine zeN (q := ((25, [(0, .ref 54), (1, .int t), (2, .int li), (3, .int a), (4, .int b)], [.int 0, .ref 54]), yhp w G sz)) 2 rfl ?_
        refine ypI (v := 0) rfl rfl rfl rfl rfl rfl rfl ?_
        refine zeN (q := ((31, [(5, .int 0), (0, .ref 54), (1, .int t), (2, .int li), (3, .int a), (4, .int b)], []), yhp (wI w 54 21 0) G sz)) 2 rfl ?_
        refine zeS [(0, .ref 54), (1, .int t), (2, .int li), (3, .int a), (4, .int b), (5, .int 0)] (zsub_pick [1, 2, 3, 4, 5, 0] rfl rfl) ?_
        refine t_Mo_select_31 t li a b ht0 ht1 (by omega) 17 (wI w 54 21 0) 0 (yM_K (S := [(54, some 13), (54, some 14), (54, some 17), (54, some 18), (54, some 19), (54, some 20), (54, some 21), (54, some 22), (69, none)]) (yK_wI rfl yK_rfl) rfl rfl hM) (by rw [yKi (S := [(54, some 13), (54, some 14), (54, some 17), (54, some 18), (54, some 19), (54, some 20), (54, some 21), (54, some 22), (69, none)]) (yK_wI rfl yK_rfl) rfl]; exact hf) (by rw [wI_self]; decide) (by rw [wI_self]; decide) (by decide) (by decide) (by decide) ?_
        have hMs : yM ((g_Mo_select_31 t li a b 17 (wI w 54 21 0) 0)) := (yM_K (S := [(54, some 13), (54, some 14), (54, some 17), (54, some 18), (54, some 19), (54, some 20), (54, some 21), (54, some 22), (69, none)]) (yK_tr (yK_wI rfl yK_rfl) (yK_mono rfl (kf_Mo_select_31 ..))) rfl rfl hM)
        refine zeN (q := ((115, [(0, .ref 54), (1, .int t), (2, .int li), (3, .int a), (4, .int b)], [.int li, .int t, .int 64, .ref 54, .ref 54]), yhp ((g_Mo_select_31 t li a b 17 (wI w 54 21 0) 0)) G sz)) 5 rfl ?_
        refine zec 1 (M' := M_Mo_searchReads) (qq := ([.ref 54, .int 64, .int t, .int li], [.ref 54])) (s' := (118, [(0, .ref 54), (1, .int t), (2, .int li), (3, .int a), (4, .int b)], [.int ((e_Mo_searchReads foc t li ((g_Mo_select_31 t li a b 17 (wI w 54 21 0) 0))).2), .ref 54])) rfl rfl (fun _ => rfl) rfl rfl (zhk rfl (zrc_ok (yhp_o rfl)) rfl) (r_Mo_searchReads foc t li _ hp ht0 ht1 hMs (by omega)) rfl ?_
        refine ypI (v := (e_Mo_searchReads foc t li ((g_Mo_select_31 t li a b 17 (wI w 54 21 0) 0))).2) rfl rfl rfl rfl rfl rfl rfl ?_
        exact t_Mo_select_121 t li a b (wI ((e_Mo_searchReads foc t li ((g_Mo_select_31 t li a b 17 (wI w 54 21 0) 0))).1) 54 22 ((e_Mo_searchReads foc t li ((g_Mo_select_31 t li a b 17 (wI w 54 21 0) 0))).2))   (by omega)
      · rw [c18]
        refine zeN (q := ((22, [(0, .ref 54), (1, .int t), (2, .int li), (3, .int a), (4, .int b)], [.int ((-1))]), yhp w G sz)) 1 rfl ?_
        exact zer rfl rfl
set_option maxRecDepth 100000 in
theorem kf_Mo_select (t li a b : Int32) (w : yW)  : yK [(54, some 13), (54, some 14), (54, some 17), (54, some 18), (54, some 19), (54, some 20), (54, some 21), (54, some 22), (69, none)] w (e_Mo_select t li a b w ).1 := by unfold e_Mo_select; exact (yK_if1 (yK_p yK_rfl) (yK_if1 (yK_p yK_rfl) (yK_if1 (yK_tr (yK_wI rfl (yK_tr (yK_tr (yK_wI rfl yK_rfl) (yK_mono rfl (kf_Mo_select_31 ..))) (yK_mono rfl (kf_Mo_searchReads ..)))) (yK_mono rfl (kf_Mo_select_121 ..))) (yK_p yK_rfl))))
def g_Mo_join_60 (li a b : Int32) (w : yW)  : yW := wI (wI w 69 (w.1 54 21).toNatClampNeg ((16 * a) + b)) 54 21 (((wI w 69 (w.1 54 21).toNatClampNeg ((16 * a) + b)).1 54 21) + 1)
set_option maxRecDepth 100000 in
theorem t_Mo_join_60 {fr lo sz : Nat} {r : Option Value × zH} {G : List zC} (li a b : Int32) (w : yW)  (hr : zIx (w.1 54 21) 256) (hlo : 184 ≤ lo) (k : zRun (fr + 7) lo none M_Mo_join (85, [(0, .ref 54), (1, .int li), (2, .int a), (3, .int b)], []) (yhp (g_Mo_join_60 li a b w ) G sz) r) : zRun (fr + 7) lo none M_Mo_join (60, [(0, .ref 54), (1, .int li), (2, .int a), (3, .int b)], []) (yhp w G sz) r := by
  unfold g_Mo_join_60 at k
  refine zeN (q := ((61, [(0, .ref 54), (1, .int li), (2, .int a), (3, .int b)], [.ref 54]), yhp w G sz)) 1 rfl ?_
  refine ygf (kk := .inl (.ref 69)) (v := .ref 69) rfl rfl rfl rfl rfl rfl rfl ?_
  refine zeN (q := ((65, [(0, .ref 54), (1, .int li), (2, .int a), (3, .int b)], [.ref 54, .ref 69]), yhp w G sz)) 1 rfl ?_
  refine ygf (kk := .inr 0) (v := .int (w.1 54 21)) rfl rfl rfl rfl rfl rfl rfl ?_
  refine zeN (q := ((74, [(0, .ref 54), (1, .int li), (2, .int a), (3, .int b)], [.int ((16 * a) + b), .int (w.1 54 21), .ref 69]), yhp w G sz)) 5 rfl ?_
  refine yis (N := 256) rfl rfl rfl (by assumption) ?_
  refine zeN (q := ((77, [(0, .ref 54), (1, .int li), (2, .int a), (3, .int b)], [.ref 54, .ref 54]), yhp (wI w 69 (w.1 54 21).toNatClampNeg ((16 * a) + b)) G sz)) 2 rfl ?_
  refine ygf (kk := .inr 0) (v := .int ((wI w 69 (w.1 54 21).toNatClampNeg ((16 * a) + b)).1 54 21)) rfl rfl rfl rfl rfl rfl rfl ?_
  refine zeN (q := ((82, [(0, .ref 54), (1, .int li), (2, .int a), (3, .int b)], [.int (((wI w 69 (w.1 54 21).toNatClampNeg ((16 * a) + b)).1 54 21) + 1), .ref 54]), yhp (wI w 69 (w.1 54 21).toNatClampNeg ((16 * a) + b)) G sz)) 2 rfl ?_
  refine ypI (v := ((wI w 69 (w.1 54 21).toNatClampNeg ((16 * a) + b)).1 54 21) + 1) rfl rfl rfl rfl rfl rfl rfl ?_
  exact k
set_option maxRecDepth 100000 in
theorem kf_Mo_join_60 (li a b : Int32) (w : yW)  : yK [(54, some 13), (54, some 14), (54, some 17), (54, some 18), (54, some 19), (54, some 20), (54, some 21), (54, some 22), (69, none)] w (g_Mo_join_60 li a b w ) := by unfold g_Mo_join_60; exact (yK_wI rfl (yK_wI rfl yK_rfl))
theorem v_Mo_join_60 (li a b : Int32) (w : yW) : (g_Mo_join_60 li a b w).1 54 21 = w.1 54 21 + 1 := by unfold g_Mo_join_60; rw [wI_self, wI_ne (by decide)]
def g_Mo_join_38 (li a : Int32) : Nat → yW → Int32 → yW
  | 0, w, b => w
  | n + 1, w, b => (bif zc .ge b 16 then w else (bif zc .ne ((e_Mo_finds a (16 + b) li w).2) 0 then g_Mo_join_38 li a  n ((g_Mo_join_60 li a b  ((e_Mo_finds a (16 + b) li w).1) )) (b + Int32.ofInt 1) else g_Mo_join_38 li a  n ((e_Mo_finds a (16 + b) li w).1) (b + Int32.ofInt 1)))
set_option maxRecDepth 100000 in
theorem t_Mo_join_38 {fr lo sz : Nat} {r : Option Value × zH} {G : List zC} (li a : Int32) (ha0 : 0 ≤ a.toInt) (ha1 : a.toInt ≤ 15) (hlo : 184 ≤ lo) : ∀ (n : Nat) (w : yW) (b : Int32) (hM : yM w) (hf : ¬ w.1 55 a.toNatClampNeg = 0) (hr0 : 0 ≤ (w.1 54 21).toInt) (hr1 : (w.1 54 21).toInt ≤ 16 * a.toInt + b.toInt) (h0 : 0 ≤ b.toInt) (h1 : b.toInt ≤ 16) (hn : 16 < b.toInt + n) (k : zRun (fr + 7) lo none M_Mo_join (91, [(0, .ref 54), (1, .int li), (2, .int a)], []) (yhp (g_Mo_join_38 li a n w b) G sz) r), zRun (fr + 7) lo none M_Mo_join (38, [(0, .ref 54), (1, .int li), (2, .int a), (3, .int b)], []) (yhp w G sz) r := by
  intro n
  induction n with
  | zero => intro w b hM hf hr0 hr1 h0 h1 hn k; exfalso; omega
  | succ n ih =>
    intro w b hM hf hr0 hr1 h0 h1 hn k
    rw [g_Mo_join_38] at k
    refine zeN (q := ((41, [(0, .ref 54), (1, .int li), (2, .int a), (3, .int b)], [.int 16, .int b]), yhp w G sz)) 2 rfl ?_
    refine zbc (q1 := (91, [(0, .ref 54), (1, .int li), (2, .int a), (3, .int b)], [])) (q2 := (44, [(0, .ref 54), (1, .int li), (2, .int a), (3, .int b)], [])) (cB := zc .ge b 16) (off := 50) (lv := [(0, .ref 54), (1, .int li), (2, .int a), (3, .int b)]) (st := []) rfl rfl rfl rfl rfl (fun c41 => ?_) (fun c41 => ?_)
    · rw [c41] at k
      refine zeS [(0, .ref 54), (1, .int li), (2, .int a)] (zsub_pick [0, 1, 2] rfl rfl) ?_
      exact k
    · rw [c41] at k
      have hcc : ¬ (16 : Int) ≤ b.toInt := of_decide_eq_false (z_ge c41).symm
      have hx : zIx (16 + b) 65 := by
        have e : (16 + b).toInt = 16 + b.toInt := z_add (by show _ ≤ (16 : Int) + _; omega) (by show (16 : Int) + _ < _; omega)
        unfold zIx
        rw [e]
        omega
      have hi1 := z_inc (a := b) (by omega) (by omega)
      have hp : zIx a 65 := ⟨ha0, by omega⟩
      have hinc : (w.1 54 21 + 1).toInt = (w.1 54 21).toInt + 1 := z_add (by show _ ≤ _ + (1 : Int); omega) (by show _ + (1 : Int) < _; omega)
      refine zeN (q := ((51, [(0, .ref 54), (1, .int li), (2, .int a), (3, .int b)], [.int li, .int (16 + b), .int a, .ref 54]), yhp w G sz)) 6 rfl ?_
      refine zec 1 (M' := M_Mo_finds) (qq := ([.ref 54, .int a, .int (16 + b), .int li], [])) (s' := (54, [(0, .ref 54), (1, .int li), (2, .int a), (3, .int b)], [.int ((e_Mo_finds a (16 + b) li w).2)])) rfl rfl (fun _ => rfl) rfl rfl (zhk rfl (zrc_ok (yhp_o rfl)) rfl) (p_Mo_finds a (16 + b) li hp hx hM hf (by omega)) rfl ?_
      refine zbc (q1 := (60, [(0, .ref 54), (1, .int li), (2, .int a), (3, .int b)], [])) (q2 := (57, [(0, .ref 54), (1, .int li), (2, .int a), (3, .int b)], [])) (cB := zc .ne ((e_Mo_finds a (16 + b) li w).2) 0) (off := 6) (lv := [(0, .ref 54), (1, .int li), (2, .int a), (3, .int b)]) (st := []) rfl rfl rfl rfl rfl (fun c54 => ?_) (fun c54 => ?_)
      · rw [c54] at k
        have hr : zIx (((e_Mo_finds a (16 + b) li w).1).1 54 21) 256 := by rw [yKi (kf_Mo_finds ..) rfl]; exact ⟨hr0, by omega⟩
        refine t_Mo_join_60 li a b ((e_Mo_finds a (16 + b) li w).1)  hr (by omega) ?_
        refine zeN (q := ((38, [(3, .int (b + Int32.ofInt 1)), (0, .ref 54), (1, .int li), (2, .int a)], []), yhp ((g_Mo_join_60 li a b  ((e_Mo_finds a (16 + b) li w).1) )) G sz)) 2 rfl ?_
        refine zeS [(0, .ref 54), (1, .int li), (2, .int a), (3, .int (b + Int32.ofInt 1))] (zsub_pick [1, 2, 3, 0] rfl rfl) ?_
        exact ih ((g_Mo_join_60 li a b  ((e_Mo_finds a (16 + b) li w).1) )) (b + Int32.ofInt 1) (yM_K (S := [(54, some 13), (54, some 14), (54, some 17), (54, some 18), (54, some 19), (54, some 20), (54, some 21), (54, some 22), (69, none)]) (yK_tr (yK_tr yK_rfl (yK_mono rfl (kf_Mo_finds ..))) (yK_mono rfl (kf_Mo_join_60 ..))) rfl rfl hM) (by rw [yKi (S := [(54, some 13), (54, some 14), (54, some 17), (54, some 18), (54, some 19), (54, some 20), (54, some 21), (54, some 22), (69, none)]) (yK_tr (yK_tr yK_rfl (yK_mono rfl (kf_Mo_finds ..))) (yK_mono rfl (kf_Mo_join_60 ..))) rfl]; exact hf) (by first | (rw [yKi (kf_Mo_finds ..) rfl]; omega) | (rw [v_Mo_join_60, yKi (kf_Mo_finds ..) rfl, hinc]; omega)) (by first | (rw [yKi (kf_Mo_finds ..) rfl]; omega) | (rw [v_Mo_join_60, yKi (kf_Mo_finds ..) rfl, hinc]; omega)) (by omega) (by omega) (by omega) k
      · rw [c54] at k
        refine zeN (q := ((38, [(3, .int (b + Int32.ofInt 1)), (0, .ref 54), (1, .int li), (2, .int a)], []), yhp ((e_Mo_finds a (16 + b) li w).1) G sz)) 3 rfl ?_
        refine zeS [(0, .ref 54), (1, .int li), (2, .int a), (3, .int (b + Int32.ofInt 1))] (zsub_pick [1, 2, 3, 0] rfl rfl) ?_
        exact ih ((e_Mo_finds a (16 + b) li w).1) (b + Int32.ofInt 1) (yM_K (S := [(54, some 13), (54, some 14), (54, some 17), (54, some 18), (54, some 19), (54, some 20), (54, some 21), (54, some 22), (69, none)]) (yK_tr yK_rfl (yK_mono rfl (kf_Mo_finds ..))) rfl rfl hM) (by rw [yKi (S := [(54, some 13), (54, some 14), (54, some 17), (54, some 18), (54, some 19), (54, some 20), (54, some 21), (54, some 22), (69, none)]) (yK_tr yK_rfl (yK_mono rfl (kf_Mo_finds ..))) rfl]; exact hf) (by first | (rw [yKi (kf_Mo_finds ..) rfl]; omega) | (rw [v_Mo_join_60, yKi (kf_Mo_finds ..) rfl, hinc]; omega)) (by first | (rw [yKi (kf_Mo_finds ..) rfl]; omega) | (rw [v_Mo_join_60, yKi (kf_Mo_finds ..) rfl, hinc]; omega)) (by omega) (by omega) (by omega) k
set_option maxRecDepth 100000 in
theorem kf_Mo_join_38 (li a : Int32) : ∀ (n : Nat) (w : yW) (b : Int32), yK [(54, some 13), (54, some 14), (54, some 17), (54, some 18), (54, some 19), (54, some 20), (54, some 21), (54, some 22), (69, none)] w (g_Mo_join_38 li a n w b) := by
  intro n
  induction n with
  | zero => intros; exact yK_rfl
  | succ n ih => intro w b; rw [g_Mo_join_38]; exact (yK_if yK_rfl (yK_if (yK_tr (yK_tr (yK_tr yK_rfl (yK_mono rfl (kf_Mo_finds ..))) (yK_mono rfl (kf_Mo_join_60 ..))) (ih _ _)) (yK_tr (yK_tr yK_rfl (yK_mono rfl (kf_Mo_finds ..))) (ih _ _))))
theorem v_Mo_join_38 (li a : Int32) (ha0 : 0 ≤ a.toInt) (ha1 : a.toInt ≤ 15) : ∀ (n : Nat) (w : yW) (b : Int32), 0 ≤ (w.1 54 21).toInt → (w.1 54 21).toInt ≤ 16 * a.toInt + b.toInt → 0 ≤ b.toInt → b.toInt ≤ 16 → 0 ≤ ((g_Mo_join_38 li a n w b).1 54 21).toInt ∧ ((g_Mo_join_38 li a n w b).1 54 21).toInt ≤ 16 * a.toInt + 16 := by
  intro n
  induction n with
  | zero => intro w b h1 h2 h3 h4; exact ⟨h1, by show (w.1 54 21).toInt ≤ _; omega⟩
  | succ n ih =>
    intro w b h1 h2 h3 h4
    rw [g_Mo_join_38]
    cases c : zc .ge b 16
    · have hcc : ¬ (16 : Int) ≤ b.toInt := of_decide_eq_false (z_ge c).symm
      have hi1 := z_inc (a := b) (by omega) (by omega)
      have hinc : (w.1 54 21 + 1).toInt = (w.1 54 21).toInt + 1 := z_add (by show _ ≤ _ + (1 : Int); omega) (by show _ + (1 : Int) < _; omega)
      simp only [cond_false]
      generalize zc _ _ _ = b1
      cases b1
      · first
          | exact ih _ _ (by rw [v_Mo_join_60, yKi (kf_Mo_finds ..) rfl, hinc]; omega) (by rw [v_Mo_join_60, yKi (kf_Mo_finds ..) rfl, hinc]; omega) (by omega) (by omega)
          | exact ih _ _ (by rw [yKi (kf_Mo_finds ..) rfl]; omega) (by rw [yKi (kf_Mo_finds ..) rfl]; omega) (by omega) (by omega)
      · first
          | exact ih _ _ (by rw [v_Mo_join_60, yKi (kf_Mo_finds ..) rfl, hinc]; omega) (by rw [v_Mo_join_60, yKi (kf_Mo_finds ..) rfl, hinc]; omega) (by omega) (by omega)
          | exact ih _ _ (by rw [yKi (kf_Mo_finds ..) rfl]; omega) (by rw [yKi (kf_Mo_finds ..) rfl]; omega) (by omega) (by omega)
    · exact ⟨h1, by show (w.1 54 21).toInt ≤ _; omega⟩
def g_Mo_join_91 (li a : Int32) (w : yW)  : yW := wI ((e_Mo_searchReads a 1 li w).1) 54 22 ((((e_Mo_searchReads a 1 li w).1).1 54 22) + ((e_Mo_searchReads a 1 li w).2))
set_option maxRecDepth 100000 in
theorem t_Mo_join_91 {fr lo sz : Nat} {r : Option Value × zH} {G : List zC} (li a : Int32) (w : yW)  (hp : zIx a 65) (ht0 : 0 ≤ (1 : Int32).toInt) (ht1 : (1 : Int32).toInt ≤ 1) (hMs : yM w) (hlo : 184 ≤ lo) (k : zRun (fr + 7) lo none M_Mo_join (109, [(0, .ref 54), (1, .int li), (2, .int a)], []) (yhp (g_Mo_join_91 li a w ) G sz) r) : zRun (fr + 7) lo none M_Mo_join (91, [(0, .ref 54), (1, .int li), (2, .int a)], []) (yhp w G sz) r := by
  unfold g_Mo_join_91 at k
  refine zeN (q := ((95, [(0, .ref 54), (1, .int li), (2, .int a)], [.int li, .int 1, .int a, .ref 54]), yhp w G sz)) 4 rfl ?_
  refine zec 1 (M' := M_Mo_searchReads) (qq := ([.ref 54, .int a, .int 1, .int li], [])) (s' := (98, [(0, .ref 54), (1, .int li), (2, .int a)], [.int ((e_Mo_searchReads a 1 li w).2)])) rfl rfl (fun _ => rfl) rfl rfl (zhk rfl (zrc_ok (yhp_o rfl)) rfl) (r_Mo_searchReads a 1 li _ hp ht0 ht1 hMs (by omega)) rfl ?_
  refine zeN (q := ((101, [(3, .int ((e_Mo_searchReads a 1 li w).2)), (0, .ref 54), (1, .int li), (2, .int a)], [.ref 54, .ref 54]), yhp ((e_Mo_searchReads a 1 li w).1) G sz)) 3 rfl ?_
  refine ygf (kk := .inr 0) (v := .int (((e_Mo_searchReads a 1 li w).1).1 54 22)) rfl rfl rfl rfl rfl rfl rfl ?_
  refine zeN (q := ((106, [(3, .int ((e_Mo_searchReads a 1 li w).2)), (0, .ref 54), (1, .int li), (2, .int a)], [.int ((((e_Mo_searchReads a 1 li w).1).1 54 22) + ((e_Mo_searchReads a 1 li w).2)), .ref 54]), yhp ((e_Mo_searchReads a 1 li w).1) G sz)) 2 rfl ?_
  refine ypI (v := (((e_Mo_searchReads a 1 li w).1).1 54 22) + ((e_Mo_searchReads a 1 li w).2)) rfl rfl rfl rfl rfl rfl rfl ?_
  refine zeS [(0, .ref 54), (1, .int li), (2, .int a)] (zsub_pick [1, 2, 3] rfl rfl) ?_
  exact k
set_option maxRecDepth 100000 in
theorem kf_Mo_join_91 (li a : Int32) (w : yW)  : yK [(54, some 13), (54, some 14), (54, some 17), (54, some 18), (54, some 19), (54, some 20), (54, some 21), (54, some 22), (69, none)] w (g_Mo_join_91 li a w ) := by unfold g_Mo_join_91; exact (yK_wI rfl (yK_tr yK_rfl (yK_mono rfl (kf_Mo_searchReads ..))))
theorem v_Mo_join_91 (li a : Int32) (w : yW) : (g_Mo_join_91 li a w).1 54 21 = w.1 54 21 := by
  unfold g_Mo_join_91
  rw [(ydI _ 54 22 _ 54 21 (by decide)).1, yKi (kf_Mo_searchReads ..) rfl]
def g_Mo_join_18 (li : Int32) : Nat → yW → Int32 → yW
  | 0, w, a => w
  | n + 1, w, a => (bif zc .ge a 16 then w else (bif zc .ne (w.1 55 a.toNatClampNeg) 0 then g_Mo_join_18 li  n ((g_Mo_join_91 li a  ((g_Mo_join_38 li a 17 w 0)) )) (a + Int32.ofInt 1) else g_Mo_join_18 li  n w (a + Int32.ofInt 1)))
set_option maxRecDepth 100000 in
theorem t_Mo_join_18 {fr lo sz : Nat} {r : Option Value × zH} {G : List zC} (li : Int32)  (hlo : 184 ≤ lo) : ∀ (n : Nat) (w : yW) (a : Int32) (hM : yM w) (hr0 : 0 ≤ (w.1 54 21).toInt) (hr1 : (w.1 54 21).toInt ≤ 16 * a.toInt) (h0 : 0 ≤ a.toInt) (h1 : a.toInt ≤ 16) (hn : 16 < a.toInt + n) (k : zRun (fr + 7) lo none M_Mo_join (115, [(0, .ref 54), (1, .int li)], []) (yhp (g_Mo_join_18 li n w a) G sz) r), zRun (fr + 7) lo none M_Mo_join (18, [(0, .ref 54), (1, .int li), (2, .int a)], []) (yhp w G sz) r := by
  intro n
  induction n with
  | zero => intro w a hM hr0 hr1 h0 h1 hn k; exfalso; omega
  | succ n ih =>
    intro w a hM hr0 hr1 h0 h1 hn k
    rw [g_Mo_join_18] at k
    refine zeN (q := ((21, [(0, .ref 54), (1, .int li), (2, .int a)], [.int 16, .int a]), yhp w G sz)) 2 rfl ?_
    refine zbc (q1 := (115, [(0, .ref 54), (1, .int li), (2, .int a)], [])) (q2 := (24, [(0, .ref 54), (1, .int li), (2, .int a)], [])) (cB := zc .ge a 16) (off := 94) (lv := [(0, .ref 54), (1, .int li), (2, .int a)]) (st := []) rfl rfl rfl rfl rfl (fun c21 => ?_) (fun c21 => ?_)
    · rw [c21] at k
      refine zeS [(0, .ref 54), (1, .int li)] (zsub_pick [0, 1] rfl rfl) ?_
      exact k
    · rw [c21] at k
      have hcc : ¬ (16 : Int) ≤ a.toInt := of_decide_eq_false (z_ge c21).symm
      have hp : zIx a 65 := ⟨h0, by omega⟩
      have hi1 := z_inc (a := a) (by omega) (by omega)
      have ha0 := h0
      have ha1 : a.toInt ≤ 15 := by omega
      refine zeN (q := ((25, [(0, .ref 54), (1, .int li), (2, .int a)], [.ref 54]), yhp w G sz)) 1 rfl ?_
      refine ygf (kk := .inl (.ref 55)) (v := .ref 55) rfl rfl rfl rfl rfl rfl rfl ?_
      refine zeN (q := ((29, [(0, .ref 54), (1, .int li), (2, .int a)], [.int a, .ref 55]), yhp w G sz)) 1 rfl ?_
      refine yba (N := 65) rfl rfl rfl (by assumption) ?_
      refine zbc (q1 := (36, [(0, .ref 54), (1, .int li), (2, .int a)], [])) (q2 := (33, [(0, .ref 54), (1, .int li), (2, .int a)], [])) (cB := zc .ne (w.1 55 a.toNatClampNeg) 0) (off := 6) (lv := [(0, .ref 54), (1, .int li), (2, .int a)]) (st := []) rfl rfl rfl rfl rfl (fun c30 => ?_) (fun c30 => ?_)
      · rw [c30] at k
        have hf : ¬ w.1 55 a.toNatClampNeg = 0 := of_decide_eq_true c30
        refine zeN (q := ((38, [(3, .int 0), (0, .ref 54), (1, .int li), (2, .int a)], []), yhp w G sz)) 2 rfl ?_
        refine zeS [(0, .ref 54), (1, .int li), (2, .int a), (3, .int 0)] (zsub_pick [1, 2, 3, 0] rfl rfl) ?_
        refine t_Mo_join_38 li a ha0 ha1 (by omega) 17 w 0 hM hf hr0 (by show _ ≤ 16 * a.toInt + 0; omega) (by decide) (by decide) (by decide) ?_
        have hMs : yM ((g_Mo_join_38 li a 17 w 0)) := (yM_K (S := [(54, some 13), (54, some 14), (54, some 17), (54, some 18), (54, some 19), (54, some 20), (54, some 21), (54, some 22), (69, none)]) (yK_tr yK_rfl (yK_mono rfl (kf_Mo_join_38 ..))) rfl rfl hM)
        have ht0 : 0 ≤ (1 : Int32).toInt := by decide
        have ht1 : (1 : Int32).toInt ≤ 1 := by decide
        refine t_Mo_join_91 li a ((g_Mo_join_38 li a 17 w 0))  hp ht0 ht1 hMs (by omega) ?_
        refine zeN (q := ((18, [(2, .int (a + Int32.ofInt 1)), (0, .ref 54), (1, .int li)], []), yhp ((g_Mo_join_91 li a  ((g_Mo_join_38 li a 17 w 0)) )) G sz)) 2 rfl ?_
        refine zeS [(0, .ref 54), (1, .int li), (2, .int (a + Int32.ofInt 1))] (zsub_pick [1, 2, 0] rfl rfl) ?_
        exact ih ((g_Mo_join_91 li a  ((g_Mo_join_38 li a 17 w 0)) )) (a + Int32.ofInt 1) (yM_K (S := [(54, some 13), (54, some 14), (54, some 17), (54, some 18), (54, some 19), (54, some 20), (54, some 21), (54, some 22), (69, none)]) (yK_tr (yK_tr yK_rfl (yK_mono rfl (kf_Mo_join_38 ..))) (yK_mono rfl (kf_Mo_join_91 ..))) rfl rfl hM) (by first | (rw [v_Mo_join_91]; have := v_Mo_join_38 li a h0 (by omega) 17 w 0 hr0 (by show _ ≤ 16 * a.toInt + 0; omega) (by decide) (by decide); omega) | omega) (by first | (rw [v_Mo_join_91]; have := v_Mo_join_38 li a h0 (by omega) 17 w 0 hr0 (by show _ ≤ 16 * a.toInt + 0; omega) (by decide) (by decide); omega) | omega) (by omega) (by omega) (by omega) k
      · rw [c30] at k
        refine zeN (q := ((18, [(2, .int (a + Int32.ofInt 1)), (0, .ref 54), (1, .int li)], []), yhp w G sz)) 3 rfl ?_
        refine zeS [(0, .ref 54), (1, .int li), (2, .int (a + Int32.ofInt 1))] (zsub_pick [1, 2, 0] rfl rfl) ?_
        exact ih w (a + Int32.ofInt 1) (yM_K (S := [(54, some 13), (54, some 14), (54, some 17), (54, some 18), (54, some 19), (54, some 20), (54, some 21), (54, some 22), (69, none)]) yK_rfl rfl rfl hM) (by first | (rw [v_Mo_join_91]; have := v_Mo_join_38 li a h0 (by omega) 17 w 0 hr0 (by show _ ≤ 16 * a.toInt + 0; omega) (by decide) (by decide); omega) | omega) (by first | (rw [v_Mo_join_91]; have := v_Mo_join_38 li a h0 (by omega) 17 w 0 hr0 (by show _ ≤ 16 * a.toInt + 0; omega) (by decide) (by decide); omega) | omega) (by omega) (by omega) (by omega) k
set_option maxRecDepth 100000 in
theorem kf_Mo_join_18 (li : Int32) : ∀ (n : Nat) (w : yW) (a : Int32), yK [(54, some 13), (54, some 14), (54, some 17), (54, some 18), (54, some 19), (54, some 20), (54, some 21), (54, some 22), (69, none)] w (g_Mo_join_18 li n w a) := by
  intro n
  induction n with
  | zero => intros; exact yK_rfl
  | succ n ih => intro w a; rw [g_Mo_join_18]; exact (yK_if yK_rfl (yK_if (yK_tr (yK_tr (yK_tr yK_rfl (yK_mono rfl (kf_Mo_join_38 ..))) (yK_mono rfl (kf_Mo_join_91 ..))) (ih _ _)) (yK_tr yK_rfl (ih _ _))))
def e_Mo_join (li : Int32) (w : yW) : yW × Int32 := (bif zc .ge li 0 then ((g_Mo_join_18 li 17 (wI (wI w 54 21 0) 54 22 0) 0), ((g_Mo_join_18 li 17 (wI (wI w 54 21 0) 54 22 0) 0)).1 54 21) else (w, (-1)))
set_option maxRecDepth 100000 in
theorem r_Mo_join {fr lo sz : Nat} {G : List zC} (li : Int32) (w : yW) (hM : yM w) (hlo : 207 ≤ lo) : zAns (fr + 8) lo 137 [.ref 54, .int li] (yhp w G sz) (some (.int ((e_Mo_join li w).2)), yhp ((e_Mo_join li w).1) G sz) := by
  unfold e_Mo_join
  refine zeb (fr := fr + 7) (M := M_Mo_join) rfl (Nat.le_trans (by decide) hlo) rfl ?_
  have e0 : mL M_Mo_join = 4 := rfl
  refine zeN (q := ((1, [(0, .ref 54), (1, .int li)], [.int li]), yhp w G sz)) 1 rfl ?_
  refine zbc (q1 := (6, [(0, .ref 54), (1, .int li)], [])) (q2 := (4, [(0, .ref 54), (1, .int li)], [])) (cB := zc .ge li 0) (off := 5) (lv := [(0, .ref 54), (1, .int li)]) (st := []) rfl rfl rfl rfl rfl (fun c1 => ?_) (fun c1 => ?_)
  · rw [c1]
    refine zeN (q := ((8, [(0, .ref 54), (1, .int li)], [.int 0, .ref 54]), yhp w G sz)) 2 rfl ?_
    refine ypI (v := 0) rfl rfl rfl rfl rfl rfl rfl ?_
    refine zeN (q := ((13, [(0, .ref 54), (1, .int li)], [.int 0, .ref 54]), yhp (wI w 54 21 0) G sz)) 2 rfl ?_
    refine ypI (v := 0) rfl rfl rfl rfl rfl rfl rfl ?_
    refine zeN (q := ((18, [(2, .int 0), (0, .ref 54), (1, .int li)], []), yhp (wI (wI w 54 21 0) 54 22 0) G sz)) 2 rfl ?_
    refine zeS [(0, .ref 54), (1, .int li), (2, .int 0)] (zsub_pick [1, 2, 0] rfl rfl) ?_
    refine t_Mo_join_18 li  (by omega) 17 (wI (wI w 54 21 0) 54 22 0) 0 (yM_K (S := [(54, some 13), (54, some 14), (54, some 17), (54, some 18), (54, some 19), (54, some 20), (54, some 21), (54, some 22), (69, none)]) (yK_wI rfl (yK_wI rfl yK_rfl)) rfl rfl hM) (by rw [(ydI _ 54 22 _ 54 21 (by decide)).1, wI_self]; decide) (by rw [(ydI _ 54 22 _ 54 21 (by decide)).1, wI_self]; decide) (by decide) (by decide) (by decide) ?_
    refine zeN (q := ((116, [(0, .ref 54), (1, .int li)], [.ref 54]), yhp ((g_Mo_join_18 li 17 (wI (wI w 54 21 0) 54 22 0) 0)) G sz)) 1 rfl ?_
    refine ygf (kk := .inr 0) (v := .int (((g_Mo_join_18 li 17 (wI (wI w 54 21 0) 54 22 0) 0)).1 54 21)) rfl rfl rfl rfl rfl rfl rfl ?_
    exact zer rfl rfl
  · rw [c1]
    refine zeN (q := ((5, [(0, .ref 54), (1, .int li)], [.int ((-1))]), yhp w G sz)) 1 rfl ?_
    exact zer rfl rfl
set_option maxRecDepth 100000 in
theorem kf_Mo_join (li : Int32) (w : yW)  : yK [(54, some 13), (54, some 14), (54, some 17), (54, some 18), (54, some 19), (54, some 20), (54, some 21), (54, some 22), (69, none)] w (e_Mo_join li w ).1 := by unfold e_Mo_join; exact (yK_if1 (yK_p (yK_tr (yK_wI rfl (yK_wI rfl yK_rfl)) (yK_mono rfl (kf_Mo_join_18 ..)))) (yK_p yK_rfl))
