theorem nbe {a b : Nat} (h : a ≠ b) : Nat.beq a b = false := by
  cases e : Nat.beq a b
  · rfl
  · exact absurd (Nat.eq_of_beq_eq_true e) h
theorem sr_f {G : List zC} {x : Nat} {t li v : Int32} {w : yW} : (wI (e_ST_searchReads G x t li w).1 0 8 v).2.2 = w.2.2 := rr_ST_searchReads.1
theorem rf_n0 {G : List zC} {x y : Nat} {t li v t2 l2 : Int32} {w : yW} (h : w.1 0 7 = 0) : 0 ≤ ((e_ST_rowsFound G y t2 l2 (wI (e_ST_searchReads G x t li w).1 0 8 v)).1.1 0 7).toInt := by
  rw [rr_ST_rowsFound.2, wI_nc (by decide), rr_ST_searchReads.2, h]
  decide
theorem ca_0 {w : yW} : (e_ST_clearAnswers w).1 0 7 = 0 := by unfold e_ST_clearAnswers; rw [wI_nc (by decide), wI_self]
theorem yIn_ca {w : yW} {c : Nat} (h : yIn w c) (hc : c ≠ 0) : yIn (e_ST_clearAnswers w) c := by
  unfold e_ST_clearAnswers
  refine ⟨fun j hj => ?_, ?_⟩
  · rw [wI_ne (by omega), wI_ne (by omega)]
    exact h.1 j hj
  · rw [wI_ne hc, wI_ne hc]
    exact h.2
def g_ST_select_53 (t li a b fo : Int32) : Nat → yW → Int32 → yW
  | 0, w, q => w
  | n + 1, w, q => (bif zc .ge q 16 then w else (bif zc .eq (e_ST_hasBit fo q) 0 then g_ST_select_53 t li a b fo  n w (q + Int32.ofInt 1) else (bif zc .gt a (e_Ta_amountOf (14 + 12 * t.toNatClampNeg) q w) then g_ST_select_53 t li a b fo  n w (q + Int32.ofInt 1) else (bif zc .gt (e_Ta_amountOf (14 + 12 * t.toNatClampNeg) q w) b then g_ST_select_53 t li a b fo  n w (q + Int32.ofInt 1) else g_ST_select_53 t li a b fo  n (e_ST_addAnswer q w) (q + Int32.ofInt 1)))))
set_option maxRecDepth 100000 in
theorem t_ST_select_53 {fr lo sz : Nat} {r : Option Value × zH} {G : List zC} (t li a b fo : Int32) (ht : zIx t 2) (hlo : 186 ≤ lo) : ∀ (n : Nat) (w : yW) (q : Int32) (hn0 : 0 ≤ (w.1 0 7).toInt) (h0 : 0 ≤ q.toInt) (h1 : q.toInt ≤ 16) (hn : 16 < q.toInt + n) (k : zRun (fr + 6) lo none M_ST_select (108, [(0, .ref 0), (1, .int t), (2, .int li), (3, .int a), (4, .int b), (5, .int fo)], []) (yhp (g_ST_select_53 t li a b fo n w q) G sz) r), zRun (fr + 6) lo none M_ST_select (53, [(0, .ref 0), (1, .int t), (2, .int li), (3, .int a), (4, .int b), (5, .int fo), (6, .int q)], []) (yhp w G sz) r := by
  intro n
  induction n with
  | zero => intro w q hn0 h0 h1 hn k; exfalso; omega
  | succ n ih =>
    intro w q hn0 h0 h1 hn k
    rw [g_ST_select_53] at k
    refine zeN (q := ((57, [(0, .ref 0), (1, .int t), (2, .int li), (3, .int a), (4, .int b), (5, .int fo), (6, .int q)], [.int 16, .int q]), yhp w G sz)) 2 rfl ?_
    refine zbc (q1 := (108, [(0, .ref 0), (1, .int t), (2, .int li), (3, .int a), (4, .int b), (5, .int fo), (6, .int q)], [])) (q2 := (60, [(0, .ref 0), (1, .int t), (2, .int li), (3, .int a), (4, .int b), (5, .int fo), (6, .int q)], [])) (cB := zc .ge q 16) (off := 51) (lv := [(0, .ref 0), (1, .int t), (2, .int li), (3, .int a), (4, .int b), (5, .int fo), (6, .int q)]) (st := []) rfl rfl rfl rfl rfl (fun c57 => ?_) (fun c57 => ?_)
    · rw [c57] at k
      refine zeS [(0, .ref 0), (1, .int t), (2, .int li), (3, .int a), (4, .int b), (5, .int fo)] (zsub_pick [0, 1, 2, 3, 4, 5] rfl rfl) ?_
      exact k
    · rw [c57] at k
      have hcc : ¬ (16 : Int) ≤ q.toInt := of_decide_eq_false (z_ge c57).symm
      have hq : zIx q 16 := ⟨h0, by omega⟩
      have hi1 := z_inc (a := q) (by omega) (by omega)
      refine zeN (q := ((61, [(0, .ref 0), (1, .int t), (2, .int li), (3, .int a), (4, .int b), (5, .int fo), (6, .int q)], [.ref 0]), yhp w G sz)) 1 rfl ?_
      refine ygf (kk := .inl (.ref 1)) (v := .ref 1) rfl rfl rfl rfl rfl rfl rfl ?_
      refine zeN (q := ((65, [(0, .ref 0), (1, .int t), (2, .int li), (3, .int a), (4, .int b), (5, .int fo), (6, .int q)], [.int t, .ref 1]), yhp w G sz)) 1 rfl ?_
      refine yfP rfl rfl ht ?_
      refine zeN (q := ((68, [(0, .ref 0), (1, .int t), (2, .int li), (3, .int a), (4, .int b), (5, .int fo), (6, .int q)], [.int q, .ref (14 + 12 * t.toNatClampNeg)]), yhp w G sz)) 1 rfl ?_
      refine zec 1 (M' := M_Ta_amountOf) (qq := ([.ref (14 + 12 * t.toNatClampNeg), .int q], [])) (s' := (71, [(0, .ref 0), (1, .int t), (2, .int li), (3, .int a), (4, .int b), (5, .int fo), (6, .int q)], [.int (e_Ta_amountOf (14 + 12 * t.toNatClampNeg) q w)])) rfl rfl (fun _ => rfl) rfl rfl (zhk rfl (zrc_ok (yhp_o (yTb_P ht).1)) rfl) (r_Ta_amountOf _ _ _ (yTb_P ht) (by omega)) rfl ?_
      refine zeN (q := ((77, [(7, .int (e_Ta_amountOf (14 + 12 * t.toNatClampNeg) q w)), (0, .ref 0), (1, .int t), (2, .int li), (3, .int a), (4, .int b), (5, .int fo), (6, .int q)], [.int q, .int fo]), yhp w G sz)) 3 rfl ?_
      refine zec 0 (M' := M_ST_hasBit) (qq := ([.int fo, .int q], [])) (s' := (80, [(7, .int (e_Ta_amountOf (14 + 12 * t.toNatClampNeg) q w)), (0, .ref 0), (1, .int t), (2, .int li), (3, .int a), (4, .int b), (5, .int fo), (6, .int q)], [.int (e_ST_hasBit fo q)])) rfl rfl (fun _ => rfl) rfl rfl rfl (r_ST_hasBit fo q (by omega)) rfl ?_
      refine zbc (q1 := (102, [(7, .int (e_Ta_amountOf (14 + 12 * t.toNatClampNeg) q w)), (0, .ref 0), (1, .int t), (2, .int li), (3, .int a), (4, .int b), (5, .int fo), (6, .int q)], [])) (q2 := (83, [(7, .int (e_Ta_amountOf (14 + 12 * t.toNatClampNeg) q w)), (0, .ref 0), (1, .int t), (2, .int li), (3, .int a), (4, .int b), (5, .int fo), (6, .int q)], [])) (cB := zc .eq (e_ST_hasBit fo q) 0) (off := 22) (lv := [(7, .int (e_Ta_amountOf (14 + 12 * t.toNatClampNeg) q w)), (0, .ref 0), (1, .int t), (2, .int li), (3, .int a), (4, .int b), (5, .int fo), (6, .int q)]) (st := []) rfl rfl rfl rfl rfl (fun c80 => ?_) (fun c80 => ?_)
      · rw [c80] at k
        refine zeN (q := ((53, [(6, .int (q + Int32.ofInt 1)), (7, .int (e_Ta_amountOf (14 + 12 * t.toNatClampNeg) q w)), (0, .ref 0), (1, .int t), (2, .int li), (3, .int a), (4, .int b), (5, .int fo)], []), yhp w G sz)) 2 rfl ?_
        refine zeS [(0, .ref 0), (1, .int t), (2, .int li), (3, .int a), (4, .int b), (5, .int fo), (6, .int (q + Int32.ofInt 1))] (zsub_pick [2, 3, 4, 5, 6, 7, 0] rfl rfl) ?_
        exact ih w (q + Int32.ofInt 1) (by first | exact hn0 | exact v_ST_addAnswer hn0) (by omega) (by omega) (by omega) k
      · rw [c80] at k
        refine zeN (q := ((86, [(7, .int (e_Ta_amountOf (14 + 12 * t.toNatClampNeg) q w)), (0, .ref 0), (1, .int t), (2, .int li), (3, .int a), (4, .int b), (5, .int fo), (6, .int q)], [.int (e_Ta_amountOf (14 + 12 * t.toNatClampNeg) q w), .int a]), yhp w G sz)) 2 rfl ?_
        refine zbc (q1 := (102, [(7, .int (e_Ta_amountOf (14 + 12 * t.toNatClampNeg) q w)), (0, .ref 0), (1, .int t), (2, .int li), (3, .int a), (4, .int b), (5, .int fo), (6, .int q)], [])) (q2 := (89, [(7, .int (e_Ta_amountOf (14 + 12 * t.toNatClampNeg) q w)), (0, .ref 0), (1, .int t), (2, .int li), (3, .int a), (4, .int b), (5, .int fo), (6, .int q)], [])) (cB := zc .gt a (e_Ta_amountOf (14 + 12 * t.toNatClampNeg) q w)) (off := 16) (lv := [(7, .int (e_Ta_amountOf (14 + 12 * t.toNatClampNeg) q w)), (0, .ref 0), (1, .int t), (2, .int li), (3, .int a), (4, .int b), (5, .int fo), (6, .int q)]) (st := []) rfl rfl rfl rfl rfl (fun c86 => ?_) (fun c86 => ?_)
        · rw [c86] at k
          refine zeN (q := ((53, [(6, .int (q + Int32.ofInt 1)), (7, .int (e_Ta_amountOf (14 + 12 * t.toNatClampNeg) q w)), (0, .ref 0), (1, .int t), (2, .int li), (3, .int a), (4, .int b), (5, .int fo)], []), yhp w G sz)) 2 rfl ?_
          refine zeS [(0, .ref 0), (1, .int t), (2, .int li), (3, .int a), (4, .int b), (5, .int fo), (6, .int (q + Int32.ofInt 1))] (zsub_pick [2, 3, 4, 5, 6, 7, 0] rfl rfl) ?_
          exact ih w (q + Int32.ofInt 1) (by first | exact hn0 | exact v_ST_addAnswer hn0) (by omega) (by omega) (by omega) k
        · rw [c86] at k
          refine zeN (q := ((93, [(7, .int (e_Ta_amountOf (14 + 12 * t.toNatClampNeg) q w)), (0, .ref 0), (1, .int t), (2, .int li), (3, .int a), (4, .int b), (5, .int fo), (6, .int q)], [.int b, .int (e_Ta_amountOf (14 + 12 * t.toNatClampNeg) q w)]), yhp w G sz)) 2 rfl ?_
          refine zbc (q1 := (102, [(7, .int (e_Ta_amountOf (14 + 12 * t.toNatClampNeg) q w)), (0, .ref 0), (1, .int t), (2, .int li), (3, .int a), (4, .int b), (5, .int fo), (6, .int q)], [])) (q2 := (96, [(7, .int (e_Ta_amountOf (14 + 12 * t.toNatClampNeg) q w)), (0, .ref 0), (1, .int t), (2, .int li), (3, .int a), (4, .int b), (5, .int fo), (6, .int q)], [])) (cB := zc .gt (e_Ta_amountOf (14 + 12 * t.toNatClampNeg) q w) b) (off := 9) (lv := [(7, .int (e_Ta_amountOf (14 + 12 * t.toNatClampNeg) q w)), (0, .ref 0), (1, .int t), (2, .int li), (3, .int a), (4, .int b), (5, .int fo), (6, .int q)]) (st := []) rfl rfl rfl rfl rfl (fun c93 => ?_) (fun c93 => ?_)
          · rw [c93] at k
            refine zeN (q := ((53, [(6, .int (q + Int32.ofInt 1)), (7, .int (e_Ta_amountOf (14 + 12 * t.toNatClampNeg) q w)), (0, .ref 0), (1, .int t), (2, .int li), (3, .int a), (4, .int b), (5, .int fo)], []), yhp w G sz)) 2 rfl ?_
            refine zeS [(0, .ref 0), (1, .int t), (2, .int li), (3, .int a), (4, .int b), (5, .int fo), (6, .int (q + Int32.ofInt 1))] (zsub_pick [2, 3, 4, 5, 6, 7, 0] rfl rfl) ?_
            exact ih w (q + Int32.ofInt 1) (by first | exact hn0 | exact v_ST_addAnswer hn0) (by omega) (by omega) (by omega) k
          · rw [c93] at k
            refine zeN (q := ((99, [(7, .int (e_Ta_amountOf (14 + 12 * t.toNatClampNeg) q w)), (0, .ref 0), (1, .int t), (2, .int li), (3, .int a), (4, .int b), (5, .int fo), (6, .int q)], [.int q, .ref 0]), yhp w G sz)) 2 rfl ?_
            refine zec 1 (M' := M_ST_addAnswer) (qq := ([.ref 0, .int q], [])) (s' := (102, [(7, .int (e_Ta_amountOf (14 + 12 * t.toNatClampNeg) q w)), (0, .ref 0), (1, .int t), (2, .int li), (3, .int a), (4, .int b), (5, .int fo), (6, .int q)], [])) rfl rfl (fun _ => rfl) rfl rfl (zhk rfl (zrc_ok (yhp_o rfl)) rfl) (r_ST_addAnswer q _ hn0 (by omega)) rfl ?_
            refine zeN (q := ((53, [(6, .int (q + Int32.ofInt 1)), (7, .int (e_Ta_amountOf (14 + 12 * t.toNatClampNeg) q w)), (0, .ref 0), (1, .int t), (2, .int li), (3, .int a), (4, .int b), (5, .int fo)], []), yhp (e_ST_addAnswer q w) G sz)) 2 rfl ?_
            refine zeS [(0, .ref 0), (1, .int t), (2, .int li), (3, .int a), (4, .int b), (5, .int fo), (6, .int (q + Int32.ofInt 1))] (zsub_pick [2, 3, 4, 5, 6, 7, 0] rfl rfl) ?_
            exact ih (e_ST_addAnswer q w) (q + Int32.ofInt 1) (by first | exact hn0 | exact v_ST_addAnswer hn0) (by omega) (by omega) (by omega) k
def e_ST_select (G : List zC) (t li a b : Int32) (w : yW) : yW × Int32 := (bif zc .eq (e_ST_isTable t) 0 then (w, (-1)) else (bif yN (w.2.2 0 5) then (w, (-1)) else (bif zc .ge li 0 then ((g_ST_select_53 t li a b ((e_ST_rowsFound G (yd ((wI ((e_ST_searchReads G (yd ((e_ST_clearAnswers w).2.2 0 5)) t li (e_ST_clearAnswers w)).1) 0 8 ((e_ST_searchReads G (yd ((e_ST_clearAnswers w).2.2 0 5)) t li (e_ST_clearAnswers w)).2)).2.2 0 5)) t li (wI ((e_ST_searchReads G (yd ((e_ST_clearAnswers w).2.2 0 5)) t li (e_ST_clearAnswers w)).1) 0 8 ((e_ST_searchReads G (yd ((e_ST_clearAnswers w).2.2 0 5)) t li (e_ST_clearAnswers w)).2))).2) 17 ((e_ST_rowsFound G (yd ((wI ((e_ST_searchReads G (yd ((e_ST_clearAnswers w).2.2 0 5)) t li (e_ST_clearAnswers w)).1) 0 8 ((e_ST_searchReads G (yd ((e_ST_clearAnswers w).2.2 0 5)) t li (e_ST_clearAnswers w)).2)).2.2 0 5)) t li (wI ((e_ST_searchReads G (yd ((e_ST_clearAnswers w).2.2 0 5)) t li (e_ST_clearAnswers w)).1) 0 8 ((e_ST_searchReads G (yd ((e_ST_clearAnswers w).2.2 0 5)) t li (e_ST_clearAnswers w)).2))).1) 0), ((g_ST_select_53 t li a b ((e_ST_rowsFound G (yd ((wI ((e_ST_searchReads G (yd ((e_ST_clearAnswers w).2.2 0 5)) t li (e_ST_clearAnswers w)).1) 0 8 ((e_ST_searchReads G (yd ((e_ST_clearAnswers w).2.2 0 5)) t li (e_ST_clearAnswers w)).2)).2.2 0 5)) t li (wI ((e_ST_searchReads G (yd ((e_ST_clearAnswers w).2.2 0 5)) t li (e_ST_clearAnswers w)).1) 0 8 ((e_ST_searchReads G (yd ((e_ST_clearAnswers w).2.2 0 5)) t li (e_ST_clearAnswers w)).2))).2) 17 ((e_ST_rowsFound G (yd ((wI ((e_ST_searchReads G (yd ((e_ST_clearAnswers w).2.2 0 5)) t li (e_ST_clearAnswers w)).1) 0 8 ((e_ST_searchReads G (yd ((e_ST_clearAnswers w).2.2 0 5)) t li (e_ST_clearAnswers w)).2)).2.2 0 5)) t li (wI ((e_ST_searchReads G (yd ((e_ST_clearAnswers w).2.2 0 5)) t li (e_ST_clearAnswers w)).1) 0 8 ((e_ST_searchReads G (yd ((e_ST_clearAnswers w).2.2 0 5)) t li (e_ST_clearAnswers w)).2))).1) 0)).1 0 7) else (w, (-1)))))
set_option maxRecDepth 100000 in
theorem r_ST_select {fr lo sz : Nat} (G : List zC) (t li a b : Int32) (w : yW) (hI : zIx t 2 → yIn w (20 + 12 * t.toNatClampNeg)) (hR : yRk w G) (hlo : 213 ≤ lo) : zAns (fr + 7) lo 44 [.ref 0, .int t, .int li, .int a, .int b] (yhp w G sz) (some (.int ((e_ST_select G t li a b w).2)), yhp ((e_ST_select G t li a b w).1) G sz) := by
  unfold e_ST_select
  refine zeb (fr := fr + 6) (M := M_ST_select) rfl (Nat.le_trans (by decide) hlo) rfl ?_
  have e0 : mL M_ST_select = 8 := rfl
  refine zeN (q := ((1, [(0, .ref 0), (1, .int t), (2, .int li), (3, .int a), (4, .int b)], [.int t]), yhp w G sz)) 1 rfl ?_
  refine zec 0 (M' := M_ST_isTable) (qq := ([.int t], [])) (s' := (4, [(0, .ref 0), (1, .int t), (2, .int li), (3, .int a), (4, .int b)], [.int (e_ST_isTable t)])) rfl rfl (fun _ => rfl) rfl rfl rfl (r_ST_isTable t (by omega)) rfl ?_
  refine zbc (q1 := (18, [(0, .ref 0), (1, .int t), (2, .int li), (3, .int a), (4, .int b)], [])) (q2 := (7, [(0, .ref 0), (1, .int t), (2, .int li), (3, .int a), (4, .int b)], [])) (cB := zc .eq (e_ST_isTable t) 0) (off := 14) (lv := [(0, .ref 0), (1, .int t), (2, .int li), (3, .int a), (4, .int b)]) (st := []) rfl rfl rfl rfl rfl (fun c4 => ?_) (fun c4 => ?_)
  · rw [c4]
    refine zeN (q := ((19, [(0, .ref 0), (1, .int t), (2, .int li), (3, .int a), (4, .int b)], [.int ((-1))]), yhp w G sz)) 1 rfl ?_
    exact zer rfl rfl
  · rw [c4]
    have ht := z_sTn (b := true) c4
    refine zeN (q := ((8, [(0, .ref 0), (1, .int t), (2, .int li), (3, .int a), (4, .int b)], [.ref 0]), yhp w G sz)) 1 rfl ?_
    refine ygf (kk := .inr 2) (v := yrv (w.2.2 0 5)) rfl rfl rfl rfl rfl rfl rfl ?_
    refine zbc (q1 := (18, [(0, .ref 0), (1, .int t), (2, .int li), (3, .int a), (4, .int b)], [])) (q2 := (14, [(0, .ref 0), (1, .int t), (2, .int li), (3, .int a), (4, .int b)], [])) (cB := yN (w.2.2 0 5)) (off := 7) (lv := [(0, .ref 0), (1, .int t), (2, .int li), (3, .int a), (4, .int b)]) (st := []) rfl rfl (ybnn (w.2.2 0 5)) rfl rfl (fun c11 => ?_) (fun c11 => ?_)
    · rw [c11]
      refine zeN (q := ((19, [(0, .ref 0), (1, .int t), (2, .int li), (3, .int a), (4, .int b)], [.int ((-1))]), yhp w G sz)) 1 rfl ?_
      exact zer rfl rfl
    · rw [c11]
      have hFw : yN (w.2.2 0 5) = false := c11
      refine zeN (q := ((15, [(0, .ref 0), (1, .int t), (2, .int li), (3, .int a), (4, .int b)], [.int li]), yhp w G sz)) 1 rfl ?_
      refine zbc (q1 := (20, [(0, .ref 0), (1, .int t), (2, .int li), (3, .int a), (4, .int b)], [])) (q2 := (18, [(0, .ref 0), (1, .int t), (2, .int li), (3, .int a), (4, .int b)], [])) (cB := zc .ge li 0) (off := 5) (lv := [(0, .ref 0), (1, .int t), (2, .int li), (3, .int a), (4, .int b)]) (st := []) rfl rfl rfl rfl rfl (fun c15 => ?_) (fun c15 => ?_)
      · rw [c15]
        refine zeN (q := ((21, [(0, .ref 0), (1, .int t), (2, .int li), (3, .int a), (4, .int b)], [.ref 0]), yhp w G sz)) 1 rfl ?_
        refine zec 1 (M' := M_ST_clearAnswers) (qq := ([.ref 0], [])) (s' := (24, [(0, .ref 0), (1, .int t), (2, .int li), (3, .int a), (4, .int b)], [])) rfl rfl (fun _ => rfl) rfl rfl (zhk rfl (zrc_ok (yhp_o rfl)) rfl) (r_ST_clearAnswers _ (by omega)) rfl ?_
        have hRs : yRk (e_ST_clearAnswers w) G := yRk_J hR (jf_ST_clearAnswers ..)
        have hFn : yN ((e_ST_clearAnswers w).2.2 0 5) = false := hFw
        have hF := yRk_n hRs hFn
        have hIs : yIn (e_ST_clearAnswers w) (20 + 12 * t.toNatClampNeg) := yIn_ca (hI ht) (by omega)
        refine zeN (q := ((27, [(0, .ref 0), (1, .int t), (2, .int li), (3, .int a), (4, .int b)], [.ref 0, .ref 0, .ref 0]), yhp (e_ST_clearAnswers w) G sz)) 3 rfl ?_
        refine ygf (kk := .inr 2) (v := yrv ((e_ST_clearAnswers w).2.2 0 5)) rfl rfl rfl rfl rfl rfl rfl ?_
        refine zeN (q := ((32, [(0, .ref 0), (1, .int t), (2, .int li), (3, .int a), (4, .int b)], [.int li, .int t, yrv ((e_ST_clearAnswers w).2.2 0 5), .ref 0, .ref 0]), yhp (e_ST_clearAnswers w) G sz)) 2 rfl ?_
        rw [yrv_nn hFn]
        refine zec 1 (M' := M_ST_searchReads) (qq := ([.ref 0, .ref (yd ((e_ST_clearAnswers w).2.2 0 5)), .int t, .int li], [.ref 0])) (s' := (35, [(0, .ref 0), (1, .int t), (2, .int li), (3, .int a), (4, .int b)], [.int ((e_ST_searchReads G (yd ((e_ST_clearAnswers w).2.2 0 5)) t li (e_ST_clearAnswers w)).2), .ref 0])) rfl rfl (fun _ => rfl) rfl rfl (zhk rfl (zrc_ok (yhp_o rfl)) rfl) (r_ST_searchReads G _ t li _ hF ht hIs hRs (by omega)) rfl ?_
        refine ypI (v := (e_ST_searchReads G (yd ((e_ST_clearAnswers w).2.2 0 5)) t li (e_ST_clearAnswers w)).2) rfl rfl rfl rfl rfl rfl rfl ?_
        have hR2 : yRk (wI ((e_ST_searchReads G (yd ((e_ST_clearAnswers w).2.2 0 5)) t li (e_ST_clearAnswers w)).1) 0 8 ((e_ST_searchReads G (yd ((e_ST_clearAnswers w).2.2 0 5)) t li (e_ST_clearAnswers w)).2)) G := yRk_2 hRs sr_f
        have hFn2 : yN ((wI ((e_ST_searchReads G (yd ((e_ST_clearAnswers w).2.2 0 5)) t li (e_ST_clearAnswers w)).1) 0 8 ((e_ST_searchReads G (yd ((e_ST_clearAnswers w).2.2 0 5)) t li (e_ST_clearAnswers w)).2)).2.2 0 5) = false := by rw [sr_f]; exact hFw
        have hF2 := yRk_n hR2 hFn2
        refine zeN (q := ((40, [(0, .ref 0), (1, .int t), (2, .int li), (3, .int a), (4, .int b)], [.ref 0, .ref 0]), yhp (wI ((e_ST_searchReads G (yd ((e_ST_clearAnswers w).2.2 0 5)) t li (e_ST_clearAnswers w)).1) 0 8 ((e_ST_searchReads G (yd ((e_ST_clearAnswers w).2.2 0 5)) t li (e_ST_clearAnswers w)).2)) G sz)) 2 rfl ?_
        refine ygf (kk := .inr 2) (v := yrv ((wI ((e_ST_searchReads G (yd ((e_ST_clearAnswers w).2.2 0 5)) t li (e_ST_clearAnswers w)).1) 0 8 ((e_ST_searchReads G (yd ((e_ST_clearAnswers w).2.2 0 5)) t li (e_ST_clearAnswers w)).2)).2.2 0 5)) rfl rfl rfl rfl rfl rfl rfl ?_
        refine zeN (q := ((45, [(0, .ref 0), (1, .int t), (2, .int li), (3, .int a), (4, .int b)], [.int li, .int t, yrv ((wI ((e_ST_searchReads G (yd ((e_ST_clearAnswers w).2.2 0 5)) t li (e_ST_clearAnswers w)).1) 0 8 ((e_ST_searchReads G (yd ((e_ST_clearAnswers w).2.2 0 5)) t li (e_ST_clearAnswers w)).2)).2.2 0 5), .ref 0]), yhp (wI ((e_ST_searchReads G (yd ((e_ST_clearAnswers w).2.2 0 5)) t li (e_ST_clearAnswers w)).1) 0 8 ((e_ST_searchReads G (yd ((e_ST_clearAnswers w).2.2 0 5)) t li (e_ST_clearAnswers w)).2)) G sz)) 2 rfl ?_
        rw [yrv_nn hFn2]
        refine zec 1 (M' := M_ST_rowsFound) (qq := ([.ref 0, .ref (yd ((wI ((e_ST_searchReads G (yd ((e_ST_clearAnswers w).2.2 0 5)) t li (e_ST_clearAnswers w)).1) 0 8 ((e_ST_searchReads G (yd ((e_ST_clearAnswers w).2.2 0 5)) t li (e_ST_clearAnswers w)).2)).2.2 0 5)), .int t, .int li], [])) (s' := (48, [(0, .ref 0), (1, .int t), (2, .int li), (3, .int a), (4, .int b)], [.int ((e_ST_rowsFound G (yd ((wI ((e_ST_searchReads G (yd ((e_ST_clearAnswers w).2.2 0 5)) t li (e_ST_clearAnswers w)).1) 0 8 ((e_ST_searchReads G (yd ((e_ST_clearAnswers w).2.2 0 5)) t li (e_ST_clearAnswers w)).2)).2.2 0 5)) t li (wI ((e_ST_searchReads G (yd ((e_ST_clearAnswers w).2.2 0 5)) t li (e_ST_clearAnswers w)).1) 0 8 ((e_ST_searchReads G (yd ((e_ST_clearAnswers w).2.2 0 5)) t li (e_ST_clearAnswers w)).2))).2)])) rfl rfl (fun _ => rfl) rfl rfl (zhk rfl (zrc_ok (yhp_o rfl)) rfl) (r_ST_rowsFound G _ t li _ hF2 ht hR2 (by omega)) rfl ?_
        refine zeN (q := ((50, [(5, .int ((e_ST_rowsFound G (yd ((wI ((e_ST_searchReads G (yd ((e_ST_clearAnswers w).2.2 0 5)) t li (e_ST_clearAnswers w)).1) 0 8 ((e_ST_searchReads G (yd ((e_ST_clearAnswers w).2.2 0 5)) t li (e_ST_clearAnswers w)).2)).2.2 0 5)) t li (wI ((e_ST_searchReads G (yd ((e_ST_clearAnswers w).2.2 0 5)) t li (e_ST_clearAnswers w)).1) 0 8 ((e_ST_searchReads G (yd ((e_ST_clearAnswers w).2.2 0 5)) t li (e_ST_clearAnswers w)).2))).2)), (0, .ref 0), (1, .int t), (2, .int li), (3, .int a), (4, .int b)], []), yhp ((e_ST_rowsFound G (yd ((wI ((e_ST_searchReads G (yd ((e_ST_clearAnswers w).2.2 0 5)) t li (e_ST_clearAnswers w)).1) 0 8 ((e_ST_searchReads G (yd ((e_ST_clearAnswers w).2.2 0 5)) t li (e_ST_clearAnswers w)).2)).2.2 0 5)) t li (wI ((e_ST_searchReads G (yd ((e_ST_clearAnswers w).2.2 0 5)) t li (e_ST_clearAnswers w)).1) 0 8 ((e_ST_searchReads G (yd ((e_ST_clearAnswers w).2.2 0 5)) t li (e_ST_clearAnswers w)).2))).1) G sz)) 1 rfl ?_
        have hn0 : 0 ≤ (((e_ST_rowsFound G (yd ((wI ((e_ST_searchReads G (yd ((e_ST_clearAnswers w).2.2 0 5)) t li (e_ST_clearAnswers w)).1) 0 8 ((e_ST_searchReads G (yd ((e_ST_clearAnswers w).2.2 0 5)) t li (e_ST_clearAnswers w)).2)).2.2 0 5)) t li (wI ((e_ST_searchReads G (yd ((e_ST_clearAnswers w).2.2 0 5)) t li (e_ST_clearAnswers w)).1) 0 8 ((e_ST_searchReads G (yd ((e_ST_clearAnswers w).2.2 0 5)) t li (e_ST_clearAnswers w)).2))).1).1 0 7).toInt := rf_n0 ca_0
        refine zeN (q := ((53, [(6, .int 0), (5, .int ((e_ST_rowsFound G (yd ((wI ((e_ST_searchReads G (yd ((e_ST_clearAnswers w).2.2 0 5)) t li (e_ST_clearAnswers w)).1) 0 8 ((e_ST_searchReads G (yd ((e_ST_clearAnswers w).2.2 0 5)) t li (e_ST_clearAnswers w)).2)).2.2 0 5)) t li (wI ((e_ST_searchReads G (yd ((e_ST_clearAnswers w).2.2 0 5)) t li (e_ST_clearAnswers w)).1) 0 8 ((e_ST_searchReads G (yd ((e_ST_clearAnswers w).2.2 0 5)) t li (e_ST_clearAnswers w)).2))).2)), (0, .ref 0), (1, .int t), (2, .int li), (3, .int a), (4, .int b)], []), yhp ((e_ST_rowsFound G (yd ((wI ((e_ST_searchReads G (yd ((e_ST_clearAnswers w).2.2 0 5)) t li (e_ST_clearAnswers w)).1) 0 8 ((e_ST_searchReads G (yd ((e_ST_clearAnswers w).2.2 0 5)) t li (e_ST_clearAnswers w)).2)).2.2 0 5)) t li (wI ((e_ST_searchReads G (yd ((e_ST_clearAnswers w).2.2 0 5)) t li (e_ST_clearAnswers w)).1) 0 8 ((e_ST_searchReads G (yd ((e_ST_clearAnswers w).2.2 0 5)) t li (e_ST_clearAnswers w)).2))).1) G sz)) 2 rfl ?_
        refine zeS [(0, .ref 0), (1, .int t), (2, .int li), (3, .int a), (4, .int b), (5, .int ((e_ST_rowsFound G (yd ((wI ((e_ST_searchReads G (yd ((e_ST_clearAnswers w).2.2 0 5)) t li (e_ST_clearAnswers w)).1) 0 8 ((e_ST_searchReads G (yd ((e_ST_clearAnswers w).2.2 0 5)) t li (e_ST_clearAnswers w)).2)).2.2 0 5)) t li (wI ((e_ST_searchReads G (yd ((e_ST_clearAnswers w).2.2 0 5)) t li (e_ST_clearAnswers w)).1) 0 8 ((e_ST_searchReads G (yd ((e_ST_clearAnswers w).2.2 0 5)) t li (e_ST_clearAnswers w)).2))).2)), (6, .int 0)] (zsub_pick [2, 3, 4, 5, 6, 1, 0] rfl rfl) ?_
        refine t_ST_select_53 t li a b ((e_ST_rowsFound G (yd ((wI ((e_ST_searchReads G (yd ((e_ST_clearAnswers w).2.2 0 5)) t li (e_ST_clearAnswers w)).1) 0 8 ((e_ST_searchReads G (yd ((e_ST_clearAnswers w).2.2 0 5)) t li (e_ST_clearAnswers w)).2)).2.2 0 5)) t li (wI ((e_ST_searchReads G (yd ((e_ST_clearAnswers w).2.2 0 5)) t li (e_ST_clearAnswers w)).1) 0 8 ((e_ST_searchReads G (yd ((e_ST_clearAnswers w).2.2 0 5)) t li (e_ST_clearAnswers w)).2))).2) ht (by omega) 17 ((e_ST_rowsFound G (yd ((wI ((e_ST_searchReads G (yd ((e_ST_clearAnswers w).2.2 0 5)) t li (e_ST_clearAnswers w)).1) 0 8 ((e_ST_searchReads G (yd ((e_ST_clearAnswers w).2.2 0 5)) t li (e_ST_clearAnswers w)).2)).2.2 0 5)) t li (wI ((e_ST_searchReads G (yd ((e_ST_clearAnswers w).2.2 0 5)) t li (e_ST_clearAnswers w)).1) 0 8 ((e_ST_searchReads G (yd ((e_ST_clearAnswers w).2.2 0 5)) t li (e_ST_clearAnswers w)).2))).1) 0 hn0 (by decide) (by decide) (by decide) ?_
        refine zeN (q := ((109, [(0, .ref 0), (1, .int t), (2, .int li), (3, .int a), (4, .int b), (5, .int ((e_ST_rowsFound G (yd ((wI ((e_ST_searchReads G (yd ((e_ST_clearAnswers w).2.2 0 5)) t li (e_ST_clearAnswers w)).1) 0 8 ((e_ST_searchReads G (yd ((e_ST_clearAnswers w).2.2 0 5)) t li (e_ST_clearAnswers w)).2)).2.2 0 5)) t li (wI ((e_ST_searchReads G (yd ((e_ST_clearAnswers w).2.2 0 5)) t li (e_ST_clearAnswers w)).1) 0 8 ((e_ST_searchReads G (yd ((e_ST_clearAnswers w).2.2 0 5)) t li (e_ST_clearAnswers w)).2))).2))], [.ref 0]), yhp ((g_ST_select_53 t li a b ((e_ST_rowsFound G (yd ((wI ((e_ST_searchReads G (yd ((e_ST_clearAnswers w).2.2 0 5)) t li (e_ST_clearAnswers w)).1) 0 8 ((e_ST_searchReads G (yd ((e_ST_clearAnswers w).2.2 0 5)) t li (e_ST_clearAnswers w)).2)).2.2 0 5)) t li (wI ((e_ST_searchReads G (yd ((e_ST_clearAnswers w).2.2 0 5)) t li (e_ST_clearAnswers w)).1) 0 8 ((e_ST_searchReads G (yd ((e_ST_clearAnswers w).2.2 0 5)) t li (e_ST_clearAnswers w)).2))).2) 17 ((e_ST_rowsFound G (yd ((wI ((e_ST_searchReads G (yd ((e_ST_clearAnswers w).2.2 0 5)) t li (e_ST_clearAnswers w)).1) 0 8 ((e_ST_searchReads G (yd ((e_ST_clearAnswers w).2.2 0 5)) t li (e_ST_clearAnswers w)).2)).2.2 0 5)) t li (wI ((e_ST_searchReads G (yd ((e_ST_clearAnswers w).2.2 0 5)) t li (e_ST_clearAnswers w)).1) 0 8 ((e_ST_searchReads G (yd ((e_ST_clearAnswers w).2.2 0 5)) t li (e_ST_clearAnswers w)).2))).1) 0)) G sz)) 1 rfl ?_
        refine ygf (kk := .inr 0) (v := .int (((g_ST_select_53 t li a b ((e_ST_rowsFound G (yd ((wI ((e_ST_searchReads G (yd ((e_ST_clearAnswers w).2.2 0 5)) t li (e_ST_clearAnswers w)).1) 0 8 ((e_ST_searchReads G (yd ((e_ST_clearAnswers w).2.2 0 5)) t li (e_ST_clearAnswers w)).2)).2.2 0 5)) t li (wI ((e_ST_searchReads G (yd ((e_ST_clearAnswers w).2.2 0 5)) t li (e_ST_clearAnswers w)).1) 0 8 ((e_ST_searchReads G (yd ((e_ST_clearAnswers w).2.2 0 5)) t li (e_ST_clearAnswers w)).2))).2) 17 ((e_ST_rowsFound G (yd ((wI ((e_ST_searchReads G (yd ((e_ST_clearAnswers w).2.2 0 5)) t li (e_ST_clearAnswers w)).1) 0 8 ((e_ST_searchReads G (yd ((e_ST_clearAnswers w).2.2 0 5)) t li (e_ST_clearAnswers w)).2)).2.2 0 5)) t li (wI ((e_ST_searchReads G (yd ((e_ST_clearAnswers w).2.2 0 5)) t li (e_ST_clearAnswers w)).1) 0 8 ((e_ST_searchReads G (yd ((e_ST_clearAnswers w).2.2 0 5)) t li (e_ST_clearAnswers w)).2))).1) 0)).1 0 7)) rfl rfl rfl rfl rfl rfl rfl ?_
        exact zer rfl rfl
      · rw [c15]
        refine zeN (q := ((19, [(0, .ref 0), (1, .int t), (2, .int li), (3, .int a), (4, .int b)], [.int ((-1))]), yhp w G sz)) 1 rfl ?_
        exact zer rfl rfl
theorem od_5 {G : List zC} {x c : Nat} : ∀ (n : Nat) (w : yW) (od q : Int32), yRk w G → (∀ j, j < 16 → zIx (w.1 13 j) 16) → 0 ≤ od.toInt → od.toInt ≤ q.toInt → 0 ≤ q.toInt → q.toInt ≤ 16 →
    (∀ j, j < 16 → zIx ((g_ST_orderByDistance_5 G x c n w od q).1.1 13 j) 16) ∧ (g_ST_orderByDistance_5 G x c n w od q).1.2.2 = w.2.2 ∧ (∀ d j, d ≠ 13 → (g_ST_orderByDistance_5 G x c n w od q).1.1 d j = w.1 d j) ∧ 0 ≤ (g_ST_orderByDistance_5 G x c n w od q).2.toInt ∧ (g_ST_orderByDistance_5 G x c n w od q).2.toInt ≤ 16 := by
  intro n
  induction n with
  | zero => intro w od q _ ho h0 h1 h2 h3; exact ⟨ho, rfl, fun _ _ _ => rfl, h0, by show od.toInt ≤ 16; omega⟩
  | succ n ih =>
    intro w od q hR ho h0 h1 h2 h3
    rw [g_ST_orderByDistance_5]
    cases c9 : zc .ge q 16
    · have hcc : ¬ (16 : Int) ≤ q.toInt := of_decide_eq_false (z_ge c9).symm
      have hq : zIx q 16 := ⟨h2, by omega⟩
      have hi1 := z_inc (a := q) (by omega) (by omega)
      have hi2 := z_inc (a := od) (by omega) (by omega)
      simp only [cond_false]
      generalize yN _ = b
      cases b
      · have k := ih (e_ST_putInOrder q od (wD w (38 + q.toNatClampNeg) (gD G x (yd (e_Ta_placeAt c q w)) (w.2.1 (38 + q.toNatClampNeg) 0, w.2.1 (38 + q.toNatClampNeg) 1)))) (od + Int32.ofInt 1) (q + Int32.ofInt 1) (yRk_J (yRk_D hR) (jf_ST_putInOrder ..)) (ho_put hq ho h0 (by omega)) (by omega) (by omega) (by omega) (by omega)
        have ej := congrArg Prod.snd (jf_ST_putInOrder q od (wD w (38 + q.toNatClampNeg) (gD G x (yd (e_Ta_placeAt c q w)) (w.2.1 (38 + q.toNatClampNeg) 0, w.2.1 (38 + q.toNatClampNeg) 1))))
        refine ⟨k.1, k.2.1.trans ej, fun d j hd => (k.2.2.1 d j hd).trans ?_, k.2.2.2⟩
        rw [yKi (kf_ST_putInOrder ..) (by unfold ySt ySt; rw [show Nat.beq d 13 = false from nbe hd]; rfl)]
        rfl
      · exact ih _ _ _ hR ho h0 (by omega) (by omega) (by omega)
    · exact ⟨ho, rfl, fun _ _ _ => rfl, h0, by show od.toInt ≤ 16; omega⟩
theorem od_ok {G : List zC} {x c : Nat} {w : yW} (hR : yRk w G) (ho : ∀ j, j < 16 → zIx (w.1 13 j) 16) : (∀ j, j < 16 → zIx ((e_ST_orderByDistance G x c w).1.1 13 j) 16) ∧ (e_ST_orderByDistance G x c w).1.2.2 = w.2.2 ∧ (∀ d j, d ≠ 13 → (e_ST_orderByDistance G x c w).1.1 d j = w.1 d j) ∧ 0 ≤ (e_ST_orderByDistance G x c w).2.toInt ∧ (e_ST_orderByDistance G x c w).2.toInt ≤ 16 := od_5 17 w 0 0 hR ho (by decide) (by decide) (by decide) (by decide)
def g_ST_nearest_49 (t ka od : Int32) : Nat → yW → Int32 → yW
  | 0, w, q => w
  | n + 1, w, q => (bif zc .ge q ka then w else (bif zc .ge q od then w else g_ST_nearest_49 t ka od  n (e_ST_addAnswer (w.1 13 q.toNatClampNeg) w) (q + Int32.ofInt 1)))
set_option maxRecDepth 100000 in
theorem t_ST_nearest_49 {fr lo sz : Nat} {r : Option Value × zH} {G : List zC} (t ka od : Int32) (hod : od.toInt ≤ 16) (hlo : 185 ≤ lo) : ∀ (n : Nat) (w : yW) (q : Int32) (hn0 : 0 ≤ (w.1 0 7).toInt) (h0 : 0 ≤ q.toInt) (h1 : q.toInt ≤ 16) (hn : 16 < q.toInt + n) (k : zRun (fr + 6) lo none M_ST_nearest (78, [(0, .ref 0), (1, .int t), (2, .int ka), (3, .int od)], []) (yhp (g_ST_nearest_49 t ka od n w q) G sz) r), zRun (fr + 6) lo none M_ST_nearest (49, [(0, .ref 0), (1, .int t), (2, .int ka), (3, .int od), (4, .int q)], []) (yhp w G sz) r := by
  intro n
  induction n with
  | zero => intro w q hn0 h0 h1 hn k; exfalso; omega
  | succ n ih =>
    intro w q hn0 h0 h1 hn k
    rw [g_ST_nearest_49] at k
    refine zeN (q := ((52, [(0, .ref 0), (1, .int t), (2, .int ka), (3, .int od), (4, .int q)], [.int ka, .int q]), yhp w G sz)) 2 rfl ?_
    refine zbc (q1 := (78, [(0, .ref 0), (1, .int t), (2, .int ka), (3, .int od), (4, .int q)], [])) (q2 := (55, [(0, .ref 0), (1, .int t), (2, .int ka), (3, .int od), (4, .int q)], [])) (cB := zc .ge q ka) (off := 26) (lv := [(0, .ref 0), (1, .int t), (2, .int ka), (3, .int od), (4, .int q)]) (st := []) rfl rfl rfl rfl rfl (fun c52 => ?_) (fun c52 => ?_)
    · rw [c52] at k
      refine zeS [(0, .ref 0), (1, .int t), (2, .int ka), (3, .int od)] (zsub_pick [0, 1, 2, 3] rfl rfl) ?_
      exact k
    · rw [c52] at k
      refine zeN (q := ((58, [(0, .ref 0), (1, .int t), (2, .int ka), (3, .int od), (4, .int q)], [.int od, .int q]), yhp w G sz)) 2 rfl ?_
      refine zbc (q1 := (78, [(0, .ref 0), (1, .int t), (2, .int ka), (3, .int od), (4, .int q)], [])) (q2 := (61, [(0, .ref 0), (1, .int t), (2, .int ka), (3, .int od), (4, .int q)], [])) (cB := zc .ge q od) (off := 20) (lv := [(0, .ref 0), (1, .int t), (2, .int ka), (3, .int od), (4, .int q)]) (st := []) rfl rfl rfl rfl rfl (fun c58 => ?_) (fun c58 => ?_)
      · rw [c58] at k
        refine zeS [(0, .ref 0), (1, .int t), (2, .int ka), (3, .int od)] (zsub_pick [0, 1, 2, 3] rfl rfl) ?_
        exact k
      · rw [c58] at k
        have hcc := of_decide_eq_false (z_ge c58).symm
        have hq : zIx q 16 := ⟨h0, by omega⟩
        have hi1 := z_inc (a := q) (by omega) (by omega)
        refine zeN (q := ((63, [(0, .ref 0), (1, .int t), (2, .int ka), (3, .int od), (4, .int q)], [.ref 0, .ref 0]), yhp w G sz)) 2 rfl ?_
        refine ygf (kk := .inl (.ref 13)) (v := .ref 13) rfl rfl rfl rfl rfl rfl rfl ?_
        refine zeN (q := ((68, [(0, .ref 0), (1, .int t), (2, .int ka), (3, .int od), (4, .int q)], [.int q, .ref 13, .ref 0]), yhp w G sz)) 1 rfl ?_
        refine yia (N := 16) rfl rfl rfl hq ?_
        refine zec 1 (M' := M_ST_addAnswer) (qq := ([.ref 0, .int (w.1 13 q.toNatClampNeg)], [])) (s' := (72, [(0, .ref 0), (1, .int t), (2, .int ka), (3, .int od), (4, .int q)], [])) rfl rfl (fun _ => rfl) rfl rfl (zhk rfl (zrc_ok (yhp_o rfl)) rfl) (r_ST_addAnswer (w.1 13 q.toNatClampNeg) _ hn0 (by omega)) rfl ?_
        refine zeN (q := ((49, [(4, .int (q + Int32.ofInt 1)), (0, .ref 0), (1, .int t), (2, .int ka), (3, .int od)], []), yhp (e_ST_addAnswer (w.1 13 q.toNatClampNeg) w) G sz)) 2 rfl ?_
        refine zeS [(0, .ref 0), (1, .int t), (2, .int ka), (3, .int od), (4, .int (q + Int32.ofInt 1))] (zsub_pick [1, 2, 3, 4, 0] rfl rfl) ?_
        exact ih (e_ST_addAnswer (w.1 13 q.toNatClampNeg) w) (q + Int32.ofInt 1) (v_ST_addAnswer hn0) (by omega) (by omega) (by omega) k
theorem ne_49 {t ka od : Int32} : ∀ (n : Nat) (w : yW) (q : Int32), (g_ST_nearest_49 t ka od n w q).2 = w.2 ∧ ∀ d j, d ≠ 0 → d ≠ 9 → (g_ST_nearest_49 t ka od n w q).1 d j = w.1 d j := by
  intro n
  induction n with
  | zero => intro w q; exact ⟨rfl, fun _ _ _ _ => rfl⟩
  | succ n ih =>
    intro w q
    rw [g_ST_nearest_49]
    generalize zc _ _ _ = b
    cases b
    · simp only [cond_false]
      generalize zc _ _ _ = b2
      cases b2
      · have k := ih (e_ST_addAnswer (w.1 13 q.toNatClampNeg) w) (q + Int32.ofInt 1)
        refine ⟨k.1.trans (jf_ST_addAnswer ..), fun d j h0 h9 => (k.2 d j h0 h9).trans ?_⟩
        refine yKi (kf_ST_addAnswer ..) ?_
        unfold ySt ySt ySt
        rw [show Nat.beq d 0 = false from nbe h0, show Nat.beq d 9 = false from nbe h9]
        rfl
      · exact ⟨rfl, fun _ _ _ _ => rfl⟩
    · exact ⟨rfl, fun _ _ _ _ => rfl⟩
def g_ST_nearest_78 (G : List zC) (t ka od : Int32) (w : yW)  : yW := (bif zc .ge od ka then wI w 0 8 (e_ST_readsWithin G (yd (w.2.2 0 5)) t (38 + (w.1 13 (ka - 1).toNatClampNeg).toNatClampNeg) w) else wI w 0 8 ((e_In_size (20 + 12 * t.toNatClampNeg) w) + od))
set_option maxRecDepth 100000 in
theorem t_ST_nearest_78 {fr lo sz : Nat} {r : Option Value × zH} (G : List zC) (t ka od : Int32) (w : yW)  (ht : zIx t 2) (hk1 : zIx (ka - 1) 16) (ho : ∀ j, j < 16 → zIx (w.1 13 j) 16) (hR2 : yRk w G) (hFn2 : yN (w.2.2 0 5) = false) (hI2 : yIn w (20 + 12 * t.toNatClampNeg)) (hlo : 185 ≤ lo) (k : zRun (fr + 6) lo none M_ST_nearest (130, [(0, .ref 0), (1, .int t), (2, .int ka), (3, .int od)], []) (yhp (g_ST_nearest_78 G t ka od w ) G sz) r) : zRun (fr + 6) lo none M_ST_nearest (78, [(0, .ref 0), (1, .int t), (2, .int ka), (3, .int od)], []) (yhp w G sz) r := by
  unfold g_ST_nearest_78 at k
  have ho1 := ho _ (zIx_n2 hk1)
  have hF2 := yRk_n hR2 hFn2
  refine zeN (q := ((80, [(0, .ref 0), (1, .int t), (2, .int ka), (3, .int od)], [.int ka, .int od]), yhp w G sz)) 2 rfl ?_
  refine zbc (q1 := (101, [(0, .ref 0), (1, .int t), (2, .int ka), (3, .int od)], [])) (q2 := (83, [(0, .ref 0), (1, .int t), (2, .int ka), (3, .int od)], [])) (cB := zc .ge od ka) (off := 21) (lv := [(0, .ref 0), (1, .int t), (2, .int ka), (3, .int od)]) (st := []) rfl rfl rfl rfl rfl (fun c80 => ?_) (fun c80 => ?_)
  · rw [c80] at k
    refine zeN (q := ((104, [(0, .ref 0), (1, .int t), (2, .int ka), (3, .int od)], [.ref 0, .ref 0, .ref 0]), yhp w G sz)) 3 rfl ?_
    refine ygf (kk := .inr 2) (v := yrv (w.2.2 0 5)) rfl rfl rfl rfl rfl rfl rfl ?_
    rw [yrv_nn hFn2]
    refine ygb rfl rfl rfl rfl hF2 ?_
    refine zeN (q := ((112, [(0, .ref 0), (1, .int t), (2, .int ka), (3, .int od)], [.ref 0, .int t, .ref ((yd (w.2.2 0 5)) + 3), .ref 0, .ref 0]), yhp w G sz)) 2 rfl ?_
    refine ygf (kk := .inl (.ref 12)) (v := .ref 12) rfl rfl rfl rfl rfl rfl rfl ?_
    refine zeN (q := ((116, [(0, .ref 0), (1, .int t), (2, .int ka), (3, .int od)], [.ref 0, .ref 12, .int t, .ref ((yd (w.2.2 0 5)) + 3), .ref 0, .ref 0]), yhp w G sz)) 1 rfl ?_
    refine ygf (kk := .inl (.ref 13)) (v := .ref 13) rfl rfl rfl rfl rfl rfl rfl ?_
    refine zeN (q := ((122, [(0, .ref 0), (1, .int t), (2, .int ka), (3, .int od)], [.int (ka - 1), .ref 13, .ref 12, .int t, .ref ((yd (w.2.2 0 5)) + 3), .ref 0, .ref 0]), yhp w G sz)) 3 rfl ?_
    refine yia (N := 16) rfl rfl rfl hk1 ?_
    refine yfD rfl rfl ho1 ?_
    refine zec 1 (M' := M_ST_readsWithin) (qq := ([.ref 0, .ref ((yd (w.2.2 0 5)) + 3), .int t, .ref (38 + (w.1 13 (ka - 1).toNatClampNeg).toNatClampNeg)], [.ref 0])) (s' := (127, [(0, .ref 0), (1, .int t), (2, .int ka), (3, .int od)], [.int (e_ST_readsWithin G (yd (w.2.2 0 5)) t (38 + (w.1 13 (ka - 1).toNatClampNeg).toNatClampNeg) w), .ref 0])) rfl rfl (fun _ => rfl) rfl rfl (zhk rfl (zrc_ok (yhp_o rfl)) rfl) (r_ST_readsWithin G _ t _ _ hF2 ht (yDs ho1) hI2 hR2 (by omega)) rfl ?_
    refine ypI (v := e_ST_readsWithin G (yd (w.2.2 0 5)) t (38 + (w.1 13 (ka - 1).toNatClampNeg).toNatClampNeg) w) rfl rfl rfl rfl rfl rfl rfl ?_
    exact k
  · rw [c80] at k
    refine zeN (q := ((85, [(0, .ref 0), (1, .int t), (2, .int ka), (3, .int od)], [.ref 0, .ref 0]), yhp w G sz)) 2 rfl ?_
    refine ygf (kk := .inl (.ref 3)) (v := .ref 3) rfl rfl rfl rfl rfl rfl rfl ?_
    refine zeN (q := ((89, [(0, .ref 0), (1, .int t), (2, .int ka), (3, .int od)], [.int t, .ref 3, .ref 0]), yhp w G sz)) 1 rfl ?_
    refine yfI rfl rfl ht ?_
    refine zec 1 (M' := M_In_size) (qq := ([.ref (20 + 12 * t.toNatClampNeg)], [.ref 0])) (s' := (93, [(0, .ref 0), (1, .int t), (2, .int ka), (3, .int od)], [.int (e_In_size (20 + 12 * t.toNatClampNeg) w), .ref 0])) rfl rfl (fun _ => rfl) rfl rfl (zhk rfl (zrc_ok (yhp_o (yId_t ht).1)) rfl) (r_In_size _ _ (yId_t ht) (by omega)) rfl ?_
    refine zeN (q := ((95, [(0, .ref 0), (1, .int t), (2, .int ka), (3, .int od)], [.int ((e_In_size (20 + 12 * t.toNatClampNeg) w) + od), .ref 0]), yhp w G sz)) 2 rfl ?_
    refine ypI (v := (e_In_size (20 + 12 * t.toNatClampNeg) w) + od) rfl rfl rfl rfl rfl rfl rfl ?_
    refine zeN (q := ((130, [(0, .ref 0), (1, .int t), (2, .int ka), (3, .int od)], []), yhp (wI w 0 8 ((e_In_size (20 + 12 * t.toNatClampNeg) w) + od)) G sz)) 1 rfl ?_
    exact k
def e_ST_nearest (G : List zC) (t ka : Int32) (w : yW) : yW × Int32 := (bif zc .eq (e_ST_isTable t) 0 then (w, (-1)) else (bif yN (w.2.2 0 5) then (w, (-1)) else (bif zc .lt ka 1 then (w, (-1)) else (bif zc .le ka 16 then ((g_ST_nearest_78 G t ka ((e_ST_orderByDistance G (yd ((e_ST_clearAnswers w).2.2 0 5)) (14 + 12 * t.toNatClampNeg) (e_ST_clearAnswers w)).2)  ((g_ST_nearest_49 t ka ((e_ST_orderByDistance G (yd ((e_ST_clearAnswers w).2.2 0 5)) (14 + 12 * t.toNatClampNeg) (e_ST_clearAnswers w)).2) 17 ((e_ST_orderByDistance G (yd ((e_ST_clearAnswers w).2.2 0 5)) (14 + 12 * t.toNatClampNeg) (e_ST_clearAnswers w)).1) 0)) ), ((g_ST_nearest_78 G t ka ((e_ST_orderByDistance G (yd ((e_ST_clearAnswers w).2.2 0 5)) (14 + 12 * t.toNatClampNeg) (e_ST_clearAnswers w)).2)  ((g_ST_nearest_49 t ka ((e_ST_orderByDistance G (yd ((e_ST_clearAnswers w).2.2 0 5)) (14 + 12 * t.toNatClampNeg) (e_ST_clearAnswers w)).2) 17 ((e_ST_orderByDistance G (yd ((e_ST_clearAnswers w).2.2 0 5)) (14 + 12 * t.toNatClampNeg) (e_ST_clearAnswers w)).1) 0)) )).1 0 7) else (w, (-1))))))
set_option maxRecDepth 100000 in
theorem r_ST_nearest {fr lo sz : Nat} (G : List zC) (t ka : Int32) (w : yW) (hI : zIx t 2 → yIn w (20 + 12 * t.toNatClampNeg)) (hR : yRk w G) (ho : ∀ j, j < 16 → zIx (w.1 13 j) 16) (hlo : 209 ≤ lo) : zAns (fr + 7) lo 67 [.ref 0, .int t, .int ka] (yhp w G sz) (some (.int ((e_ST_nearest G t ka w).2)), yhp ((e_ST_nearest G t ka w).1) G sz) := by
  unfold e_ST_nearest
  refine zeb (fr := fr + 6) (M := M_ST_nearest) rfl (Nat.le_trans (by decide) hlo) rfl ?_
  have e0 : mL M_ST_nearest = 5 := rfl
  refine zeN (q := ((1, [(0, .ref 0), (1, .int t), (2, .int ka)], [.int t]), yhp w G sz)) 1 rfl ?_
  refine zec 0 (M' := M_ST_isTable) (qq := ([.int t], [])) (s' := (4, [(0, .ref 0), (1, .int t), (2, .int ka)], [.int (e_ST_isTable t)])) rfl rfl (fun _ => rfl) rfl rfl rfl (r_ST_isTable t (by omega)) rfl ?_
  refine zbc (q1 := (25, [(0, .ref 0), (1, .int t), (2, .int ka)], [])) (q2 := (7, [(0, .ref 0), (1, .int t), (2, .int ka)], [])) (cB := zc .eq (e_ST_isTable t) 0) (off := 21) (lv := [(0, .ref 0), (1, .int t), (2, .int ka)]) (st := []) rfl rfl rfl rfl rfl (fun c4 => ?_) (fun c4 => ?_)
  · rw [c4]
    refine zeN (q := ((26, [(0, .ref 0), (1, .int t), (2, .int ka)], [.int ((-1))]), yhp w G sz)) 1 rfl ?_
    exact zer rfl rfl
  · rw [c4]
    have ht := z_sTn (b := true) c4
    refine zeN (q := ((8, [(0, .ref 0), (1, .int t), (2, .int ka)], [.ref 0]), yhp w G sz)) 1 rfl ?_
    refine ygf (kk := .inr 2) (v := yrv (w.2.2 0 5)) rfl rfl rfl rfl rfl rfl rfl ?_
    refine zbc (q1 := (25, [(0, .ref 0), (1, .int t), (2, .int ka)], [])) (q2 := (14, [(0, .ref 0), (1, .int t), (2, .int ka)], [])) (cB := yN (w.2.2 0 5)) (off := 14) (lv := [(0, .ref 0), (1, .int t), (2, .int ka)]) (st := []) rfl rfl (ybnn (w.2.2 0 5)) rfl rfl (fun c11 => ?_) (fun c11 => ?_)
    · rw [c11]
      refine zeN (q := ((26, [(0, .ref 0), (1, .int t), (2, .int ka)], [.int ((-1))]), yhp w G sz)) 1 rfl ?_
      exact zer rfl rfl
    · rw [c11]
      have hFw : yN (w.2.2 0 5) = false := c11
      refine zeN (q := ((16, [(0, .ref 0), (1, .int t), (2, .int ka)], [.int 1, .int ka]), yhp w G sz)) 2 rfl ?_
      refine zbc (q1 := (25, [(0, .ref 0), (1, .int t), (2, .int ka)], [])) (q2 := (19, [(0, .ref 0), (1, .int t), (2, .int ka)], [])) (cB := zc .lt ka 1) (off := 9) (lv := [(0, .ref 0), (1, .int t), (2, .int ka)]) (st := []) rfl rfl rfl rfl rfl (fun c16 => ?_) (fun c16 => ?_)
      · rw [c16]
        refine zeN (q := ((26, [(0, .ref 0), (1, .int t), (2, .int ka)], [.int ((-1))]), yhp w G sz)) 1 rfl ?_
        exact zer rfl rfl
      · rw [c16]
        refine zeN (q := ((22, [(0, .ref 0), (1, .int t), (2, .int ka)], [.int 16, .int ka]), yhp w G sz)) 2 rfl ?_
        refine zbc (q1 := (27, [(0, .ref 0), (1, .int t), (2, .int ka)], [])) (q2 := (25, [(0, .ref 0), (1, .int t), (2, .int ka)], [])) (cB := zc .le ka 16) (off := 5) (lv := [(0, .ref 0), (1, .int t), (2, .int ka)]) (st := []) rfl rfl rfl rfl rfl (fun c22 => ?_) (fun c22 => ?_)
        · rw [c22]
          have kk1 := of_decide_eq_false ((zc_lt ka 1).symm.trans c16)
          have kk2 := of_decide_eq_true ((zc_le ka 16).symm.trans c22)
          have kk3 : (1 : Int32).toInt = 1 := rfl
          have kk4 : (16 : Int32).toInt = 16 := rfl
          have e1 : (ka - 1).toInt = ka.toInt - 1 := z_sub (by show _ ≤ _ - (1 : Int); omega) (by show _ - (1 : Int) < _; omega)
          have hk1 : zIx (ka - 1) 16 := by unfold zIx; rw [e1]; omega
          refine zeN (q := ((28, [(0, .ref 0), (1, .int t), (2, .int ka)], [.ref 0]), yhp w G sz)) 1 rfl ?_
          refine zec 1 (M' := M_ST_clearAnswers) (qq := ([.ref 0], [])) (s' := (31, [(0, .ref 0), (1, .int t), (2, .int ka)], [])) rfl rfl (fun _ => rfl) rfl rfl (zhk rfl (zrc_ok (yhp_o rfl)) rfl) (r_ST_clearAnswers _ (by omega)) rfl ?_
          have hRs : yRk (e_ST_clearAnswers w) G := yRk_J hR (jf_ST_clearAnswers ..)
          have hFn : yN ((e_ST_clearAnswers w).2.2 0 5) = false := hFw
          have hF := yRk_n hRs hFn
          have hos : ∀ j, j < 16 → zIx ((e_ST_clearAnswers w).1 13 j) 16 := fun j hj => by unfold e_ST_clearAnswers; rw [wI_ne (by decide), wI_ne (by decide)]; exact ho j hj
          have odk := od_ok (x := yd ((e_ST_clearAnswers w).2.2 0 5)) (c := 14 + 12 * t.toNatClampNeg) hRs hos
          refine zeN (q := ((33, [(0, .ref 0), (1, .int t), (2, .int ka)], [.ref 0, .ref 0]), yhp (e_ST_clearAnswers w) G sz)) 2 rfl ?_
          refine ygf (kk := .inr 2) (v := yrv ((e_ST_clearAnswers w).2.2 0 5)) rfl rfl rfl rfl rfl rfl rfl ?_
          refine zeN (q := ((37, [(0, .ref 0), (1, .int t), (2, .int ka)], [.ref 0, yrv ((e_ST_clearAnswers w).2.2 0 5), .ref 0]), yhp (e_ST_clearAnswers w) G sz)) 1 rfl ?_
          refine ygf (kk := .inl (.ref 1)) (v := .ref 1) rfl rfl rfl rfl rfl rfl rfl ?_
          refine zeN (q := ((41, [(0, .ref 0), (1, .int t), (2, .int ka)], [.int t, .ref 1, yrv ((e_ST_clearAnswers w).2.2 0 5), .ref 0]), yhp (e_ST_clearAnswers w) G sz)) 1 rfl ?_
          refine yfP rfl rfl ht ?_
          rw [yrv_nn hFn]
          refine zec 1 (M' := M_ST_orderByDistance) (qq := ([.ref 0, .ref (yd ((e_ST_clearAnswers w).2.2 0 5)), .ref (14 + 12 * t.toNatClampNeg)], [])) (s' := (45, [(0, .ref 0), (1, .int t), (2, .int ka)], [.int ((e_ST_orderByDistance G (yd ((e_ST_clearAnswers w).2.2 0 5)) (14 + 12 * t.toNatClampNeg) (e_ST_clearAnswers w)).2)])) rfl rfl (fun _ => rfl) rfl rfl (zhk rfl (zrc_ok (yhp_o rfl)) rfl) (r_ST_orderByDistance G _ _ _ hF (yTb_P ht) hRs hos (by omega)) rfl ?_
          refine zeN (q := ((46, [(3, .int ((e_ST_orderByDistance G (yd ((e_ST_clearAnswers w).2.2 0 5)) (14 + 12 * t.toNatClampNeg) (e_ST_clearAnswers w)).2)), (0, .ref 0), (1, .int t), (2, .int ka)], []), yhp ((e_ST_orderByDistance G (yd ((e_ST_clearAnswers w).2.2 0 5)) (14 + 12 * t.toNatClampNeg) (e_ST_clearAnswers w)).1) G sz)) 1 rfl ?_
          have hod := odk.2.2.2.2
          have hn0 : 0 ≤ (((e_ST_orderByDistance G (yd ((e_ST_clearAnswers w).2.2 0 5)) (14 + 12 * t.toNatClampNeg) (e_ST_clearAnswers w)).1).1 0 7).toInt := by rw [odk.2.2.1 0 7 (by decide), ca_0]; decide
          refine zeN (q := ((49, [(4, .int 0), (3, .int ((e_ST_orderByDistance G (yd ((e_ST_clearAnswers w).2.2 0 5)) (14 + 12 * t.toNatClampNeg) (e_ST_clearAnswers w)).2)), (0, .ref 0), (1, .int t), (2, .int ka)], []), yhp ((e_ST_orderByDistance G (yd ((e_ST_clearAnswers w).2.2 0 5)) (14 + 12 * t.toNatClampNeg) (e_ST_clearAnswers w)).1) G sz)) 2 rfl ?_
          refine zeS [(0, .ref 0), (1, .int t), (2, .int ka), (3, .int ((e_ST_orderByDistance G (yd ((e_ST_clearAnswers w).2.2 0 5)) (14 + 12 * t.toNatClampNeg) (e_ST_clearAnswers w)).2)), (4, .int 0)] (zsub_pick [2, 3, 4, 1, 0] rfl rfl) ?_
          refine t_ST_nearest_49 t ka ((e_ST_orderByDistance G (yd ((e_ST_clearAnswers w).2.2 0 5)) (14 + 12 * t.toNatClampNeg) (e_ST_clearAnswers w)).2) hod (by omega) 17 ((e_ST_orderByDistance G (yd ((e_ST_clearAnswers w).2.2 0 5)) (14 + 12 * t.toNatClampNeg) (e_ST_clearAnswers w)).1) 0 hn0 (by decide) (by decide) (by decide) ?_
          have kn := ne_49 (t := t) (ka := ka) (od := (e_ST_orderByDistance G (yd ((e_ST_clearAnswers w).2.2 0 5)) (14 + 12 * t.toNatClampNeg) (e_ST_clearAnswers w)).2) 17 (e_ST_orderByDistance G (yd ((e_ST_clearAnswers w).2.2 0 5)) (14 + 12 * t.toNatClampNeg) (e_ST_clearAnswers w)).1 0
          have ho2 : ∀ j, j < 16 → zIx (((g_ST_nearest_49 t ka ((e_ST_orderByDistance G (yd ((e_ST_clearAnswers w).2.2 0 5)) (14 + 12 * t.toNatClampNeg) (e_ST_clearAnswers w)).2) 17 ((e_ST_orderByDistance G (yd ((e_ST_clearAnswers w).2.2 0 5)) (14 + 12 * t.toNatClampNeg) (e_ST_clearAnswers w)).1) 0)).1 13 j) 16 := fun j hj => by rw [kn.2 13 j (by decide) (by decide)]; exact odk.1 j hj
          have e22 : ((g_ST_nearest_49 t ka ((e_ST_orderByDistance G (yd ((e_ST_clearAnswers w).2.2 0 5)) (14 + 12 * t.toNatClampNeg) (e_ST_clearAnswers w)).2) 17 ((e_ST_orderByDistance G (yd ((e_ST_clearAnswers w).2.2 0 5)) (14 + 12 * t.toNatClampNeg) (e_ST_clearAnswers w)).1) 0)).2.2 = w.2.2 := (congrArg Prod.snd kn.1).trans odk.2.1
          have hR2 : yRk ((g_ST_nearest_49 t ka ((e_ST_orderByDistance G (yd ((e_ST_clearAnswers w).2.2 0 5)) (14 + 12 * t.toNatClampNeg) (e_ST_clearAnswers w)).2) 17 ((e_ST_orderByDistance G (yd ((e_ST_clearAnswers w).2.2 0 5)) (14 + 12 * t.toNatClampNeg) (e_ST_clearAnswers w)).1) 0)) G := yRk_2 hR e22
          have hFn2 : yN (((g_ST_nearest_49 t ka ((e_ST_orderByDistance G (yd ((e_ST_clearAnswers w).2.2 0 5)) (14 + 12 * t.toNatClampNeg) (e_ST_clearAnswers w)).2) 17 ((e_ST_orderByDistance G (yd ((e_ST_clearAnswers w).2.2 0 5)) (14 + 12 * t.toNatClampNeg) (e_ST_clearAnswers w)).1) 0)).2.2 0 5) = false := by rw [e22]; exact hFw
          have hI2 : yIn ((g_ST_nearest_49 t ka ((e_ST_orderByDistance G (yd ((e_ST_clearAnswers w).2.2 0 5)) (14 + 12 * t.toNatClampNeg) (e_ST_clearAnswers w)).2) 17 ((e_ST_orderByDistance G (yd ((e_ST_clearAnswers w).2.2 0 5)) (14 + 12 * t.toNatClampNeg) (e_ST_clearAnswers w)).1) 0)) (20 + 12 * t.toNatClampNeg) := ⟨fun j hj => by rw [kn.2 _ _ (by omega) (by omega), odk.2.2.1 _ _ (by omega)]; exact (yIn_ca (hI ht) (by omega)).1 j hj, by rw [kn.2 _ _ (by omega) (by omega), odk.2.2.1 _ _ (by omega)]; exact (yIn_ca (hI ht) (by omega)).2⟩
          have ho := ho2
          refine t_ST_nearest_78 G t ka ((e_ST_orderByDistance G (yd ((e_ST_clearAnswers w).2.2 0 5)) (14 + 12 * t.toNatClampNeg) (e_ST_clearAnswers w)).2) ((g_ST_nearest_49 t ka ((e_ST_orderByDistance G (yd ((e_ST_clearAnswers w).2.2 0 5)) (14 + 12 * t.toNatClampNeg) (e_ST_clearAnswers w)).2) 17 ((e_ST_orderByDistance G (yd ((e_ST_clearAnswers w).2.2 0 5)) (14 + 12 * t.toNatClampNeg) (e_ST_clearAnswers w)).1) 0))  ht hk1 ho hR2 hFn2 hI2 (by omega) ?_
          refine zeN (q := ((131, [(0, .ref 0), (1, .int t), (2, .int ka), (3, .int ((e_ST_orderByDistance G (yd ((e_ST_clearAnswers w).2.2 0 5)) (14 + 12 * t.toNatClampNeg) (e_ST_clearAnswers w)).2))], [.ref 0]), yhp ((g_ST_nearest_78 G t ka ((e_ST_orderByDistance G (yd ((e_ST_clearAnswers w).2.2 0 5)) (14 + 12 * t.toNatClampNeg) (e_ST_clearAnswers w)).2)  ((g_ST_nearest_49 t ka ((e_ST_orderByDistance G (yd ((e_ST_clearAnswers w).2.2 0 5)) (14 + 12 * t.toNatClampNeg) (e_ST_clearAnswers w)).2) 17 ((e_ST_orderByDistance G (yd ((e_ST_clearAnswers w).2.2 0 5)) (14 + 12 * t.toNatClampNeg) (e_ST_clearAnswers w)).1) 0)) )) G sz)) 1 rfl ?_
          refine ygf (kk := .inr 0) (v := .int (((g_ST_nearest_78 G t ka ((e_ST_orderByDistance G (yd ((e_ST_clearAnswers w).2.2 0 5)) (14 + 12 * t.toNatClampNeg) (e_ST_clearAnswers w)).2)  ((g_ST_nearest_49 t ka ((e_ST_orderByDistance G (yd ((e_ST_clearAnswers w).2.2 0 5)) (14 + 12 * t.toNatClampNeg) (e_ST_clearAnswers w)).2) 17 ((e_ST_orderByDistance G (yd ((e_ST_clearAnswers w).2.2 0 5)) (14 + 12 * t.toNatClampNeg) (e_ST_clearAnswers w)).1) 0)) )).1 0 7)) rfl rfl rfl rfl rfl rfl rfl ?_
          exact zer rfl rfl
        · rw [c22]
          refine zeN (q := ((26, [(0, .ref 0), (1, .int t), (2, .int ka)], [.int ((-1))]), yhp w G sz)) 1 rfl ?_
          exact zer rfl rfl
