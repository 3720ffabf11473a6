def e_ST_placeOf (t q : Int32) (w : yW) : Option Nat := (bif zc .eq (e_ST_isTable t) 0 then none else (e_Ta_placeAt (14 + 12 * t.toNatClampNeg) q w))
set_option maxRecDepth 100000 in
theorem r_ST_placeOf {fr lo sz : Nat} {G : List zC} (t q : Int32) (w : yW)  (hlo : 43 ≤ lo) : zAns (fr + 2) lo 40 [.ref 0, .int t, .int q] (yhp w G sz) (some (yrv ((e_ST_placeOf t q w))), yhp w G sz) := by
  unfold e_ST_placeOf
  refine zeb (fr := fr + 1) (M := M_ST_placeOf) rfl (Nat.le_trans (by decide) hlo) rfl ?_
  have e0 : mL M_ST_placeOf = 3 := rfl
  refine zeN (q := ((1, [(0, .ref 0), (1, .int t), (2, .int q)], [.int t]), yhp w G sz)) 1 rfl ?_
  refine zec 0 (M' := M_ST_isTable) (qq := ([.int t], [])) (s' := (4, [(0, .ref 0), (1, .int t), (2, .int q)], [.int (e_ST_isTable t)])) rfl rfl (fun _ => rfl) rfl rfl rfl (r_ST_isTable t (by omega)) rfl ?_
  refine zbc (q1 := (20, [(0, .ref 0), (1, .int t), (2, .int q)], [])) (q2 := (7, [(0, .ref 0), (1, .int t), (2, .int q)], [])) (cB := zc .eq (e_ST_isTable t) 0) (off := 16) (lv := [(0, .ref 0), (1, .int t), (2, .int q)]) (st := []) rfl rfl rfl rfl rfl (fun c4 => ?_) (fun c4 => ?_)
  · rw [c4]
    refine zeN (q := ((21, [(0, .ref 0), (1, .int t), (2, .int q)], [.null]), yhp w G sz)) 1 rfl ?_
    exact zer rfl rfl
  · rw [c4]
    have ht := z_sTn (b := true) c4
    refine zeN (q := ((8, [(0, .ref 0), (1, .int t), (2, .int q)], [.ref 0]), yhp w G sz)) 1 rfl ?_
    refine ygf (kk := .inl (.ref 1)) (v := .ref 1) rfl rfl rfl rfl rfl rfl rfl ?_
    refine zeN (q := ((12, [(0, .ref 0), (1, .int t), (2, .int q)], [.int t, .ref 1]), yhp w G sz)) 1 rfl ?_
    refine yfP rfl rfl (by assumption) ?_
    refine zeN (q := ((14, [(0, .ref 0), (1, .int t), (2, .int q)], [.int q, .ref (14 + 12 * t.toNatClampNeg)]), yhp w G sz)) 1 rfl ?_
    refine zec 1 (M' := M_Ta_placeAt) (qq := ([.ref (14 + 12 * t.toNatClampNeg), .int q], [])) (s' := (17, [(0, .ref 0), (1, .int t), (2, .int q)], [yrv (e_Ta_placeAt (14 + 12 * t.toNatClampNeg) q w)])) rfl rfl (fun _ => rfl) rfl rfl (zhk rfl (zrc_ok (yhp_o (yTb_P ht).1)) rfl) (r_Ta_placeAt _ _ _ (yTb_P ht) (by omega)) rfl ?_
    refine zeN (q := ((21, [(0, .ref 0), (1, .int t), (2, .int q)], [yrv (e_Ta_placeAt (14 + 12 * t.toNatClampNeg) q w)]), yhp w G sz)) 1 rfl ?_
    exact zer rfl (yre (e_Ta_placeAt (14 + 12 * t.toNatClampNeg) q w))
theorem placeOf_ok {G : List zC} {w : yW} {t q : Int32} (hR : yRk w G) (x : Nat) (h : e_ST_placeOf t q w = some x) : yOk G x := by
  unfold e_ST_placeOf at h
  cases c1 : zc .eq (e_ST_isTable t) 0
  · rw [c1] at h
    exact placeAt_ok hR x h
  · rw [c1] at h
    cases h
theorem placeOf_n {G : List zC} {w : yW} {t q : Int32} (hR : yRk w G) (h : yN (e_ST_placeOf t q w) = false) : yOk G (yd (e_ST_placeOf t q w)) := placeOf_ok hR _ (yN_eq h)
theorem placeOf_s {G : List zC} {w : yW} {t q : Int32} (hR : yRk w G) (h : yS (e_ST_placeOf t q w) = true) : yOk G (yd (e_ST_placeOf t q w)) := placeOf_ok hR _ (yS_eq h)
theorem placeOf_t {w : yW} {t q : Int32} (h : yN (e_ST_placeOf t q w) = false) : zIx t 2 := by
  unfold e_ST_placeOf at h
  cases c1 : zc .eq (e_ST_isTable t) 0
  · exact z_sTn (b := true) c1
  · rw [c1] at h
    cases h
theorem yNS {o : Option Nat} (h : yS o = true) : yN o = false := by cases o with
  | none => cases h
  | some x => rfl
def e_ST_clearAnswers  (w : yW) : yW := wI (wI w 0 7 0) 0 8 0
set_option maxRecDepth 100000 in
theorem r_ST_clearAnswers {fr lo sz : Nat} {G : List zC}  (w : yW)  (hlo : 20 ≤ lo) : zAns (fr + 1) lo 45 [.ref 0] (yhp w G sz) (none, yhp ((e_ST_clearAnswers  w)) G sz) := by
  unfold e_ST_clearAnswers
  refine zeb (fr := fr + 0) (M := M_ST_clearAnswers) rfl (Nat.le_trans (by decide) hlo) rfl ?_
  have e0 : mL M_ST_clearAnswers = 1 := rfl
  refine zeN (q := ((2, [(0, .ref 0)], [.int 0, .ref 0]), yhp w G sz)) 2 rfl ?_
  refine ypI (v := 0) rfl rfl rfl rfl rfl rfl rfl ?_
  refine zeN (q := ((7, [(0, .ref 0)], [.int 0, .ref 0]), yhp (wI w 0 7 0) G sz)) 2 rfl ?_
  refine ypI (v := 0) rfl rfl rfl rfl rfl rfl rfl ?_
  exact zer rfl rfl
set_option maxRecDepth 100000 in
theorem kf_ST_clearAnswers  (w : yW)  : yK [(0, some 7), (0, some 8)] w (e_ST_clearAnswers  w ) := by unfold e_ST_clearAnswers; exact (yK_wI rfl (yK_wI rfl yK_rfl))
theorem jf_ST_clearAnswers  (w : yW)  : (e_ST_clearAnswers  w ).2 = w.2 := by unfold e_ST_clearAnswers; exact (yJ_wI (yJ_wI rfl))
def e_ST_addAnswer (a : Int32) (w : yW) : yW := (bif zc .ge (w.1 0 7) (Int32.ofNat 256) then w else wI (wI w 9 (w.1 0 7).toNatClampNeg a) 0 7 (((wI w 9 (w.1 0 7).toNatClampNeg a).1 0 7) + 1))
set_option maxRecDepth 100000 in
theorem r_ST_addAnswer {fr lo sz : Nat} {G : List zC} (a : Int32) (w : yW) (hn0 : 0 ≤ (w.1 0 7).toInt) (hlo : 21 ≤ lo) : zAns (fr + 1) lo 66 [.ref 0, .int a] (yhp w G sz) (none, yhp ((e_ST_addAnswer a w)) G sz) := by
  unfold e_ST_addAnswer
  refine zeb (fr := fr + 0) (M := M_ST_addAnswer) rfl (Nat.le_trans (by decide) hlo) rfl ?_
  have e0 : mL M_ST_addAnswer = 2 := rfl
  refine zeN (q := ((1, [(0, .ref 0), (1, .int a)], [.ref 0]), yhp w G sz)) 1 rfl ?_
  refine ygf (kk := .inr 0) (v := .int (w.1 0 7)) rfl rfl rfl rfl rfl rfl rfl ?_
  refine zeN (q := ((5, [(0, .ref 0), (1, .int a)], [.ref 0, .int (w.1 0 7)]), yhp w G sz)) 1 rfl ?_
  refine ygf (kk := .inl (.ref 9)) (v := .ref 9) rfl rfl rfl rfl rfl rfl rfl ?_
  refine yln (N := 256) rfl rfl rfl rfl ?_
  refine zbc (q1 := (32, [(0, .ref 0), (1, .int a)], [])) (q2 := (12, [(0, .ref 0), (1, .int a)], [])) (cB := zc .ge (w.1 0 7) (Int32.ofNat 256)) (off := 23) (lv := [(0, .ref 0), (1, .int a)]) (st := []) rfl rfl rfl rfl rfl (fun c9 => ?_) (fun c9 => ?_)
  · rw [c9]
    exact zer rfl rfl
  · rw [c9]
    have a1 : ¬ (256 : Int) ≤ (w.1 0 7).toInt := of_decide_eq_false (z_ge c9).symm
    have hz : zIx (w.1 0 7) 256 := ⟨hn0, by omega⟩
    refine zeN (q := ((13, [(0, .ref 0), (1, .int a)], [.ref 0]), yhp w G sz)) 1 rfl ?_
    refine ygf (kk := .inl (.ref 9)) (v := .ref 9) rfl rfl rfl rfl rfl rfl rfl ?_
    refine zeN (q := ((17, [(0, .ref 0), (1, .int a)], [.ref 0, .ref 9]), yhp w G sz)) 1 rfl ?_
    refine ygf (kk := .inr 0) (v := .int (w.1 0 7)) rfl rfl rfl rfl rfl rfl rfl ?_
    refine zeN (q := ((21, [(0, .ref 0), (1, .int a)], [.int a, .int (w.1 0 7), .ref 9]), yhp w G sz)) 1 rfl ?_
    refine yis (N := 256) rfl rfl rfl (by assumption) ?_
    refine zeN (q := ((24, [(0, .ref 0), (1, .int a)], [.ref 0, .ref 0]), yhp (wI w 9 (w.1 0 7).toNatClampNeg a) G sz)) 2 rfl ?_
    refine ygf (kk := .inr 0) (v := .int ((wI w 9 (w.1 0 7).toNatClampNeg a).1 0 7)) rfl rfl rfl rfl rfl rfl rfl ?_
    refine zeN (q := ((29, [(0, .ref 0), (1, .int a)], [.int (((wI w 9 (w.1 0 7).toNatClampNeg a).1 0 7) + 1), .ref 0]), yhp (wI w 9 (w.1 0 7).toNatClampNeg a) G sz)) 2 rfl ?_
    refine ypI (v := ((wI w 9 (w.1 0 7).toNatClampNeg a).1 0 7) + 1) rfl rfl rfl rfl rfl rfl rfl ?_
    exact zer rfl rfl
set_option maxRecDepth 100000 in
theorem kf_ST_addAnswer (a : Int32) (w : yW)  : yK [(0, some 7), (9, none)] w (e_ST_addAnswer a w ) := by unfold e_ST_addAnswer; exact (yK_if yK_rfl (yK_wI rfl (yK_wI rfl yK_rfl)))
theorem jf_ST_addAnswer (a : Int32) (w : yW)  : (e_ST_addAnswer a w ).2 = w.2 := by unfold e_ST_addAnswer; exact (yJ_if rfl (yJ_wI (yJ_wI rfl)))
theorem v_ST_addAnswer {a : Int32} {w : yW} (h0 : 0 ≤ (w.1 0 7).toInt) : 0 ≤ ((e_ST_addAnswer a w).1 0 7).toInt := by
  unfold e_ST_addAnswer
  cases c : zc .ge (w.1 0 7) (Int32.ofNat 256)
  · have a1 : ¬ (256 : Int) ≤ (w.1 0 7).toInt := of_decide_eq_false (z_ge c).symm
    show 0 ≤ ((wI (wI w 9 (w.1 0 7).toNatClampNeg a) 0 7 _).1 0 7).toInt
    rw [wI_self, wI_ne (by decide)]
    have : (w.1 0 7 + 1).toInt = (w.1 0 7).toInt + 1 := z_add (by show _ ≤ _ + (1 : Int); omega) (by show _ + (1 : Int) < _; omega)
    omega
  · exact h0
def g_ST_addPairs_2 (a fo : Int32) : Nat → yW → Int32 → yW
  | 0, w, q => w
  | n + 1, w, q => (bif zc .ge q 16 then w else (bif zc .eq (e_ST_hasBit fo q) 0 then g_ST_addPairs_2 a fo  n w (q + Int32.ofInt 1) else g_ST_addPairs_2 a fo  n (e_ST_addAnswer ((16 * a) + q) w) (q + Int32.ofInt 1)))
set_option maxRecDepth 100000 in
theorem t_ST_addPairs_2 {fr lo sz : Nat} {r : Option Value × zH} {G : List zC} (a fo : Int32)  (hlo : 21 ≤ lo) : ∀ (n : Nat) (w : yW) (q : Int32) (hn0 : 0 ≤ (w.1 0 7).toInt) (h0 : 0 ≤ q.toInt) (h1 : q.toInt ≤ 16) (hn : 16 < q.toInt + n) (k : zRun (fr + 1) lo none M_ST_addPairs (32, [(0, .ref 0), (1, .int a), (2, .int fo)], []) (yhp (g_ST_addPairs_2 a fo n w q) G sz) r), zRun (fr + 1) lo none M_ST_addPairs (2, [(0, .ref 0), (1, .int a), (2, .int fo), (3, .int q)], []) (yhp w G sz) r := by
  intro n
  induction n with
  | zero => intro w q hn0 h0 h1 hn k; exfalso; omega
  | succ n ih =>
    intro w q hn0 h0 h1 hn k
    rw [g_ST_addPairs_2] at k
    refine zeN (q := ((5, [(0, .ref 0), (1, .int a), (2, .int fo), (3, .int q)], [.int 16, .int q]), yhp w G sz)) 2 rfl ?_
    refine zbc (q1 := (32, [(0, .ref 0), (1, .int a), (2, .int fo), (3, .int q)], [])) (q2 := (8, [(0, .ref 0), (1, .int a), (2, .int fo), (3, .int q)], [])) (cB := zc .ge q 16) (off := 27) (lv := [(0, .ref 0), (1, .int a), (2, .int fo), (3, .int q)]) (st := []) rfl rfl rfl rfl rfl (fun c5 => ?_) (fun c5 => ?_)
    · rw [c5] at k
      refine zeS [(0, .ref 0), (1, .int a), (2, .int fo)] (zsub_pick [0, 1, 2] rfl rfl) ?_
      exact k
    · rw [c5] at k
      have hcc : ¬ (16 : Int) ≤ q.toInt := of_decide_eq_false (z_ge c5).symm
      have hq : zIx q 16 := ⟨h0, by omega⟩
      have hi1 := z_inc (a := q) (by omega) (by omega)
      refine zeN (q := ((10, [(0, .ref 0), (1, .int a), (2, .int fo), (3, .int q)], [.int q, .int fo]), yhp w G sz)) 2 rfl ?_
      refine zec 0 (M' := M_ST_hasBit) (qq := ([.int fo, .int q], [])) (s' := (13, [(0, .ref 0), (1, .int a), (2, .int fo), (3, .int q)], [.int (e_ST_hasBit fo q)])) rfl rfl (fun _ => rfl) rfl rfl rfl (r_ST_hasBit fo q (by omega)) rfl ?_
      refine zbc (q1 := (26, [(0, .ref 0), (1, .int a), (2, .int fo), (3, .int q)], [])) (q2 := (16, [(0, .ref 0), (1, .int a), (2, .int fo), (3, .int q)], [])) (cB := zc .eq (e_ST_hasBit fo q) 0) (off := 13) (lv := [(0, .ref 0), (1, .int a), (2, .int fo), (3, .int q)]) (st := []) rfl rfl rfl rfl rfl (fun c13 => ?_) (fun c13 => ?_)
      · rw [c13] at k
        refine zeN (q := ((2, [(3, .int (q + Int32.ofInt 1)), (0, .ref 0), (1, .int a), (2, .int fo)], []), yhp w G sz)) 2 rfl ?_
        refine zeS [(0, .ref 0), (1, .int a), (2, .int fo), (3, .int (q + Int32.ofInt 1))] (zsub_pick [1, 2, 3, 0] rfl rfl) ?_
        exact ih w (q + Int32.ofInt 1) (by first | exact hn0 | exact v_ST_addAnswer hn0) (by omega) (by omega) (by omega) k
      · rw [c13] at k
        refine zeN (q := ((23, [(0, .ref 0), (1, .int a), (2, .int fo), (3, .int q)], [.int ((16 * a) + q), .ref 0]), yhp w G sz)) 6 rfl ?_
        refine zec 1 (M' := M_ST_addAnswer) (qq := ([.ref 0, .int ((16 * a) + q)], [])) (s' := (26, [(0, .ref 0), (1, .int a), (2, .int fo), (3, .int q)], [])) rfl rfl (fun _ => rfl) rfl rfl (zhk rfl (zrc_ok (yhp_o rfl)) rfl) (r_ST_addAnswer ((16 * a) + q) _ hn0 (by omega)) rfl ?_
        refine zeN (q := ((2, [(3, .int (q + Int32.ofInt 1)), (0, .ref 0), (1, .int a), (2, .int fo)], []), yhp (e_ST_addAnswer ((16 * a) + q) w) G sz)) 2 rfl ?_
        refine zeS [(0, .ref 0), (1, .int a), (2, .int fo), (3, .int (q + Int32.ofInt 1))] (zsub_pick [1, 2, 3, 0] rfl rfl) ?_
        exact ih (e_ST_addAnswer ((16 * a) + q) w) (q + Int32.ofInt 1) (by first | exact hn0 | exact v_ST_addAnswer hn0) (by omega) (by omega) (by omega) k
set_option maxRecDepth 100000 in
theorem kf_ST_addPairs_2 (a fo : Int32) : ∀ (n : Nat) (w : yW) (q : Int32), yK [(0, some 7), (9, none)] w (g_ST_addPairs_2 a fo n w q) := by
  intro n
  induction n with
  | zero => intros; exact yK_rfl
  | succ n ih => intro w q; rw [g_ST_addPairs_2]; exact (yK_if yK_rfl (yK_if (yK_tr yK_rfl (ih _ _)) (yK_tr (yK_tr yK_rfl (yK_mono rfl (kf_ST_addAnswer ..))) (ih _ _))))
theorem jf_ST_addPairs_2 (a fo : Int32) : ∀ (n : Nat) (w : yW) (q : Int32), (g_ST_addPairs_2 a fo n w q).2 = w.2 := by
  intro n
  induction n with
  | zero => intros; rfl
  | succ n ih => intro w q; rw [g_ST_addPairs_2]; exact (yJ_if rfl (yJ_if ((ih _ _).trans rfl) ((ih _ _).trans ((jf_ST_addAnswer ..).trans rfl))))
def e_ST_addPairs (a fo : Int32) (w : yW) : yW := (g_ST_addPairs_2 a fo 17 w 0)
set_option maxRecDepth 100000 in
theorem r_ST_addPairs {fr lo sz : Nat} {G : List zC} (a fo : Int32) (w : yW) (hn0 : 0 ≤ (w.1 0 7).toInt) (hlo : 44 ≤ lo) : zAns (fr + 2) lo 73 [.ref 0, .int a, .int fo] (yhp w G sz) (none, yhp ((e_ST_addPairs a fo w)) G sz) := by
  unfold e_ST_addPairs
  refine zeb (fr := fr + 1) (M := M_ST_addPairs) rfl (Nat.le_trans (by decide) hlo) rfl ?_
  have e0 : mL M_ST_addPairs = 4 := rfl
  refine zeN (q := ((2, [(3, .int 0), (0, .ref 0), (1, .int a), (2, .int fo)], []), yhp w G sz)) 2 rfl ?_
  refine zeS [(0, .ref 0), (1, .int a), (2, .int fo), (3, .int 0)] (zsub_pick [1, 2, 3, 0] rfl rfl) ?_
  refine t_ST_addPairs_2 a fo  (by omega) 17 w 0 hn0 (by decide) (by decide) (by decide) ?_
  exact zer rfl rfl
set_option maxRecDepth 100000 in
theorem kf_ST_addPairs (a fo : Int32) (w : yW)  : yK [(0, some 7), (9, none)] w (e_ST_addPairs a fo w ) := by unfold e_ST_addPairs; exact (yK_tr yK_rfl (yK_mono rfl (kf_ST_addPairs_2 ..)))
theorem jf_ST_addPairs (a fo : Int32) (w : yW)  : (e_ST_addPairs a fo w ).2 = w.2 := by unfold e_ST_addPairs; exact ((jf_ST_addPairs_2 ..).trans rfl)
theorem v_ST_addPairs_2 {a fo : Int32} : ∀ (n : Nat) (w : yW) (q : Int32), 0 ≤ (w.1 0 7).toInt → 0 ≤ ((g_ST_addPairs_2 a fo n w q).1 0 7).toInt := by
  intro n
  induction n with
  | zero => intro w q h; exact h
  | succ n ih =>
    intro w q h
    rw [g_ST_addPairs_2]
    cases zc .ge q 16
    · simp only [cond_false]
      generalize zc _ _ _ = b
      cases b
      · exact ih _ _ (v_ST_addAnswer h)
      · exact ih _ _ h
    · exact h
theorem v_ST_addPairs {a fo : Int32} {w : yW} (h : 0 ≤ (w.1 0 7).toInt) : 0 ≤ ((e_ST_addPairs a fo w).1 0 7).toInt := v_ST_addPairs_2 17 w 0 h
def g_ST_rowsFound_6 (G : List zC) (x : Nat) (t li : Int32) : Nat → yW → Int32 → Int32 → yW × Int32
  | 0, w, fo, q => (w, fo)
  | n + 1, w, fo, q => (bif zc .ge q 16 then (w, fo) else (bif yN (e_Ta_placeAt (14 + 12 * t.toNatClampNeg) q w) then g_ST_rowsFound_6 G x t li  n w fo (q + Int32.ofInt 1) else (bif zc .gt (f_Bo_gapTo (gB G x 0) (gB G x 1) (gB G x 2) (gB G x 3) (gB G (yd (e_Ta_placeAt (14 + 12 * t.toNatClampNeg) q w)) 0) (gB G (yd (e_Ta_placeAt (14 + 12 * t.toNatClampNeg) q w)) 1) (gB G (yd (e_Ta_placeAt (14 + 12 * t.toNatClampNeg) q w)) 2) (gB G (yd (e_Ta_placeAt (14 + 12 * t.toNatClampNeg) q w)) 3)) li then g_ST_rowsFound_6 G x t li  n w fo (q + Int32.ofInt 1) else (bif zc .eq (f_Di_isAtMost ((wD w 10 (gD G x (yd (e_Ta_placeAt (14 + 12 * t.toNatClampNeg) q w)) (w.2.1 10 0, w.2.1 10 1))).2.1 10 0) ((wD w 10 (gD G x (yd (e_Ta_placeAt (14 + 12 * t.toNatClampNeg) q w)) (w.2.1 10 0, w.2.1 10 1))).2.1 10 1) li) 0 then g_ST_rowsFound_6 G x t li  n (wD w 10 (gD G x (yd (e_Ta_placeAt (14 + 12 * t.toNatClampNeg) q w)) (w.2.1 10 0, w.2.1 10 1))) (fo ||| 0) (q + Int32.ofInt 1) else g_ST_rowsFound_6 G x t li  n (wD w 10 (gD G x (yd (e_Ta_placeAt (14 + 12 * t.toNatClampNeg) q w)) (w.2.1 10 0, w.2.1 10 1))) (fo ||| (1 <<< (q &&& 31))) (q + Int32.ofInt 1)))))
set_option maxRecDepth 100000 in
theorem t_ST_rowsFound_6 {fr lo sz : Nat} {r : Option Value × zH} (G : List zC) (x : Nat) (t li : Int32) (hx : yOk G x) (ht : zIx t 2) (hlo : 160 ≤ lo) : ∀ (n : Nat) (w : yW) (fo : Int32) (q : Int32) (hR : yRk w G) (h0 : 0 ≤ q.toInt) (h1 : q.toInt ≤ 16) (hn : 16 < q.toInt + n) (k : zRun (fr + 5) lo none M_ST_rowsFound (87, [(0, .ref 0), (1, .ref x), (2, .int t), (3, .int li), (4, .int ((g_ST_rowsFound_6 G x t li n w fo q).2))], []) (yhp (g_ST_rowsFound_6 G x t li n w fo q).1 G sz) r), zRun (fr + 5) lo none M_ST_rowsFound (6, [(0, .ref 0), (1, .ref x), (2, .int t), (3, .int li), (4, .int fo), (5, .int q)], []) (yhp w G sz) r := by
  intro n
  induction n with
  | zero => intro w fo q hR h0 h1 hn k; exfalso; omega
  | succ n ih =>
    intro w fo q hR h0 h1 hn k
    rw [g_ST_rowsFound_6] at k
    refine zeN (q := ((10, [(0, .ref 0), (1, .ref x), (2, .int t), (3, .int li), (4, .int fo), (5, .int q)], [.int 16, .int q]), yhp w G sz)) 2 rfl ?_
    refine zbc (q1 := (87, [(0, .ref 0), (1, .ref x), (2, .int t), (3, .int li), (4, .int fo), (5, .int q)], [])) (q2 := (13, [(0, .ref 0), (1, .ref x), (2, .int t), (3, .int li), (4, .int fo), (5, .int q)], [])) (cB := zc .ge q 16) (off := 77) (lv := [(0, .ref 0), (1, .ref x), (2, .int t), (3, .int li), (4, .int fo), (5, .int q)]) (st := []) rfl rfl rfl rfl rfl (fun c10 => ?_) (fun c10 => ?_)
    · rw [c10] at k
      refine zeS [(0, .ref 0), (1, .ref x), (2, .int t), (3, .int li), (4, .int fo)] (zsub_pick [0, 1, 2, 3, 4] rfl rfl) ?_
      exact k
    · rw [c10] at k
      have hcc : ¬ (16 : Int) ≤ q.toInt := of_decide_eq_false (z_ge c10).symm
      have hq : zIx q 16 := ⟨h0, by omega⟩
      have hi1 := z_inc (a := q) (by omega) (by omega)
      refine zeN (q := ((14, [(0, .ref 0), (1, .ref x), (2, .int t), (3, .int li), (4, .int fo), (5, .int q)], [.ref 0]), yhp w G sz)) 1 rfl ?_
      refine ygf (kk := .inl (.ref 1)) (v := .ref 1) rfl rfl rfl rfl rfl rfl rfl ?_
      refine zeN (q := ((18, [(0, .ref 0), (1, .ref x), (2, .int t), (3, .int li), (4, .int fo), (5, .int q)], [.int t, .ref 1]), yhp w G sz)) 1 rfl ?_
      refine yfP rfl rfl (by assumption) ?_
      refine zeN (q := ((21, [(0, .ref 0), (1, .ref x), (2, .int t), (3, .int li), (4, .int fo), (5, .int q)], [.int q, .ref (14 + 12 * t.toNatClampNeg)]), yhp w G sz)) 1 rfl ?_
      refine zec 1 (M' := M_Ta_placeAt) (qq := ([.ref (14 + 12 * t.toNatClampNeg), .int q], [])) (s' := (24, [(0, .ref 0), (1, .ref x), (2, .int t), (3, .int li), (4, .int fo), (5, .int q)], [yrv (e_Ta_placeAt (14 + 12 * t.toNatClampNeg) q w)])) rfl rfl (fun _ => rfl) rfl rfl (zhk rfl (zrc_ok (yhp_o (yTb_P ht).1)) rfl) (r_Ta_placeAt _ _ _ (yTb_P ht) (by omega)) rfl ?_
      refine ysp (fun c21 => ?_) (fun c21 => ?_)
      · rw [c21] at k
        refine zeN (q := ((6, [(5, .int (q + Int32.ofInt 1)), (6, .null), (0, .ref 0), (1, .ref x), (2, .int t), (3, .int li), (4, .int fo)], []), yhp w G sz)) 5 rfl ?_
        refine zeS [(0, .ref 0), (1, .ref x), (2, .int t), (3, .int li), (4, .int fo), (5, .int (q + Int32.ofInt 1))] (zsub_pick [2, 3, 4, 5, 6, 0] rfl rfl) ?_
        exact ih w fo (q + Int32.ofInt 1) (by first | exact hR | exact yRk_D hR) (by omega) (by omega) (by omega) k
      · rw [c21] at k
        refine zeN (q := ((32, [(6, .ref (yd (e_Ta_placeAt (14 + 12 * t.toNatClampNeg) q w))), (0, .ref 0), (1, .ref x), (2, .int t), (3, .int li), (4, .int fo), (5, .int q)], [.ref x]), yhp w G sz)) 4 rfl ?_
        refine ygb rfl rfl rfl rfl hx ?_
        refine zeN (q := ((37, [(6, .ref (yd (e_Ta_placeAt (14 + 12 * t.toNatClampNeg) q w))), (0, .ref 0), (1, .ref x), (2, .int t), (3, .int li), (4, .int fo), (5, .int q)], [.ref (yd (e_Ta_placeAt (14 + 12 * t.toNatClampNeg) q w)), .ref (x + 3)]), yhp w G sz)) 1 rfl ?_
        refine ygb rfl rfl rfl rfl (placeAt_n hR c21) ?_
        refine zec 1 (M' := M_Bo_gapTo) (qq := ([.ref (x + 3), .ref ((yd (e_Ta_placeAt (14 + 12 * t.toNatClampNeg) q w)) + 3)], [])) (s' := (43, [(6, .ref (yd (e_Ta_placeAt (14 + 12 * t.toNatClampNeg) q w))), (0, .ref 0), (1, .ref x), (2, .int t), (3, .int li), (4, .int fo), (5, .int q)], [.int (f_Bo_gapTo (gB G x 0) (gB G x 1) (gB G x 2) (gB G x 3) (gB G (yd (e_Ta_placeAt (14 + 12 * t.toNatClampNeg) q w)) 0) (gB G (yd (e_Ta_placeAt (14 + 12 * t.toNatClampNeg) q w)) 1) (gB G (yd (e_Ta_placeAt (14 + 12 * t.toNatClampNeg) q w)) 2) (gB G (yd (e_Ta_placeAt (14 + 12 * t.toNatClampNeg) q w)) 3))])) rfl rfl (fun _ => rfl) rfl rfl (zhk rfl (zrc_ok (yGb hx)) rfl) (y_gapTo hx (placeAt_n hR c21) (by omega)) rfl ?_
        refine zeN (q := ((44, [(6, .ref (yd (e_Ta_placeAt (14 + 12 * t.toNatClampNeg) q w))), (0, .ref 0), (1, .ref x), (2, .int t), (3, .int li), (4, .int fo), (5, .int q)], [.int li, .int (f_Bo_gapTo (gB G x 0) (gB G x 1) (gB G x 2) (gB G x 3) (gB G (yd (e_Ta_placeAt (14 + 12 * t.toNatClampNeg) q w)) 0) (gB G (yd (e_Ta_placeAt (14 + 12 * t.toNatClampNeg) q w)) 1) (gB G (yd (e_Ta_placeAt (14 + 12 * t.toNatClampNeg) q w)) 2) (gB G (yd (e_Ta_placeAt (14 + 12 * t.toNatClampNeg) q w)) 3))]), yhp w G sz)) 1 rfl ?_
        refine zbc (q1 := (81, [(6, .ref (yd (e_Ta_placeAt (14 + 12 * t.toNatClampNeg) q w))), (0, .ref 0), (1, .ref x), (2, .int t), (3, .int li), (4, .int fo), (5, .int q)], [])) (q2 := (47, [(6, .ref (yd (e_Ta_placeAt (14 + 12 * t.toNatClampNeg) q w))), (0, .ref 0), (1, .ref x), (2, .int t), (3, .int li), (4, .int fo), (5, .int q)], [])) (cB := zc .gt (f_Bo_gapTo (gB G x 0) (gB G x 1) (gB G x 2) (gB G x 3) (gB G (yd (e_Ta_placeAt (14 + 12 * t.toNatClampNeg) q w)) 0) (gB G (yd (e_Ta_placeAt (14 + 12 * t.toNatClampNeg) q w)) 1) (gB G (yd (e_Ta_placeAt (14 + 12 * t.toNatClampNeg) q w)) 2) (gB G (yd (e_Ta_placeAt (14 + 12 * t.toNatClampNeg) q w)) 3)) li) (off := 37) (lv := [(6, .ref (yd (e_Ta_placeAt (14 + 12 * t.toNatClampNeg) q w))), (0, .ref 0), (1, .ref x), (2, .int t), (3, .int li), (4, .int fo), (5, .int q)]) (st := []) rfl rfl rfl rfl rfl (fun c44 => ?_) (fun c44 => ?_)
        · rw [c44] at k
          refine zeN (q := ((6, [(5, .int (q + Int32.ofInt 1)), (6, .ref (yd (e_Ta_placeAt (14 + 12 * t.toNatClampNeg) q w))), (0, .ref 0), (1, .ref x), (2, .int t), (3, .int li), (4, .int fo)], []), yhp w G sz)) 2 rfl ?_
          refine zeS [(0, .ref 0), (1, .ref x), (2, .int t), (3, .int li), (4, .int fo), (5, .int (q + Int32.ofInt 1))] (zsub_pick [2, 3, 4, 5, 6, 0] rfl rfl) ?_
          exact ih w fo (q + Int32.ofInt 1) (by first | exact hR | exact yRk_D hR) (by omega) (by omega) (by omega) k
        · rw [c44] at k
          refine zeN (q := ((48, [(6, .ref (yd (e_Ta_placeAt (14 + 12 * t.toNatClampNeg) q w))), (0, .ref 0), (1, .ref x), (2, .int t), (3, .int li), (4, .int fo), (5, .int q)], [.ref 0]), yhp w G sz)) 1 rfl ?_
          refine ygf (kk := .inl (.ref 10)) (v := .ref 10) rfl rfl rfl rfl rfl rfl rfl ?_
          refine zeN (q := ((54, [(6, .ref (yd (e_Ta_placeAt (14 + 12 * t.toNatClampNeg) q w))), (0, .ref 0), (1, .ref x), (2, .int t), (3, .int li), (4, .int fo), (5, .int q)], [.ref (yd (e_Ta_placeAt (14 + 12 * t.toNatClampNeg) q w)), .ref x, .ref 10]), yhp w G sz)) 2 rfl ?_
          refine zec 1 (M' := M_Di_between) (qq := ([.ref 10, .ref x, .ref (yd (e_Ta_placeAt (14 + 12 * t.toNatClampNeg) q w))], [])) (s' := (57, [(6, .ref (yd (e_Ta_placeAt (14 + 12 * t.toNatClampNeg) q w))), (0, .ref 0), (1, .ref x), (2, .int t), (3, .int li), (4, .int fo), (5, .int q)], [])) rfl rfl (fun _ => rfl) rfl rfl (zhk rfl (zrc_ok (yhp_o rfl)) rfl) (y_between (d := 10) rfl hx (placeAt_n hR c21) (by omega)) rfl ?_
          refine zeN (q := ((60, [(6, .ref (yd (e_Ta_placeAt (14 + 12 * t.toNatClampNeg) q w))), (0, .ref 0), (1, .ref x), (2, .int t), (3, .int li), (4, .int fo), (5, .int q)], [.ref 0, .int fo]), yhp (wD w 10 (gD G x (yd (e_Ta_placeAt (14 + 12 * t.toNatClampNeg) q w)) (w.2.1 10 0, w.2.1 10 1))) G sz)) 2 rfl ?_
          refine ygf (kk := .inl (.ref 10)) (v := .ref 10) rfl rfl rfl rfl rfl rfl rfl ?_
          refine zeN (q := ((64, [(6, .ref (yd (e_Ta_placeAt (14 + 12 * t.toNatClampNeg) q w))), (0, .ref 0), (1, .ref x), (2, .int t), (3, .int li), (4, .int fo), (5, .int q)], [.int li, .ref 10, .int fo]), yhp (wD w 10 (gD G x (yd (e_Ta_placeAt (14 + 12 * t.toNatClampNeg) q w)) (w.2.1 10 0, w.2.1 10 1))) G sz)) 1 rfl ?_
          refine zec 1 (M' := M_Di_isAtMost) (qq := ([.ref 10, .int li], [.int fo])) (s' := (67, [(6, .ref (yd (e_Ta_placeAt (14 + 12 * t.toNatClampNeg) q w))), (0, .ref 0), (1, .ref x), (2, .int t), (3, .int li), (4, .int fo), (5, .int q)], [.int (f_Di_isAtMost ((wD w 10 (gD G x (yd (e_Ta_placeAt (14 + 12 * t.toNatClampNeg) q w)) (w.2.1 10 0, w.2.1 10 1))).2.1 10 0) ((wD w 10 (gD G x (yd (e_Ta_placeAt (14 + 12 * t.toNatClampNeg) q w)) (w.2.1 10 0, w.2.1 10 1))).2.1 10 1) li), .int fo])) rfl rfl (fun _ => rfl) rfl rfl (zhk rfl (zrc_ok (yhp_o rfl)) rfl) (y_isAtMost (d := 10) rfl _ (by omega)) rfl ?_
          refine zbc (q1 := (77, [(6, .ref (yd (e_Ta_placeAt (14 + 12 * t.toNatClampNeg) q w))), (0, .ref 0), (1, .ref x), (2, .int t), (3, .int li), (4, .int fo), (5, .int q)], [.int fo])) (q2 := (70, [(6, .ref (yd (e_Ta_placeAt (14 + 12 * t.toNatClampNeg) q w))), (0, .ref 0), (1, .ref x), (2, .int t), (3, .int li), (4, .int fo), (5, .int q)], [.int fo])) (cB := zc .eq (f_Di_isAtMost ((wD w 10 (gD G x (yd (e_Ta_placeAt (14 + 12 * t.toNatClampNeg) q w)) (w.2.1 10 0, w.2.1 10 1))).2.1 10 0) ((wD w 10 (gD G x (yd (e_Ta_placeAt (14 + 12 * t.toNatClampNeg) q w)) (w.2.1 10 0, w.2.1 10 1))).2.1 10 1) li) 0) (off := 10) (lv := [(6, .ref (yd (e_Ta_placeAt (14 + 12 * t.toNatClampNeg) q w))), (0, .ref 0), (1, .ref x), (2, .int t), (3, .int li), (4, .int fo), (5, .int q)]) (st := [.int fo]) rfl rfl rfl rfl rfl (fun c67 => ?_) (fun c67 => ?_)
          · rw [c67] at k
            refine zeN (q := ((6, [(5, .int (q + Int32.ofInt 1)), (4, .int (fo ||| 0)), (6, .ref (yd (e_Ta_placeAt (14 + 12 * t.toNatClampNeg) q w))), (0, .ref 0), (1, .ref x), (2, .int t), (3, .int li)], []), yhp (wD w 10 (gD G x (yd (e_Ta_placeAt (14 + 12 * t.toNatClampNeg) q w)) (w.2.1 10 0, w.2.1 10 1))) G sz)) 5 rfl ?_
            refine zeS [(0, .ref 0), (1, .ref x), (2, .int t), (3, .int li), (4, .int (fo ||| 0)), (5, .int (q + Int32.ofInt 1))] (zsub_pick [3, 4, 5, 6, 1, 0] rfl rfl) ?_
            exact ih (wD w 10 (gD G x (yd (e_Ta_placeAt (14 + 12 * t.toNatClampNeg) q w)) (w.2.1 10 0, w.2.1 10 1))) (fo ||| 0) (q + Int32.ofInt 1) (by first | exact hR | exact yRk_D hR) (by omega) (by omega) (by omega) k
          · rw [c67] at k
            refine zeN (q := ((6, [(5, .int (q + Int32.ofInt 1)), (4, .int (fo ||| (1 <<< (q &&& 31)))), (6, .ref (yd (e_Ta_placeAt (14 + 12 * t.toNatClampNeg) q w))), (0, .ref 0), (1, .ref x), (2, .int t), (3, .int li)], []), yhp (wD w 10 (gD G x (yd (e_Ta_placeAt (14 + 12 * t.toNatClampNeg) q w)) (w.2.1 10 0, w.2.1 10 1))) G sz)) 8 rfl ?_
            refine zeS [(0, .ref 0), (1, .ref x), (2, .int t), (3, .int li), (4, .int (fo ||| (1 <<< (q &&& 31)))), (5, .int (q + Int32.ofInt 1))] (zsub_pick [3, 4, 5, 6, 1, 0] rfl rfl) ?_
            exact ih (wD w 10 (gD G x (yd (e_Ta_placeAt (14 + 12 * t.toNatClampNeg) q w)) (w.2.1 10 0, w.2.1 10 1))) (fo ||| (1 <<< (q &&& 31))) (q + Int32.ofInt 1) (by first | exact hR | exact yRk_D hR) (by omega) (by omega) (by omega) k
set_option maxRecDepth 100000 in
theorem kf_ST_rowsFound_6 (G : List zC) (x : Nat) (t li : Int32) : ∀ (n : Nat) (w : yW) (fo : Int32) (q : Int32), yK [(10, none)] w (g_ST_rowsFound_6 G x t li n w fo q).1 := by
  intro n
  induction n with
  | zero => intros; exact yK_rfl
  | succ n ih => intro w fo q; rw [g_ST_rowsFound_6]; exact (yK_if1 (yK_p yK_rfl) (yK_if1 (yK_tr yK_rfl (ih _ _ _)) (yK_if1 (yK_tr yK_rfl (ih _ _ _)) (yK_if1 (yK_tr (yK_wD rfl yK_rfl) (ih _ _ _)) (yK_tr (yK_wD rfl yK_rfl) (ih _ _ _))))))
def e_ST_rowsFound (G : List zC) (x : Nat) (t li : Int32) (w : yW) : yW × Int32 := ((g_ST_rowsFound_6 G x t li 17 w 0 0).1, (g_ST_rowsFound_6 G x t li 17 w 0 0).2)
set_option maxRecDepth 100000 in
theorem r_ST_rowsFound {fr lo sz : Nat} (G : List zC) (x : Nat) (t li : Int32) (w : yW) (hx : yOk G x) (ht : zIx t 2) (hR : yRk w G) (hlo : 186 ≤ lo) : zAns (fr + 6) lo 57 [.ref 0, .ref x, .int t, .int li] (yhp w G sz) (some (.int ((e_ST_rowsFound G x t li w).2)), yhp ((e_ST_rowsFound G x t li w).1) G sz) := by
  unfold e_ST_rowsFound
  refine zeb (fr := fr + 5) (M := M_ST_rowsFound) rfl (Nat.le_trans (by decide) hlo) rfl ?_
  have e0 : mL M_ST_rowsFound = 7 := rfl
  refine zeN (q := ((6, [(5, .int 0), (4, .int 0), (0, .ref 0), (1, .ref x), (2, .int t), (3, .int li)], []), yhp w G sz)) 4 rfl ?_
  refine zeS [(0, .ref 0), (1, .ref x), (2, .int t), (3, .int li), (4, .int 0), (5, .int 0)] (zsub_pick [2, 3, 4, 5, 1, 0] rfl rfl) ?_
  refine t_ST_rowsFound_6 G x t li hx ht (by omega) 17 w 0 0 hR (by decide) (by decide) (by decide) ?_
  refine zeN (q := ((89, [(0, .ref 0), (1, .ref x), (2, .int t), (3, .int li), (4, .int ((g_ST_rowsFound_6 G x t li 17 w 0 0).2))], [.int ((g_ST_rowsFound_6 G x t li 17 w 0 0).2)]), yhp ((g_ST_rowsFound_6 G x t li 17 w 0 0).1) G sz)) 1 rfl ?_
  exact zer rfl rfl
set_option maxRecDepth 100000 in
theorem kf_ST_rowsFound (G : List zC) (x : Nat) (t li : Int32) (w : yW)  : yK [(10, none)] w (e_ST_rowsFound G x t li w ).1 := by unfold e_ST_rowsFound; exact (yK_p (yK_tr yK_rfl (yK_mono rfl (kf_ST_rowsFound_6 ..))))
theorem rr_ST_rowsFound_6 {G : List zC} {x : Nat} {t li : Int32} : ∀ (n : Nat) (w : yW) (fo q : Int32), (g_ST_rowsFound_6 G x t li n w fo q).1.2.2 = w.2.2 ∧ (g_ST_rowsFound_6 G x t li n w fo q).1.1 = w.1 := by
  intro n
  induction n with
  | zero => intro w fo q; exact ⟨rfl, rfl⟩
  | succ n ih =>
    intro w fo q
    rw [g_ST_rowsFound_6]
    cases zc .ge q 16
    · simp only [cond_false]
      generalize yN _ = b
      cases b
      · simp only [cond_false]
        generalize zc .gt (f_Bo_gapTo ..) _ = b2
        cases b2
        · simp only [cond_false]
          generalize zc .eq (f_Di_isAtMost ..) _ = b3
          cases b3
          · exact ih (wD w 10 _) _ _
          · exact ih (wD w 10 _) _ _
        · exact ih _ _ _
      · exact ih _ _ _
    · exact ⟨rfl, rfl⟩
theorem rr_ST_rowsFound {G : List zC} {x : Nat} {t li : Int32} {w : yW} : (e_ST_rowsFound G x t li w).1.2.2 = w.2.2 ∧ (e_ST_rowsFound G x t li w).1.1 = w.1 := rr_ST_rowsFound_6 17 w 0 0
theorem yRk_2 {w w' : yW} {G : List zC} (h : yRk w G) (e : w'.2.2 = w.2.2) : yRk w' G := fun c j x hx => h c j x (by rw [← e]; exact hx)
theorem yIn_1 {w w' : yW} {c : Nat} (h : yIn w c) (e : w'.1 = w.1) : yIn w' c := by unfold yIn; rw [e]; exact h
def e_ST_readsWithin (G : List zC) (x : Nat) (t : Int32) (dd : Nat) (w : yW) : Int32 := (e_In_countWithin G (20 + 12 * t.toNatClampNeg) x dd w) + (e_Ta_countWithin G (14 + 12 * t.toNatClampNeg) x dd w)
set_option maxRecDepth 100000 in
theorem r_ST_readsWithin {fr lo sz : Nat} (G : List zC) (x : Nat) (t : Int32) (dd : Nat) (w : yW) (hx : yOk G x) (ht : zIx t 2) (hdd : yshp[dd]? = some (true, 3, [.inr 1, .inr 1])) (hI : yIn w (20 + 12 * t.toNatClampNeg)) (hR : yRk w G) (hlo : 155 ≤ lo) : zAns (fr + 5) lo 50 [.ref 0, .ref (x + 3), .int t, .ref dd] (yhp w G sz) (some (.int ((e_ST_readsWithin G x t dd w))), yhp w G sz) := by
  unfold e_ST_readsWithin
  refine zeb (fr := fr + 4) (M := M_ST_readsWithin) rfl (Nat.le_trans (by decide) hlo) rfl ?_
  have e0 : mL M_ST_readsWithin = 4 := rfl
  refine zeN (q := ((1, [(0, .ref 0), (1, .ref (x + 3)), (2, .int t), (3, .ref dd)], [.ref 0]), yhp w G sz)) 1 rfl ?_
  refine ygf (kk := .inl (.ref 3)) (v := .ref 3) rfl rfl rfl rfl rfl rfl rfl ?_
  refine zeN (q := ((5, [(0, .ref 0), (1, .ref (x + 3)), (2, .int t), (3, .ref dd)], [.int t, .ref 3]), yhp w G sz)) 1 rfl ?_
  refine yfI rfl rfl (by assumption) ?_
  refine zeN (q := ((8, [(0, .ref 0), (1, .ref (x + 3)), (2, .int t), (3, .ref dd)], [.ref dd, .ref (x + 3), .ref (20 + 12 * t.toNatClampNeg)]), yhp w G sz)) 2 rfl ?_
  refine zec 1 (M' := M_In_countWithin) (qq := ([.ref (20 + 12 * t.toNatClampNeg), .ref (x + 3), .ref dd], [])) (s' := (11, [(0, .ref 0), (1, .ref (x + 3)), (2, .int t), (3, .ref dd)], [.int (e_In_countWithin G (20 + 12 * t.toNatClampNeg) x dd w)])) rfl rfl (fun _ => rfl) rfl rfl (zhk rfl (zrc_ok (yhp_o (yId_t ht).1)) rfl) (r_In_countWithin G _ x dd _ (yId_t ht) hx hdd hI (by omega)) rfl ?_
  refine zeN (q := ((12, [(0, .ref 0), (1, .ref (x + 3)), (2, .int t), (3, .ref dd)], [.ref 0, .int (e_In_countWithin G (20 + 12 * t.toNatClampNeg) x dd w)]), yhp w G sz)) 1 rfl ?_
  refine ygf (kk := .inl (.ref 1)) (v := .ref 1) rfl rfl rfl rfl rfl rfl rfl ?_
  refine zeN (q := ((16, [(0, .ref 0), (1, .ref (x + 3)), (2, .int t), (3, .ref dd)], [.int t, .ref 1, .int (e_In_countWithin G (20 + 12 * t.toNatClampNeg) x dd w)]), yhp w G sz)) 1 rfl ?_
  refine yfP rfl rfl (by assumption) ?_
  refine zeN (q := ((19, [(0, .ref 0), (1, .ref (x + 3)), (2, .int t), (3, .ref dd)], [.ref dd, .ref (x + 3), .ref (14 + 12 * t.toNatClampNeg), .int (e_In_countWithin G (20 + 12 * t.toNatClampNeg) x dd w)]), yhp w G sz)) 2 rfl ?_
  refine zec 1 (M' := M_Ta_countWithin) (qq := ([.ref (14 + 12 * t.toNatClampNeg), .ref (x + 3), .ref dd], [.int (e_In_countWithin G (20 + 12 * t.toNatClampNeg) x dd w)])) (s' := (22, [(0, .ref 0), (1, .ref (x + 3)), (2, .int t), (3, .ref dd)], [.int (e_Ta_countWithin G (14 + 12 * t.toNatClampNeg) x dd w), .int (e_In_countWithin G (20 + 12 * t.toNatClampNeg) x dd w)])) rfl rfl (fun _ => rfl) rfl rfl (zhk rfl (zrc_ok (yhp_o (yTb_P ht).1)) rfl) (r_Ta_countWithin G _ x dd _ (yTb_P ht) hx hdd hR (by omega)) rfl ?_
  refine zeN (q := ((23, [(0, .ref 0), (1, .ref (x + 3)), (2, .int t), (3, .ref dd)], [.int ((e_In_countWithin G (20 + 12 * t.toNatClampNeg) x dd w) + (e_Ta_countWithin G (14 + 12 * t.toNatClampNeg) x dd w))]), yhp w G sz)) 1 rfl ?_
  exact zer rfl rfl
def e_ST_searchReads (G : List zC) (x : Nat) (t li : Int32) (w : yW) : yW × Int32 := (bif zc .gt (e_Ig_bitCount (e_Ta_rowBits (14 + 12 * t.toNatClampNeg) w)) 4 then (wD w 11 (li.toInt64, 1), e_ST_readsWithin G x t 11 (wD w 11 (li.toInt64, 1))) else (w, e_Ig_bitCount (e_Ta_rowBits (14 + 12 * t.toNatClampNeg) w)))
set_option maxRecDepth 100000 in
theorem r_ST_searchReads {fr lo sz : Nat} (G : List zC) (x : Nat) (t li : Int32) (w : yW) (hx : yOk G x) (ht : zIx t 2) (hI : yIn w (20 + 12 * t.toNatClampNeg)) (hR : yRk w G) (hlo : 184 ≤ lo) : zAns (fr + 6) lo 46 [.ref 0, .ref x, .int t, .int li] (yhp w G sz) (some (.int ((e_ST_searchReads G x t li w).2)), yhp ((e_ST_searchReads G x t li w).1) G sz) := by
  unfold e_ST_searchReads
  refine zeb (fr := fr + 5) (M := M_ST_searchReads) rfl (Nat.le_trans (by decide) hlo) rfl ?_
  have e0 : mL M_ST_searchReads = 5 := rfl
  refine zeN (q := ((1, [(0, .ref 0), (1, .ref x), (2, .int t), (3, .int li)], [.ref 0]), yhp w G sz)) 1 rfl ?_
  refine ygf (kk := .inl (.ref 1)) (v := .ref 1) rfl rfl rfl rfl rfl rfl rfl ?_
  refine zeN (q := ((5, [(0, .ref 0), (1, .ref x), (2, .int t), (3, .int li)], [.int t, .ref 1]), yhp w G sz)) 1 rfl ?_
  refine yfP rfl rfl (by assumption) ?_
  refine zec 1 (M' := M_Ta_rowBits) (qq := ([.ref (14 + 12 * t.toNatClampNeg)], [])) (s' := (9, [(0, .ref 0), (1, .ref x), (2, .int t), (3, .int li)], [.int (e_Ta_rowBits (14 + 12 * t.toNatClampNeg) w)])) rfl rfl (fun _ => rfl) rfl rfl (zhk rfl (zrc_ok (yhp_o (yTb_P ht).1)) rfl) (r_Ta_rowBits _ _ (yTb_P ht) (by omega)) rfl ?_
  refine zec 0 (M' := M_Ig_bitCount) (qq := ([.int (e_Ta_rowBits (14 + 12 * t.toNatClampNeg) w)], [])) (s' := (12, [(0, .ref 0), (1, .ref x), (2, .int t), (3, .int li)], [.int (e_Ig_bitCount (e_Ta_rowBits (14 + 12 * t.toNatClampNeg) w))])) rfl rfl (fun _ => rfl) rfl rfl rfl (r_Ig_bitCount (e_Ta_rowBits (14 + 12 * t.toNatClampNeg) w) (by omega)) rfl ?_
  refine zeN (q := ((17, [(4, .int (e_Ig_bitCount (e_Ta_rowBits (14 + 12 * t.toNatClampNeg) w))), (0, .ref 0), (1, .ref x), (2, .int t), (3, .int li)], [.int 4, .int (e_Ig_bitCount (e_Ta_rowBits (14 + 12 * t.toNatClampNeg) w))]), yhp w G sz)) 3 rfl ?_
  refine zbc (q1 := (23, [(4, .int (e_Ig_bitCount (e_Ta_rowBits (14 + 12 * t.toNatClampNeg) w))), (0, .ref 0), (1, .ref x), (2, .int t), (3, .int li)], [])) (q2 := (20, [(4, .int (e_Ig_bitCount (e_Ta_rowBits (14 + 12 * t.toNatClampNeg) w))), (0, .ref 0), (1, .ref x), (2, .int t), (3, .int li)], [])) (cB := zc .gt (e_Ig_bitCount (e_Ta_rowBits (14 + 12 * t.toNatClampNeg) w)) 4) (off := 6) (lv := [(4, .int (e_Ig_bitCount (e_Ta_rowBits (14 + 12 * t.toNatClampNeg) w))), (0, .ref 0), (1, .ref x), (2, .int t), (3, .int li)]) (st := []) rfl rfl rfl rfl rfl (fun c17 => ?_) (fun c17 => ?_)
  · rw [c17]
    refine zeN (q := ((24, [(4, .int (e_Ig_bitCount (e_Ta_rowBits (14 + 12 * t.toNatClampNeg) w))), (0, .ref 0), (1, .ref x), (2, .int t), (3, .int li)], [.ref 0]), yhp w G sz)) 1 rfl ?_
    refine ygf (kk := .inl (.ref 11)) (v := .ref 11) rfl rfl rfl rfl rfl rfl rfl ?_
    refine zeN (q := ((30, [(4, .int (e_Ig_bitCount (e_Ta_rowBits (14 + 12 * t.toNatClampNeg) w))), (0, .ref 0), (1, .ref x), (2, .int t), (3, .int li)], [.long 1, .long li.toInt64, .ref 11]), yhp w G sz)) 3 rfl ?_
    refine zec 1 (M' := M_Di_become) (qq := ([.ref 11, .long li.toInt64, .long 1], [])) (s' := (33, [(4, .int (e_Ig_bitCount (e_Ta_rowBits (14 + 12 * t.toNatClampNeg) w))), (0, .ref 0), (1, .ref x), (2, .int t), (3, .int li)], [])) rfl rfl (fun _ => rfl) rfl rfl (zhk rfl (zrc_ok (yhp_o rfl)) rfl) (y_become (d := 11) rfl _ _ (by omega)) rfl ?_
    refine zeN (q := ((35, [(4, .int (e_Ig_bitCount (e_Ta_rowBits (14 + 12 * t.toNatClampNeg) w))), (0, .ref 0), (1, .ref x), (2, .int t), (3, .int li)], [.ref x, .ref 0]), yhp (wD w 11 (li.toInt64, 1)) G sz)) 2 rfl ?_
    refine ygb rfl rfl rfl rfl hx ?_
    refine zeN (q := ((40, [(4, .int (e_Ig_bitCount (e_Ta_rowBits (14 + 12 * t.toNatClampNeg) w))), (0, .ref 0), (1, .ref x), (2, .int t), (3, .int li)], [.ref 0, .int t, .ref (x + 3), .ref 0]), yhp (wD w 11 (li.toInt64, 1)) G sz)) 2 rfl ?_
    refine ygf (kk := .inl (.ref 11)) (v := .ref 11) rfl rfl rfl rfl rfl rfl rfl ?_
    refine zec 1 (M' := M_ST_readsWithin) (qq := ([.ref 0, .ref (x + 3), .int t, .ref 11], [])) (s' := (46, [(4, .int (e_Ig_bitCount (e_Ta_rowBits (14 + 12 * t.toNatClampNeg) w))), (0, .ref 0), (1, .ref x), (2, .int t), (3, .int li)], [.int (e_ST_readsWithin G x t 11 (wD w 11 (li.toInt64, 1)))])) rfl rfl (fun _ => rfl) rfl rfl (zhk rfl (zrc_ok (yhp_o rfl)) rfl) (r_ST_readsWithin G x t 11 _ hx ht rfl (yIn_1 hI rfl) (yRk_D hR) (by omega)) rfl ?_
    exact zer rfl rfl
  · rw [c17]
    refine zeN (q := ((22, [(4, .int (e_Ig_bitCount (e_Ta_rowBits (14 + 12 * t.toNatClampNeg) w))), (0, .ref 0), (1, .ref x), (2, .int t), (3, .int li)], [.int (e_Ig_bitCount (e_Ta_rowBits (14 + 12 * t.toNatClampNeg) w))]), yhp w G sz)) 1 rfl ?_
    exact zer rfl rfl
set_option maxRecDepth 100000 in
theorem kf_ST_searchReads (G : List zC) (x : Nat) (t li : Int32) (w : yW)  : yK [(11, none)] w (e_ST_searchReads G x t li w ).1 := by unfold e_ST_searchReads; exact (yK_if1 (yK_p (yK_wD rfl yK_rfl)) (yK_p yK_rfl))
theorem rr_ST_searchReads {G : List zC} {x : Nat} {t li : Int32} {w : yW} : (e_ST_searchReads G x t li w).1.2.2 = w.2.2 ∧ (e_ST_searchReads G x t li w).1.1 = w.1 := by
  unfold e_ST_searchReads
  generalize zc _ _ _ = b
  cases b <;> exact ⟨rfl, rfl⟩
theorem ho_w {w : yW} {j : Nat} {v : Int32} (ho : ∀ j, j < 16 → zIx (w.1 13 j) 16) (hv : zIx v 16) : ∀ i, i < 16 → zIx ((wI w 13 j v).1 13 i) 16 := by
  intro i hi
  by_cases e : i = j
  · subst e
    rw [wI_self]
    exact hv
  · rw [wI_nc (fun h => e h.2)]
    exact ho i hi
def g_ST_putInOrder_2 (q od : Int32) : Nat → yW → Int32 → yW × Int32
  | 0, w, ats => (w, ats)
  | n + 1, w, ats => (bif zc .le ats 0 then (w, ats) else (bif zc .eq (f_Di_isBelow (w.2.1 (38 + q.toNatClampNeg) 0) (w.2.1 (38 + q.toNatClampNeg) 1) (w.2.1 (38 + (w.1 13 (ats - 1).toNatClampNeg).toNatClampNeg) 0) (w.2.1 (38 + (w.1 13 (ats - 1).toNatClampNeg).toNatClampNeg) 1)) 0 then (w, ats) else g_ST_putInOrder_2 q od  n (wI w 13 ats.toNatClampNeg (w.1 13 (ats - 1).toNatClampNeg)) (ats + Int32.ofInt (-1))))
set_option maxRecDepth 100000 in
theorem t_ST_putInOrder_2 {fr lo sz : Nat} {r : Option Value × zH} {G : List zC} (q od : Int32) (hq : zIx q 16) (hlo : 21 ≤ lo) : ∀ (n : Nat) (w : yW) (ats : Int32) (ho : ∀ j, j < 16 → zIx (w.1 13 j) 16) (h0 : 0 ≤ ats.toInt) (h1 : ats.toInt ≤ 15) (hn : ats.toInt < n) (k : zRun (fr + 1) lo none M_ST_putInOrder (51, [(0, .ref 0), (1, .int q), (2, .int od), (3, .int ((g_ST_putInOrder_2 q od n w ats).2))], []) (yhp (g_ST_putInOrder_2 q od n w ats).1 G sz) r), zRun (fr + 1) lo none M_ST_putInOrder (2, [(0, .ref 0), (1, .int q), (2, .int od), (3, .int ats)], []) (yhp w G sz) r := by
  intro n
  induction n with
  | zero => intro w ats ho h0 h1 hn k; exfalso; omega
  | succ n ih =>
    intro w ats ho h0 h1 hn k
    rw [g_ST_putInOrder_2] at k
    refine zeN (q := ((3, [(0, .ref 0), (1, .int q), (2, .int od), (3, .int ats)], [.int ats]), yhp w G sz)) 1 rfl ?_
    refine zbc (q1 := (51, [(0, .ref 0), (1, .int q), (2, .int od), (3, .int ats)], [])) (q2 := (6, [(0, .ref 0), (1, .int q), (2, .int od), (3, .int ats)], [])) (cB := zc .le ats 0) (off := 48) (lv := [(0, .ref 0), (1, .int q), (2, .int od), (3, .int ats)]) (st := []) rfl rfl rfl rfl rfl (fun c3 => ?_) (fun c3 => ?_)
    · rw [c3] at k
      exact k
    · rw [c3] at k
      have a1 := of_decide_eq_false ((zc_le ats 0).symm.trans c3)
      have e1 : (ats - 1).toInt = ats.toInt - 1 := z_sub (by show _ ≤ _ - (1 : Int); omega) (by show _ - (1 : Int) < _; omega)
      have ha1 : zIx (ats - 1) 16 := by unfold zIx; rw [e1]; have := z_i0; omega
      have ha0 : zIx ats 16 := ⟨h0, by omega⟩
      have ho1 := ho _ (zIx_n2 ha1)
      have hi1 : (ats + Int32.ofInt (-1)).toInt = ats.toInt - 1 := z_add (by show _ ≤ _ + (-1 : Int); omega) (by show _ + (-1 : Int) < _; omega)
      have hz0 := z_i0
      refine zeN (q := ((7, [(0, .ref 0), (1, .int q), (2, .int od), (3, .int ats)], [.ref 0]), yhp w G sz)) 1 rfl ?_
      refine ygf (kk := .inl (.ref 12)) (v := .ref 12) rfl rfl rfl rfl rfl rfl rfl ?_
      refine zeN (q := ((11, [(0, .ref 0), (1, .int q), (2, .int od), (3, .int ats)], [.int q, .ref 12]), yhp w G sz)) 1 rfl ?_
      refine yfD rfl rfl hq ?_
      refine zeN (q := ((13, [(0, .ref 0), (1, .int q), (2, .int od), (3, .int ats)], [.ref 0, .ref (38 + q.toNatClampNeg)]), yhp w G sz)) 1 rfl ?_
      refine ygf (kk := .inl (.ref 12)) (v := .ref 12) rfl rfl rfl rfl rfl rfl rfl ?_
      refine zeN (q := ((17, [(0, .ref 0), (1, .int q), (2, .int od), (3, .int ats)], [.ref 0, .ref 12, .ref (38 + q.toNatClampNeg)]), yhp w G sz)) 1 rfl ?_
      refine ygf (kk := .inl (.ref 13)) (v := .ref 13) rfl rfl rfl rfl rfl rfl rfl ?_
      refine zeN (q := ((23, [(0, .ref 0), (1, .int q), (2, .int od), (3, .int ats)], [.int (ats - 1), .ref 13, .ref 12, .ref (38 + q.toNatClampNeg)]), yhp w G sz)) 3 rfl ?_
      refine yia (N := 16) rfl rfl rfl ha1 ?_
      refine yfD rfl rfl ho1 ?_
      refine zec 1 (M' := M_Di_isBelow) (qq := ([.ref (38 + q.toNatClampNeg), .ref (38 + (w.1 13 (ats - 1).toNatClampNeg).toNatClampNeg)], [])) (s' := (28, [(0, .ref 0), (1, .int q), (2, .int od), (3, .int ats)], [.int (f_Di_isBelow (w.2.1 (38 + q.toNatClampNeg) 0) (w.2.1 (38 + q.toNatClampNeg) 1) (w.2.1 (38 + (w.1 13 (ats - 1).toNatClampNeg).toNatClampNeg) 0) (w.2.1 (38 + (w.1 13 (ats - 1).toNatClampNeg).toNatClampNeg) 1))])) rfl rfl (fun _ => rfl) rfl rfl (zhk rfl (zrc_ok (yhp_o (yDs hq))) rfl) (y_isBelow (yDs hq) (yDs ho1) (by omega)) rfl ?_
      refine zbc (q1 := (51, [(0, .ref 0), (1, .int q), (2, .int od), (3, .int ats)], [])) (q2 := (31, [(0, .ref 0), (1, .int q), (2, .int od), (3, .int ats)], [])) (cB := zc .eq (f_Di_isBelow (w.2.1 (38 + q.toNatClampNeg) 0) (w.2.1 (38 + q.toNatClampNeg) 1) (w.2.1 (38 + (w.1 13 (ats - 1).toNatClampNeg).toNatClampNeg) 0) (w.2.1 (38 + (w.1 13 (ats - 1).toNatClampNeg).toNatClampNeg) 1)) 0) (off := 23) (lv := [(0, .ref 0), (1, .int q), (2, .int od), (3, .int ats)]) (st := []) rfl rfl rfl rfl rfl (fun c28 => ?_) (fun c28 => ?_)
      · rw [c28] at k
        exact k
      · rw [c28] at k
        refine zeN (q := ((32, [(0, .ref 0), (1, .int q), (2, .int od), (3, .int ats)], [.ref 0]), yhp w G sz)) 1 rfl ?_
        refine ygf (kk := .inl (.ref 13)) (v := .ref 13) rfl rfl rfl rfl rfl rfl rfl ?_
        refine zeN (q := ((37, [(0, .ref 0), (1, .int q), (2, .int od), (3, .int ats)], [.ref 0, .int ats, .ref 13]), yhp w G sz)) 2 rfl ?_
        refine ygf (kk := .inl (.ref 13)) (v := .ref 13) rfl rfl rfl rfl rfl rfl rfl ?_
        refine zeN (q := ((43, [(0, .ref 0), (1, .int q), (2, .int od), (3, .int ats)], [.int (ats - 1), .ref 13, .int ats, .ref 13]), yhp w G sz)) 3 rfl ?_
        refine yia (N := 16) rfl rfl rfl ha1 ?_
        refine yis (N := 16) rfl rfl rfl ha0 ?_
        refine zeN (q := ((2, [(3, .int (ats + Int32.ofInt (-1))), (0, .ref 0), (1, .int q), (2, .int od)], []), yhp (wI w 13 ats.toNatClampNeg (w.1 13 (ats - 1).toNatClampNeg)) G sz)) 2 rfl ?_
        refine zeS [(0, .ref 0), (1, .int q), (2, .int od), (3, .int (ats + Int32.ofInt (-1)))] (zsub_pick [1, 2, 3, 0] rfl rfl) ?_
        exact ih (wI w 13 ats.toNatClampNeg (w.1 13 (ats - 1).toNatClampNeg)) (ats + Int32.ofInt (-1)) (ho_w ho (ho _ (zIx_n2 ha1))) (by omega) (by omega) (by omega) k
set_option maxRecDepth 100000 in
theorem kf_ST_putInOrder_2 (q od : Int32) : ∀ (n : Nat) (w : yW) (ats : Int32), yK [(13, none)] w (g_ST_putInOrder_2 q od n w ats).1 := by
  intro n
  induction n with
  | zero => intros; exact yK_rfl
  | succ n ih => intro w ats; rw [g_ST_putInOrder_2]; exact (yK_if1 (yK_p yK_rfl) (yK_if1 (yK_p yK_rfl) (yK_tr (yK_wI rfl yK_rfl) (ih _ _))))
theorem jf_ST_putInOrder_2 (q od : Int32) : ∀ (n : Nat) (w : yW) (ats : Int32), (g_ST_putInOrder_2 q od n w ats).1.2 = w.2 := by
  intro n
  induction n with
  | zero => intros; rfl
  | succ n ih => intro w ats; rw [g_ST_putInOrder_2]; exact (yJ_if1 (yJ_p rfl) (yJ_if1 (yJ_p rfl) ((ih _ _).trans (yJ_wI rfl))))
theorem d_ST_putInOrder_2 {q od : Int32} : ∀ (n : Nat) (w : yW) (ats : Int32), (∀ j, j < 16 → zIx (w.1 13 j) 16) → 0 ≤ ats.toInt → ats.toInt ≤ 15 → ats.toInt < n → (∀ j, j < 16 → zIx ((g_ST_putInOrder_2 q od n w ats).1.1 13 j) 16) ∧ zIx (g_ST_putInOrder_2 q od n w ats).2 16 := by
  intro n
  induction n with
  | zero => intro w ats _ h0 _ hn; exfalso; omega
  | succ n ih =>
    intro w ats ho h0 h1 hn
    rw [g_ST_putInOrder_2]
    cases c3 : zc .le ats 0
    · have a1 := of_decide_eq_false ((zc_le ats 0).symm.trans c3)
      have e1 : (ats - 1).toInt = ats.toInt - 1 := z_sub (by show _ ≤ _ - (1 : Int); omega) (by show _ - (1 : Int) < _; omega)
      have ha1 : zIx (ats - 1) 16 := by unfold zIx; rw [e1]; have := z_i0; omega
      have hi1 : (ats + Int32.ofInt (-1)).toInt = ats.toInt - 1 := z_add (by show _ ≤ _ + (-1 : Int); omega) (by show _ + (-1 : Int) < _; omega)
      have hz0 := z_i0
      simp only [cond_false]
      generalize zc _ _ _ = b
      cases b
      · exact ih _ _ (ho_w ho (ho _ (zIx_n2 ha1))) (by omega) (by omega) (by omega)
      · exact ⟨ho, h0, by show ats.toInt < _; omega⟩
    · exact ⟨ho, h0, by show ats.toInt < _; omega⟩
def e_ST_putInOrder (q od : Int32) (w : yW) : yW := wI ((g_ST_putInOrder_2 q od 17 w od).1) 13 ((g_ST_putInOrder_2 q od 17 w od).2).toNatClampNeg q
set_option maxRecDepth 100000 in
theorem r_ST_putInOrder {fr lo sz : Nat} {G : List zC} (q od : Int32) (w : yW) (hq : zIx q 16) (ho : ∀ j, j < 16 → zIx (w.1 13 j) 16) (ho0 : 0 ≤ od.toInt) (ho1 : od.toInt ≤ 15) (hlo : 44 ≤ lo) : zAns (fr + 2) lo 69 [.ref 0, .int q, .int od] (yhp w G sz) (none, yhp ((e_ST_putInOrder q od w)) G sz) := by
  unfold e_ST_putInOrder
  refine zeb (fr := fr + 1) (M := M_ST_putInOrder) rfl (Nat.le_trans (by decide) hlo) rfl ?_
  have e0 : mL M_ST_putInOrder = 4 := rfl
  refine zeN (q := ((2, [(3, .int od), (0, .ref 0), (1, .int q), (2, .int od)], []), yhp w G sz)) 2 rfl ?_
  refine zeS [(0, .ref 0), (1, .int q), (2, .int od), (3, .int od)] (zsub_pick [1, 2, 3, 0] rfl rfl) ?_
  refine t_ST_putInOrder_2 q od hq (by omega) 17 w od ho ho0 ho1 (by omega) ?_
  have hdd := d_ST_putInOrder_2 (q := q) (od := od) 17 w od ho ho0 ho1 (by omega)
  have hdz := hdd.2
  refine zeN (q := ((52, [(0, .ref 0), (1, .int q), (2, .int od), (3, .int ((g_ST_putInOrder_2 q od 17 w od).2))], [.ref 0]), yhp ((g_ST_putInOrder_2 q od 17 w od).1) G sz)) 1 rfl ?_
  refine ygf (kk := .inl (.ref 13)) (v := .ref 13) rfl rfl rfl rfl rfl rfl rfl ?_
  refine zeN (q := ((57, [(0, .ref 0), (1, .int q), (2, .int od), (3, .int ((g_ST_putInOrder_2 q od 17 w od).2))], [.int q, .int ((g_ST_putInOrder_2 q od 17 w od).2), .ref 13]), yhp ((g_ST_putInOrder_2 q od 17 w od).1) G sz)) 2 rfl ?_
  refine yis (N := 16) rfl rfl rfl (by assumption) ?_
  exact zer rfl rfl
set_option maxRecDepth 100000 in
theorem kf_ST_putInOrder (q od : Int32) (w : yW)  : yK [(13, none)] w (e_ST_putInOrder q od w ) := by unfold e_ST_putInOrder; exact (yK_wI rfl (yK_tr yK_rfl (yK_mono rfl (kf_ST_putInOrder_2 ..))))
theorem jf_ST_putInOrder (q od : Int32) (w : yW)  : (e_ST_putInOrder q od w ).2 = w.2 := by unfold e_ST_putInOrder; exact (yJ_wI ((jf_ST_putInOrder_2 ..).trans rfl))
theorem ho_put {q od : Int32} {w : yW} (hq : zIx q 16) (ho : ∀ j, j < 16 → zIx (w.1 13 j) 16) (ho0 : 0 ≤ od.toInt) (ho1 : od.toInt ≤ 15) : ∀ j, j < 16 → zIx ((e_ST_putInOrder q od w).1 13 j) 16 := by
  unfold e_ST_putInOrder
  exact ho_w (d_ST_putInOrder_2 (q := q) (od := od) 17 w od ho ho0 ho1 (by omega)).1 hq
def g_ST_orderByDistance_5 (G : List zC) (x c : Nat) : Nat → yW → Int32 → Int32 → yW × Int32
  | 0, w, od, q => (w, od)
  | n + 1, w, od, q => (bif zc .ge q 16 then (w, od) else (bif yN (e_Ta_placeAt c q w) then g_ST_orderByDistance_5 G x c  n w od (q + Int32.ofInt 1) else g_ST_orderByDistance_5 G x c  n (e_ST_putInOrder q od (wD w (38 + q.toNatClampNeg) (gD G x (yd (e_Ta_placeAt c q w)) (w.2.1 (38 + q.toNatClampNeg) 0, w.2.1 (38 + q.toNatClampNeg) 1)))) (od + Int32.ofInt 1) (q + Int32.ofInt 1)))
set_option maxRecDepth 100000 in
theorem t_ST_orderByDistance_5 {fr lo sz : Nat} {r : Option Value × zH} (G : List zC) (x c : Nat) (hx : yOk G x) (hc : yTb c) (hlo : 160 ≤ lo) : ∀ (n : Nat) (w : yW) (od : Int32) (q : Int32) (hR : yRk w G) (ho : ∀ j, j < 16 → zIx (w.1 13 j) 16) (h_od0 : 0 ≤ od.toInt) (h_od1 : od.toInt ≤ q.toInt) (h0 : 0 ≤ q.toInt) (h1 : q.toInt ≤ 16) (hn : 16 < q.toInt + n) (k : zRun (fr + 5) lo none M_ST_orderByDistance (54, [(0, .ref 0), (1, .ref x), (2, .ref c), (3, .int ((g_ST_orderByDistance_5 G x c n w od q).2))], []) (yhp (g_ST_orderByDistance_5 G x c n w od q).1 G sz) r), zRun (fr + 5) lo none M_ST_orderByDistance (5, [(0, .ref 0), (1, .ref x), (2, .ref c), (3, .int od), (4, .int q)], []) (yhp w G sz) r := by
  intro n
  induction n with
  | zero => intro w od q hR ho h_od0 h_od1 h0 h1 hn k; exfalso; omega
  | succ n ih =>
    intro w od q hR ho h_od0 h_od1 h0 h1 hn k
    rw [g_ST_orderByDistance_5] at k
    refine zeN (q := ((9, [(0, .ref 0), (1, .ref x), (2, .ref c), (3, .int od), (4, .int q)], [.int 16, .int q]), yhp w G sz)) 2 rfl ?_
    refine zbc (q1 := (54, [(0, .ref 0), (1, .ref x), (2, .ref c), (3, .int od), (4, .int q)], [])) (q2 := (12, [(0, .ref 0), (1, .ref x), (2, .ref c), (3, .int od), (4, .int q)], [])) (cB := zc .ge q 16) (off := 45) (lv := [(0, .ref 0), (1, .ref x), (2, .ref c), (3, .int od), (4, .int q)]) (st := []) rfl rfl rfl rfl rfl (fun c9 => ?_) (fun c9 => ?_)
    · rw [c9] at k
      refine zeS [(0, .ref 0), (1, .ref x), (2, .ref c), (3, .int od)] (zsub_pick [0, 1, 2, 3] rfl rfl) ?_
      exact k
    · rw [c9] at k
      have hcc : ¬ (16 : Int) ≤ q.toInt := of_decide_eq_false (z_ge c9).symm
      have hq : zIx q 16 := ⟨h0, by omega⟩
      have hi1 := z_inc (a := q) (by omega) (by omega)
      have hi2 := z_inc (a := od) (by omega) (by omega)
      refine zeN (q := ((15, [(0, .ref 0), (1, .ref x), (2, .ref c), (3, .int od), (4, .int q)], [.int q, .ref c]), yhp w G sz)) 2 rfl ?_
      refine zec 1 (M' := M_Ta_placeAt) (qq := ([.ref c, .int q], [])) (s' := (18, [(0, .ref 0), (1, .ref x), (2, .ref c), (3, .int od), (4, .int q)], [yrv (e_Ta_placeAt c q w)])) rfl rfl (fun _ => rfl) rfl rfl (zhk rfl (zrc_ok (yhp_o hc.1)) rfl) (r_Ta_placeAt _ _ _ hc (by omega)) rfl ?_
      refine ysp (fun c15 => ?_) (fun c15 => ?_)
      · rw [c15] at k
        refine zeN (q := ((5, [(4, .int (q + Int32.ofInt 1)), (5, .null), (0, .ref 0), (1, .ref x), (2, .ref c), (3, .int od)], []), yhp w G sz)) 5 rfl ?_
        refine zeS [(0, .ref 0), (1, .ref x), (2, .ref c), (3, .int od), (4, .int (q + Int32.ofInt 1))] (zsub_pick [2, 3, 4, 5, 0] rfl rfl) ?_
        exact ih w od (q + Int32.ofInt 1) (by first | exact hR | exact yRk_J (yRk_D hR) (jf_ST_putInOrder ..)) (by first | exact ho | exact ho_put hq ho h_od0 (by omega)) (by omega) (by omega) (by omega) (by omega) (by omega) k
      · rw [c15] at k
        refine zeN (q := ((26, [(5, .ref (yd (e_Ta_placeAt c q w))), (0, .ref 0), (1, .ref x), (2, .ref c), (3, .int od), (4, .int q)], [.ref 0]), yhp w G sz)) 4 rfl ?_
        refine ygf (kk := .inl (.ref 12)) (v := .ref 12) rfl rfl rfl rfl rfl rfl rfl ?_
        refine zeN (q := ((31, [(5, .ref (yd (e_Ta_placeAt c q w))), (0, .ref 0), (1, .ref x), (2, .ref c), (3, .int od), (4, .int q)], [.int q, .ref 12]), yhp w G sz)) 1 rfl ?_
        refine yfD rfl rfl (by assumption) ?_
        refine zeN (q := ((35, [(5, .ref (yd (e_Ta_placeAt c q w))), (0, .ref 0), (1, .ref x), (2, .ref c), (3, .int od), (4, .int q)], [.ref (yd (e_Ta_placeAt c q w)), .ref x, .ref (38 + q.toNatClampNeg)]), yhp w G sz)) 2 rfl ?_
        refine zec 1 (M' := M_Di_between) (qq := ([.ref (38 + q.toNatClampNeg), .ref x, .ref (yd (e_Ta_placeAt c q w))], [])) (s' := (38, [(5, .ref (yd (e_Ta_placeAt c q w))), (0, .ref 0), (1, .ref x), (2, .ref c), (3, .int od), (4, .int q)], [])) rfl rfl (fun _ => rfl) rfl rfl (zhk rfl (zrc_ok (yhp_o (yDs hq))) rfl) (y_between (d := 38 + q.toNatClampNeg) (yDs hq) hx (placeAt_n hR c15) (by omega)) rfl ?_
        refine zeN (q := ((42, [(5, .ref (yd (e_Ta_placeAt c q w))), (0, .ref 0), (1, .ref x), (2, .ref c), (3, .int od), (4, .int q)], [.int od, .int q, .ref 0]), yhp (wD w (38 + q.toNatClampNeg) (gD G x (yd (e_Ta_placeAt c q w)) (w.2.1 (38 + q.toNatClampNeg) 0, w.2.1 (38 + q.toNatClampNeg) 1))) G sz)) 3 rfl ?_
        refine zec 1 (M' := M_ST_putInOrder) (qq := ([.ref 0, .int q, .int od], [])) (s' := (45, [(5, .ref (yd (e_Ta_placeAt c q w))), (0, .ref 0), (1, .ref x), (2, .ref c), (3, .int od), (4, .int q)], [])) rfl rfl (fun _ => rfl) rfl rfl (zhk rfl (zrc_ok (yhp_o rfl)) rfl) (r_ST_putInOrder q od _ hq ho h_od0 (by omega) (by omega)) rfl ?_
        refine zeN (q := ((5, [(4, .int (q + Int32.ofInt 1)), (3, .int (od + Int32.ofInt 1)), (5, .ref (yd (e_Ta_placeAt c q w))), (0, .ref 0), (1, .ref x), (2, .ref c)], []), yhp (e_ST_putInOrder q od (wD w (38 + q.toNatClampNeg) (gD G x (yd (e_Ta_placeAt c q w)) (w.2.1 (38 + q.toNatClampNeg) 0, w.2.1 (38 + q.toNatClampNeg) 1)))) G sz)) 3 rfl ?_
        refine zeS [(0, .ref 0), (1, .ref x), (2, .ref c), (3, .int (od + Int32.ofInt 1)), (4, .int (q + Int32.ofInt 1))] (zsub_pick [3, 4, 5, 1, 0] rfl rfl) ?_
        exact ih (e_ST_putInOrder q od (wD w (38 + q.toNatClampNeg) (gD G x (yd (e_Ta_placeAt c q w)) (w.2.1 (38 + q.toNatClampNeg) 0, w.2.1 (38 + q.toNatClampNeg) 1)))) (od + Int32.ofInt 1) (q + Int32.ofInt 1) (by first | exact hR | exact yRk_J (yRk_D hR) (jf_ST_putInOrder ..)) (by first | exact ho | exact ho_put hq ho h_od0 (by omega)) (by omega) (by omega) (by omega) (by omega) (by omega) k
def e_ST_orderByDistance (G : List zC) (x c : Nat) (w : yW) : yW × Int32 := ((g_ST_orderByDistance_5 G x c 17 w 0 0).1, (g_ST_orderByDistance_5 G x c 17 w 0 0).2)
set_option maxRecDepth 100000 in
theorem r_ST_orderByDistance {fr lo sz : Nat} (G : List zC) (x c : Nat) (w : yW) (hx : yOk G x) (hc : yTb c) (hR : yRk w G) (ho : ∀ j, j < 16 → zIx (w.1 13 j) 16) (hlo : 185 ≤ lo) : zAns (fr + 6) lo 68 [.ref 0, .ref x, .ref c] (yhp w G sz) (some (.int ((e_ST_orderByDistance G x c w).2)), yhp ((e_ST_orderByDistance G x c w).1) G sz) := by
  unfold e_ST_orderByDistance
  refine zeb (fr := fr + 5) (M := M_ST_orderByDistance) rfl (Nat.le_trans (by decide) hlo) rfl ?_
  have e0 : mL M_ST_orderByDistance = 6 := rfl
  refine zeN (q := ((5, [(4, .int 0), (3, .int 0), (0, .ref 0), (1, .ref x), (2, .ref c)], []), yhp w G sz)) 4 rfl ?_
  refine zeS [(0, .ref 0), (1, .ref x), (2, .ref c), (3, .int 0), (4, .int 0)] (zsub_pick [2, 3, 4, 1, 0] rfl rfl) ?_
  refine t_ST_orderByDistance_5 G x c hx hc (by omega) 17 w 0 0 hR ho (by decide) (by decide) (by decide) (by decide) (by decide) ?_
  refine zeN (q := ((55, [(0, .ref 0), (1, .ref x), (2, .ref c), (3, .int ((g_ST_orderByDistance_5 G x c 17 w 0 0).2))], [.int ((g_ST_orderByDistance_5 G x c 17 w 0 0).2)]), yhp ((g_ST_orderByDistance_5 G x c 17 w 0 0).1) G sz)) 1 rfl ?_
  exact zer rfl rfl
def g_ST_changedPages_11 (G : List zC) (t : Int32) (w : yW) : Nat → Int32 → Int32 → Int32
  | 0, pg, q => pg
  | n + 1, pg, q => (bif zc .ge q 16 then pg else (bif zc .ne (e_Ta_hasSameRow G (14 + 12 * t.toNatClampNeg) (17 + 12 * t.toNatClampNeg) q w) 0 then g_ST_changedPages_11 G t w n  pg (q + Int32.ofInt 1) else g_ST_changedPages_11 G t w n  (pg ||| (e_ST_pageBit t q)) (q + Int32.ofInt 1)))
set_option maxRecDepth 100000 in
theorem t_ST_changedPages_11 {fr lo sz : Nat} {r : Option Value × zH} (G : List zC) (t : Int32) (w : yW) (ht : zIx t 2) (hR : yRk w G) (hlo : 46 ≤ lo) : ∀ (n : Nat) (pg : Int32) (q : Int32) (h0 : 0 ≤ q.toInt) (h1 : q.toInt ≤ 16) (hn : 16 < q.toInt + n) (k : zRun (fr + 2) lo none M_ST_changedPages (50, [(0, .ref 0), (2, .int t), (1, .int ((g_ST_changedPages_11 G t w n pg q)))], []) (yhp w G sz) r), zRun (fr + 2) lo none M_ST_changedPages (11, [(0, .ref 0), (2, .int t), (1, .int pg), (3, .int q)], []) (yhp w G sz) r := by
  intro n
  induction n with
  | zero => intro pg q h0 h1 hn k; exfalso; omega
  | succ n ih =>
    intro pg q h0 h1 hn k
    rw [g_ST_changedPages_11] at k
    refine zeN (q := ((14, [(0, .ref 0), (2, .int t), (1, .int pg), (3, .int q)], [.int 16, .int q]), yhp w G sz)) 2 rfl ?_
    refine zbc (q1 := (50, [(0, .ref 0), (2, .int t), (1, .int pg), (3, .int q)], [])) (q2 := (17, [(0, .ref 0), (2, .int t), (1, .int pg), (3, .int q)], [])) (cB := zc .ge q 16) (off := 36) (lv := [(0, .ref 0), (2, .int t), (1, .int pg), (3, .int q)]) (st := []) rfl rfl rfl rfl rfl (fun c14 => ?_) (fun c14 => ?_)
    · rw [c14] at k
      refine zeS [(0, .ref 0), (2, .int t), (1, .int pg)] (zsub_pick [0, 1, 2] rfl rfl) ?_
      exact k
    · rw [c14] at k
      have hcc : ¬ (16 : Int) ≤ q.toInt := of_decide_eq_false (z_ge c14).symm
      have hq : zIx q 16 := ⟨h0, by omega⟩
      have hi1 := z_inc (a := q) (by omega) (by omega)
      refine zeN (q := ((18, [(0, .ref 0), (2, .int t), (1, .int pg), (3, .int q)], [.ref 0]), yhp w G sz)) 1 rfl ?_
      refine ygf (kk := .inl (.ref 1)) (v := .ref 1) rfl rfl rfl rfl rfl rfl rfl ?_
      refine zeN (q := ((22, [(0, .ref 0), (2, .int t), (1, .int pg), (3, .int q)], [.int t, .ref 1]), yhp w G sz)) 1 rfl ?_
      refine yfP rfl rfl (by assumption) ?_
      refine zeN (q := ((24, [(0, .ref 0), (2, .int t), (1, .int pg), (3, .int q)], [.ref 0, .ref (14 + 12 * t.toNatClampNeg)]), yhp w G sz)) 1 rfl ?_
      refine ygf (kk := .inl (.ref 2)) (v := .ref 2) rfl rfl rfl rfl rfl rfl rfl ?_
      refine zeN (q := ((28, [(0, .ref 0), (2, .int t), (1, .int pg), (3, .int q)], [.int t, .ref 2, .ref (14 + 12 * t.toNatClampNeg)]), yhp w G sz)) 1 rfl ?_
      refine yfC rfl rfl (by assumption) ?_
      refine zeN (q := ((30, [(0, .ref 0), (2, .int t), (1, .int pg), (3, .int q)], [.int q, .ref (17 + 12 * t.toNatClampNeg), .ref (14 + 12 * t.toNatClampNeg)]), yhp w G sz)) 1 rfl ?_
      refine zec 1 (M' := M_Ta_hasSameRow) (qq := ([.ref (14 + 12 * t.toNatClampNeg), .ref (17 + 12 * t.toNatClampNeg), .int q], [])) (s' := (33, [(0, .ref 0), (2, .int t), (1, .int pg), (3, .int q)], [.int (e_Ta_hasSameRow G (14 + 12 * t.toNatClampNeg) (17 + 12 * t.toNatClampNeg) q w)])) rfl rfl (fun _ => rfl) rfl rfl (zhk rfl (zrc_ok (yhp_o (yTb_P ht).1)) rfl) (r_Ta_hasSameRow G _ _ q _ (yTb_P ht) (yTb_C ht) hR (by omega)) rfl ?_
      refine zbc (q1 := (44, [(0, .ref 0), (2, .int t), (1, .int pg), (3, .int q)], [])) (q2 := (36, [(0, .ref 0), (2, .int t), (1, .int pg), (3, .int q)], [])) (cB := zc .ne (e_Ta_hasSameRow G (14 + 12 * t.toNatClampNeg) (17 + 12 * t.toNatClampNeg) q w) 0) (off := 11) (lv := [(0, .ref 0), (2, .int t), (1, .int pg), (3, .int q)]) (st := []) rfl rfl rfl rfl rfl (fun c33 => ?_) (fun c33 => ?_)
      · rw [c33] at k
        refine zeN (q := ((11, [(3, .int (q + Int32.ofInt 1)), (0, .ref 0), (2, .int t), (1, .int pg)], []), yhp w G sz)) 2 rfl ?_
        refine zeS [(0, .ref 0), (2, .int t), (1, .int pg), (3, .int (q + Int32.ofInt 1))] (zsub_pick [1, 2, 3, 0] rfl rfl) ?_
        exact ih  pg (q + Int32.ofInt 1) (by omega) (by omega) (by omega) k
      · rw [c33] at k
        refine zeN (q := ((39, [(0, .ref 0), (2, .int t), (1, .int pg), (3, .int q)], [.int q, .int t, .int pg]), yhp w G sz)) 3 rfl ?_
        refine zec 0 (M' := M_ST_pageBit) (qq := ([.int t, .int q], [.int pg])) (s' := (42, [(0, .ref 0), (2, .int t), (1, .int pg), (3, .int q)], [.int (e_ST_pageBit t q), .int pg])) rfl rfl (fun _ => rfl) rfl rfl rfl (r_ST_pageBit t q (by omega)) rfl ?_
        refine zeN (q := ((11, [(3, .int (q + Int32.ofInt 1)), (1, .int (pg ||| (e_ST_pageBit t q))), (0, .ref 0), (2, .int t)], []), yhp w G sz)) 4 rfl ?_
        refine zeS [(0, .ref 0), (2, .int t), (1, .int (pg ||| (e_ST_pageBit t q))), (3, .int (q + Int32.ofInt 1))] (zsub_pick [2, 3, 1, 0] rfl rfl) ?_
        exact ih  (pg ||| (e_ST_pageBit t q)) (q + Int32.ofInt 1) (by omega) (by omega) (by omega) k
def g_ST_changedPages_4 (G : List zC) (w : yW) : Nat → Int32 → Int32 → Int32
  | 0, pg, t => pg
  | n + 1, pg, t => (bif zc .ge t 2 then pg else g_ST_changedPages_4 G w n  ((g_ST_changedPages_11 G t w 17 pg 0)) (t + Int32.ofInt 1))
set_option maxRecDepth 100000 in
theorem t_ST_changedPages_4 {fr lo sz : Nat} {r : Option Value × zH} (G : List zC) (w : yW) (hR : yRk w G) (hlo : 46 ≤ lo) : ∀ (n : Nat) (pg : Int32) (t : Int32) (k0 : 0 ≤ t.toInt) (k1 : t.toInt ≤ 2) (kn : 2 < t.toInt + n) (k : zRun (fr + 2) lo none M_ST_changedPages (56, [(0, .ref 0), (1, .int ((g_ST_changedPages_4 G w n pg t)))], []) (yhp w G sz) r), zRun (fr + 2) lo none M_ST_changedPages (4, [(0, .ref 0), (1, .int pg), (2, .int t)], []) (yhp w G sz) r := by
  intro n
  induction n with
  | zero => intro pg t k0 k1 kn k; exfalso; omega
  | succ n ih =>
    intro pg t k0 k1 kn k
    rw [g_ST_changedPages_4] at k
    refine zeN (q := ((6, [(0, .ref 0), (1, .int pg), (2, .int t)], [.int 2, .int t]), yhp w G sz)) 2 rfl ?_
    refine zbc (q1 := (56, [(0, .ref 0), (1, .int pg), (2, .int t)], [])) (q2 := (9, [(0, .ref 0), (1, .int pg), (2, .int t)], [])) (cB := zc .ge t 2) (off := 50) (lv := [(0, .ref 0), (1, .int pg), (2, .int t)]) (st := []) rfl rfl rfl rfl rfl (fun c6 => ?_) (fun c6 => ?_)
    · rw [c6] at k
      refine zeS [(0, .ref 0), (1, .int pg)] (zsub_pick [0, 1] rfl rfl) ?_
      exact k
    · rw [c6] at k
      have hct : ¬ (2 : Int) ≤ t.toInt := of_decide_eq_false (z_ge c6).symm
      have ht : zIx t 2 := ⟨k0, by omega⟩
      have hi2 := z_inc (a := t) (by omega) (by omega)
      refine zeN (q := ((11, [(3, .int 0), (0, .ref 0), (1, .int pg), (2, .int t)], []), yhp w G sz)) 2 rfl ?_
      refine zeS [(0, .ref 0), (2, .int t), (1, .int pg), (3, .int 0)] (zsub_pick [1, 3, 2, 0] rfl rfl) ?_
      refine t_ST_changedPages_11 G t w ht hR (by omega) 17  pg 0 (by decide) (by decide) (by decide) ?_
      refine zeN (q := ((4, [(2, .int (t + Int32.ofInt 1)), (0, .ref 0), (1, .int ((g_ST_changedPages_11 G t w 17 pg 0)))], []), yhp w G sz)) 2 rfl ?_
      refine zeS [(0, .ref 0), (1, .int ((g_ST_changedPages_11 G t w 17 pg 0))), (2, .int (t + Int32.ofInt 1))] (zsub_pick [1, 2, 0] rfl rfl) ?_
      exact ih  ((g_ST_changedPages_11 G t w 17 pg 0)) (t + Int32.ofInt 1) (by omega) (by omega) (by omega) k
def e_ST_changedPages (G : List zC) (w : yW) : Int32 := (g_ST_changedPages_4 G w 3 0 0)
set_option maxRecDepth 100000 in
theorem r_ST_changedPages {fr lo sz : Nat} (G : List zC) (w : yW) (hR : yRk w G) (hlo : 69 ≤ lo) : zAns (fr + 3) lo 82 [.ref 0] (yhp w G sz) (some (.int ((e_ST_changedPages G w))), yhp w G sz) := by
  unfold e_ST_changedPages
  refine zeb (fr := fr + 2) (M := M_ST_changedPages) rfl (Nat.le_trans (by decide) hlo) rfl ?_
  have e0 : mL M_ST_changedPages = 4 := rfl
  refine zeN (q := ((4, [(2, .int 0), (1, .int 0), (0, .ref 0)], []), yhp w G sz)) 4 rfl ?_
  refine zeS [(0, .ref 0), (1, .int 0), (2, .int 0)] (zsub_pick [2, 1, 0] rfl rfl) ?_
  refine t_ST_changedPages_4 G w hR (by omega) 3  0 0 (by decide) (by decide) (by decide) ?_
  refine zeN (q := ((57, [(0, .ref 0), (1, .int ((g_ST_changedPages_4 G w 3 0 0)))], [.int ((g_ST_changedPages_4 G w 3 0 0))]), yhp w G sz)) 1 rfl ?_
  exact zer rfl rfl
def g_ST_pagesWithRows_11 (t : Int32) (w : yW) : Nat → Int32 → Int32 → Int32
  | 0, pg, q => pg
  | n + 1, pg, q => (bif zc .ge q 16 then pg else (bif yN (e_Ta_placeAt (14 + 12 * t.toNatClampNeg) q w) then g_ST_pagesWithRows_11 t w n  pg (q + Int32.ofInt 1) else g_ST_pagesWithRows_11 t w n  (pg ||| (e_ST_pageBit t q)) (q + Int32.ofInt 1)))
set_option maxRecDepth 100000 in
theorem t_ST_pagesWithRows_11 {fr lo sz : Nat} {r : Option Value × zH} {G : List zC} (t : Int32) (w : yW) (ht : zIx t 2) (hlo : 22 ≤ lo) : ∀ (n : Nat) (pg : Int32) (q : Int32) (h0 : 0 ≤ q.toInt) (h1 : q.toInt ≤ 16) (hn : 16 < q.toInt + n) (k : zRun (fr + 1) lo none M_ST_pagesWithRows (44, [(0, .ref 0), (2, .int t), (1, .int ((g_ST_pagesWithRows_11 t w n pg q)))], []) (yhp w G sz) r), zRun (fr + 1) lo none M_ST_pagesWithRows (11, [(0, .ref 0), (2, .int t), (1, .int pg), (3, .int q)], []) (yhp w G sz) r := by
  intro n
  induction n with
  | zero => intro pg q h0 h1 hn k; exfalso; omega
  | succ n ih =>
    intro pg q h0 h1 hn k
    rw [g_ST_pagesWithRows_11] at k
    refine zeN (q := ((14, [(0, .ref 0), (2, .int t), (1, .int pg), (3, .int q)], [.int 16, .int q]), yhp w G sz)) 2 rfl ?_
    refine zbc (q1 := (44, [(0, .ref 0), (2, .int t), (1, .int pg), (3, .int q)], [])) (q2 := (17, [(0, .ref 0), (2, .int t), (1, .int pg), (3, .int q)], [])) (cB := zc .ge q 16) (off := 30) (lv := [(0, .ref 0), (2, .int t), (1, .int pg), (3, .int q)]) (st := []) rfl rfl rfl rfl rfl (fun c14 => ?_) (fun c14 => ?_)
    · rw [c14] at k
      refine zeS [(0, .ref 0), (2, .int t), (1, .int pg)] (zsub_pick [0, 1, 2] rfl rfl) ?_
      exact k
    · rw [c14] at k
      have hcc : ¬ (16 : Int) ≤ q.toInt := of_decide_eq_false (z_ge c14).symm
      have hq : zIx q 16 := ⟨h0, by omega⟩
      have hi1 := z_inc (a := q) (by omega) (by omega)
      refine zeN (q := ((18, [(0, .ref 0), (2, .int t), (1, .int pg), (3, .int q)], [.ref 0]), yhp w G sz)) 1 rfl ?_
      refine ygf (kk := .inl (.ref 1)) (v := .ref 1) rfl rfl rfl rfl rfl rfl rfl ?_
      refine zeN (q := ((22, [(0, .ref 0), (2, .int t), (1, .int pg), (3, .int q)], [.int t, .ref 1]), yhp w G sz)) 1 rfl ?_
      refine yfP rfl rfl (by assumption) ?_
      refine zeN (q := ((24, [(0, .ref 0), (2, .int t), (1, .int pg), (3, .int q)], [.int q, .ref (14 + 12 * t.toNatClampNeg)]), yhp w G sz)) 1 rfl ?_
      refine zec 1 (M' := M_Ta_placeAt) (qq := ([.ref (14 + 12 * t.toNatClampNeg), .int q], [])) (s' := (27, [(0, .ref 0), (2, .int t), (1, .int pg), (3, .int q)], [yrv (e_Ta_placeAt (14 + 12 * t.toNatClampNeg) q w)])) rfl rfl (fun _ => rfl) rfl rfl (zhk rfl (zrc_ok (yhp_o (yTb_P ht).1)) rfl) (r_Ta_placeAt _ _ _ (yTb_P ht) (by omega)) rfl ?_
      refine zbc (q1 := (38, [(0, .ref 0), (2, .int t), (1, .int pg), (3, .int q)], [])) (q2 := (30, [(0, .ref 0), (2, .int t), (1, .int pg), (3, .int q)], [])) (cB := yN (e_Ta_placeAt (14 + 12 * t.toNatClampNeg) q w)) (off := 11) (lv := [(0, .ref 0), (2, .int t), (1, .int pg), (3, .int q)]) (st := []) rfl rfl (ybnn (e_Ta_placeAt (14 + 12 * t.toNatClampNeg) q w)) rfl rfl (fun c27 => ?_) (fun c27 => ?_)
      · rw [c27] at k
        refine zeN (q := ((11, [(3, .int (q + Int32.ofInt 1)), (0, .ref 0), (2, .int t), (1, .int pg)], []), yhp w G sz)) 2 rfl ?_
        refine zeS [(0, .ref 0), (2, .int t), (1, .int pg), (3, .int (q + Int32.ofInt 1))] (zsub_pick [1, 2, 3, 0] rfl rfl) ?_
        exact ih  pg (q + Int32.ofInt 1) (by omega) (by omega) (by omega) k
      · rw [c27] at k
        refine zeN (q := ((33, [(0, .ref 0), (2, .int t), (1, .int pg), (3, .int q)], [.int q, .int t, .int pg]), yhp w G sz)) 3 rfl ?_
        refine zec 0 (M' := M_ST_pageBit) (qq := ([.int t, .int q], [.int pg])) (s' := (36, [(0, .ref 0), (2, .int t), (1, .int pg), (3, .int q)], [.int (e_ST_pageBit t q), .int pg])) rfl rfl (fun _ => rfl) rfl rfl rfl (r_ST_pageBit t q (by omega)) rfl ?_
        refine zeN (q := ((11, [(3, .int (q + Int32.ofInt 1)), (1, .int (pg ||| (e_ST_pageBit t q))), (0, .ref 0), (2, .int t)], []), yhp w G sz)) 4 rfl ?_
        refine zeS [(0, .ref 0), (2, .int t), (1, .int (pg ||| (e_ST_pageBit t q))), (3, .int (q + Int32.ofInt 1))] (zsub_pick [2, 3, 1, 0] rfl rfl) ?_
        exact ih  (pg ||| (e_ST_pageBit t q)) (q + Int32.ofInt 1) (by omega) (by omega) (by omega) k
def g_ST_pagesWithRows_4  (w : yW) : Nat → Int32 → Int32 → Int32
  | 0, pg, t => pg
  | n + 1, pg, t => (bif zc .ge t 2 then pg else g_ST_pagesWithRows_4  w n  ((g_ST_pagesWithRows_11 t w 17 pg 0)) (t + Int32.ofInt 1))
set_option maxRecDepth 100000 in
theorem t_ST_pagesWithRows_4 {fr lo sz : Nat} {r : Option Value × zH} {G : List zC}  (w : yW)  (hlo : 22 ≤ lo) : ∀ (n : Nat) (pg : Int32) (t : Int32) (k0 : 0 ≤ t.toInt) (k1 : t.toInt ≤ 2) (kn : 2 < t.toInt + n) (k : zRun (fr + 1) lo none M_ST_pagesWithRows (50, [(0, .ref 0), (1, .int ((g_ST_pagesWithRows_4  w n pg t)))], []) (yhp w G sz) r), zRun (fr + 1) lo none M_ST_pagesWithRows (4, [(0, .ref 0), (1, .int pg), (2, .int t)], []) (yhp w G sz) r := by
  intro n
  induction n with
  | zero => intro pg t k0 k1 kn k; exfalso; omega
  | succ n ih =>
    intro pg t k0 k1 kn k
    rw [g_ST_pagesWithRows_4] at k
    refine zeN (q := ((6, [(0, .ref 0), (1, .int pg), (2, .int t)], [.int 2, .int t]), yhp w G sz)) 2 rfl ?_
    refine zbc (q1 := (50, [(0, .ref 0), (1, .int pg), (2, .int t)], [])) (q2 := (9, [(0, .ref 0), (1, .int pg), (2, .int t)], [])) (cB := zc .ge t 2) (off := 44) (lv := [(0, .ref 0), (1, .int pg), (2, .int t)]) (st := []) rfl rfl rfl rfl rfl (fun c6 => ?_) (fun c6 => ?_)
    · rw [c6] at k
      refine zeS [(0, .ref 0), (1, .int pg)] (zsub_pick [0, 1] rfl rfl) ?_
      exact k
    · rw [c6] at k
      have hct : ¬ (2 : Int) ≤ t.toInt := of_decide_eq_false (z_ge c6).symm
      have ht : zIx t 2 := ⟨k0, by omega⟩
      have hi2 := z_inc (a := t) (by omega) (by omega)
      refine zeN (q := ((11, [(3, .int 0), (0, .ref 0), (1, .int pg), (2, .int t)], []), yhp w G sz)) 2 rfl ?_
      refine zeS [(0, .ref 0), (2, .int t), (1, .int pg), (3, .int 0)] (zsub_pick [1, 3, 2, 0] rfl rfl) ?_
      refine t_ST_pagesWithRows_11 t w ht (by omega) 17  pg 0 (by decide) (by decide) (by decide) ?_
      refine zeN (q := ((4, [(2, .int (t + Int32.ofInt 1)), (0, .ref 0), (1, .int ((g_ST_pagesWithRows_11 t w 17 pg 0)))], []), yhp w G sz)) 2 rfl ?_
      refine zeS [(0, .ref 0), (1, .int ((g_ST_pagesWithRows_11 t w 17 pg 0))), (2, .int (t + Int32.ofInt 1))] (zsub_pick [1, 2, 0] rfl rfl) ?_
      exact ih  ((g_ST_pagesWithRows_11 t w 17 pg 0)) (t + Int32.ofInt 1) (by omega) (by omega) (by omega) k
def e_ST_pagesWithRows  (w : yW) : Int32 := (g_ST_pagesWithRows_4  w 3 0 0)
set_option maxRecDepth 100000 in
theorem r_ST_pagesWithRows {fr lo sz : Nat} {G : List zC}  (w : yW)  (hlo : 45 ≤ lo) : zAns (fr + 2) lo 86 [.ref 0] (yhp w G sz) (some (.int ((e_ST_pagesWithRows  w))), yhp w G sz) := by
  unfold e_ST_pagesWithRows
  refine zeb (fr := fr + 1) (M := M_ST_pagesWithRows) rfl (Nat.le_trans (by decide) hlo) rfl ?_
  have e0 : mL M_ST_pagesWithRows = 4 := rfl
  refine zeN (q := ((4, [(2, .int 0), (1, .int 0), (0, .ref 0)], []), yhp w G sz)) 4 rfl ?_
  refine zeS [(0, .ref 0), (1, .int 0), (2, .int 0)] (zsub_pick [2, 1, 0] rfl rfl) ?_
  refine t_ST_pagesWithRows_4  w  (by omega) 3  0 0 (by decide) (by decide) (by decide) ?_
  refine zeN (q := ((51, [(0, .ref 0), (1, .int ((g_ST_pagesWithRows_4  w 3 0 0)))], [.int ((g_ST_pagesWithRows_4  w 3 0 0))]), yhp w G sz)) 1 rfl ?_
  exact zer rfl rfl
theorem yRk_2c {c e : Nat} {G : List zC} : ∀ (n : Nat) (w : yW) (q : Int32), yRk w G → yRk (g_Ta_copy_2 c e n w q) G := by
  intro n
  induction n with
  | zero => intro w q h; exact h
  | succ n ih =>
    intro w q h
    rw [g_Ta_copy_2]
    cases zc .ge q 16
    · exact ih _ _ (yRk_R (yRk_I h) (fun x hx => h _ _ x hx))
    · exact h
theorem yRk_cp {c e : Nat} {G : List zC} {w : yW} (h : yRk w G) : yRk (e_Ta_copy c e w) G := yRk_2c 17 w 0 h
def g_ST_keepPresentTables_2  : Nat → yW → Int32 → yW
  | 0, w, t => w
  | n + 1, w, t => (bif zc .ge t 2 then w else g_ST_keepPresentTables_2   n (e_Ta_copy (17 + 12 * t.toNatClampNeg) (14 + 12 * t.toNatClampNeg) w) (t + Int32.ofInt 1))
set_option maxRecDepth 100000 in
theorem t_ST_keepPresentTables_2 {fr lo sz : Nat} {r : Option Value × zH} {G : List zC}   (hlo : 22 ≤ lo) : ∀ (n : Nat) (w : yW) (t : Int32) (hR : yRk w G) (k0 : 0 ≤ t.toInt) (k1 : t.toInt ≤ 2) (kn : 2 < t.toInt + n) (k : zRun (fr + 1) lo none M_ST_keepPresentTables (28, [(0, .ref 0)], []) (yhp (g_ST_keepPresentTables_2  n w t) G sz) r), zRun (fr + 1) lo none M_ST_keepPresentTables (2, [(0, .ref 0), (1, .int t)], []) (yhp w G sz) r := by
  intro n
  induction n with
  | zero => intro w t hR k0 k1 kn k; exfalso; omega
  | succ n ih =>
    intro w t hR k0 k1 kn k
    rw [g_ST_keepPresentTables_2] at k
    refine zeN (q := ((4, [(0, .ref 0), (1, .int t)], [.int 2, .int t]), yhp w G sz)) 2 rfl ?_
    refine zbc (q1 := (28, [(0, .ref 0), (1, .int t)], [])) (q2 := (7, [(0, .ref 0), (1, .int t)], [])) (cB := zc .ge t 2) (off := 24) (lv := [(0, .ref 0), (1, .int t)]) (st := []) rfl rfl rfl rfl rfl (fun c4 => ?_) (fun c4 => ?_)
    · rw [c4] at k
      refine zeS [(0, .ref 0)] (zsub_pick [0] rfl rfl) ?_
      exact k
    · rw [c4] at k
      have hct : ¬ (2 : Int) ≤ t.toInt := of_decide_eq_false (z_ge c4).symm
      have ht : zIx t 2 := ⟨k0, by omega⟩
      have hi2 := z_inc (a := t) (by omega) (by omega)
      refine zeN (q := ((8, [(0, .ref 0), (1, .int t)], [.ref 0]), yhp w G sz)) 1 rfl ?_
      refine ygf (kk := .inl (.ref 2)) (v := .ref 2) rfl rfl rfl rfl rfl rfl rfl ?_
      refine zeN (q := ((12, [(0, .ref 0), (1, .int t)], [.int t, .ref 2]), yhp w G sz)) 1 rfl ?_
      refine yfC rfl rfl (by assumption) ?_
      refine zeN (q := ((14, [(0, .ref 0), (1, .int t)], [.ref 0, .ref (17 + 12 * t.toNatClampNeg)]), yhp w G sz)) 1 rfl ?_
      refine ygf (kk := .inl (.ref 1)) (v := .ref 1) rfl rfl rfl rfl rfl rfl rfl ?_
      refine zeN (q := ((18, [(0, .ref 0), (1, .int t)], [.int t, .ref 1, .ref (17 + 12 * t.toNatClampNeg)]), yhp w G sz)) 1 rfl ?_
      refine yfP rfl rfl (by assumption) ?_
      refine zec 1 (M' := M_Ta_copy) (qq := ([.ref (17 + 12 * t.toNatClampNeg), .ref (14 + 12 * t.toNatClampNeg)], [])) (s' := (22, [(0, .ref 0), (1, .int t)], [])) rfl rfl (fun _ => rfl) rfl rfl (zhk rfl (zrc_ok (yhp_o (yTb_C ht).1)) rfl) (r_Ta_copy _ _ _ (yTb_C ht) (yTb_P ht) hR (by omega)) rfl ?_
      refine zeN (q := ((2, [(1, .int (t + Int32.ofInt 1)), (0, .ref 0)], []), yhp (e_Ta_copy (17 + 12 * t.toNatClampNeg) (14 + 12 * t.toNatClampNeg) w) G sz)) 2 rfl ?_
      refine zeS [(0, .ref 0), (1, .int (t + Int32.ofInt 1))] (zsub_pick [1, 0] rfl rfl) ?_
      exact ih (e_Ta_copy (17 + 12 * t.toNatClampNeg) (14 + 12 * t.toNatClampNeg) w) (t + Int32.ofInt 1) (yRk_cp hR) (by omega) (by omega) (by omega) k
def e_ST_keepPresentTables  (w : yW) : yW := (g_ST_keepPresentTables_2  3 w 0)
set_option maxRecDepth 100000 in
theorem r_ST_keepPresentTables {fr lo sz : Nat} {G : List zC}  (w : yW) (hR : yRk w G) (hlo : 43 ≤ lo) : zAns (fr + 2) lo 91 [.ref 0] (yhp w G sz) (none, yhp ((e_ST_keepPresentTables  w)) G sz) := by
  unfold e_ST_keepPresentTables
  refine zeb (fr := fr + 1) (M := M_ST_keepPresentTables) rfl (Nat.le_trans (by decide) hlo) rfl ?_
  have e0 : mL M_ST_keepPresentTables = 2 := rfl
  refine zeN (q := ((2, [(1, .int 0), (0, .ref 0)], []), yhp w G sz)) 2 rfl ?_
  refine zeS [(0, .ref 0), (1, .int 0)] (zsub_pick [1, 0] rfl rfl) ?_
  refine t_ST_keepPresentTables_2   (by omega) 3 w 0 hR (by decide) (by decide) (by decide) ?_
  exact zer rfl rfl
