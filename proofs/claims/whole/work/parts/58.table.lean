def e_Ta_put (c : Nat) (q v : Int32) (o : Option Nat) (w : yW) : yW := (bif zc .lt q 0 then w else (bif zc .ge q 16 then w else wR (wI w ((c + 1)) q.toNatClampNeg v) ((c + 2)) q.toNatClampNeg o))
set_option maxRecDepth 100000 in
theorem r_Ta_put {fr lo sz : Nat} {G : List zC} (c : Nat) (q v : Int32) (o : Option Nat) (w : yW) (hc : yTb c) (ho : ∀ x, o = some x → yOk G x) (hlo : 23 ≤ lo) : zAns (fr + 1) lo 32 [.ref c, .int q, .int v, yrv o] (yhp w G sz) (none, yhp ((e_Ta_put c q v o w)) G sz) := by
  cases o with
  | none =>
    unfold e_Ta_put
    refine zeb (fr := fr + 0) (M := M_Ta_put) rfl (Nat.le_trans (by decide) hlo) rfl ?_
    have e0 : mL M_Ta_put = 4 := rfl
    refine zeN (q := ((1, [(0, .ref c), (1, .int q), (2, .int v), (3, .null)], [.int q]), yhp w G sz)) 1 rfl ?_
    refine zbc (q1 := (24, [(0, .ref c), (1, .int q), (2, .int v), (3, .null)], [])) (q2 := (4, [(0, .ref c), (1, .int q), (2, .int v), (3, .null)], [])) (cB := zc .lt q 0) (off := 23) (lv := [(0, .ref c), (1, .int q), (2, .int v), (3, .null)]) (st := []) rfl rfl rfl rfl rfl (fun c1 => ?_) (fun c1 => ?_)
    · rw [c1]
      exact zer rfl rfl
    · rw [c1]
      refine zeN (q := ((7, [(0, .ref c), (1, .int q), (2, .int v), (3, .null)], [.int 16, .int q]), yhp w G sz)) 2 rfl ?_
      refine zbc (q1 := (24, [(0, .ref c), (1, .int q), (2, .int v), (3, .null)], [])) (q2 := (10, [(0, .ref c), (1, .int q), (2, .int v), (3, .null)], [])) (cB := zc .ge q 16) (off := 17) (lv := [(0, .ref c), (1, .int q), (2, .int v), (3, .null)]) (st := []) rfl rfl rfl rfl rfl (fun c7 => ?_) (fun c7 => ?_)
      · rw [c7]
        exact zer rfl rfl
      · rw [c7]
        have a1 := of_decide_eq_false ((zc_lt q 0).symm.trans c1)
        have a2 : ¬ (16 : Int) ≤ q.toInt := of_decide_eq_false (z_ge c7).symm
        have hq : zIx q 16 := ⟨by have := z_i0; omega, by omega⟩
        refine zeN (q := ((11, [(0, .ref c), (1, .int q), (2, .int v), (3, .null)], [.ref c]), yhp w G sz)) 1 rfl ?_
        refine ygf (kk := .inl (.ref (c + 1))) (v := .ref ((c + 1))) rfl rfl rfl rfl hc.1 rfl rfl ?_
        refine zeN (q := ((16, [(0, .ref c), (1, .int q), (2, .int v), (3, .null)], [.int v, .int q, .ref ((c + 1))]), yhp w G sz)) 2 rfl ?_
        refine yis (N := 16) rfl rfl hc.2.1 (by assumption) ?_
        refine zeN (q := ((18, [(0, .ref c), (1, .int q), (2, .int v), (3, .null)], [.ref c]), yhp (wI w ((c + 1)) q.toNatClampNeg v) G sz)) 1 rfl ?_
        refine ygf (kk := .inl (.ref (c + 2))) (v := .ref ((c + 2))) rfl rfl rfl rfl hc.1 rfl rfl ?_
        refine zeN (q := ((23, [(0, .ref c), (1, .int q), (2, .int v), (3, .null)], [.null, .int q, .ref ((c + 2))]), yhp (wI w ((c + 1)) q.toNatClampNeg v) G sz)) 2 rfl ?_
        refine yas (N := 16) (v := none) rfl rfl hc.2.2 (yes_ok ho) (by assumption) ?_
        exact zer rfl rfl
  | some x_ =>
    unfold e_Ta_put
    refine zeb (fr := fr + 0) (M := M_Ta_put) rfl (Nat.le_trans (by decide) hlo) rfl ?_
    have e0 : mL M_Ta_put = 4 := rfl
    refine zeN (q := ((1, [(0, .ref c), (1, .int q), (2, .int v), (3, .ref x_)], [.int q]), yhp w G sz)) 1 rfl ?_
    refine zbc (q1 := (24, [(0, .ref c), (1, .int q), (2, .int v), (3, .ref x_)], [])) (q2 := (4, [(0, .ref c), (1, .int q), (2, .int v), (3, .ref x_)], [])) (cB := zc .lt q 0) (off := 23) (lv := [(0, .ref c), (1, .int q), (2, .int v), (3, .ref x_)]) (st := []) rfl rfl rfl rfl rfl (fun c1 => ?_) (fun c1 => ?_)
    · rw [c1]
      exact zer rfl rfl
    · rw [c1]
      refine zeN (q := ((7, [(0, .ref c), (1, .int q), (2, .int v), (3, .ref x_)], [.int 16, .int q]), yhp w G sz)) 2 rfl ?_
      refine zbc (q1 := (24, [(0, .ref c), (1, .int q), (2, .int v), (3, .ref x_)], [])) (q2 := (10, [(0, .ref c), (1, .int q), (2, .int v), (3, .ref x_)], [])) (cB := zc .ge q 16) (off := 17) (lv := [(0, .ref c), (1, .int q), (2, .int v), (3, .ref x_)]) (st := []) rfl rfl rfl rfl rfl (fun c7 => ?_) (fun c7 => ?_)
      · rw [c7]
        exact zer rfl rfl
      · rw [c7]
        have a1 := of_decide_eq_false ((zc_lt q 0).symm.trans c1)
        have a2 : ¬ (16 : Int) ≤ q.toInt := of_decide_eq_false (z_ge c7).symm
        have hq : zIx q 16 := ⟨by have := z_i0; omega, by omega⟩
        refine zeN (q := ((11, [(0, .ref c), (1, .int q), (2, .int v), (3, .ref x_)], [.ref c]), yhp w G sz)) 1 rfl ?_
        refine ygf (kk := .inl (.ref (c + 1))) (v := .ref ((c + 1))) rfl rfl rfl rfl hc.1 rfl rfl ?_
        refine zeN (q := ((16, [(0, .ref c), (1, .int q), (2, .int v), (3, .ref x_)], [.int v, .int q, .ref ((c + 1))]), yhp w G sz)) 2 rfl ?_
        refine yis (N := 16) rfl rfl hc.2.1 (by assumption) ?_
        refine zeN (q := ((18, [(0, .ref c), (1, .int q), (2, .int v), (3, .ref x_)], [.ref c]), yhp (wI w ((c + 1)) q.toNatClampNeg v) G sz)) 1 rfl ?_
        refine ygf (kk := .inl (.ref (c + 2))) (v := .ref ((c + 2))) rfl rfl rfl rfl hc.1 rfl rfl ?_
        refine zeN (q := ((23, [(0, .ref c), (1, .int q), (2, .int v), (3, .ref x_)], [.ref x_, .int q, .ref ((c + 2))]), yhp (wI w ((c + 1)) q.toNatClampNeg v) G sz)) 2 rfl ?_
        refine yas (N := 16) (v := some x_) rfl rfl hc.2.2 (yes_ok ho) (by assumption) ?_
        exact zer rfl rfl
set_option maxRecDepth 100000 in
theorem kf_Ta_put (c : Nat) (q v : Int32) (o : Option Nat) (w : yW)  : yK [(c + 1, none), (c + 2, none)] w (e_Ta_put c q v o w ) := by unfold e_Ta_put; exact (yK_if yK_rfl (yK_if yK_rfl (yK_wR (by first | exact ySt_hd | exact ySt_tl ySt_hd | exact ySt_tl (ySt_tl ySt_hd) | exact ySt_tl (ySt_tl (ySt_tl ySt_hd)) | exact ySt_tl (ySt_tl (ySt_tl (ySt_tl ySt_hd))) | exact ySt_tl (ySt_tl (ySt_tl (ySt_tl (ySt_tl ySt_hs))))) (yK_wI (by first | exact ySt_hd | exact ySt_tl ySt_hd | exact ySt_tl (ySt_tl ySt_hd) | exact ySt_tl (ySt_tl (ySt_tl ySt_hd)) | exact ySt_tl (ySt_tl (ySt_tl (ySt_tl ySt_hd))) | exact ySt_tl (ySt_tl (ySt_tl (ySt_tl (ySt_tl ySt_hs))))) yK_rfl))))
def e_Ta_placeAt (c : Nat) (q : Int32) (w : yW) : Option Nat := (bif zc .lt q 0 then none else (bif zc .ge q 16 then none else (w.2.2 ((c + 2)) q.toNatClampNeg)))
set_option maxRecDepth 100000 in
theorem r_Ta_placeAt {fr lo sz : Nat} {G : List zC} (c : Nat) (q : Int32) (w : yW) (hc : yTb c) (hlo : 21 ≤ lo) : zAns (fr + 1) lo 41 [.ref c, .int q] (yhp w G sz) (some (yrv ((e_Ta_placeAt c q w))), yhp w G sz) := by
  unfold e_Ta_placeAt
  refine zeb (fr := fr + 0) (M := M_Ta_placeAt) rfl (Nat.le_trans (by decide) hlo) rfl ?_
  have e0 : mL M_Ta_placeAt = 2 := rfl
  refine zeN (q := ((1, [(0, .ref c), (1, .int q)], [.int q]), yhp w G sz)) 1 rfl ?_
  refine zbc (q1 := (19, [(0, .ref c), (1, .int q)], [])) (q2 := (4, [(0, .ref c), (1, .int q)], [])) (cB := zc .lt q 0) (off := 18) (lv := [(0, .ref c), (1, .int q)]) (st := []) rfl rfl rfl rfl rfl (fun c1 => ?_) (fun c1 => ?_)
  · rw [c1]
    refine zeN (q := ((20, [(0, .ref c), (1, .int q)], [.null]), yhp w G sz)) 1 rfl ?_
    exact zer rfl rfl
  · rw [c1]
    refine zeN (q := ((7, [(0, .ref c), (1, .int q)], [.int 16, .int q]), yhp w G sz)) 2 rfl ?_
    refine zbc (q1 := (19, [(0, .ref c), (1, .int q)], [])) (q2 := (10, [(0, .ref c), (1, .int q)], [])) (cB := zc .ge q 16) (off := 12) (lv := [(0, .ref c), (1, .int q)]) (st := []) rfl rfl rfl rfl rfl (fun c7 => ?_) (fun c7 => ?_)
    · rw [c7]
      refine zeN (q := ((20, [(0, .ref c), (1, .int q)], [.null]), yhp w G sz)) 1 rfl ?_
      exact zer rfl rfl
    · rw [c7]
      have a1 := of_decide_eq_false ((zc_lt q 0).symm.trans c1)
      have a2 : ¬ (16 : Int) ≤ q.toInt := of_decide_eq_false (z_ge c7).symm
      have hq : zIx q 16 := ⟨by have := z_i0; omega, by omega⟩
      refine zeN (q := ((11, [(0, .ref c), (1, .int q)], [.ref c]), yhp w G sz)) 1 rfl ?_
      refine ygf (kk := .inl (.ref (c + 2))) (v := .ref ((c + 2))) rfl rfl rfl rfl hc.1 rfl rfl ?_
      refine zeN (q := ((15, [(0, .ref c), (1, .int q)], [.int q, .ref ((c + 2))]), yhp w G sz)) 1 rfl ?_
      refine yaa (N := 16) rfl rfl hc.2.2 (by assumption) ?_
      refine zeN (q := ((20, [(0, .ref c), (1, .int q)], [yrv (w.2.2 ((c + 2)) q.toNatClampNeg)]), yhp w G sz)) 1 rfl ?_
      exact zer rfl (yre (w.2.2 ((c + 2)) q.toNatClampNeg))
theorem placeAt_ok {G : List zC} {w : yW} {c : Nat} {q : Int32} (hR : yRk w G) (x : Nat) (h : e_Ta_placeAt c q w = some x) : yOk G x := by
  unfold e_Ta_placeAt at h
  cases c1 : zc .lt q 0
  · cases c2 : zc .ge q 16
    · rw [c1, c2] at h
      exact hR _ _ x h
    · rw [c1, c2] at h
      cases h
  · rw [c1] at h
    cases h
theorem placeAt_n {G : List zC} {w : yW} {c : Nat} {q : Int32} (hR : yRk w G) (h : yN (e_Ta_placeAt c q w) = false) : yOk G (yd (e_Ta_placeAt c q w)) := placeAt_ok hR _ (yN_eq h)
theorem placeAt_s {G : List zC} {w : yW} {c : Nat} {q : Int32} (hR : yRk w G) (h : yS (e_Ta_placeAt c q w) = true) : yOk G (yd (e_Ta_placeAt c q w)) := placeAt_ok hR _ (yS_eq h)
def e_Ta_amountOf (c : Nat) (q : Int32) (w : yW) : Int32 := (bif zc .lt q 0 then 0 else (bif zc .ge q 16 then 0 else w.1 ((c + 1)) q.toNatClampNeg))
set_option maxRecDepth 100000 in
theorem r_Ta_amountOf {fr lo sz : Nat} {G : List zC} (c : Nat) (q : Int32) (w : yW) (hc : yTb c) (hlo : 21 ≤ lo) : zAns (fr + 1) lo 64 [.ref c, .int q] (yhp w G sz) (some (.int ((e_Ta_amountOf c q w))), yhp w G sz) := by
  unfold e_Ta_amountOf
  refine zeb (fr := fr + 0) (M := M_Ta_amountOf) rfl (Nat.le_trans (by decide) hlo) rfl ?_
  have e0 : mL M_Ta_amountOf = 2 := rfl
  refine zeN (q := ((1, [(0, .ref c), (1, .int q)], [.int q]), yhp w G sz)) 1 rfl ?_
  refine zbc (q1 := (19, [(0, .ref c), (1, .int q)], [])) (q2 := (4, [(0, .ref c), (1, .int q)], [])) (cB := zc .lt q 0) (off := 18) (lv := [(0, .ref c), (1, .int q)]) (st := []) rfl rfl rfl rfl rfl (fun c1 => ?_) (fun c1 => ?_)
  · rw [c1]
    refine zeN (q := ((20, [(0, .ref c), (1, .int q)], [.int 0]), yhp w G sz)) 1 rfl ?_
    exact zer rfl rfl
  · rw [c1]
    refine zeN (q := ((7, [(0, .ref c), (1, .int q)], [.int 16, .int q]), yhp w G sz)) 2 rfl ?_
    refine zbc (q1 := (19, [(0, .ref c), (1, .int q)], [])) (q2 := (10, [(0, .ref c), (1, .int q)], [])) (cB := zc .ge q 16) (off := 12) (lv := [(0, .ref c), (1, .int q)]) (st := []) rfl rfl rfl rfl rfl (fun c7 => ?_) (fun c7 => ?_)
    · rw [c7]
      refine zeN (q := ((20, [(0, .ref c), (1, .int q)], [.int 0]), yhp w G sz)) 1 rfl ?_
      exact zer rfl rfl
    · rw [c7]
      have a1 := of_decide_eq_false ((zc_lt q 0).symm.trans c1)
      have a2 : ¬ (16 : Int) ≤ q.toInt := of_decide_eq_false (z_ge c7).symm
      have hq : zIx q 16 := ⟨by have := z_i0; omega, by omega⟩
      refine zeN (q := ((11, [(0, .ref c), (1, .int q)], [.ref c]), yhp w G sz)) 1 rfl ?_
      refine ygf (kk := .inl (.ref (c + 1))) (v := .ref ((c + 1))) rfl rfl rfl rfl hc.1 rfl rfl ?_
      refine zeN (q := ((15, [(0, .ref c), (1, .int q)], [.int q, .ref ((c + 1))]), yhp w G sz)) 1 rfl ?_
      refine yia (N := 16) rfl rfl hc.2.1 (by assumption) ?_
      refine zeN (q := ((20, [(0, .ref c), (1, .int q)], [.int (w.1 ((c + 1)) q.toNatClampNeg)]), yhp w G sz)) 1 rfl ?_
      exact zer rfl rfl
def g_Ta_leastFreeRow_2 (c : Nat) (w : yW) : Nat → Int32 → Int32
  | 0, q => 0
  | n + 1, q => (bif zc .ge q 16 then q else (bif yN (w.2.2 ((c + 2)) q.toNatClampNeg) then q else g_Ta_leastFreeRow_2 c w n  (q + Int32.ofInt 1)))
set_option maxRecDepth 100000 in
theorem t_Ta_leastFreeRow_2 {fr lo sz : Nat} {G : List zC} (c : Nat) (w : yW) (hc : yTb c) (hlo : 0 ≤ lo) : ∀ (n : Nat) (q : Int32) (h0 : 0 ≤ q.toInt) (h1 : q.toInt ≤ 16) (hn : 16 < q.toInt + n), zRun (fr + 0) lo none M_Ta_leastFreeRow (2, [(0, .ref c), (1, .int q)], []) (yhp w G sz) (some (.int ((g_Ta_leastFreeRow_2 c w n q))), yhp w G sz) := by
  intro n
  induction n with
  | zero => intro q h0 h1 hn; exfalso; omega
  | succ n ih =>
    intro q h0 h1 hn
    rw [g_Ta_leastFreeRow_2]
    refine zeN (q := ((5, [(0, .ref c), (1, .int q)], [.int 16, .int q]), yhp w G sz)) 2 rfl ?_
    refine zbc (q1 := (23, [(0, .ref c), (1, .int q)], [])) (q2 := (8, [(0, .ref c), (1, .int q)], [])) (cB := zc .ge q 16) (off := 18) (lv := [(0, .ref c), (1, .int q)]) (st := []) rfl rfl rfl rfl rfl (fun c5 => ?_) (fun c5 => ?_)
    · rw [c5]
      refine zeN (q := ((24, [(0, .ref c), (1, .int q)], [.int q]), yhp w G sz)) 1 rfl ?_
      exact zer rfl rfl
    · rw [c5]
      have hcc : ¬ (16 : Int) ≤ q.toInt := of_decide_eq_false (z_ge c5).symm
      have hq : zIx q 16 := ⟨h0, by omega⟩
      have hi1 := z_inc (a := q) (by omega) (by omega)
      refine zeN (q := ((9, [(0, .ref c), (1, .int q)], [.ref c]), yhp w G sz)) 1 rfl ?_
      refine ygf (kk := .inl (.ref (c + 2))) (v := .ref ((c + 2))) rfl rfl rfl rfl hc.1 rfl rfl ?_
      refine zeN (q := ((13, [(0, .ref c), (1, .int q)], [.int q, .ref ((c + 2))]), yhp w G sz)) 1 rfl ?_
      refine yaa (N := 16) rfl rfl hc.2.2 (by assumption) ?_
      refine zbc (q1 := (23, [(0, .ref c), (1, .int q)], [])) (q2 := (17, [(0, .ref c), (1, .int q)], [])) (cB := yN (w.2.2 ((c + 2)) q.toNatClampNeg)) (off := 9) (lv := [(0, .ref c), (1, .int q)]) (st := []) rfl rfl (ybnn (w.2.2 ((c + 2)) q.toNatClampNeg)) rfl rfl (fun c14 => ?_) (fun c14 => ?_)
      · rw [c14]
        refine zeN (q := ((24, [(0, .ref c), (1, .int q)], [.int q]), yhp w G sz)) 1 rfl ?_
        exact zer rfl rfl
      · rw [c14]
        refine zeN (q := ((2, [(1, .int (q + Int32.ofInt 1)), (0, .ref c)], []), yhp w G sz)) 2 rfl ?_
        refine zeS [(0, .ref c), (1, .int (q + Int32.ofInt 1))] (zsub_pick [1, 0] rfl rfl) ?_
        exact ih  (q + Int32.ofInt 1) (by omega) (by omega) (by omega)
def e_Ta_leastFreeRow (c : Nat) (w : yW) : Int32 := g_Ta_leastFreeRow_2 c w 17 0
set_option maxRecDepth 100000 in
theorem r_Ta_leastFreeRow {fr lo sz : Nat} {G : List zC} (c : Nat) (w : yW) (hc : yTb c) (hlo : 21 ≤ lo) : zAns (fr + 1) lo 31 [.ref c] (yhp w G sz) (some (.int ((e_Ta_leastFreeRow c w))), yhp w G sz) := by
  unfold e_Ta_leastFreeRow
  refine zeb (fr := fr + 0) (M := M_Ta_leastFreeRow) rfl (Nat.le_trans (by decide) hlo) rfl ?_
  have e0 : mL M_Ta_leastFreeRow = 2 := rfl
  refine zeN (q := ((2, [(1, .int 0), (0, .ref c)], []), yhp w G sz)) 2 rfl ?_
  refine zeS [(0, .ref c), (1, .int 0)] (zsub_pick [1, 0] rfl rfl) ?_
  exact t_Ta_leastFreeRow_2 c w hc (by omega) 17  0 (by decide) (by decide) (by decide)
def g_Ta_rowBits_4 (c : Nat) (w : yW) : Nat → Int32 → Int32 → Int32
  | 0, b, q => b
  | n + 1, b, q => (bif zc .ge q 16 then b else (bif yN (w.2.2 ((c + 2)) q.toNatClampNeg) then g_Ta_rowBits_4 c w n  (b ||| 0) (q + Int32.ofInt 1) else g_Ta_rowBits_4 c w n  (b ||| (1 <<< (q &&& 31))) (q + Int32.ofInt 1)))
set_option maxRecDepth 100000 in
theorem t_Ta_rowBits_4 {fr lo sz : Nat} {r : Option Value × zH} {G : List zC} (c : Nat) (w : yW) (hc : yTb c) (hlo : 0 ≤ lo) : ∀ (n : Nat) (b : Int32) (q : Int32) (h0 : 0 ≤ q.toInt) (h1 : q.toInt ≤ 16) (hn : 16 < q.toInt + n) (k : zRun (fr + 0) lo none M_Ta_rowBits (35, [(0, .ref c), (1, .int ((g_Ta_rowBits_4 c w n b q)))], []) (yhp w G sz) r), zRun (fr + 0) lo none M_Ta_rowBits (4, [(0, .ref c), (1, .int b), (2, .int q)], []) (yhp w G sz) r := by
  intro n
  induction n with
  | zero => intro b q h0 h1 hn k; exfalso; omega
  | succ n ih =>
    intro b q h0 h1 hn k
    rw [g_Ta_rowBits_4] at k
    refine zeN (q := ((7, [(0, .ref c), (1, .int b), (2, .int q)], [.int 16, .int q]), yhp w G sz)) 2 rfl ?_
    refine zbc (q1 := (35, [(0, .ref c), (1, .int b), (2, .int q)], [])) (q2 := (10, [(0, .ref c), (1, .int b), (2, .int q)], [])) (cB := zc .ge q 16) (off := 28) (lv := [(0, .ref c), (1, .int b), (2, .int q)]) (st := []) rfl rfl rfl rfl rfl (fun c7 => ?_) (fun c7 => ?_)
    · rw [c7] at k
      refine zeS [(0, .ref c), (1, .int b)] (zsub_pick [0, 1] rfl rfl) ?_
      exact k
    · rw [c7] at k
      have hcc : ¬ (16 : Int) ≤ q.toInt := of_decide_eq_false (z_ge c7).symm
      have hq : zIx q 16 := ⟨h0, by omega⟩
      have hi1 := z_inc (a := q) (by omega) (by omega)
      refine zeN (q := ((12, [(0, .ref c), (1, .int b), (2, .int q)], [.ref c, .int b]), yhp w G sz)) 2 rfl ?_
      refine ygf (kk := .inl (.ref (c + 2))) (v := .ref ((c + 2))) rfl rfl rfl rfl hc.1 rfl rfl ?_
      refine zeN (q := ((16, [(0, .ref c), (1, .int b), (2, .int q)], [.int q, .ref ((c + 2)), .int b]), yhp w G sz)) 1 rfl ?_
      refine yaa (N := 16) rfl rfl hc.2.2 (by assumption) ?_
      refine zbc (q1 := (26, [(0, .ref c), (1, .int b), (2, .int q)], [.int b])) (q2 := (20, [(0, .ref c), (1, .int b), (2, .int q)], [.int b])) (cB := yN (w.2.2 ((c + 2)) q.toNatClampNeg)) (off := 9) (lv := [(0, .ref c), (1, .int b), (2, .int q)]) (st := [.int b]) rfl rfl (ybnn (w.2.2 ((c + 2)) q.toNatClampNeg)) rfl rfl (fun c17 => ?_) (fun c17 => ?_)
      · rw [c17] at k
        refine zeN (q := ((4, [(2, .int (q + Int32.ofInt 1)), (1, .int (b ||| 0)), (0, .ref c)], []), yhp w G sz)) 5 rfl ?_
        refine zeS [(0, .ref c), (1, .int (b ||| 0)), (2, .int (q + Int32.ofInt 1))] (zsub_pick [2, 1, 0] rfl rfl) ?_
        exact ih  (b ||| 0) (q + Int32.ofInt 1) (by omega) (by omega) (by omega) k
      · rw [c17] at k
        refine zeN (q := ((4, [(2, .int (q + Int32.ofInt 1)), (1, .int (b ||| (1 <<< (q &&& 31)))), (0, .ref c)], []), yhp w G sz)) 8 rfl ?_
        refine zeS [(0, .ref c), (1, .int (b ||| (1 <<< (q &&& 31)))), (2, .int (q + Int32.ofInt 1))] (zsub_pick [2, 1, 0] rfl rfl) ?_
        exact ih  (b ||| (1 <<< (q &&& 31))) (q + Int32.ofInt 1) (by omega) (by omega) (by omega) k
def e_Ta_rowBits (c : Nat) (w : yW) : Int32 := (g_Ta_rowBits_4 c w 17 0 0)
set_option maxRecDepth 100000 in
theorem r_Ta_rowBits {fr lo sz : Nat} {G : List zC} (c : Nat) (w : yW) (hc : yTb c) (hlo : 22 ≤ lo) : zAns (fr + 1) lo 47 [.ref c] (yhp w G sz) (some (.int ((e_Ta_rowBits c w))), yhp w G sz) := by
  unfold e_Ta_rowBits
  refine zeb (fr := fr + 0) (M := M_Ta_rowBits) rfl (Nat.le_trans (by decide) hlo) rfl ?_
  have e0 : mL M_Ta_rowBits = 3 := rfl
  refine zeN (q := ((4, [(2, .int 0), (1, .int 0), (0, .ref c)], []), yhp w G sz)) 4 rfl ?_
  refine zeS [(0, .ref c), (1, .int 0), (2, .int 0)] (zsub_pick [2, 1, 0] rfl rfl) ?_
  refine t_Ta_rowBits_4 c w hc (by omega) 17  0 0 (by decide) (by decide) (by decide) ?_
  refine zeN (q := ((36, [(0, .ref c), (1, .int ((g_Ta_rowBits_4 c w 17 0 0)))], [.int ((g_Ta_rowBits_4 c w 17 0 0))]), yhp w G sz)) 1 rfl ?_
  exact zer rfl rfl
def g_Ta_countWithin_5 (G : List zC) (c x dd : Nat) (w : yW) : Nat → Int32 → Int32 → Int32
  | 0, m, q => m
  | n + 1, m, q => (bif zc .ge q 16 then m else (bif yN (w.2.2 ((c + 2)) q.toNatClampNeg) then g_Ta_countWithin_5 G c x dd w n  m (q + Int32.ofInt 1) else (bif zc .eq (f_Di_isAtLeast (w.2.1 dd 0) (w.2.1 dd 1) (f_Bo_gapTo (gB G x 0) (gB G x 1) (gB G x 2) (gB G x 3) (gB G (yd (w.2.2 ((c + 2)) q.toNatClampNeg)) 0) (gB G (yd (w.2.2 ((c + 2)) q.toNatClampNeg)) 1) (gB G (yd (w.2.2 ((c + 2)) q.toNatClampNeg)) 2) (gB G (yd (w.2.2 ((c + 2)) q.toNatClampNeg)) 3))) 0 then g_Ta_countWithin_5 G c x dd w n  m (q + Int32.ofInt 1) else g_Ta_countWithin_5 G c x dd w n  (m + Int32.ofInt 1) (q + Int32.ofInt 1))))
set_option maxRecDepth 100000 in
theorem t_Ta_countWithin_5 {fr lo sz : Nat} {r : Option Value × zH} (G : List zC) (c x dd : Nat) (w : yW) (hc : yTb c) (hx : yOk G x) (hdd : yshp[dd]? = some (true, 3, [.inr 1, .inr 1])) (hR : yRk w G) (hlo : 107 ≤ lo) : ∀ (n : Nat) (m : Int32) (q : Int32) (h0 : 0 ≤ q.toInt) (h1 : q.toInt ≤ 16) (hn : 16 < q.toInt + n) (k : zRun (fr + 3) lo none M_Ta_countWithin (51, [(0, .ref c), (1, .ref (x + 3)), (2, .ref dd), (3, .int ((g_Ta_countWithin_5 G c x dd w n m q)))], []) (yhp w G sz) r), zRun (fr + 3) lo none M_Ta_countWithin (5, [(0, .ref c), (1, .ref (x + 3)), (2, .ref dd), (3, .int m), (4, .int q)], []) (yhp w G sz) r := by
  intro n
  induction n with
  | zero => intro m q h0 h1 hn k; exfalso; omega
  | succ n ih =>
    intro m q h0 h1 hn k
    rw [g_Ta_countWithin_5] at k
    refine zeN (q := ((9, [(0, .ref c), (1, .ref (x + 3)), (2, .ref dd), (3, .int m), (4, .int q)], [.int 16, .int q]), yhp w G sz)) 2 rfl ?_
    refine zbc (q1 := (51, [(0, .ref c), (1, .ref (x + 3)), (2, .ref dd), (3, .int m), (4, .int q)], [])) (q2 := (12, [(0, .ref c), (1, .ref (x + 3)), (2, .ref dd), (3, .int m), (4, .int q)], [])) (cB := zc .ge q 16) (off := 42) (lv := [(0, .ref c), (1, .ref (x + 3)), (2, .ref dd), (3, .int m), (4, .int q)]) (st := []) rfl rfl rfl rfl rfl (fun c9 => ?_) (fun c9 => ?_)
    · rw [c9] at k
      refine zeS [(0, .ref c), (1, .ref (x + 3)), (2, .ref dd), (3, .int m)] (zsub_pick [0, 1, 2, 3] rfl rfl) ?_
      exact k
    · rw [c9] at k
      have hcc : ¬ (16 : Int) ≤ q.toInt := of_decide_eq_false (z_ge c9).symm
      have hq : zIx q 16 := ⟨h0, by omega⟩
      have hi1 := z_inc (a := q) (by omega) (by omega)
      refine zeN (q := ((13, [(0, .ref c), (1, .ref (x + 3)), (2, .ref dd), (3, .int m), (4, .int q)], [.ref c]), yhp w G sz)) 1 rfl ?_
      refine ygf (kk := .inl (.ref (c + 2))) (v := .ref ((c + 2))) rfl rfl rfl rfl hc.1 rfl rfl ?_
      refine zeN (q := ((18, [(0, .ref c), (1, .ref (x + 3)), (2, .ref dd), (3, .int m), (4, .int q)], [.int q, .ref ((c + 2))]), yhp w G sz)) 1 rfl ?_
      refine yaa (N := 16) rfl rfl hc.2.2 (by assumption) ?_
      refine ysp (fun c18 => ?_) (fun c18 => ?_)
      · rw [c18] at k
        refine zeN (q := ((5, [(4, .int (q + Int32.ofInt 1)), (5, .null), (0, .ref c), (1, .ref (x + 3)), (2, .ref dd), (3, .int m)], []), yhp w G sz)) 5 rfl ?_
        refine zeS [(0, .ref c), (1, .ref (x + 3)), (2, .ref dd), (3, .int m), (4, .int (q + Int32.ofInt 1))] (zsub_pick [2, 3, 4, 5, 0] rfl rfl) ?_
        exact ih  m (q + Int32.ofInt 1) (by omega) (by omega) (by omega) k
      · rw [c18] at k
        refine zeN (q := ((30, [(5, .ref (yd (w.2.2 ((c + 2)) q.toNatClampNeg))), (0, .ref c), (1, .ref (x + 3)), (2, .ref dd), (3, .int m), (4, .int q)], [.ref (yd (w.2.2 ((c + 2)) q.toNatClampNeg)), .ref (x + 3), .ref dd]), yhp w G sz)) 6 rfl ?_
        refine ygb rfl rfl rfl rfl (yRk_n hR c18) ?_
        refine zec 1 (M' := M_Bo_gapTo) (qq := ([.ref (x + 3), .ref ((yd (w.2.2 ((c + 2)) q.toNatClampNeg)) + 3)], [.ref dd])) (s' := (36, [(5, .ref (yd (w.2.2 ((c + 2)) q.toNatClampNeg))), (0, .ref c), (1, .ref (x + 3)), (2, .ref dd), (3, .int m), (4, .int q)], [.int (f_Bo_gapTo (gB G x 0) (gB G x 1) (gB G x 2) (gB G x 3) (gB G (yd (w.2.2 ((c + 2)) q.toNatClampNeg)) 0) (gB G (yd (w.2.2 ((c + 2)) q.toNatClampNeg)) 1) (gB G (yd (w.2.2 ((c + 2)) q.toNatClampNeg)) 2) (gB G (yd (w.2.2 ((c + 2)) q.toNatClampNeg)) 3)), .ref dd])) rfl rfl (fun _ => rfl) rfl rfl (zhk rfl (zrc_ok (yGb hx)) rfl) (y_gapTo hx (yRk_n hR c18) (by omega)) rfl ?_
        refine zec 1 (M' := M_Di_isAtLeast) (qq := ([.ref dd, .int (f_Bo_gapTo (gB G x 0) (gB G x 1) (gB G x 2) (gB G x 3) (gB G (yd (w.2.2 ((c + 2)) q.toNatClampNeg)) 0) (gB G (yd (w.2.2 ((c + 2)) q.toNatClampNeg)) 1) (gB G (yd (w.2.2 ((c + 2)) q.toNatClampNeg)) 2) (gB G (yd (w.2.2 ((c + 2)) q.toNatClampNeg)) 3))], [])) (s' := (39, [(5, .ref (yd (w.2.2 ((c + 2)) q.toNatClampNeg))), (0, .ref c), (1, .ref (x + 3)), (2, .ref dd), (3, .int m), (4, .int q)], [.int (f_Di_isAtLeast (w.2.1 dd 0) (w.2.1 dd 1) (f_Bo_gapTo (gB G x 0) (gB G x 1) (gB G x 2) (gB G x 3) (gB G (yd (w.2.2 ((c + 2)) q.toNatClampNeg)) 0) (gB G (yd (w.2.2 ((c + 2)) q.toNatClampNeg)) 1) (gB G (yd (w.2.2 ((c + 2)) q.toNatClampNeg)) 2) (gB G (yd (w.2.2 ((c + 2)) q.toNatClampNeg)) 3)))])) rfl rfl (fun _ => rfl) rfl rfl (zhk rfl (zrc_ok (yhp_o hdd)) rfl) (y_isAtLeast hdd _ (by omega)) rfl ?_
        refine zbc (q1 := (45, [(5, .ref (yd (w.2.2 ((c + 2)) q.toNatClampNeg))), (0, .ref c), (1, .ref (x + 3)), (2, .ref dd), (3, .int m), (4, .int q)], [])) (q2 := (42, [(5, .ref (yd (w.2.2 ((c + 2)) q.toNatClampNeg))), (0, .ref c), (1, .ref (x + 3)), (2, .ref dd), (3, .int m), (4, .int q)], [])) (cB := zc .eq (f_Di_isAtLeast (w.2.1 dd 0) (w.2.1 dd 1) (f_Bo_gapTo (gB G x 0) (gB G x 1) (gB G x 2) (gB G x 3) (gB G (yd (w.2.2 ((c + 2)) q.toNatClampNeg)) 0) (gB G (yd (w.2.2 ((c + 2)) q.toNatClampNeg)) 1) (gB G (yd (w.2.2 ((c + 2)) q.toNatClampNeg)) 2) (gB G (yd (w.2.2 ((c + 2)) q.toNatClampNeg)) 3))) 0) (off := 6) (lv := [(5, .ref (yd (w.2.2 ((c + 2)) q.toNatClampNeg))), (0, .ref c), (1, .ref (x + 3)), (2, .ref dd), (3, .int m), (4, .int q)]) (st := []) rfl rfl rfl rfl rfl (fun c39 => ?_) (fun c39 => ?_)
        · rw [c39] at k
          refine zeN (q := ((5, [(4, .int (q + Int32.ofInt 1)), (5, .ref (yd (w.2.2 ((c + 2)) q.toNatClampNeg))), (0, .ref c), (1, .ref (x + 3)), (2, .ref dd), (3, .int m)], []), yhp w G sz)) 2 rfl ?_
          refine zeS [(0, .ref c), (1, .ref (x + 3)), (2, .ref dd), (3, .int m), (4, .int (q + Int32.ofInt 1))] (zsub_pick [2, 3, 4, 5, 0] rfl rfl) ?_
          exact ih  m (q + Int32.ofInt 1) (by omega) (by omega) (by omega) k
        · rw [c39] at k
          refine zeN (q := ((5, [(4, .int (q + Int32.ofInt 1)), (3, .int (m + Int32.ofInt 1)), (5, .ref (yd (w.2.2 ((c + 2)) q.toNatClampNeg))), (0, .ref c), (1, .ref (x + 3)), (2, .ref dd)], []), yhp w G sz)) 3 rfl ?_
          refine zeS [(0, .ref c), (1, .ref (x + 3)), (2, .ref dd), (3, .int (m + Int32.ofInt 1)), (4, .int (q + Int32.ofInt 1))] (zsub_pick [3, 4, 5, 1, 0] rfl rfl) ?_
          exact ih  (m + Int32.ofInt 1) (q + Int32.ofInt 1) (by omega) (by omega) (by omega) k
def e_Ta_countWithin (G : List zC) (c x dd : Nat) (w : yW) : Int32 := (g_Ta_countWithin_5 G c x dd w 17 0 0)
set_option maxRecDepth 100000 in
theorem r_Ta_countWithin {fr lo sz : Nat} (G : List zC) (c x dd : Nat) (w : yW) (hc : yTb c) (hx : yOk G x) (hdd : yshp[dd]? = some (true, 3, [.inr 1, .inr 1])) (hR : yRk w G) (hlo : 132 ≤ lo) : zAns (fr + 4) lo 55 [.ref c, .ref (x + 3), .ref dd] (yhp w G sz) (some (.int ((e_Ta_countWithin G c x dd w))), yhp w G sz) := by
  unfold e_Ta_countWithin
  refine zeb (fr := fr + 3) (M := M_Ta_countWithin) rfl (Nat.le_trans (by decide) hlo) rfl ?_
  have e0 : mL M_Ta_countWithin = 6 := rfl
  refine zeN (q := ((5, [(4, .int 0), (3, .int 0), (0, .ref c), (1, .ref (x + 3)), (2, .ref dd)], []), yhp w G sz)) 4 rfl ?_
  refine zeS [(0, .ref c), (1, .ref (x + 3)), (2, .ref dd), (3, .int 0), (4, .int 0)] (zsub_pick [2, 3, 4, 1, 0] rfl rfl) ?_
  refine t_Ta_countWithin_5 G c x dd w hc hx hdd hR (by omega) 17  0 0 (by decide) (by decide) (by decide) ?_
  refine zeN (q := ((52, [(0, .ref c), (1, .ref (x + 3)), (2, .ref dd), (3, .int ((g_Ta_countWithin_5 G c x dd w 17 0 0)))], [.int ((g_Ta_countWithin_5 G c x dd w 17 0 0))]), yhp w G sz)) 1 rfl ?_
  exact zer rfl rfl
def e_Ta_hasSameRow (G : List zC) (c e : Nat) (q : Int32) (w : yW) : Int32 := (bif yN (e_Ta_placeAt c q w) then (bif yN (e_Ta_placeAt e q w) then 1 else 0) else (bif yN (e_Ta_placeAt e q w) then 0 else (bif zc .ne (e_Ta_amountOf c q w) (e_Ta_amountOf e q w) then 0 else (bif zc .eq (f_Ge_isSameAs (gX G (yd (e_Ta_placeAt c q w))) (gY G (yd (e_Ta_placeAt c q w))) (gX G (yd (e_Ta_placeAt e q w))) (gY G (yd (e_Ta_placeAt e q w))) (gK G (yd (e_Ta_placeAt c q w))) (gK G (yd (e_Ta_placeAt e q w)))) 0 then 0 else 1))))
set_option maxRecDepth 100000 in
theorem r_Ta_hasSameRow {fr lo sz : Nat} (G : List zC) (c e : Nat) (q : Int32) (w : yW) (hc : yTb c) (he : yTb e) (hR : yRk w G) (hlo : 46 ≤ lo) : zAns (fr + 2) lo 83 [.ref c, .ref e, .int q] (yhp w G sz) (some (.int ((e_Ta_hasSameRow G c e q w))), yhp w G sz) := by
  unfold e_Ta_hasSameRow
  refine zeb (fr := fr + 1) (M := M_Ta_hasSameRow) rfl (Nat.le_trans (by decide) hlo) rfl ?_
  have e0 : mL M_Ta_hasSameRow = 5 := rfl
  refine zeN (q := ((2, [(0, .ref c), (1, .ref e), (2, .int q)], [.int q, .ref c]), yhp w G sz)) 2 rfl ?_
  refine zec 1 (M' := M_Ta_placeAt) (qq := ([.ref c, .int q], [])) (s' := (5, [(0, .ref c), (1, .ref e), (2, .int q)], [yrv (e_Ta_placeAt c q w)])) rfl rfl (fun _ => rfl) rfl rfl (zhk rfl (zrc_ok (yhp_o hc.1)) rfl) (r_Ta_placeAt c q _ hc (by omega)) rfl ?_
  refine ysp (fun c2 => ?_) (fun c2 => ?_)
  · rw [c2]
    refine zeN (q := ((8, [(3, .null), (0, .ref c), (1, .ref e), (2, .int q)], [.int q, .ref e]), yhp w G sz)) 3 rfl ?_
    refine zec 1 (M' := M_Ta_placeAt) (qq := ([.ref e, .int q], [])) (s' := (11, [(3, .null), (0, .ref c), (1, .ref e), (2, .int q)], [yrv (e_Ta_placeAt e q w)])) rfl rfl (fun _ => rfl) rfl rfl (zhk rfl (zrc_ok (yhp_o he.1)) rfl) (r_Ta_placeAt e q _ he (by omega)) rfl ?_
    refine ysp (fun c8 => ?_) (fun c8 => ?_)
    · rw [c8]
      refine zeN (q := ((36, [(4, .null), (3, .null), (0, .ref c), (1, .ref e), (2, .int q)], [.int 1]), yhp w G sz)) 9 rfl ?_
      exact zer rfl rfl
    · rw [c8]
      refine zeN (q := ((36, [(4, .ref (yd (e_Ta_placeAt e q w))), (3, .null), (0, .ref c), (1, .ref e), (2, .int q)], [.int 0]), yhp w G sz)) 8 rfl ?_
      exact zer rfl rfl
  · rw [c2]
    refine zeN (q := ((8, [(3, .ref (yd (e_Ta_placeAt c q w))), (0, .ref c), (1, .ref e), (2, .int q)], [.int q, .ref e]), yhp w G sz)) 3 rfl ?_
    refine zec 1 (M' := M_Ta_placeAt) (qq := ([.ref e, .int q], [])) (s' := (11, [(3, .ref (yd (e_Ta_placeAt c q w))), (0, .ref c), (1, .ref e), (2, .int q)], [yrv (e_Ta_placeAt e q w)])) rfl rfl (fun _ => rfl) rfl rfl (zhk rfl (zrc_ok (yhp_o he.1)) rfl) (r_Ta_placeAt e q _ he (by omega)) rfl ?_
    refine ysp (fun c8 => ?_) (fun c8 => ?_)
    · rw [c8]
      refine zeN (q := ((36, [(4, .null), (3, .ref (yd (e_Ta_placeAt c q w))), (0, .ref c), (1, .ref e), (2, .int q)], [.int 0]), yhp w G sz)) 8 rfl ?_
      exact zer rfl rfl
    · rw [c8]
      refine zeN (q := ((39, [(4, .ref (yd (e_Ta_placeAt e q w))), (3, .ref (yd (e_Ta_placeAt c q w))), (0, .ref c), (1, .ref e), (2, .int q)], [.int q, .ref c]), yhp w G sz)) 7 rfl ?_
      refine zec 1 (M' := M_Ta_amountOf) (qq := ([.ref c, .int q], [])) (s' := (42, [(4, .ref (yd (e_Ta_placeAt e q w))), (3, .ref (yd (e_Ta_placeAt c q w))), (0, .ref c), (1, .ref e), (2, .int q)], [.int (e_Ta_amountOf c q w)])) rfl rfl (fun _ => rfl) rfl rfl (zhk rfl (zrc_ok (yhp_o hc.1)) rfl) (r_Ta_amountOf c q _ hc (by omega)) rfl ?_
      refine zeN (q := ((44, [(4, .ref (yd (e_Ta_placeAt e q w))), (3, .ref (yd (e_Ta_placeAt c q w))), (0, .ref c), (1, .ref e), (2, .int q)], [.int q, .ref e, .int (e_Ta_amountOf c q w)]), yhp w G sz)) 2 rfl ?_
      refine zec 1 (M' := M_Ta_amountOf) (qq := ([.ref e, .int q], [.int (e_Ta_amountOf c q w)])) (s' := (47, [(4, .ref (yd (e_Ta_placeAt e q w))), (3, .ref (yd (e_Ta_placeAt c q w))), (0, .ref c), (1, .ref e), (2, .int q)], [.int (e_Ta_amountOf e q w), .int (e_Ta_amountOf c q w)])) rfl rfl (fun _ => rfl) rfl rfl (zhk rfl (zrc_ok (yhp_o he.1)) rfl) (r_Ta_amountOf e q _ he (by omega)) rfl ?_
      refine zbc (q1 := (63, [(4, .ref (yd (e_Ta_placeAt e q w))), (3, .ref (yd (e_Ta_placeAt c q w))), (0, .ref c), (1, .ref e), (2, .int q)], [])) (q2 := (50, [(4, .ref (yd (e_Ta_placeAt e q w))), (3, .ref (yd (e_Ta_placeAt c q w))), (0, .ref c), (1, .ref e), (2, .int q)], [])) (cB := zc .ne (e_Ta_amountOf c q w) (e_Ta_amountOf e q w)) (off := 16) (lv := [(4, .ref (yd (e_Ta_placeAt e q w))), (3, .ref (yd (e_Ta_placeAt c q w))), (0, .ref c), (1, .ref e), (2, .int q)]) (st := []) rfl rfl rfl rfl rfl (fun c47 => ?_) (fun c47 => ?_)
      · rw [c47]
        refine zeN (q := ((64, [(4, .ref (yd (e_Ta_placeAt e q w))), (3, .ref (yd (e_Ta_placeAt c q w))), (0, .ref c), (1, .ref e), (2, .int q)], [.int 0]), yhp w G sz)) 1 rfl ?_
        exact zer rfl rfl
      · rw [c47]
        refine zeN (q := ((53, [(4, .ref (yd (e_Ta_placeAt e q w))), (3, .ref (yd (e_Ta_placeAt c q w))), (0, .ref c), (1, .ref e), (2, .int q)], [.ref (yd (e_Ta_placeAt e q w)), .ref (yd (e_Ta_placeAt c q w))]), yhp w G sz)) 2 rfl ?_
        refine zec 1 (M' := M_Ge_isSameAs) (qq := ([.ref (yd (e_Ta_placeAt c q w)), .ref (yd (e_Ta_placeAt e q w))], [])) (s' := (56, [(4, .ref (yd (e_Ta_placeAt e q w))), (3, .ref (yd (e_Ta_placeAt c q w))), (0, .ref c), (1, .ref e), (2, .int q)], [.int (f_Ge_isSameAs (gX G (yd (e_Ta_placeAt c q w))) (gY G (yd (e_Ta_placeAt c q w))) (gX G (yd (e_Ta_placeAt e q w))) (gY G (yd (e_Ta_placeAt e q w))) (gK G (yd (e_Ta_placeAt c q w))) (gK G (yd (e_Ta_placeAt e q w))))])) rfl rfl (fun _ => rfl) rfl rfl (zhk rfl (zrc_ok (yGo (placeAt_n hR c2))) rfl) (y_isSameAs (placeAt_n hR c2) (placeAt_n hR c8) (by omega)) rfl ?_
        refine zbc (q1 := (63, [(4, .ref (yd (e_Ta_placeAt e q w))), (3, .ref (yd (e_Ta_placeAt c q w))), (0, .ref c), (1, .ref e), (2, .int q)], [])) (q2 := (59, [(4, .ref (yd (e_Ta_placeAt e q w))), (3, .ref (yd (e_Ta_placeAt c q w))), (0, .ref c), (1, .ref e), (2, .int q)], [])) (cB := zc .eq (f_Ge_isSameAs (gX G (yd (e_Ta_placeAt c q w))) (gY G (yd (e_Ta_placeAt c q w))) (gX G (yd (e_Ta_placeAt e q w))) (gY G (yd (e_Ta_placeAt e q w))) (gK G (yd (e_Ta_placeAt c q w))) (gK G (yd (e_Ta_placeAt e q w)))) 0) (off := 7) (lv := [(4, .ref (yd (e_Ta_placeAt e q w))), (3, .ref (yd (e_Ta_placeAt c q w))), (0, .ref c), (1, .ref e), (2, .int q)]) (st := []) rfl rfl rfl rfl rfl (fun c56 => ?_) (fun c56 => ?_)
        · rw [c56]
          refine zeN (q := ((64, [(4, .ref (yd (e_Ta_placeAt e q w))), (3, .ref (yd (e_Ta_placeAt c q w))), (0, .ref c), (1, .ref e), (2, .int q)], [.int 0]), yhp w G sz)) 1 rfl ?_
          exact zer rfl rfl
        · rw [c56]
          refine zeN (q := ((64, [(4, .ref (yd (e_Ta_placeAt e q w))), (3, .ref (yd (e_Ta_placeAt c q w))), (0, .ref c), (1, .ref e), (2, .int q)], [.int 1]), yhp w G sz)) 2 rfl ?_
          exact zer rfl rfl
def g_Ta_copy_2 (c e : Nat) : Nat → yW → Int32 → yW
  | 0, w, q => w
  | n + 1, w, q => (bif zc .ge q 16 then w else g_Ta_copy_2 c e  n (wR (wI w ((c + 1)) q.toNatClampNeg (w.1 ((e + 1)) q.toNatClampNeg)) ((c + 2)) q.toNatClampNeg ((wI w ((c + 1)) q.toNatClampNeg (w.1 ((e + 1)) q.toNatClampNeg)).2.2 ((e + 2)) q.toNatClampNeg)) (q + Int32.ofInt 1))
set_option maxRecDepth 100000 in
theorem t_Ta_copy_2 {fr lo sz : Nat} {r : Option Value × zH} {G : List zC} (c e : Nat) (hc : yTb c) (he : yTb e) (hlo : 0 ≤ lo) : ∀ (n : Nat) (w : yW) (q : Int32) (hR : yRk w G) (h0 : 0 ≤ q.toInt) (h1 : q.toInt ≤ 16) (hn : 16 < q.toInt + n) (k : zRun (fr + 0) lo none M_Ta_copy (38, [(0, .ref c), (1, .ref e)], []) (yhp (g_Ta_copy_2 c e n w q) G sz) r), zRun (fr + 0) lo none M_Ta_copy (2, [(0, .ref c), (1, .ref e), (2, .int q)], []) (yhp w G sz) r := by
  intro n
  induction n with
  | zero => intro w q hR h0 h1 hn k; exfalso; omega
  | succ n ih =>
    intro w q hR h0 h1 hn k
    rw [g_Ta_copy_2] at k
    refine zeN (q := ((5, [(0, .ref c), (1, .ref e), (2, .int q)], [.int 16, .int q]), yhp w G sz)) 2 rfl ?_
    refine zbc (q1 := (38, [(0, .ref c), (1, .ref e), (2, .int q)], [])) (q2 := (8, [(0, .ref c), (1, .ref e), (2, .int q)], [])) (cB := zc .ge q 16) (off := 33) (lv := [(0, .ref c), (1, .ref e), (2, .int q)]) (st := []) rfl rfl rfl rfl rfl (fun c5 => ?_) (fun c5 => ?_)
    · rw [c5] at k
      refine zeS [(0, .ref c), (1, .ref e)] (zsub_pick [0, 1] rfl rfl) ?_
      exact k
    · rw [c5] at k
      have hcc : ¬ (16 : Int) ≤ q.toInt := of_decide_eq_false (z_ge c5).symm
      have hq : zIx q 16 := ⟨h0, by omega⟩
      have hi1 := z_inc (a := q) (by omega) (by omega)
      refine zeN (q := ((9, [(0, .ref c), (1, .ref e), (2, .int q)], [.ref c]), yhp w G sz)) 1 rfl ?_
      refine ygf (kk := .inl (.ref (c + 1))) (v := .ref ((c + 1))) rfl rfl rfl rfl hc.1 rfl rfl ?_
      refine zeN (q := ((14, [(0, .ref c), (1, .ref e), (2, .int q)], [.ref e, .int q, .ref ((c + 1))]), yhp w G sz)) 2 rfl ?_
      refine ygf (kk := .inl (.ref (e + 1))) (v := .ref ((e + 1))) rfl rfl rfl rfl he.1 rfl rfl ?_
      refine zeN (q := ((18, [(0, .ref c), (1, .ref e), (2, .int q)], [.int q, .ref ((e + 1)), .int q, .ref ((c + 1))]), yhp w G sz)) 1 rfl ?_
      refine yia (N := 16) rfl rfl he.2.1 (by assumption) ?_
      refine yis (N := 16) rfl rfl hc.2.1 (by assumption) ?_
      refine zeN (q := ((21, [(0, .ref c), (1, .ref e), (2, .int q)], [.ref c]), yhp (wI w ((c + 1)) q.toNatClampNeg (w.1 ((e + 1)) q.toNatClampNeg)) G sz)) 1 rfl ?_
      refine ygf (kk := .inl (.ref (c + 2))) (v := .ref ((c + 2))) rfl rfl rfl rfl hc.1 rfl rfl ?_
      refine zeN (q := ((26, [(0, .ref c), (1, .ref e), (2, .int q)], [.ref e, .int q, .ref ((c + 2))]), yhp (wI w ((c + 1)) q.toNatClampNeg (w.1 ((e + 1)) q.toNatClampNeg)) G sz)) 2 rfl ?_
      refine ygf (kk := .inl (.ref (e + 2))) (v := .ref ((e + 2))) rfl rfl rfl rfl he.1 rfl rfl ?_
      refine zeN (q := ((30, [(0, .ref c), (1, .ref e), (2, .int q)], [.int q, .ref ((e + 2)), .int q, .ref ((c + 2))]), yhp (wI w ((c + 1)) q.toNatClampNeg (w.1 ((e + 1)) q.toNatClampNeg)) G sz)) 1 rfl ?_
      refine yaa (N := 16) rfl rfl he.2.2 (by assumption) ?_
      refine yas (N := 16) (v := (wI w ((c + 1)) q.toNatClampNeg (w.1 ((e + 1)) q.toNatClampNeg)).2.2 ((e + 2)) q.toNatClampNeg) rfl rfl hc.2.2 (yes_ok (fun x h => hR _ _ x h)) (by assumption) ?_
      refine zeN (q := ((2, [(2, .int (q + Int32.ofInt 1)), (0, .ref c), (1, .ref e)], []), yhp (wR (wI w ((c + 1)) q.toNatClampNeg (w.1 ((e + 1)) q.toNatClampNeg)) ((c + 2)) q.toNatClampNeg ((wI w ((c + 1)) q.toNatClampNeg (w.1 ((e + 1)) q.toNatClampNeg)).2.2 ((e + 2)) q.toNatClampNeg)) G sz)) 2 rfl ?_
      refine zeS [(0, .ref c), (1, .ref e), (2, .int (q + Int32.ofInt 1))] (zsub_pick [1, 2, 0] rfl rfl) ?_
      exact ih (wR (wI w ((c + 1)) q.toNatClampNeg (w.1 ((e + 1)) q.toNatClampNeg)) ((c + 2)) q.toNatClampNeg ((wI w ((c + 1)) q.toNatClampNeg (w.1 ((e + 1)) q.toNatClampNeg)).2.2 ((e + 2)) q.toNatClampNeg)) (q + Int32.ofInt 1) (yRk_R (yRk_I hR) (fun x h => hR _ _ x h)) (by omega) (by omega) (by omega) k
set_option maxRecDepth 100000 in
theorem kf_Ta_copy_2 (c e : Nat) : ∀ (n : Nat) (w : yW) (q : Int32), yK [(c + 1, none), (c + 2, none)] w (g_Ta_copy_2 c e n w q) := by
  intro n
  induction n with
  | zero => intros; exact yK_rfl
  | succ n ih => intro w q; rw [g_Ta_copy_2]; exact (yK_if yK_rfl (yK_tr (yK_wR (by first | exact ySt_hd | exact ySt_tl ySt_hd | exact ySt_tl (ySt_tl ySt_hd) | exact ySt_tl (ySt_tl (ySt_tl ySt_hd)) | exact ySt_tl (ySt_tl (ySt_tl (ySt_tl ySt_hd))) | exact ySt_tl (ySt_tl (ySt_tl (ySt_tl (ySt_tl ySt_hs))))) (yK_wI (by first | exact ySt_hd | exact ySt_tl ySt_hd | exact ySt_tl (ySt_tl ySt_hd) | exact ySt_tl (ySt_tl (ySt_tl ySt_hd)) | exact ySt_tl (ySt_tl (ySt_tl (ySt_tl ySt_hd))) | exact ySt_tl (ySt_tl (ySt_tl (ySt_tl (ySt_tl ySt_hs))))) yK_rfl)) (ih _ _)))
def e_Ta_copy (c e : Nat) (w : yW) : yW := (g_Ta_copy_2 c e 17 w 0)
set_option maxRecDepth 100000 in
theorem r_Ta_copy {fr lo sz : Nat} {G : List zC} (c e : Nat) (w : yW) (hc : yTb c) (he : yTb e) (hR : yRk w G) (hlo : 22 ≤ lo) : zAns (fr + 1) lo 92 [.ref c, .ref e] (yhp w G sz) (none, yhp ((e_Ta_copy c e w)) G sz) := by
  unfold e_Ta_copy
  refine zeb (fr := fr + 0) (M := M_Ta_copy) rfl (Nat.le_trans (by decide) hlo) rfl ?_
  have e0 : mL M_Ta_copy = 3 := rfl
  refine zeN (q := ((2, [(2, .int 0), (0, .ref c), (1, .ref e)], []), yhp w G sz)) 2 rfl ?_
  refine zeS [(0, .ref c), (1, .ref e), (2, .int 0)] (zsub_pick [1, 2, 0] rfl rfl) ?_
  refine t_Ta_copy_2 c e hc he (by omega) 17 w 0 hR (by decide) (by decide) (by decide) ?_
  exact zer rfl rfl
set_option maxRecDepth 100000 in
theorem kf_Ta_copy (c e : Nat) (w : yW)  : yK [(c + 1, none), (c + 2, none)] w (e_Ta_copy c e w ) := by unfold e_Ta_copy; exact (yK_tr yK_rfl (kf_Ta_copy_2 ..))
