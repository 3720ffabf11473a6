/-- what keeps an index within its arrays -/
def yIn (w : yW) (c : Nat) : Prop := (∀ j, j < 516 → 0 ≤ (w.1 (c + 1) j).toInt ∧ (w.1 (c + 1) j).toInt ≤ 128) ∧ 0 ≤ (w.1 c 5).toInt ∧ (w.1 c 5).toInt ≤ 129
theorem z_4n {p k : Int32} (h0 : 0 ≤ p.toInt) (h1 : p.toInt ≤ 128) (h2 : 0 ≤ k.toInt) (h3 : k.toInt ≤ 3) : (4 * p + k).toInt = 4 * p.toInt + k.toInt := by
  have e : (4 * p).toInt = 4 * p.toInt := z_mul (by show _ ≤ (4 : Int) * p.toInt; omega) (by show (4 : Int) * p.toInt < _; omega)
  rw [z_add (by rw [e]; omega) (by rw [e]; omega), e]
theorem zIx_4n {p k : Int32} (h0 : 0 ≤ p.toInt) (h1 : p.toInt ≤ 128) (h2 : 0 ≤ k.toInt) (h3 : k.toInt ≤ 3) : zIx (4 * p + k) 516 := by
  unfold zIx
  rw [z_4n h0 h1 h2 h3]
  omega
theorem wI_nc {w : yW} {c0 j0 c j : Nat} {v : Int32} (hc : ¬ (c = c0 ∧ j = j0)) : (wI w c0 j0 v).1 c j = w.1 c j := (ydI w c0 j0 v c j hc).1
def e_In_size (c : Nat) (w : yW) : Int32 := w.1 c 5
set_option maxRecDepth 100000 in
theorem r_In_size {fr lo sz : Nat} {G : List zC} (c : Nat) (w : yW) (hc : yId c) (hlo : 20 ≤ lo) : zAns (fr + 1) lo 71 [.ref c] (yhp w G sz) (some (.int ((e_In_size c w))), yhp w G sz) := by
  unfold e_In_size
  refine zeb (fr := fr + 0) (M := M_In_size) rfl (Nat.le_trans (by decide) hlo) rfl ?_
  have e0 : mL M_In_size = 1 := rfl
  refine zeN (q := ((1, [(0, .ref c)], [.ref c]), yhp w G sz)) 1 rfl ?_
  refine ygf (kk := .inr 0) (v := .int (w.1 c 5)) rfl rfl rfl rfl hc.1 rfl rfl ?_
  exact zer rfl rfl
def g_In_newNode_17 (c : Nat) (nd : Int32) : Nat → yW → Int32 → yW
  | 0, w, q => w
  | n + 1, w, q => (bif zc .ge q 4 then w else g_In_newNode_17 c nd  n (wI w ((c + 1)) ((4 * nd) + q).toNatClampNeg 0) (q + Int32.ofInt 1))
set_option maxRecDepth 100000 in
theorem t_In_newNode_17 {fr lo sz : Nat} {r : Option Value × zH} {G : List zC} (c : Nat) (nd : Int32) (hc : yId c) (hd0 : 0 ≤ nd.toInt) (hd1 : nd.toInt ≤ 128) (hlo : 0 ≤ lo) : ∀ (n : Nat) (w : yW) (q : Int32) (h0 : 0 ≤ q.toInt) (h1 : q.toInt ≤ 4) (hn : 4 < q.toInt + n) (k : zRun (fr + 0) lo none M_In_newNode (39, [(0, .ref c), (1, .int nd)], []) (yhp (g_In_newNode_17 c nd n w q) G sz) r), zRun (fr + 0) lo none M_In_newNode (17, [(0, .ref c), (1, .int nd), (2, .int q)], []) (yhp w G sz) r := by
  intro n
  induction n with
  | zero => intro w q h0 h1 hn k; exfalso; omega
  | succ n ih =>
    intro w q h0 h1 hn k
    rw [g_In_newNode_17] at k
    refine zeN (q := ((19, [(0, .ref c), (1, .int nd), (2, .int q)], [.int 4, .int q]), yhp w G sz)) 2 rfl ?_
    refine zbc (q1 := (39, [(0, .ref c), (1, .int nd), (2, .int q)], [])) (q2 := (22, [(0, .ref c), (1, .int nd), (2, .int q)], [])) (cB := zc .ge q 4) (off := 20) (lv := [(0, .ref c), (1, .int nd), (2, .int q)]) (st := []) rfl rfl rfl rfl rfl (fun c19 => ?_) (fun c19 => ?_)
    · rw [c19] at k
      refine zeS [(0, .ref c), (1, .int nd)] (zsub_pick [0, 1] rfl rfl) ?_
      exact k
    · rw [c19] at k
      have hcc : ¬ (4 : Int) ≤ q.toInt := of_decide_eq_false (z_ge c19).symm
      have hx := zIx_4n hd0 hd1 h0 (show q.toInt ≤ 3 by omega)
      have hi1 := z_inc (a := q) (by omega) (by omega)
      refine zeN (q := ((23, [(0, .ref c), (1, .int nd), (2, .int q)], [.ref c]), yhp w G sz)) 1 rfl ?_
      refine ygf (kk := .inl (.ref (c + 1))) (v := .ref ((c + 1))) rfl rfl rfl rfl hc.1 rfl rfl ?_
      refine zeN (q := ((32, [(0, .ref c), (1, .int nd), (2, .int q)], [.int 0, .int ((4 * nd) + q), .ref ((c + 1))]), yhp w G sz)) 6 rfl ?_
      refine yis (N := 516) rfl rfl hc.2.1 (by assumption) ?_
      refine zeN (q := ((17, [(2, .int (q + Int32.ofInt 1)), (0, .ref c), (1, .int nd)], []), yhp (wI w ((c + 1)) ((4 * nd) + q).toNatClampNeg 0) G sz)) 2 rfl ?_
      refine zeS [(0, .ref c), (1, .int nd), (2, .int (q + Int32.ofInt 1))] (zsub_pick [1, 2, 0] rfl rfl) ?_
      exact ih (wI w ((c + 1)) ((4 * nd) + q).toNatClampNeg 0) (q + Int32.ofInt 1) (by omega) (by omega) (by omega) k
set_option maxRecDepth 100000 in
theorem kf_In_newNode_17 (c : Nat) (nd : Int32) : ∀ (n : Nat) (w : yW) (q : Int32), yK [(c + 1, none), (c + 2, none), (c + 3, none), (c + 4, none), (c + 5, none), (c, some 5)] w (g_In_newNode_17 c nd n w q) := by
  intro n
  induction n with
  | zero => intros; exact yK_rfl
  | succ n ih => intro w q; rw [g_In_newNode_17]; exact (yK_if yK_rfl (yK_tr (yK_wI (by first | exact ySt_hd | exact ySt_tl ySt_hd | exact ySt_tl (ySt_tl ySt_hd) | exact ySt_tl (ySt_tl (ySt_tl ySt_hd)) | exact ySt_tl (ySt_tl (ySt_tl (ySt_tl ySt_hd))) | exact ySt_tl (ySt_tl (ySt_tl (ySt_tl (ySt_tl ySt_hs))))) yK_rfl) (ih _ _)))
theorem jf_In_newNode_17 (c : Nat) (nd : Int32) : ∀ (n : Nat) (w : yW) (q : Int32), (g_In_newNode_17 c nd n w q).2 = w.2 := by
  intro n
  induction n with
  | zero => intros; rfl
  | succ n ih => intro w q; rw [g_In_newNode_17]; exact (yJ_if rfl ((ih _ _).trans (yJ_wI rfl)))
def e_In_newNode (c : Nat) (w : yW) : yW × Int32 := (wI (wI (wI (wI ((g_In_newNode_17 c (w.1 c 5) 5 (wI w c 5 ((w.1 c 5) + 1)) 0)) ((c + 2)) (w.1 c 5).toNatClampNeg 255) ((c + 3)) (w.1 c 5).toNatClampNeg 255) ((c + 4)) (w.1 c 5).toNatClampNeg 0) ((c + 5)) (w.1 c 5).toNatClampNeg 0, w.1 c 5)
set_option maxRecDepth 100000 in
theorem r_In_newNode {fr lo sz : Nat} {G : List zC} (c : Nat) (w : yW) (hc : yId c) (hs0 : 0 ≤ (w.1 c 5).toInt) (hs1 : (w.1 c 5).toInt ≤ 128) (hlo : 22 ≤ lo) : zAns (fr + 1) lo 34 [.ref c] (yhp w G sz) (some (.int ((e_In_newNode c w).2)), yhp ((e_In_newNode c w).1) G sz) := by
  unfold e_In_newNode
  refine zeb (fr := fr + 0) (M := M_In_newNode) rfl (Nat.le_trans (by decide) hlo) rfl ?_
  have e0 : mL M_In_newNode = 3 := rfl
  refine zeN (q := ((1, [(0, .ref c)], [.ref c]), yhp w G sz)) 1 rfl ?_
  refine ygf (kk := .inr 0) (v := .int (w.1 c 5)) rfl rfl rfl rfl hc.1 rfl rfl ?_
  refine zeN (q := ((7, [(1, .int (w.1 c 5)), (0, .ref c)], [.ref c, .ref c]), yhp w G sz)) 3 rfl ?_
  refine ygf (kk := .inr 0) (v := .int (w.1 c 5)) rfl rfl rfl rfl hc.1 rfl rfl ?_
  refine zeN (q := ((12, [(1, .int (w.1 c 5)), (0, .ref c)], [.int ((w.1 c 5) + 1), .ref c]), yhp w G sz)) 2 rfl ?_
  refine ypI (v := (w.1 c 5) + 1) rfl rfl rfl rfl hc.1 rfl rfl ?_
  have hd0 := hs0
  have hd1 := hs1
  have hz : zIx (w.1 c 5) 129 := ⟨hs0, by omega⟩
  refine zeN (q := ((17, [(2, .int 0), (1, .int (w.1 c 5)), (0, .ref c)], []), yhp (wI w c 5 ((w.1 c 5) + 1)) G sz)) 2 rfl ?_
  refine zeS [(0, .ref c), (1, .int (w.1 c 5)), (2, .int 0)] (zsub_pick [2, 1, 0] rfl rfl) ?_
  refine t_In_newNode_17 c (w.1 c 5) hc hd0 hd1 (by omega) 5 (wI w c 5 ((w.1 c 5) + 1)) 0 (by decide) (by decide) (by decide) ?_
  refine zeN (q := ((40, [(0, .ref c), (1, .int (w.1 c 5))], [.ref c]), yhp ((g_In_newNode_17 c (w.1 c 5) 5 (wI w c 5 ((w.1 c 5) + 1)) 0)) G sz)) 1 rfl ?_
  refine ygf (kk := .inl (.ref (c + 2))) (v := .ref ((c + 2))) rfl rfl rfl rfl hc.1 rfl rfl ?_
  refine zeN (q := ((47, [(0, .ref c), (1, .int (w.1 c 5))], [.int 255, .int (w.1 c 5), .ref ((c + 2))]), yhp ((g_In_newNode_17 c (w.1 c 5) 5 (wI w c 5 ((w.1 c 5) + 1)) 0)) G sz)) 2 rfl ?_
  refine yis (N := 129) rfl rfl hc.2.2.1 (by assumption) ?_
  refine zeN (q := ((49, [(0, .ref c), (1, .int (w.1 c 5))], [.ref c]), yhp (wI ((g_In_newNode_17 c (w.1 c 5) 5 (wI w c 5 ((w.1 c 5) + 1)) 0)) ((c + 2)) (w.1 c 5).toNatClampNeg 255) G sz)) 1 rfl ?_
  refine ygf (kk := .inl (.ref (c + 3))) (v := .ref ((c + 3))) rfl rfl rfl rfl hc.1 rfl rfl ?_
  refine zeN (q := ((56, [(0, .ref c), (1, .int (w.1 c 5))], [.int 255, .int (w.1 c 5), .ref ((c + 3))]), yhp (wI ((g_In_newNode_17 c (w.1 c 5) 5 (wI w c 5 ((w.1 c 5) + 1)) 0)) ((c + 2)) (w.1 c 5).toNatClampNeg 255) G sz)) 2 rfl ?_
  refine yis (N := 129) rfl rfl hc.2.2.2.1 (by assumption) ?_
  refine zeN (q := ((58, [(0, .ref c), (1, .int (w.1 c 5))], [.ref c]), yhp (wI (wI ((g_In_newNode_17 c (w.1 c 5) 5 (wI w c 5 ((w.1 c 5) + 1)) 0)) ((c + 2)) (w.1 c 5).toNatClampNeg 255) ((c + 3)) (w.1 c 5).toNatClampNeg 255) G sz)) 1 rfl ?_
  refine ygf (kk := .inl (.ref (c + 4))) (v := .ref ((c + 4))) rfl rfl rfl rfl hc.1 rfl rfl ?_
  refine zeN (q := ((63, [(0, .ref c), (1, .int (w.1 c 5))], [.int 0, .int (w.1 c 5), .ref ((c + 4))]), yhp (wI (wI ((g_In_newNode_17 c (w.1 c 5) 5 (wI w c 5 ((w.1 c 5) + 1)) 0)) ((c + 2)) (w.1 c 5).toNatClampNeg 255) ((c + 3)) (w.1 c 5).toNatClampNeg 255) G sz)) 2 rfl ?_
  refine yis (N := 129) rfl rfl hc.2.2.2.2.1 (by assumption) ?_
  refine zeN (q := ((65, [(0, .ref c), (1, .int (w.1 c 5))], [.ref c]), yhp (wI (wI (wI ((g_In_newNode_17 c (w.1 c 5) 5 (wI w c 5 ((w.1 c 5) + 1)) 0)) ((c + 2)) (w.1 c 5).toNatClampNeg 255) ((c + 3)) (w.1 c 5).toNatClampNeg 255) ((c + 4)) (w.1 c 5).toNatClampNeg 0) G sz)) 1 rfl ?_
  refine ygf (kk := .inl (.ref (c + 5))) (v := .ref ((c + 5))) rfl rfl rfl rfl hc.1 rfl rfl ?_
  refine zeN (q := ((70, [(0, .ref c), (1, .int (w.1 c 5))], [.int 0, .int (w.1 c 5), .ref ((c + 5))]), yhp (wI (wI (wI ((g_In_newNode_17 c (w.1 c 5) 5 (wI w c 5 ((w.1 c 5) + 1)) 0)) ((c + 2)) (w.1 c 5).toNatClampNeg 255) ((c + 3)) (w.1 c 5).toNatClampNeg 255) ((c + 4)) (w.1 c 5).toNatClampNeg 0) G sz)) 2 rfl ?_
  refine yis (N := 129) rfl rfl hc.2.2.2.2.2 (by assumption) ?_
  refine zeN (q := ((72, [(0, .ref c), (1, .int (w.1 c 5))], [.int (w.1 c 5)]), yhp (wI (wI (wI (wI ((g_In_newNode_17 c (w.1 c 5) 5 (wI w c 5 ((w.1 c 5) + 1)) 0)) ((c + 2)) (w.1 c 5).toNatClampNeg 255) ((c + 3)) (w.1 c 5).toNatClampNeg 255) ((c + 4)) (w.1 c 5).toNatClampNeg 0) ((c + 5)) (w.1 c 5).toNatClampNeg 0) G sz)) 1 rfl ?_
  exact zer rfl rfl
set_option maxRecDepth 100000 in
theorem kf_In_newNode (c : Nat) (w : yW)  : yK [(c + 1, none), (c + 2, none), (c + 3, none), (c + 4, none), (c + 5, none), (c, some 5)] w (e_In_newNode c w ).1 := by unfold e_In_newNode; exact (yK_p (yK_wI (by first | exact ySt_hd | exact ySt_tl ySt_hd | exact ySt_tl (ySt_tl ySt_hd) | exact ySt_tl (ySt_tl (ySt_tl ySt_hd)) | exact ySt_tl (ySt_tl (ySt_tl (ySt_tl ySt_hd))) | exact ySt_tl (ySt_tl (ySt_tl (ySt_tl (ySt_tl ySt_hs))))) (yK_wI (by first | exact ySt_hd | exact ySt_tl ySt_hd | exact ySt_tl (ySt_tl ySt_hd) | exact ySt_tl (ySt_tl (ySt_tl ySt_hd)) | exact ySt_tl (ySt_tl (ySt_tl (ySt_tl ySt_hd))) | exact ySt_tl (ySt_tl (ySt_tl (ySt_tl (ySt_tl ySt_hs))))) (yK_wI (by first | exact ySt_hd | exact ySt_tl ySt_hd | exact ySt_tl (ySt_tl ySt_hd) | exact ySt_tl (ySt_tl (ySt_tl ySt_hd)) | exact ySt_tl (ySt_tl (ySt_tl (ySt_tl ySt_hd))) | exact ySt_tl (ySt_tl (ySt_tl (ySt_tl (ySt_tl ySt_hs))))) (yK_wI (by first | exact ySt_hd | exact ySt_tl ySt_hd | exact ySt_tl (ySt_tl ySt_hd) | exact ySt_tl (ySt_tl (ySt_tl ySt_hd)) | exact ySt_tl (ySt_tl (ySt_tl (ySt_tl ySt_hd))) | exact ySt_tl (ySt_tl (ySt_tl (ySt_tl (ySt_tl ySt_hs))))) (yK_tr (yK_wI (by first | exact ySt_hd | exact ySt_tl ySt_hd | exact ySt_tl (ySt_tl ySt_hd) | exact ySt_tl (ySt_tl (ySt_tl ySt_hd)) | exact ySt_tl (ySt_tl (ySt_tl (ySt_tl ySt_hd))) | exact ySt_tl (ySt_tl (ySt_tl (ySt_tl (ySt_tl ySt_hs))))) yK_rfl) (kf_In_newNode_17 ..)))))))
theorem jf_In_newNode (c : Nat) (w : yW)  : (e_In_newNode c w ).1.2 = w.2 := by unfold e_In_newNode; exact (yJ_p (yJ_wI (yJ_wI (yJ_wI (yJ_wI ((jf_In_newNode_17 ..).trans (yJ_wI rfl)))))))
theorem yIn_17 {c : Nat} (nd : Int32) : ∀ (n : Nat) (w : yW) (q : Int32), yIn w c → yIn (g_In_newNode_17 c nd n w q) c ∧ (g_In_newNode_17 c nd n w q).1 c 5 = w.1 c 5 := by
  intro n
  induction n with
  | zero => intro w q h; exact ⟨h, rfl⟩
  | succ n ih =>
    intro w q h
    rw [g_In_newNode_17]
    cases zc .ge q 4
    · have e : (wI w (c + 1) (4 * nd + q).toNatClampNeg 0).1 c 5 = w.1 c 5 := wI_nc (fun e => by have := e.1; omega)
      have k := ih (wI w (c + 1) (4 * nd + q).toNatClampNeg 0) (q + Int32.ofInt 1) ⟨?_, by rw [e]; exact h.2⟩
      · exact ⟨k.1, k.2.trans e⟩
      · intro j hj
        by_cases hjj : j = (4 * nd + q).toNatClampNeg
        · subst hjj
          rw [wI_self]
          decide
        · rw [wI_nc (fun e => hjj e.2)]
          exact h.1 j hj
    · exact ⟨h, rfl⟩
theorem yIn_new {w : yW} {c : Nat} (h : yIn w c) (hs : (w.1 c 5).toInt ≤ 128) : yIn (e_In_newNode c w).1 c ∧ (e_In_newNode c w).2 = w.1 c 5 ∧ (e_In_newNode c w).1.1 c 5 = w.1 c 5 + 1 := by
  have hinc : (w.1 c 5 + 1).toInt = (w.1 c 5).toInt + 1 := z_add (by have := h.2.1; show _ ≤ _ + (1 : Int); omega) (by show _ + (1 : Int) < _; omega)
  have h1 : yIn (wI w c 5 (w.1 c 5 + 1)) c := by
    refine ⟨fun j hj => ?_, ?_⟩
    · rw [wI_nc (fun e => by have := e.1; omega)]
      exact h.1 j hj
    · rw [wI_self, hinc]
      have := h.2.1
      omega
  obtain ⟨k1, k2⟩ := yIn_17 (c := c) (w.1 c 5) 5 _ 0 h1
  have frm : ∀ (w' : yW) (nd : Nat), yIn w' c → yIn (wI (wI (wI (wI w' (c + 2) nd 255) (c + 3) nd 255) (c + 4) nd 0) (c + 5) nd 0) c ∧ (wI (wI (wI (wI w' (c + 2) nd 255) (c + 3) nd 255) (c + 4) nd 0) (c + 5) nd 0).1 c 5 = w'.1 c 5 := by
    intro w' nd hw
    have e : ∀ c' j, c' ≠ c + 2 → c' ≠ c + 3 → c' ≠ c + 4 → c' ≠ c + 5 → (wI (wI (wI (wI w' (c + 2) nd 255) (c + 3) nd 255) (c + 4) nd 0) (c + 5) nd 0).1 c' j = w'.1 c' j := by
      intro c' j a b d f
      rw [wI_ne f, wI_ne d, wI_ne b, wI_ne a]
    refine ⟨⟨fun j hj => ?_, ?_⟩, e c 5 (by omega) (by omega) (by omega) (by omega)⟩
    · rw [e (c + 1) j (by omega) (by omega) (by omega) (by omega)]
      exact hw.1 j hj
    · rw [e c 5 (by omega) (by omega) (by omega) (by omega)]
      exact hw.2
  have k3 := frm _ (w.1 c 5).toNatClampNeg k1
  refine ⟨k3.1, rfl, ?_⟩
  show (wI (wI (wI (wI _ (c + 2) _ 255) (c + 3) _ 255) (c + 4) _ 0) (c + 5) _ 0).1 c 5 = _
  rw [k3.2, k2, wI_self]
def g_In_partOf_6 (c : Nat) (at_ : Int32) (w : yW)  : yW := (bif zc .ne (w.1 ((c + 1)) at_.toNatClampNeg) 0 then w else (bif zc .ge (w.1 c 5) 129 then w else wI ((e_In_newNode c w).1) ((c + 1)) at_.toNatClampNeg ((e_In_newNode c w).2)))
set_option maxRecDepth 100000 in
theorem t_In_partOf_6 {fr lo sz : Nat} {r : Option Value × zH} {G : List zC} (c : Nat) (at_ : Int32) (w : yW)  (hc : yId c) (hx : zIx at_ 516) (hs0 : 0 ≤ (w.1 c 5).toInt) (hlo : 22 ≤ lo) (k : zRun (fr + 1) lo none M_In_partOf (35, [(0, .ref c), (3, .int at_)], []) (yhp (g_In_partOf_6 c at_ w ) G sz) r) : zRun (fr + 1) lo none M_In_partOf (6, [(0, .ref c), (3, .int at_)], []) (yhp w G sz) r := by
  unfold g_In_partOf_6 at k
  refine zeN (q := ((7, [(0, .ref c), (3, .int at_)], [.ref c]), yhp w G sz)) 1 rfl ?_
  refine ygf (kk := .inl (.ref (c + 1))) (v := .ref ((c + 1))) rfl rfl rfl rfl hc.1 rfl rfl ?_
  refine zeN (q := ((11, [(0, .ref c), (3, .int at_)], [.int at_, .ref ((c + 1))]), yhp w G sz)) 1 rfl ?_
  refine yia (N := 516) rfl rfl hc.2.1 (by assumption) ?_
  refine zbc (q1 := (35, [(0, .ref c), (3, .int at_)], [])) (q2 := (15, [(0, .ref c), (3, .int at_)], [])) (cB := zc .ne (w.1 ((c + 1)) at_.toNatClampNeg) 0) (off := 23) (lv := [(0, .ref c), (3, .int at_)]) (st := []) rfl rfl rfl rfl rfl (fun c12 => ?_) (fun c12 => ?_)
  · rw [c12] at k
    exact k
  · rw [c12] at k
    refine zeN (q := ((16, [(0, .ref c), (3, .int at_)], [.ref c]), yhp w G sz)) 1 rfl ?_
    refine ygf (kk := .inr 0) (v := .int (w.1 c 5)) rfl rfl rfl rfl hc.1 rfl rfl ?_
    refine zeN (q := ((22, [(0, .ref c), (3, .int at_)], [.int 129, .int (w.1 c 5)]), yhp w G sz)) 1 rfl ?_
    refine zbc (q1 := (35, [(0, .ref c), (3, .int at_)], [])) (q2 := (25, [(0, .ref c), (3, .int at_)], [])) (cB := zc .ge (w.1 c 5) 129) (off := 13) (lv := [(0, .ref c), (3, .int at_)]) (st := []) rfl rfl rfl rfl rfl (fun c22 => ?_) (fun c22 => ?_)
    · rw [c22] at k
      exact k
    · rw [c22] at k
      have a2 : ¬ (129 : Int) ≤ (w.1 c 5).toInt := of_decide_eq_false (z_ge c22).symm
      refine zeN (q := ((26, [(0, .ref c), (3, .int at_)], [.ref c]), yhp w G sz)) 1 rfl ?_
      refine ygf (kk := .inl (.ref (c + 1))) (v := .ref ((c + 1))) rfl rfl rfl rfl hc.1 rfl rfl ?_
      refine zeN (q := ((31, [(0, .ref c), (3, .int at_)], [.ref c, .int at_, .ref ((c + 1))]), yhp w G sz)) 2 rfl ?_
      refine zec 1 (M' := M_In_newNode) (qq := ([.ref c], [.int at_, .ref ((c + 1))])) (s' := (34, [(0, .ref c), (3, .int at_)], [.int ((e_In_newNode c w).2), .int at_, .ref ((c + 1))])) rfl rfl (fun _ => rfl) rfl rfl (zhk rfl (zrc_ok (yhp_o hc.1)) rfl) (r_In_newNode c _ hc (by omega) (by omega) (by omega)) rfl ?_
      refine yis (N := 516) rfl rfl hc.2.1 (by assumption) ?_
      exact k
set_option maxRecDepth 100000 in
theorem kf_In_partOf_6 (c : Nat) (at_ : Int32) (w : yW)  : yK [(c + 1, none), (c + 2, none), (c + 3, none), (c + 4, none), (c + 5, none), (c, some 5)] w (g_In_partOf_6 c at_ w ) := by unfold g_In_partOf_6; exact (yK_if yK_rfl (yK_if yK_rfl (yK_wI (by first | exact ySt_hd | exact ySt_tl ySt_hd | exact ySt_tl (ySt_tl ySt_hd) | exact ySt_tl (ySt_tl (ySt_tl ySt_hd)) | exact ySt_tl (ySt_tl (ySt_tl (ySt_tl ySt_hd))) | exact ySt_tl (ySt_tl (ySt_tl (ySt_tl (ySt_tl ySt_hs))))) (yK_tr yK_rfl (kf_In_newNode ..)))))
theorem jf_In_partOf_6 (c : Nat) (at_ : Int32) (w : yW)  : (g_In_partOf_6 c at_ w ).2 = w.2 := by unfold g_In_partOf_6; exact (yJ_if rfl (yJ_if rfl (yJ_wI ((jf_In_newNode ..).trans rfl))))
def e_In_partOf (c : Nat) (nd qu : Int32) (w : yW) : yW × Int32 := ((g_In_partOf_6 c ((4 * nd) + qu)  w ), ((g_In_partOf_6 c ((4 * nd) + qu)  w )).1 ((c + 1)) ((4 * nd) + qu).toNatClampNeg)
set_option maxRecDepth 100000 in
theorem r_In_partOf {fr lo sz : Nat} {G : List zC} (c : Nat) (nd qu : Int32) (w : yW) (hc : yId c) (hI : yIn w c) (hd0 : 0 ≤ nd.toInt) (hd1 : nd.toInt ≤ 128) (hq0 : 0 ≤ qu.toInt) (hq1 : qu.toInt ≤ 3) (hlo : 45 ≤ lo) : zAns (fr + 2) lo 38 [.ref c, .int nd, .int qu] (yhp w G sz) (some (.int ((e_In_partOf c nd qu w).2)), yhp ((e_In_partOf c nd qu w).1) G sz) := by
  unfold e_In_partOf
  refine zeb (fr := fr + 1) (M := M_In_partOf) rfl (Nat.le_trans (by decide) hlo) rfl ?_
  have e0 : mL M_In_partOf = 4 := rfl
  refine zeN (q := ((6, [(3, .int ((4 * nd) + qu)), (0, .ref c), (1, .int nd), (2, .int qu)], []), yhp w G sz)) 6 rfl ?_
  have hx := zIx_4n hd0 hd1 hq0 hq1
  have hs0 := hI.2.1
  refine zeS [(0, .ref c), (3, .int ((4 * nd) + qu))] (zsub_pick [1, 0] rfl rfl) ?_
  refine t_In_partOf_6 c ((4 * nd) + qu) w  hc hx hs0 (by omega) ?_
  refine zeN (q := ((36, [(0, .ref c), (3, .int ((4 * nd) + qu))], [.ref c]), yhp ((g_In_partOf_6 c ((4 * nd) + qu)  w )) G sz)) 1 rfl ?_
  refine ygf (kk := .inl (.ref (c + 1))) (v := .ref ((c + 1))) rfl rfl rfl rfl hc.1 rfl rfl ?_
  refine zeN (q := ((40, [(0, .ref c), (3, .int ((4 * nd) + qu))], [.int ((4 * nd) + qu), .ref ((c + 1))]), yhp ((g_In_partOf_6 c ((4 * nd) + qu)  w )) G sz)) 1 rfl ?_
  refine yia (N := 516) rfl rfl hc.2.1 (by assumption) ?_
  exact zer rfl rfl
set_option maxRecDepth 100000 in
theorem kf_In_partOf (c : Nat) (nd qu : Int32) (w : yW)  : yK [(c + 1, none), (c + 2, none), (c + 3, none), (c + 4, none), (c + 5, none), (c, some 5)] w (e_In_partOf c nd qu w ).1 := by unfold e_In_partOf; exact (yK_p (yK_tr yK_rfl (kf_In_partOf_6 ..)))
theorem jf_In_partOf (c : Nat) (nd qu : Int32) (w : yW)  : (e_In_partOf c nd qu w ).1.2 = w.2 := by unfold e_In_partOf; exact (yJ_p ((jf_In_partOf_6 ..).trans rfl))
theorem yIn_p6 {w : yW} {c : Nat} {at_ : Int32} (h : yIn w c) : yIn (g_In_partOf_6 c at_ w) c := by
  unfold g_In_partOf_6
  cases zc .ne (w.1 (c + 1) at_.toNatClampNeg) 0
  · cases c2 : zc .ge (w.1 c 5) 129
    · have a2 : ¬ (129 : Int) ≤ (w.1 c 5).toInt := of_decide_eq_false (z_ge c2).symm
      have k := yIn_new h (by omega)
      refine ⟨fun j hj => ?_, ?_⟩
      · show 0 ≤ ((wI (e_In_newNode c w).1 (c + 1) at_.toNatClampNeg (e_In_newNode c w).2).1 (c + 1) j).toInt ∧ ((wI (e_In_newNode c w).1 (c + 1) at_.toNatClampNeg (e_In_newNode c w).2).1 (c + 1) j).toInt ≤ 128
        by_cases hjj : j = at_.toNatClampNeg
        · subst hjj
          rw [wI_self, k.2.1]
          have := h.2
          omega
        · show 0 ≤ ((wI (e_In_newNode c w).1 (c + 1) at_.toNatClampNeg (e_In_newNode c w).2).1 (c + 1) j).toInt ∧ ((wI (e_In_newNode c w).1 (c + 1) at_.toNatClampNeg (e_In_newNode c w).2).1 (c + 1) j).toInt ≤ 128
          rw [wI_nc (fun e => hjj e.2)]
          exact k.1.1 j hj
      · show 0 ≤ ((wI (e_In_newNode c w).1 (c + 1) at_.toNatClampNeg (e_In_newNode c w).2).1 c 5).toInt ∧ ((wI (e_In_newNode c w).1 (c + 1) at_.toNatClampNeg (e_In_newNode c w).2).1 c 5).toInt ≤ 129
        rw [wI_ne (by omega)]
        exact k.1.2
    · exact h
  · exact h
theorem yIn_part {w : yW} {c : Nat} {nd qu : Int32} (h : yIn w c) (hx : zIx (4 * nd + qu) 516) : yIn (e_In_partOf c nd qu w).1 c ∧ zIx (e_In_partOf c nd qu w).2 129 := by
  unfold e_In_partOf
  have k := yIn_p6 (at_ := 4 * nd + qu) h
  exact ⟨k, (k.1 _ (zIx_n2 hx)).1, by have := (k.1 _ (zIx_n2 hx)).2; show (((g_In_partOf_6 c (4 * nd + qu) w).1 (c + 1) (4 * nd + qu).toNatClampNeg).toInt : Int) < _; omega⟩
def e_In_stretch (G : List zC) (c : Nat) (nd : Int32) (x : Nat) (w : yW) : yW := wI (wI (wI (wI w ((c + 2)) nd.toNatClampNeg (if (gB G x 0) < (w.1 ((c + 2)) nd.toNatClampNeg) then (gB G x 0) else (w.1 ((c + 2)) nd.toNatClampNeg))) ((c + 3)) nd.toNatClampNeg (if (gB G x 1) < ((wI w ((c + 2)) nd.toNatClampNeg (if (gB G x 0) < (w.1 ((c + 2)) nd.toNatClampNeg) then (gB G x 0) else (w.1 ((c + 2)) nd.toNatClampNeg))).1 ((c + 3)) nd.toNatClampNeg) then (gB G x 1) else ((wI w ((c + 2)) nd.toNatClampNeg (if (gB G x 0) < (w.1 ((c + 2)) nd.toNatClampNeg) then (gB G x 0) else (w.1 ((c + 2)) nd.toNatClampNeg))).1 ((c + 3)) nd.toNatClampNeg))) ((c + 4)) nd.toNatClampNeg (if ((wI (wI w ((c + 2)) nd.toNatClampNeg (if (gB G x 0) < (w.1 ((c + 2)) nd.toNatClampNeg) then (gB G x 0) else (w.1 ((c + 2)) nd.toNatClampNeg))) ((c + 3)) nd.toNatClampNeg (if (gB G x 1) < ((wI w ((c + 2)) nd.toNatClampNeg (if (gB G x 0) < (w.1 ((c + 2)) nd.toNatClampNeg) then (gB G x 0) else (w.1 ((c + 2)) nd.toNatClampNeg))).1 ((c + 3)) nd.toNatClampNeg) then (gB G x 1) else ((wI w ((c + 2)) nd.toNatClampNeg (if (gB G x 0) < (w.1 ((c + 2)) nd.toNatClampNeg) then (gB G x 0) else (w.1 ((c + 2)) nd.toNatClampNeg))).1 ((c + 3)) nd.toNatClampNeg))).1 ((c + 4)) nd.toNatClampNeg) < (gB G x 2) then (gB G x 2) else ((wI (wI w ((c + 2)) nd.toNatClampNeg (if (gB G x 0) < (w.1 ((c + 2)) nd.toNatClampNeg) then (gB G x 0) else (w.1 ((c + 2)) nd.toNatClampNeg))) ((c + 3)) nd.toNatClampNeg (if (gB G x 1) < ((wI w ((c + 2)) nd.toNatClampNeg (if (gB G x 0) < (w.1 ((c + 2)) nd.toNatClampNeg) then (gB G x 0) else (w.1 ((c + 2)) nd.toNatClampNeg))).1 ((c + 3)) nd.toNatClampNeg) then (gB G x 1) else ((wI w ((c + 2)) nd.toNatClampNeg (if (gB G x 0) < (w.1 ((c + 2)) nd.toNatClampNeg) then (gB G x 0) else (w.1 ((c + 2)) nd.toNatClampNeg))).1 ((c + 3)) nd.toNatClampNeg))).1 ((c + 4)) nd.toNatClampNeg))) ((c + 5)) nd.toNatClampNeg (if ((wI (wI (wI w ((c + 2)) nd.toNatClampNeg (if (gB G x 0) < (w.1 ((c + 2)) nd.toNatClampNeg) then (gB G x 0) else (w.1 ((c + 2)) nd.toNatClampNeg))) ((c + 3)) nd.toNatClampNeg (if (gB G x 1) < ((wI w ((c + 2)) nd.toNatClampNeg (if (gB G x 0) < (w.1 ((c + 2)) nd.toNatClampNeg) then (gB G x 0) else (w.1 ((c + 2)) nd.toNatClampNeg))).1 ((c + 3)) nd.toNatClampNeg) then (gB G x 1) else ((wI w ((c + 2)) nd.toNatClampNeg (if (gB G x 0) < (w.1 ((c + 2)) nd.toNatClampNeg) then (gB G x 0) else (w.1 ((c + 2)) nd.toNatClampNeg))).1 ((c + 3)) nd.toNatClampNeg))) ((c + 4)) nd.toNatClampNeg (if ((wI (wI w ((c + 2)) nd.toNatClampNeg (if (gB G x 0) < (w.1 ((c + 2)) nd.toNatClampNeg) then (gB G x 0) else (w.1 ((c + 2)) nd.toNatClampNeg))) ((c + 3)) nd.toNatClampNeg (if (gB G x 1) < ((wI w ((c + 2)) nd.toNatClampNeg (if (gB G x 0) < (w.1 ((c + 2)) nd.toNatClampNeg) then (gB G x 0) else (w.1 ((c + 2)) nd.toNatClampNeg))).1 ((c + 3)) nd.toNatClampNeg) then (gB G x 1) else ((wI w ((c + 2)) nd.toNatClampNeg (if (gB G x 0) < (w.1 ((c + 2)) nd.toNatClampNeg) then (gB G x 0) else (w.1 ((c + 2)) nd.toNatClampNeg))).1 ((c + 3)) nd.toNatClampNeg))).1 ((c + 4)) nd.toNatClampNeg) < (gB G x 2) then (gB G x 2) else ((wI (wI w ((c + 2)) nd.toNatClampNeg (if (gB G x 0) < (w.1 ((c + 2)) nd.toNatClampNeg) then (gB G x 0) else (w.1 ((c + 2)) nd.toNatClampNeg))) ((c + 3)) nd.toNatClampNeg (if (gB G x 1) < ((wI w ((c + 2)) nd.toNatClampNeg (if (gB G x 0) < (w.1 ((c + 2)) nd.toNatClampNeg) then (gB G x 0) else (w.1 ((c + 2)) nd.toNatClampNeg))).1 ((c + 3)) nd.toNatClampNeg) then (gB G x 1) else ((wI w ((c + 2)) nd.toNatClampNeg (if (gB G x 0) < (w.1 ((c + 2)) nd.toNatClampNeg) then (gB G x 0) else (w.1 ((c + 2)) nd.toNatClampNeg))).1 ((c + 3)) nd.toNatClampNeg))).1 ((c + 4)) nd.toNatClampNeg))).1 ((c + 5)) nd.toNatClampNeg) < (gB G x 3) then (gB G x 3) else ((wI (wI (wI w ((c + 2)) nd.toNatClampNeg (if (gB G x 0) < (w.1 ((c + 2)) nd.toNatClampNeg) then (gB G x 0) else (w.1 ((c + 2)) nd.toNatClampNeg))) ((c + 3)) nd.toNatClampNeg (if (gB G x 1) < ((wI w ((c + 2)) nd.toNatClampNeg (if (gB G x 0) < (w.1 ((c + 2)) nd.toNatClampNeg) then (gB G x 0) else (w.1 ((c + 2)) nd.toNatClampNeg))).1 ((c + 3)) nd.toNatClampNeg) then (gB G x 1) else ((wI w ((c + 2)) nd.toNatClampNeg (if (gB G x 0) < (w.1 ((c + 2)) nd.toNatClampNeg) then (gB G x 0) else (w.1 ((c + 2)) nd.toNatClampNeg))).1 ((c + 3)) nd.toNatClampNeg))) ((c + 4)) nd.toNatClampNeg (if ((wI (wI w ((c + 2)) nd.toNatClampNeg (if (gB G x 0) < (w.1 ((c + 2)) nd.toNatClampNeg) then (gB G x 0) else (w.1 ((c + 2)) nd.toNatClampNeg))) ((c + 3)) nd.toNatClampNeg (if (gB G x 1) < ((wI w ((c + 2)) nd.toNatClampNeg (if (gB G x 0) < (w.1 ((c + 2)) nd.toNatClampNeg) then (gB G x 0) else (w.1 ((c + 2)) nd.toNatClampNeg))).1 ((c + 3)) nd.toNatClampNeg) then (gB G x 1) else ((wI w ((c + 2)) nd.toNatClampNeg (if (gB G x 0) < (w.1 ((c + 2)) nd.toNatClampNeg) then (gB G x 0) else (w.1 ((c + 2)) nd.toNatClampNeg))).1 ((c + 3)) nd.toNatClampNeg))).1 ((c + 4)) nd.toNatClampNeg) < (gB G x 2) then (gB G x 2) else ((wI (wI w ((c + 2)) nd.toNatClampNeg (if (gB G x 0) < (w.1 ((c + 2)) nd.toNatClampNeg) then (gB G x 0) else (w.1 ((c + 2)) nd.toNatClampNeg))) ((c + 3)) nd.toNatClampNeg (if (gB G x 1) < ((wI w ((c + 2)) nd.toNatClampNeg (if (gB G x 0) < (w.1 ((c + 2)) nd.toNatClampNeg) then (gB G x 0) else (w.1 ((c + 2)) nd.toNatClampNeg))).1 ((c + 3)) nd.toNatClampNeg) then (gB G x 1) else ((wI w ((c + 2)) nd.toNatClampNeg (if (gB G x 0) < (w.1 ((c + 2)) nd.toNatClampNeg) then (gB G x 0) else (w.1 ((c + 2)) nd.toNatClampNeg))).1 ((c + 3)) nd.toNatClampNeg))).1 ((c + 4)) nd.toNatClampNeg))).1 ((c + 5)) nd.toNatClampNeg))
set_option maxRecDepth 100000 in
theorem r_In_stretch {fr lo sz : Nat} (G : List zC) (c : Nat) (nd : Int32) (x : Nat) (w : yW) (hc : yId c) (hn : zIx nd 129) (hx : yOk G x) (hlo : 62 ≤ lo) : zAns (fr + 1) lo 35 [.ref c, .int nd, .ref (x + 3)] (yhp w G sz) (none, yhp ((e_In_stretch G c nd x w)) G sz) := by
  unfold e_In_stretch
  refine zeb (fr := fr + 0) (M := M_In_stretch) rfl (Nat.le_trans (by decide) hlo) rfl ?_
  have e0 : mL M_In_stretch = 3 := rfl
  refine zeN (q := ((1, [(0, .ref c), (1, .int nd), (2, .ref (x + 3))], [.ref c]), yhp w G sz)) 1 rfl ?_
  refine ygf (kk := .inl (.ref (c + 2))) (v := .ref ((c + 2))) rfl rfl rfl rfl hc.1 rfl rfl ?_
  refine zeN (q := ((6, [(0, .ref c), (1, .int nd), (2, .ref (x + 3))], [.ref c, .int nd, .ref ((c + 2))]), yhp w G sz)) 2 rfl ?_
  refine ygf (kk := .inl (.ref (c + 2))) (v := .ref ((c + 2))) rfl rfl rfl rfl hc.1 rfl rfl ?_
  refine zeN (q := ((10, [(0, .ref c), (1, .int nd), (2, .ref (x + 3))], [.int nd, .ref ((c + 2)), .int nd, .ref ((c + 2))]), yhp w G sz)) 1 rfl ?_
  refine yia (N := 129) rfl rfl hc.2.2.1 (by assumption) ?_
  refine zeN (q := ((12, [(0, .ref c), (1, .int nd), (2, .ref (x + 3))], [.ref (x + 3), .int (w.1 ((c + 2)) nd.toNatClampNeg), .int nd, .ref ((c + 2))]), yhp w G sz)) 1 rfl ?_
  refine ygc (b := 0) rfl rfl rfl rfl hx (by decide) ?_
  refine zemn rfl rfl rfl (Nat.le_trans (Nat.le_of_eq (rfl : _ = 15)) (by omega)) ?_
  refine yis (N := 129) rfl rfl hc.2.2.1 (by assumption) ?_
  refine zeN (q := ((20, [(0, .ref c), (1, .int nd), (2, .ref (x + 3))], [.ref c]), yhp (wI w ((c + 2)) nd.toNatClampNeg (if (gB G x 0) < (w.1 ((c + 2)) nd.toNatClampNeg) then (gB G x 0) else (w.1 ((c + 2)) nd.toNatClampNeg))) G sz)) 1 rfl ?_
  refine ygf (kk := .inl (.ref (c + 3))) (v := .ref ((c + 3))) rfl rfl rfl rfl hc.1 rfl rfl ?_
  refine zeN (q := ((25, [(0, .ref c), (1, .int nd), (2, .ref (x + 3))], [.ref c, .int nd, .ref ((c + 3))]), yhp (wI w ((c + 2)) nd.toNatClampNeg (if (gB G x 0) < (w.1 ((c + 2)) nd.toNatClampNeg) then (gB G x 0) else (w.1 ((c + 2)) nd.toNatClampNeg))) G sz)) 2 rfl ?_
  refine ygf (kk := .inl (.ref (c + 3))) (v := .ref ((c + 3))) rfl rfl rfl rfl hc.1 rfl rfl ?_
  refine zeN (q := ((29, [(0, .ref c), (1, .int nd), (2, .ref (x + 3))], [.int nd, .ref ((c + 3)), .int nd, .ref ((c + 3))]), yhp (wI w ((c + 2)) nd.toNatClampNeg (if (gB G x 0) < (w.1 ((c + 2)) nd.toNatClampNeg) then (gB G x 0) else (w.1 ((c + 2)) nd.toNatClampNeg))) G sz)) 1 rfl ?_
  refine yia (N := 129) rfl rfl hc.2.2.2.1 (by assumption) ?_
  refine zeN (q := ((31, [(0, .ref c), (1, .int nd), (2, .ref (x + 3))], [.ref (x + 3), .int ((wI w ((c + 2)) nd.toNatClampNeg (if (gB G x 0) < (w.1 ((c + 2)) nd.toNatClampNeg) then (gB G x 0) else (w.1 ((c + 2)) nd.toNatClampNeg))).1 ((c + 3)) nd.toNatClampNeg), .int nd, .ref ((c + 3))]), yhp (wI w ((c + 2)) nd.toNatClampNeg (if (gB G x 0) < (w.1 ((c + 2)) nd.toNatClampNeg) then (gB G x 0) else (w.1 ((c + 2)) nd.toNatClampNeg))) G sz)) 1 rfl ?_
  refine ygc (b := 1) rfl rfl rfl rfl hx (by decide) ?_
  refine zemn rfl rfl rfl (Nat.le_trans (Nat.le_of_eq (rfl : _ = 15)) (by omega)) ?_
  refine yis (N := 129) rfl rfl hc.2.2.2.1 (by assumption) ?_
  refine zeN (q := ((39, [(0, .ref c), (1, .int nd), (2, .ref (x + 3))], [.ref c]), yhp (wI (wI w ((c + 2)) nd.toNatClampNeg (if (gB G x 0) < (w.1 ((c + 2)) nd.toNatClampNeg) then (gB G x 0) else (w.1 ((c + 2)) nd.toNatClampNeg))) ((c + 3)) nd.toNatClampNeg (if (gB G x 1) < ((wI w ((c + 2)) nd.toNatClampNeg (if (gB G x 0) < (w.1 ((c + 2)) nd.toNatClampNeg) then (gB G x 0) else (w.1 ((c + 2)) nd.toNatClampNeg))).1 ((c + 3)) nd.toNatClampNeg) then (gB G x 1) else ((wI w ((c + 2)) nd.toNatClampNeg (if (gB G x 0) < (w.1 ((c + 2)) nd.toNatClampNeg) then (gB G x 0) else (w.1 ((c + 2)) nd.toNatClampNeg))).1 ((c + 3)) nd.toNatClampNeg))) G sz)) 1 rfl ?_
  refine ygf (kk := .inl (.ref (c + 4))) (v := .ref ((c + 4))) rfl rfl rfl rfl hc.1 rfl rfl ?_
  refine zeN (q := ((44, [(0, .ref c), (1, .int nd), (2, .ref (x + 3))], [.ref c, .int nd, .ref ((c + 4))]), yhp (wI (wI w ((c + 2)) nd.toNatClampNeg (if (gB G x 0) < (w.1 ((c + 2)) nd.toNatClampNeg) then (gB G x 0) else (w.1 ((c + 2)) nd.toNatClampNeg))) ((c + 3)) nd.toNatClampNeg (if (gB G x 1) < ((wI w ((c + 2)) nd.toNatClampNeg (if (gB G x 0) < (w.1 ((c + 2)) nd.toNatClampNeg) then (gB G x 0) else (w.1 ((c + 2)) nd.toNatClampNeg))).1 ((c + 3)) nd.toNatClampNeg) then (gB G x 1) else ((wI w ((c + 2)) nd.toNatClampNeg (if (gB G x 0) < (w.1 ((c + 2)) nd.toNatClampNeg) then (gB G x 0) else (w.1 ((c + 2)) nd.toNatClampNeg))).1 ((c + 3)) nd.toNatClampNeg))) G sz)) 2 rfl ?_
  refine ygf (kk := .inl (.ref (c + 4))) (v := .ref ((c + 4))) rfl rfl rfl rfl hc.1 rfl rfl ?_
  refine zeN (q := ((48, [(0, .ref c), (1, .int nd), (2, .ref (x + 3))], [.int nd, .ref ((c + 4)), .int nd, .ref ((c + 4))]), yhp (wI (wI w ((c + 2)) nd.toNatClampNeg (if (gB G x 0) < (w.1 ((c + 2)) nd.toNatClampNeg) then (gB G x 0) else (w.1 ((c + 2)) nd.toNatClampNeg))) ((c + 3)) nd.toNatClampNeg (if (gB G x 1) < ((wI w ((c + 2)) nd.toNatClampNeg (if (gB G x 0) < (w.1 ((c + 2)) nd.toNatClampNeg) then (gB G x 0) else (w.1 ((c + 2)) nd.toNatClampNeg))).1 ((c + 3)) nd.toNatClampNeg) then (gB G x 1) else ((wI w ((c + 2)) nd.toNatClampNeg (if (gB G x 0) < (w.1 ((c + 2)) nd.toNatClampNeg) then (gB G x 0) else (w.1 ((c + 2)) nd.toNatClampNeg))).1 ((c + 3)) nd.toNatClampNeg))) G sz)) 1 rfl ?_
  refine yia (N := 129) rfl rfl hc.2.2.2.2.1 (by assumption) ?_
  refine zeN (q := ((50, [(0, .ref c), (1, .int nd), (2, .ref (x + 3))], [.ref (x + 3), .int ((wI (wI w ((c + 2)) nd.toNatClampNeg (if (gB G x 0) < (w.1 ((c + 2)) nd.toNatClampNeg) then (gB G x 0) else (w.1 ((c + 2)) nd.toNatClampNeg))) ((c + 3)) nd.toNatClampNeg (if (gB G x 1) < ((wI w ((c + 2)) nd.toNatClampNeg (if (gB G x 0) < (w.1 ((c + 2)) nd.toNatClampNeg) then (gB G x 0) else (w.1 ((c + 2)) nd.toNatClampNeg))).1 ((c + 3)) nd.toNatClampNeg) then (gB G x 1) else ((wI w ((c + 2)) nd.toNatClampNeg (if (gB G x 0) < (w.1 ((c + 2)) nd.toNatClampNeg) then (gB G x 0) else (w.1 ((c + 2)) nd.toNatClampNeg))).1 ((c + 3)) nd.toNatClampNeg))).1 ((c + 4)) nd.toNatClampNeg), .int nd, .ref ((c + 4))]), yhp (wI (wI w ((c + 2)) nd.toNatClampNeg (if (gB G x 0) < (w.1 ((c + 2)) nd.toNatClampNeg) then (gB G x 0) else (w.1 ((c + 2)) nd.toNatClampNeg))) ((c + 3)) nd.toNatClampNeg (if (gB G x 1) < ((wI w ((c + 2)) nd.toNatClampNeg (if (gB G x 0) < (w.1 ((c + 2)) nd.toNatClampNeg) then (gB G x 0) else (w.1 ((c + 2)) nd.toNatClampNeg))).1 ((c + 3)) nd.toNatClampNeg) then (gB G x 1) else ((wI w ((c + 2)) nd.toNatClampNeg (if (gB G x 0) < (w.1 ((c + 2)) nd.toNatClampNeg) then (gB G x 0) else (w.1 ((c + 2)) nd.toNatClampNeg))).1 ((c + 3)) nd.toNatClampNeg))) G sz)) 1 rfl ?_
  refine ygc (b := 2) rfl rfl rfl rfl hx (by decide) ?_
  refine zemx rfl rfl rfl (Nat.le_trans (Nat.le_of_eq (rfl : _ = 15)) (by omega)) ?_
  refine yis (N := 129) rfl rfl hc.2.2.2.2.1 (by assumption) ?_
  refine zeN (q := ((58, [(0, .ref c), (1, .int nd), (2, .ref (x + 3))], [.ref c]), yhp (wI (wI (wI w ((c + 2)) nd.toNatClampNeg (if (gB G x 0) < (w.1 ((c + 2)) nd.toNatClampNeg) then (gB G x 0) else (w.1 ((c + 2)) nd.toNatClampNeg))) ((c + 3)) nd.toNatClampNeg (if (gB G x 1) < ((wI w ((c + 2)) nd.toNatClampNeg (if (gB G x 0) < (w.1 ((c + 2)) nd.toNatClampNeg) then (gB G x 0) else (w.1 ((c + 2)) nd.toNatClampNeg))).1 ((c + 3)) nd.toNatClampNeg) then (gB G x 1) else ((wI w ((c + 2)) nd.toNatClampNeg (if (gB G x 0) < (w.1 ((c + 2)) nd.toNatClampNeg) then (gB G x 0) else (w.1 ((c + 2)) nd.toNatClampNeg))).1 ((c + 3)) nd.toNatClampNeg))) ((c + 4)) nd.toNatClampNeg (if ((wI (wI w ((c + 2)) nd.toNatClampNeg (if (gB G x 0) < (w.1 ((c + 2)) nd.toNatClampNeg) then (gB G x 0) else (w.1 ((c + 2)) nd.toNatClampNeg))) ((c + 3)) nd.toNatClampNeg (if (gB G x 1) < ((wI w ((c + 2)) nd.toNatClampNeg (if (gB G x 0) < (w.1 ((c + 2)) nd.toNatClampNeg) then (gB G x 0) else (w.1 ((c + 2)) nd.toNatClampNeg))).1 ((c + 3)) nd.toNatClampNeg) then (gB G x 1) else ((wI w ((c + 2)) nd.toNatClampNeg (if (gB G x 0) < (w.1 ((c + 2)) nd.toNatClampNeg) then (gB G x 0) else (w.1 ((c + 2)) nd.toNatClampNeg))).1 ((c + 3)) nd.toNatClampNeg))).1 ((c + 4)) nd.toNatClampNeg) < (gB G x 2) then (gB G x 2) else ((wI (wI w ((c + 2)) nd.toNatClampNeg (if (gB G x 0) < (w.1 ((c + 2)) nd.toNatClampNeg) then (gB G x 0) else (w.1 ((c + 2)) nd.toNatClampNeg))) ((c + 3)) nd.toNatClampNeg (if (gB G x 1) < ((wI w ((c + 2)) nd.toNatClampNeg (if (gB G x 0) < (w.1 ((c + 2)) nd.toNatClampNeg) then (gB G x 0) else (w.1 ((c + 2)) nd.toNatClampNeg))).1 ((c + 3)) nd.toNatClampNeg) then (gB G x 1) else ((wI w ((c + 2)) nd.toNatClampNeg (if (gB G x 0) < (w.1 ((c + 2)) nd.toNatClampNeg) then (gB G x 0) else (w.1 ((c + 2)) nd.toNatClampNeg))).1 ((c + 3)) nd.toNatClampNeg))).1 ((c + 4)) nd.toNatClampNeg))) G sz)) 1 rfl ?_
  refine ygf (kk := .inl (.ref (c + 5))) (v := .ref ((c + 5))) rfl rfl rfl rfl hc.1 rfl rfl ?_
  refine zeN (q := ((63, [(0, .ref c), (1, .int nd), (2, .ref (x + 3))], [.ref c, .int nd, .ref ((c + 5))]), yhp (wI (wI (wI w ((c + 2)) nd.toNatClampNeg (if (gB G x 0) < (w.1 ((c + 2)) nd.toNatClampNeg) then (gB G x 0) else (w.1 ((c + 2)) nd.toNatClampNeg))) ((c + 3)) nd.toNatClampNeg (if (gB G x 1) < ((wI w ((c + 2)) nd.toNatClampNeg (if (gB G x 0) < (w.1 ((c + 2)) nd.toNatClampNeg) then (gB G x 0) else (w.1 ((c + 2)) nd.toNatClampNeg))).1 ((c + 3)) nd.toNatClampNeg) then (gB G x 1) else ((wI w ((c + 2)) nd.toNatClampNeg (if (gB G x 0) < (w.1 ((c + 2)) nd.toNatClampNeg) then (gB G x 0) else (w.1 ((c + 2)) nd.toNatClampNeg))).1 ((c + 3)) nd.toNatClampNeg))) ((c + 4)) nd.toNatClampNeg (if ((wI (wI w ((c + 2)) nd.toNatClampNeg (if (gB G x 0) < (w.1 ((c + 2)) nd.toNatClampNeg) then (gB G x 0) else (w.1 ((c + 2)) nd.toNatClampNeg))) ((c + 3)) nd.toNatClampNeg (if (gB G x 1) < ((wI w ((c + 2)) nd.toNatClampNeg (if (gB G x 0) < (w.1 ((c + 2)) nd.toNatClampNeg) then (gB G x 0) else (w.1 ((c + 2)) nd.toNatClampNeg))).1 ((c + 3)) nd.toNatClampNeg) then (gB G x 1) else ((wI w ((c + 2)) nd.toNatClampNeg (if (gB G x 0) < (w.1 ((c + 2)) nd.toNatClampNeg) then (gB G x 0) else (w.1 ((c + 2)) nd.toNatClampNeg))).1 ((c + 3)) nd.toNatClampNeg))).1 ((c + 4)) nd.toNatClampNeg) < (gB G x 2) then (gB G x 2) else ((wI (wI w ((c + 2)) nd.toNatClampNeg (if (gB G x 0) < (w.1 ((c + 2)) nd.toNatClampNeg) then (gB G x 0) else (w.1 ((c + 2)) nd.toNatClampNeg))) ((c + 3)) nd.toNatClampNeg (if (gB G x 1) < ((wI w ((c + 2)) nd.toNatClampNeg (if (gB G x 0) < (w.1 ((c + 2)) nd.toNatClampNeg) then (gB G x 0) else (w.1 ((c + 2)) nd.toNatClampNeg))).1 ((c + 3)) nd.toNatClampNeg) then (gB G x 1) else ((wI w ((c + 2)) nd.toNatClampNeg (if (gB G x 0) < (w.1 ((c + 2)) nd.toNatClampNeg) then (gB G x 0) else (w.1 ((c + 2)) nd.toNatClampNeg))).1 ((c + 3)) nd.toNatClampNeg))).1 ((c + 4)) nd.toNatClampNeg))) G sz)) 2 rfl ?_
  refine ygf (kk := .inl (.ref (c + 5))) (v := .ref ((c + 5))) rfl rfl rfl rfl hc.1 rfl rfl ?_
  refine zeN (q := ((67, [(0, .ref c), (1, .int nd), (2, .ref (x + 3))], [.int nd, .ref ((c + 5)), .int nd, .ref ((c + 5))]), yhp (wI (wI (wI w ((c + 2)) nd.toNatClampNeg (if (gB G x 0) < (w.1 ((c + 2)) nd.toNatClampNeg) then (gB G x 0) else (w.1 ((c + 2)) nd.toNatClampNeg))) ((c + 3)) nd.toNatClampNeg (if (gB G x 1) < ((wI w ((c + 2)) nd.toNatClampNeg (if (gB G x 0) < (w.1 ((c + 2)) nd.toNatClampNeg) then (gB G x 0) else (w.1 ((c + 2)) nd.toNatClampNeg))).1 ((c + 3)) nd.toNatClampNeg) then (gB G x 1) else ((wI w ((c + 2)) nd.toNatClampNeg (if (gB G x 0) < (w.1 ((c + 2)) nd.toNatClampNeg) then (gB G x 0) else (w.1 ((c + 2)) nd.toNatClampNeg))).1 ((c + 3)) nd.toNatClampNeg))) ((c + 4)) nd.toNatClampNeg (if ((wI (wI w ((c + 2)) nd.toNatClampNeg (if (gB G x 0) < (w.1 ((c + 2)) nd.toNatClampNeg) then (gB G x 0) else (w.1 ((c + 2)) nd.toNatClampNeg))) ((c + 3)) nd.toNatClampNeg (if (gB G x 1) < ((wI w ((c + 2)) nd.toNatClampNeg (if (gB G x 0) < (w.1 ((c + 2)) nd.toNatClampNeg) then (gB G x 0) else (w.1 ((c + 2)) nd.toNatClampNeg))).1 ((c + 3)) nd.toNatClampNeg) then (gB G x 1) else ((wI w ((c + 2)) nd.toNatClampNeg (if (gB G x 0) < (w.1 ((c + 2)) nd.toNatClampNeg) then (gB G x 0) else (w.1 ((c + 2)) nd.toNatClampNeg))).1 ((c + 3)) nd.toNatClampNeg))).1 ((c + 4)) nd.toNatClampNeg) < (gB G x 2) then (gB G x 2) else ((wI (wI w ((c + 2)) nd.toNatClampNeg (if (gB G x 0) < (w.1 ((c + 2)) nd.toNatClampNeg) then (gB G x 0) else (w.1 ((c + 2)) nd.toNatClampNeg))) ((c + 3)) nd.toNatClampNeg (if (gB G x 1) < ((wI w ((c + 2)) nd.toNatClampNeg (if (gB G x 0) < (w.1 ((c + 2)) nd.toNatClampNeg) then (gB G x 0) else (w.1 ((c + 2)) nd.toNatClampNeg))).1 ((c + 3)) nd.toNatClampNeg) then (gB G x 1) else ((wI w ((c + 2)) nd.toNatClampNeg (if (gB G x 0) < (w.1 ((c + 2)) nd.toNatClampNeg) then (gB G x 0) else (w.1 ((c + 2)) nd.toNatClampNeg))).1 ((c + 3)) nd.toNatClampNeg))).1 ((c + 4)) nd.toNatClampNeg))) G sz)) 1 rfl ?_
  refine yia (N := 129) rfl rfl hc.2.2.2.2.2 (by assumption) ?_
  refine zeN (q := ((69, [(0, .ref c), (1, .int nd), (2, .ref (x + 3))], [.ref (x + 3), .int ((wI (wI (wI w ((c + 2)) nd.toNatClampNeg (if (gB G x 0) < (w.1 ((c + 2)) nd.toNatClampNeg) then (gB G x 0) else (w.1 ((c + 2)) nd.toNatClampNeg))) ((c + 3)) nd.toNatClampNeg (if (gB G x 1) < ((wI w ((c + 2)) nd.toNatClampNeg (if (gB G x 0) < (w.1 ((c + 2)) nd.toNatClampNeg) then (gB G x 0) else (w.1 ((c + 2)) nd.toNatClampNeg))).1 ((c + 3)) nd.toNatClampNeg) then (gB G x 1) else ((wI w ((c + 2)) nd.toNatClampNeg (if (gB G x 0) < (w.1 ((c + 2)) nd.toNatClampNeg) then (gB G x 0) else (w.1 ((c + 2)) nd.toNatClampNeg))).1 ((c + 3)) nd.toNatClampNeg))) ((c + 4)) nd.toNatClampNeg (if ((wI (wI w ((c + 2)) nd.toNatClampNeg (if (gB G x 0) < (w.1 ((c + 2)) nd.toNatClampNeg) then (gB G x 0) else (w.1 ((c + 2)) nd.toNatClampNeg))) ((c + 3)) nd.toNatClampNeg (if (gB G x 1) < ((wI w ((c + 2)) nd.toNatClampNeg (if (gB G x 0) < (w.1 ((c + 2)) nd.toNatClampNeg) then (gB G x 0) else (w.1 ((c + 2)) nd.toNatClampNeg))).1 ((c + 3)) nd.toNatClampNeg) then (gB G x 1) else ((wI w ((c + 2)) nd.toNatClampNeg (if (gB G x 0) < (w.1 ((c + 2)) nd.toNatClampNeg) then (gB G x 0) else (w.1 ((c + 2)) nd.toNatClampNeg))).1 ((c + 3)) nd.toNatClampNeg))).1 ((c + 4)) nd.toNatClampNeg) < (gB G x 2) then (gB G x 2) else ((wI (wI w ((c + 2)) nd.toNatClampNeg (if (gB G x 0) < (w.1 ((c + 2)) nd.toNatClampNeg) then (gB G x 0) else (w.1 ((c + 2)) nd.toNatClampNeg))) ((c + 3)) nd.toNatClampNeg (if (gB G x 1) < ((wI w ((c + 2)) nd.toNatClampNeg (if (gB G x 0) < (w.1 ((c + 2)) nd.toNatClampNeg) then (gB G x 0) else (w.1 ((c + 2)) nd.toNatClampNeg))).1 ((c + 3)) nd.toNatClampNeg) then (gB G x 1) else ((wI w ((c + 2)) nd.toNatClampNeg (if (gB G x 0) < (w.1 ((c + 2)) nd.toNatClampNeg) then (gB G x 0) else (w.1 ((c + 2)) nd.toNatClampNeg))).1 ((c + 3)) nd.toNatClampNeg))).1 ((c + 4)) nd.toNatClampNeg))).1 ((c + 5)) nd.toNatClampNeg), .int nd, .ref ((c + 5))]), yhp (wI (wI (wI w ((c + 2)) nd.toNatClampNeg (if (gB G x 0) < (w.1 ((c + 2)) nd.toNatClampNeg) then (gB G x 0) else (w.1 ((c + 2)) nd.toNatClampNeg))) ((c + 3)) nd.toNatClampNeg (if (gB G x 1) < ((wI w ((c + 2)) nd.toNatClampNeg (if (gB G x 0) < (w.1 ((c + 2)) nd.toNatClampNeg) then (gB G x 0) else (w.1 ((c + 2)) nd.toNatClampNeg))).1 ((c + 3)) nd.toNatClampNeg) then (gB G x 1) else ((wI w ((c + 2)) nd.toNatClampNeg (if (gB G x 0) < (w.1 ((c + 2)) nd.toNatClampNeg) then (gB G x 0) else (w.1 ((c + 2)) nd.toNatClampNeg))).1 ((c + 3)) nd.toNatClampNeg))) ((c + 4)) nd.toNatClampNeg (if ((wI (wI w ((c + 2)) nd.toNatClampNeg (if (gB G x 0) < (w.1 ((c + 2)) nd.toNatClampNeg) then (gB G x 0) else (w.1 ((c + 2)) nd.toNatClampNeg))) ((c + 3)) nd.toNatClampNeg (if (gB G x 1) < ((wI w ((c + 2)) nd.toNatClampNeg (if (gB G x 0) < (w.1 ((c + 2)) nd.toNatClampNeg) then (gB G x 0) else (w.1 ((c + 2)) nd.toNatClampNeg))).1 ((c + 3)) nd.toNatClampNeg) then (gB G x 1) else ((wI w ((c + 2)) nd.toNatClampNeg (if (gB G x 0) < (w.1 ((c + 2)) nd.toNatClampNeg) then (gB G x 0) else (w.1 ((c + 2)) nd.toNatClampNeg))).1 ((c + 3)) nd.toNatClampNeg))).1 ((c + 4)) nd.toNatClampNeg) < (gB G x 2) then (gB G x 2) else ((wI (wI w ((c + 2)) nd.toNatClampNeg (if (gB G x 0) < (w.1 ((c + 2)) nd.toNatClampNeg) then (gB G x 0) else (w.1 ((c + 2)) nd.toNatClampNeg))) ((c + 3)) nd.toNatClampNeg (if (gB G x 1) < ((wI w ((c + 2)) nd.toNatClampNeg (if (gB G x 0) < (w.1 ((c + 2)) nd.toNatClampNeg) then (gB G x 0) else (w.1 ((c + 2)) nd.toNatClampNeg))).1 ((c + 3)) nd.toNatClampNeg) then (gB G x 1) else ((wI w ((c + 2)) nd.toNatClampNeg (if (gB G x 0) < (w.1 ((c + 2)) nd.toNatClampNeg) then (gB G x 0) else (w.1 ((c + 2)) nd.toNatClampNeg))).1 ((c + 3)) nd.toNatClampNeg))).1 ((c + 4)) nd.toNatClampNeg))) G sz)) 1 rfl ?_
  refine ygc (b := 3) rfl rfl rfl rfl hx (by decide) ?_
  refine zemx rfl rfl rfl (Nat.le_trans (Nat.le_of_eq (rfl : _ = 15)) (by omega)) ?_
  refine yis (N := 129) rfl rfl hc.2.2.2.2.2 (by assumption) ?_
  exact zer rfl rfl
set_option maxRecDepth 100000 in
theorem kf_In_stretch (G : List zC) (c : Nat) (nd : Int32) (x : Nat) (w : yW)  : yK [(c + 1, none), (c + 2, none), (c + 3, none), (c + 4, none), (c + 5, none), (c, some 5)] w (e_In_stretch G c nd x w ) := by unfold e_In_stretch; exact (yK_wI (by first | exact ySt_hd | exact ySt_tl ySt_hd | exact ySt_tl (ySt_tl ySt_hd) | exact ySt_tl (ySt_tl (ySt_tl ySt_hd)) | exact ySt_tl (ySt_tl (ySt_tl (ySt_tl ySt_hd))) | exact ySt_tl (ySt_tl (ySt_tl (ySt_tl (ySt_tl ySt_hs))))) (yK_wI (by first | exact ySt_hd | exact ySt_tl ySt_hd | exact ySt_tl (ySt_tl ySt_hd) | exact ySt_tl (ySt_tl (ySt_tl ySt_hd)) | exact ySt_tl (ySt_tl (ySt_tl (ySt_tl ySt_hd))) | exact ySt_tl (ySt_tl (ySt_tl (ySt_tl (ySt_tl ySt_hs))))) (yK_wI (by first | exact ySt_hd | exact ySt_tl ySt_hd | exact ySt_tl (ySt_tl ySt_hd) | exact ySt_tl (ySt_tl (ySt_tl ySt_hd)) | exact ySt_tl (ySt_tl (ySt_tl (ySt_tl ySt_hd))) | exact ySt_tl (ySt_tl (ySt_tl (ySt_tl (ySt_tl ySt_hs))))) (yK_wI (by first | exact ySt_hd | exact ySt_tl ySt_hd | exact ySt_tl (ySt_tl ySt_hd) | exact ySt_tl (ySt_tl (ySt_tl ySt_hd)) | exact ySt_tl (ySt_tl (ySt_tl (ySt_tl ySt_hd))) | exact ySt_tl (ySt_tl (ySt_tl (ySt_tl (ySt_tl ySt_hs))))) yK_rfl))))
theorem jf_In_stretch (G : List zC) (c : Nat) (nd : Int32) (x : Nat) (w : yW)  : (e_In_stretch G c nd x w ).2 = w.2 := by unfold e_In_stretch; exact (yJ_wI (yJ_wI (yJ_wI (yJ_wI rfl))))
theorem yIn_str {G : List zC} {w : yW} {c x : Nat} {nd : Int32} (h : yIn w c) : yIn (e_In_stretch G c nd x w) c := by
  have e : ∀ c' j, c' ≠ c + 2 → c' ≠ c + 3 → c' ≠ c + 4 → c' ≠ c + 5 → (e_In_stretch G c nd x w).1 c' j = w.1 c' j := by
    intro c' j a b d f
    unfold e_In_stretch
    rw [wI_ne f, wI_ne d, wI_ne b, wI_ne a]
  refine ⟨fun j hj => ?_, ?_⟩
  · rw [e (c + 1) j (by omega) (by omega) (by omega) (by omega)]
    exact h.1 j hj
  · rw [e c 5 (by omega) (by omega) (by omega) (by omega)]
    exact h.2
theorem z_and1 (a : Int32) : a &&& 1 = 0 ∨ a &&& 1 = 1 := by
  have h : ∀ b : BitVec 32, b &&& 1#32 = 0#32 ∨ b &&& 1#32 = 1#32 := by
    intro b
    cases hb : b.getLsbD 0
    · left
      apply BitVec.eq_of_getLsbD_eq
      intro i hi
      rw [BitVec.getLsbD_and]
      by_cases h0 : i = 0
      · subst h0; rw [hb]; rfl
      · simp [BitVec.getLsbD_one, h0]
    · right
      apply BitVec.eq_of_getLsbD_eq
      intro i hi
      rw [BitVec.getLsbD_and]
      by_cases h0 : i = 0
      · subst h0; rw [hb]; rfl
      · simp [BitVec.getLsbD_one, h0]
  rcases h a.toBitVec with h | h
  · left
    exact Int32.toBitVec_inj.mp h
  · right
    exact Int32.toBitVec_inj.mp h
theorem z_quarter (x0 y0 x1 y1 l : Int32) : 0 ≤ (f_Bo_quarter x0 y0 x1 y1 l).toInt ∧ (f_Bo_quarter x0 y0 x1 y1 l).toInt ≤ 3 := by
  unfold f_Bo_quarter
  rcases z_and1 (y0 >>> ((8 - l) &&& 31)) with h | h <;> rcases z_and1 (x0 >>> ((8 - l) &&& 31)) with k | k <;> (rw [h, k]; decide)
theorem z_home8_L (x0 y0 x1 y1 : Int32) : ∀ (n : Nat) (l : Int32), -2147483648 + (n : Int) ≤ l.toInt → l.toInt ≤ 8 → (f_Bo_homeLevel_L23 x0 y0 x1 y1 n l).toInt ≤ 8
  | 0, l, _, _ => by show (0 : Int32).toInt ≤ 8; decide
  | n + 1, l, h0, h => by
    have e : (l + Int32.ofInt (-1)).toInt = l.toInt - 1 := z_add (by show _ ≤ l.toInt + (-1); omega) (by show l.toInt + (-1) < _; omega)
    have ih := z_home8_L x0 y0 x1 y1 n (l + Int32.ofInt (-1)) (by rw [e]; omega) (by rw [e]; omega)
    rw [f_Bo_homeLevel_L23]
    repeat' first | exact h | exact ih | (generalize zc _ _ _ = b; cases b)
theorem z_home8 (x0 y0 x1 y1 : Int32) : (f_Bo_homeLevel x0 y0 x1 y1).toInt ≤ 8 := z_home8_L x0 y0 x1 y1 9 8 (by decide) (by decide)
def g_In_add_30 (G : List zC) (c x : Nat) : Nat → yW → Int32 → Int32 → Int32 → yW
  | 0, w, nd, hm, l => w
  | n + 1, w, nd, hm, l => (bif zc .gt l hm then w else g_In_add_30 G c x  n (e_In_stretch G c ((e_In_partOf c nd (f_Bo_quarter (gB G x 0) (gB G x 1) (gB G x 2) (gB G x 3) l) w).2) x ((e_In_partOf c nd (f_Bo_quarter (gB G x 0) (gB G x 1) (gB G x 2) (gB G x 3) l) w).1)) ((e_In_partOf c nd (f_Bo_quarter (gB G x 0) (gB G x 1) (gB G x 2) (gB G x 3) l) w).2) hm (l + Int32.ofInt 1))
set_option maxRecDepth 100000 in
theorem t_In_add_30 {fr lo sz : Nat} {r : Option Value × zH} (G : List zC) (c x : Nat) (hc : yId c) (hx : yOk G x) (hlo : 70 ≤ lo) : ∀ (n : Nat) (w : yW) (nd : Int32) (hm : Int32) (l : Int32) (hI : yIn w c) (hnd : zIx nd 129) (hh : hm.toInt ≤ 8) (h0 : 0 ≤ l.toInt) (h1 : l.toInt ≤ 9) (hn : 9 < l.toInt + n) (k : zRun (fr + 2) lo none M_In_add (60, [(0, .ref c), (1, .ref (x + 3))], []) (yhp (g_In_add_30 G c x n w nd hm l) G sz) r), zRun (fr + 2) lo none M_In_add (30, [(0, .ref c), (1, .ref (x + 3)), (2, .int nd), (3, .int hm), (4, .int l)], []) (yhp w G sz) r := by
  intro n
  induction n with
  | zero => intro w nd hm l hI hnd hh h0 h1 hn k; exfalso; omega
  | succ n ih =>
    intro w nd hm l hI hnd hh h0 h1 hn k
    rw [g_In_add_30] at k
    refine zeN (q := ((33, [(0, .ref c), (1, .ref (x + 3)), (2, .int nd), (3, .int hm), (4, .int l)], [.int hm, .int l]), yhp w G sz)) 2 rfl ?_
    refine zbc (q1 := (60, [(0, .ref c), (1, .ref (x + 3)), (2, .int nd), (3, .int hm), (4, .int l)], [])) (q2 := (36, [(0, .ref c), (1, .ref (x + 3)), (2, .int nd), (3, .int hm), (4, .int l)], [])) (cB := zc .gt l hm) (off := 27) (lv := [(0, .ref c), (1, .ref (x + 3)), (2, .int nd), (3, .int hm), (4, .int l)]) (st := []) rfl rfl rfl rfl rfl (fun c33 => ?_) (fun c33 => ?_)
    · rw [c33] at k
      refine zeS [(0, .ref c), (1, .ref (x + 3))] (zsub_pick [0, 1] rfl rfl) ?_
      exact k
    · rw [c33] at k
      have hcc := of_decide_eq_false ((zc_gt l hm).symm.trans c33)
      have hi1 := z_inc (a := l) (by omega) (by omega)
      have hqr := z_quarter (gB G x 0) (gB G x 1) (gB G x 2) (gB G x 3) l
      have hP := yIn_part (nd := nd) (qu := f_Bo_quarter (gB G x 0) (gB G x 1) (gB G x 2) (gB G x 3) l) hI (zIx_4n hnd.1 (by have := hnd.2; omega) hqr.1 hqr.2)
      have hP2 := hP.2
      refine zeN (q := ((41, [(0, .ref c), (1, .ref (x + 3)), (2, .int nd), (3, .int hm), (4, .int l)], [.int l, .ref (x + 3), .int nd, .ref c]), yhp w G sz)) 4 rfl ?_
      refine zec 1 (M' := M_Bo_quarter) (qq := ([.ref (x + 3), .int l], [.int nd, .ref c])) (s' := (44, [(0, .ref c), (1, .ref (x + 3)), (2, .int nd), (3, .int hm), (4, .int l)], [.int (f_Bo_quarter (gB G x 0) (gB G x 1) (gB G x 2) (gB G x 3) l), .int nd, .ref c])) rfl rfl (fun _ => rfl) rfl rfl (zhk rfl (zrc_ok (yGb hx)) rfl) (y_quarter hx l (by omega)) rfl ?_
      refine zec 1 (M' := M_In_partOf) (qq := ([.ref c, .int nd, .int (f_Bo_quarter (gB G x 0) (gB G x 1) (gB G x 2) (gB G x 3) l)], [])) (s' := (47, [(0, .ref c), (1, .ref (x + 3)), (2, .int nd), (3, .int hm), (4, .int l)], [.int ((e_In_partOf c nd (f_Bo_quarter (gB G x 0) (gB G x 1) (gB G x 2) (gB G x 3) l) w).2)])) rfl rfl (fun _ => rfl) rfl rfl (zhk rfl (zrc_ok (yhp_o hc.1)) rfl) (r_In_partOf c nd (f_Bo_quarter (gB G x 0) (gB G x 1) (gB G x 2) (gB G x 3) l) _ hc hI hnd.1 (by have := hnd.2; omega) hqr.1 hqr.2 (by omega)) rfl ?_
      refine zeN (q := ((51, [(2, .int ((e_In_partOf c nd (f_Bo_quarter (gB G x 0) (gB G x 1) (gB G x 2) (gB G x 3) l) w).2)), (0, .ref c), (1, .ref (x + 3)), (3, .int hm), (4, .int l)], [.ref (x + 3), .int ((e_In_partOf c nd (f_Bo_quarter (gB G x 0) (gB G x 1) (gB G x 2) (gB G x 3) l) w).2), .ref c]), yhp ((e_In_partOf c nd (f_Bo_quarter (gB G x 0) (gB G x 1) (gB G x 2) (gB G x 3) l) w).1) G sz)) 4 rfl ?_
      refine zec 1 (M' := M_In_stretch) (qq := ([.ref c, .int ((e_In_partOf c nd (f_Bo_quarter (gB G x 0) (gB G x 1) (gB G x 2) (gB G x 3) l) w).2), .ref (x + 3)], [])) (s' := (54, [(2, .int ((e_In_partOf c nd (f_Bo_quarter (gB G x 0) (gB G x 1) (gB G x 2) (gB G x 3) l) w).2)), (0, .ref c), (1, .ref (x + 3)), (3, .int hm), (4, .int l)], [])) rfl rfl (fun _ => rfl) rfl rfl (zhk rfl (zrc_ok (yhp_o hc.1)) rfl) (r_In_stretch G c ((e_In_partOf c nd (f_Bo_quarter (gB G x 0) (gB G x 1) (gB G x 2) (gB G x 3) l) w).2) x _ hc (by assumption) hx (by omega)) rfl ?_
      refine zeN (q := ((30, [(4, .int (l + Int32.ofInt 1)), (2, .int ((e_In_partOf c nd (f_Bo_quarter (gB G x 0) (gB G x 1) (gB G x 2) (gB G x 3) l) w).2)), (0, .ref c), (1, .ref (x + 3)), (3, .int hm)], []), yhp (e_In_stretch G c ((e_In_partOf c nd (f_Bo_quarter (gB G x 0) (gB G x 1) (gB G x 2) (gB G x 3) l) w).2) x ((e_In_partOf c nd (f_Bo_quarter (gB G x 0) (gB G x 1) (gB G x 2) (gB G x 3) l) w).1)) G sz)) 2 rfl ?_
      refine zeS [(0, .ref c), (1, .ref (x + 3)), (2, .int ((e_In_partOf c nd (f_Bo_quarter (gB G x 0) (gB G x 1) (gB G x 2) (gB G x 3) l) w).2)), (3, .int hm), (4, .int (l + Int32.ofInt 1))] (zsub_pick [2, 3, 1, 4, 0] rfl rfl) ?_
      exact ih (e_In_stretch G c ((e_In_partOf c nd (f_Bo_quarter (gB G x 0) (gB G x 1) (gB G x 2) (gB G x 3) l) w).2) x ((e_In_partOf c nd (f_Bo_quarter (gB G x 0) (gB G x 1) (gB G x 2) (gB G x 3) l) w).1)) ((e_In_partOf c nd (f_Bo_quarter (gB G x 0) (gB G x 1) (gB G x 2) (gB G x 3) l) w).2) hm (l + Int32.ofInt 1) (yIn_str hP.1) hP.2 hh (by omega) (by omega) (by omega) k
set_option maxRecDepth 100000 in
theorem kf_In_add_30 (G : List zC) (c x : Nat) : ∀ (n : Nat) (w : yW) (nd : Int32) (hm : Int32) (l : Int32), yK [(c + 1, none), (c + 2, none), (c + 3, none), (c + 4, none), (c + 5, none), (c, some 5)] w (g_In_add_30 G c x n w nd hm l) := by
  intro n
  induction n with
  | zero => intros; exact yK_rfl
  | succ n ih => intro w nd hm l; rw [g_In_add_30]; exact (yK_if yK_rfl (yK_tr (yK_tr (yK_tr yK_rfl (kf_In_partOf ..)) (kf_In_stretch ..)) (ih _ _ _ _)))
theorem jf_In_add_30 (G : List zC) (c x : Nat) : ∀ (n : Nat) (w : yW) (nd : Int32) (hm : Int32) (l : Int32), (g_In_add_30 G c x n w nd hm l).2 = w.2 := by
  intro n
  induction n with
  | zero => intros; rfl
  | succ n ih => intro w nd hm l; rw [g_In_add_30]; exact (yJ_if rfl ((ih _ _ _ _).trans ((jf_In_stretch ..).trans ((jf_In_partOf ..).trans rfl))))
def g_In_add_0 (G : List zC) (c x : Nat) (w : yW)  : yW × Int32 := (bif zc .ne (w.1 c 5) 0 then (w, 0) else ((e_In_newNode c w).1, ((e_In_newNode c w).2)))
set_option maxRecDepth 100000 in
theorem t_In_add_0 {fr lo sz : Nat} {r : Option Value × zH} (G : List zC) (c x : Nat) (w : yW)  (hc : yId c) (hI : yIn w c) (hlo : 70 ≤ lo) (k : zRun (fr + 2) lo none M_In_add (16, [(0, .ref c), (1, .ref (x + 3)), (2, .int ((g_In_add_0 G c x w ).2))], []) (yhp (g_In_add_0 G c x w ).1 G sz) r) : zRun (fr + 2) lo none M_In_add (0, [(0, .ref c), (1, .ref (x + 3))], []) (yhp w G sz) r := by
  unfold g_In_add_0 at k
  have hs := hI.2
  refine zeN (q := ((1, [(0, .ref c), (1, .ref (x + 3))], [.ref c]), yhp w G sz)) 1 rfl ?_
  refine ygf (kk := .inr 0) (v := .int (w.1 c 5)) rfl rfl rfl rfl hc.1 rfl rfl ?_
  refine zbc (q1 := (14, [(0, .ref c), (1, .ref (x + 3))], [])) (q2 := (7, [(0, .ref c), (1, .ref (x + 3))], [])) (cB := zc .ne (w.1 c 5) 0) (off := 10) (lv := [(0, .ref c), (1, .ref (x + 3))]) (st := []) rfl rfl rfl rfl rfl (fun c4 => ?_) (fun c4 => ?_)
  · rw [c4] at k
    refine zeN (q := ((16, [(2, .int 0), (0, .ref c), (1, .ref (x + 3))], []), yhp w G sz)) 2 rfl ?_
    refine zeS [(0, .ref c), (1, .ref (x + 3)), (2, .int 0)] (zsub_pick [1, 2, 0] rfl rfl) ?_
    exact k
  · rw [c4] at k
    have hz : w.1 c 5 = 0 := Classical.not_not.mp (of_decide_eq_false c4)
    have hz2 : (w.1 c 5).toInt = 0 := by rw [hz]; rfl
    refine zeN (q := ((8, [(0, .ref c), (1, .ref (x + 3))], [.ref c]), yhp w G sz)) 1 rfl ?_
    refine zec 1 (M' := M_In_newNode) (qq := ([.ref c], [])) (s' := (11, [(0, .ref c), (1, .ref (x + 3))], [.int ((e_In_newNode c w).2)])) rfl rfl (fun _ => rfl) rfl rfl (zhk rfl (zrc_ok (yhp_o hc.1)) rfl) (r_In_newNode c _ hc (by omega) (by omega) (by omega)) rfl ?_
    refine zeN (q := ((16, [(2, .int ((e_In_newNode c w).2)), (0, .ref c), (1, .ref (x + 3))], []), yhp ((e_In_newNode c w).1) G sz)) 2 rfl ?_
    refine zeS [(0, .ref c), (1, .ref (x + 3)), (2, .int ((e_In_newNode c w).2))] (zsub_pick [1, 2, 0] rfl rfl) ?_
    exact k
set_option maxRecDepth 100000 in
theorem kf_In_add_0 (G : List zC) (c x : Nat) (w : yW)  : yK [(c + 1, none), (c + 2, none), (c + 3, none), (c + 4, none), (c + 5, none), (c, some 5)] w (g_In_add_0 G c x w ).1 := by unfold g_In_add_0; exact (yK_if1 (yK_p yK_rfl) (yK_p (yK_tr yK_rfl (kf_In_newNode ..))))
theorem jf_In_add_0 (G : List zC) (c x : Nat) (w : yW)  : (g_In_add_0 G c x w ).1.2 = w.2 := by unfold g_In_add_0; exact (yJ_if1 (yJ_p rfl) (yJ_p ((jf_In_newNode ..).trans rfl)))
theorem yIn_a0 {G : List zC} {c x : Nat} {w : yW} (h : yIn w c) : yIn (g_In_add_0 G c x w).1 c ∧ zIx (g_In_add_0 G c x w).2 129 := by
  unfold g_In_add_0
  cases c4 : zc .ne (w.1 c 5) 0
  · have hz : w.1 c 5 = 0 := Classical.not_not.mp (of_decide_eq_false c4)
    have k := yIn_new h (by rw [hz]; decide)
    refine ⟨k.1, ?_⟩
    show zIx (e_In_newNode c w).2 129
    rw [k.2.1, hz]
    exact ⟨by decide, by decide⟩
  · exact ⟨h, (show zIx (0 : Int32) 129 from ⟨by decide, by decide⟩)⟩
def e_In_add (G : List zC) (c x : Nat) (w : yW) : yW := (g_In_add_30 G c x 9 (e_In_stretch G c ((g_In_add_0 G c x  w ).2) x ((g_In_add_0 G c x  w ).1)) ((g_In_add_0 G c x  w ).2) (f_Bo_homeLevel (gB G x 0) (gB G x 1) (gB G x 2) (gB G x 3)) 1)
set_option maxRecDepth 100000 in
theorem r_In_add {fr lo sz : Nat} (G : List zC) (c x : Nat) (w : yW) (hc : yId c) (hI : yIn w c) (hx : yOk G x) (hlo : 94 ≤ lo) : zAns (fr + 3) lo 33 [.ref c, .ref (x + 3)] (yhp w G sz) (none, yhp ((e_In_add G c x w)) G sz) := by
  unfold e_In_add
  refine zeb (fr := fr + 2) (M := M_In_add) rfl (Nat.le_trans (by decide) hlo) rfl ?_
  have e0 : mL M_In_add = 5 := rfl
  refine t_In_add_0 G c x w  hc hI (by omega) ?_
  have hN := yIn_a0 (G := G) (x := x) hI
  have hN2 := hN.2
  refine zeN (q := ((19, [(0, .ref c), (1, .ref (x + 3)), (2, .int ((g_In_add_0 G c x  w ).2))], [.ref (x + 3), .int ((g_In_add_0 G c x  w ).2), .ref c]), yhp ((g_In_add_0 G c x  w ).1) G sz)) 3 rfl ?_
  refine zec 1 (M' := M_In_stretch) (qq := ([.ref c, .int ((g_In_add_0 G c x  w ).2), .ref (x + 3)], [])) (s' := (22, [(0, .ref c), (1, .ref (x + 3)), (2, .int ((g_In_add_0 G c x  w ).2))], [])) rfl rfl (fun _ => rfl) rfl rfl (zhk rfl (zrc_ok (yhp_o hc.1)) rfl) (r_In_stretch G c ((g_In_add_0 G c x  w ).2) x _ hc (by assumption) hx (by omega)) rfl ?_
  refine zeN (q := ((23, [(0, .ref c), (1, .ref (x + 3)), (2, .int ((g_In_add_0 G c x  w ).2))], [.ref (x + 3)]), yhp (e_In_stretch G c ((g_In_add_0 G c x  w ).2) x ((g_In_add_0 G c x  w ).1)) G sz)) 1 rfl ?_
  refine zec 1 (M' := M_Bo_homeLevel) (qq := ([.ref (x + 3)], [])) (s' := (26, [(0, .ref c), (1, .ref (x + 3)), (2, .int ((g_In_add_0 G c x  w ).2))], [.int (f_Bo_homeLevel (gB G x 0) (gB G x 1) (gB G x 2) (gB G x 3))])) rfl rfl (fun _ => rfl) rfl rfl (zhk rfl (zrc_ok (yGb hx)) rfl) (y_homeLevel hx (by omega)) rfl ?_
  refine zeN (q := ((30, [(4, .int 1), (3, .int (f_Bo_homeLevel (gB G x 0) (gB G x 1) (gB G x 2) (gB G x 3))), (0, .ref c), (1, .ref (x + 3)), (2, .int ((g_In_add_0 G c x  w ).2))], []), yhp (e_In_stretch G c ((g_In_add_0 G c x  w ).2) x ((g_In_add_0 G c x  w ).1)) G sz)) 3 rfl ?_
  refine zeS [(0, .ref c), (1, .ref (x + 3)), (2, .int ((g_In_add_0 G c x  w ).2)), (3, .int (f_Bo_homeLevel (gB G x 0) (gB G x 1) (gB G x 2) (gB G x 3))), (4, .int 1)] (zsub_pick [2, 3, 4, 1, 0] rfl rfl) ?_
  refine t_In_add_30 G c x hc hx (by omega) 9 (e_In_stretch G c ((g_In_add_0 G c x  w ).2) x ((g_In_add_0 G c x  w ).1)) ((g_In_add_0 G c x  w ).2) (f_Bo_homeLevel (gB G x 0) (gB G x 1) (gB G x 2) (gB G x 3)) 1 (yIn_str hN.1) hN.2 (z_home8 ..) (by decide) (by decide) (by decide) ?_
  exact zer rfl rfl
set_option maxRecDepth 100000 in
theorem kf_In_add (G : List zC) (c x : Nat) (w : yW)  : yK [(c + 1, none), (c + 2, none), (c + 3, none), (c + 4, none), (c + 5, none), (c, some 5)] w (e_In_add G c x w ) := by unfold e_In_add; exact (yK_tr (yK_tr (yK_tr yK_rfl (kf_In_add_0 ..)) (kf_In_stretch ..)) (kf_In_add_30 ..))
theorem jf_In_add (G : List zC) (c x : Nat) (w : yW)  : (e_In_add G c x w ).2 = w.2 := by unfold e_In_add; exact ((jf_In_add_30 ..).trans ((jf_In_stretch ..).trans ((jf_In_add_0 ..).trans rfl)))
theorem yIn_30 {G : List zC} {c x : Nat} : ∀ (n : Nat) (w : yW) (nd hm l : Int32), yIn w c → zIx nd 129 → yIn (g_In_add_30 G c x n w nd hm l) c := by
  intro n
  induction n with
  | zero => intro w nd hm l h _; exact h
  | succ n ih =>
    intro w nd hm l hI hnd
    rw [g_In_add_30]
    cases zc .gt l hm
    · have hqr := z_quarter (gB G x 0) (gB G x 1) (gB G x 2) (gB G x 3) l
      have hP := yIn_part (nd := nd) (qu := f_Bo_quarter (gB G x 0) (gB G x 1) (gB G x 2) (gB G x 3) l) hI (zIx_4n hnd.1 (by have := hnd.2; omega) hqr.1 hqr.2)
      exact ih _ _ _ _ (yIn_str hP.1) hP.2
    · exact hI
theorem yIn_add {G : List zC} {c x : Nat} {w : yW} (h : yIn w c) : yIn (e_In_add G c x w) c := by
  unfold e_In_add
  have hN := yIn_a0 (G := G) (x := x) h
  exact yIn_30 _ _ _ _ _ (yIn_str hN.1) hN.2
def g_In_rebuild_7 (G : List zC) (c e : Nat) : Nat → yW → Int32 → yW
  | 0, w, q => w
  | n + 1, w, q => (bif zc .ge q 16 then w else (bif yN (e_Ta_placeAt e q w) then g_In_rebuild_7 G c e  n w (q + Int32.ofInt 1) else g_In_rebuild_7 G c e  n (e_In_add G c (yd (e_Ta_placeAt e q w)) w) (q + Int32.ofInt 1)))
set_option maxRecDepth 100000 in
theorem t_In_rebuild_7 {fr lo sz : Nat} {r : Option Value × zH} (G : List zC) (c e : Nat) (hc : yId c) (he : yTb e) (hlo : 94 ≤ lo) : ∀ (n : Nat) (w : yW) (q : Int32) (hI : yIn w c) (hR : yRk w G) (h0 : 0 ≤ q.toInt) (h1 : q.toInt ≤ 16) (hn : 16 < q.toInt + n) (k : zRun (fr + 3) lo none M_In_rebuild (37, [(0, .ref c), (1, .ref e)], []) (yhp (g_In_rebuild_7 G c e n w q) G sz) r), zRun (fr + 3) lo none M_In_rebuild (7, [(0, .ref c), (1, .ref e), (2, .int q)], []) (yhp w G sz) r := by
  intro n
  induction n with
  | zero => intro w q hI hR h0 h1 hn k; exfalso; omega
  | succ n ih =>
    intro w q hI hR h0 h1 hn k
    rw [g_In_rebuild_7] at k
    refine zeN (q := ((10, [(0, .ref c), (1, .ref e), (2, .int q)], [.int 16, .int q]), yhp w G sz)) 2 rfl ?_
    refine zbc (q1 := (37, [(0, .ref c), (1, .ref e), (2, .int q)], [])) (q2 := (13, [(0, .ref c), (1, .ref e), (2, .int q)], [])) (cB := zc .ge q 16) (off := 27) (lv := [(0, .ref c), (1, .ref e), (2, .int q)]) (st := []) rfl rfl rfl rfl rfl (fun c10 => ?_) (fun c10 => ?_)
    · rw [c10] at k
      refine zeS [(0, .ref c), (1, .ref e)] (zsub_pick [0, 1] rfl rfl) ?_
      exact k
    · rw [c10] at k
      have hcc : ¬ (16 : Int) ≤ q.toInt := of_decide_eq_false (z_ge c10).symm
      have hi1 := z_inc (a := q) (by omega) (by omega)
      refine zeN (q := ((15, [(0, .ref c), (1, .ref e), (2, .int q)], [.int q, .ref e]), yhp w G sz)) 2 rfl ?_
      refine zec 1 (M' := M_Ta_placeAt) (qq := ([.ref e, .int q], [])) (s' := (18, [(0, .ref c), (1, .ref e), (2, .int q)], [yrv (e_Ta_placeAt e q w)])) rfl rfl (fun _ => rfl) rfl rfl (zhk rfl (zrc_ok (yhp_o he.1)) rfl) (r_Ta_placeAt e q _ he (by omega)) rfl ?_
      refine ysp (fun c15 => ?_) (fun c15 => ?_)
      · rw [c15] at k
        refine zeN (q := ((7, [(2, .int (q + Int32.ofInt 1)), (3, .null), (0, .ref c), (1, .ref e)], []), yhp w G sz)) 5 rfl ?_
        refine zeS [(0, .ref c), (1, .ref e), (2, .int (q + Int32.ofInt 1))] (zsub_pick [2, 3, 0] rfl rfl) ?_
        exact ih w (q + Int32.ofInt 1) (by first | exact hI | exact yIn_add hI) (by first | exact hR | exact yRk_J hR (jf_In_add ..)) (by omega) (by omega) (by omega) k
      · rw [c15] at k
        refine zeN (q := ((25, [(3, .ref (yd (e_Ta_placeAt e q w))), (0, .ref c), (1, .ref e), (2, .int q)], [.ref (yd (e_Ta_placeAt e q w)), .ref c]), yhp w G sz)) 5 rfl ?_
        refine ygb rfl rfl rfl rfl (placeAt_n hR c15) ?_
        refine zec 1 (M' := M_In_add) (qq := ([.ref c, .ref ((yd (e_Ta_placeAt e q w)) + 3)], [])) (s' := (31, [(3, .ref (yd (e_Ta_placeAt e q w))), (0, .ref c), (1, .ref e), (2, .int q)], [])) rfl rfl (fun _ => rfl) rfl rfl (zhk rfl (zrc_ok (yhp_o hc.1)) rfl) (r_In_add G c (yd (e_Ta_placeAt e q w)) _ hc hI (placeAt_n hR c15) (by omega)) rfl ?_
        refine zeN (q := ((7, [(2, .int (q + Int32.ofInt 1)), (3, .ref (yd (e_Ta_placeAt e q w))), (0, .ref c), (1, .ref e)], []), yhp (e_In_add G c (yd (e_Ta_placeAt e q w)) w) G sz)) 2 rfl ?_
        refine zeS [(0, .ref c), (1, .ref e), (2, .int (q + Int32.ofInt 1))] (zsub_pick [2, 3, 0] rfl rfl) ?_
        exact ih (e_In_add G c (yd (e_Ta_placeAt e q w)) w) (q + Int32.ofInt 1) (by first | exact hI | exact yIn_add hI) (by first | exact hR | exact yRk_J hR (jf_In_add ..)) (by omega) (by omega) (by omega) k
set_option maxRecDepth 100000 in
theorem kf_In_rebuild_7 (G : List zC) (c e : Nat) : ∀ (n : Nat) (w : yW) (q : Int32), yK [(c + 1, none), (c + 2, none), (c + 3, none), (c + 4, none), (c + 5, none), (c, some 5)] w (g_In_rebuild_7 G c e n w q) := by
  intro n
  induction n with
  | zero => intros; exact yK_rfl
  | succ n ih => intro w q; rw [g_In_rebuild_7]; exact (yK_if yK_rfl (yK_if (yK_tr yK_rfl (ih _ _)) (yK_tr (yK_tr yK_rfl (kf_In_add ..)) (ih _ _))))
theorem jf_In_rebuild_7 (G : List zC) (c e : Nat) : ∀ (n : Nat) (w : yW) (q : Int32), (g_In_rebuild_7 G c e n w q).2 = w.2 := by
  intro n
  induction n with
  | zero => intros; rfl
  | succ n ih => intro w q; rw [g_In_rebuild_7]; exact (yJ_if rfl (yJ_if ((ih _ _).trans rfl) ((ih _ _).trans ((jf_In_add ..).trans rfl))))
def e_In_rebuild (G : List zC) (c e : Nat) (w : yW) : yW := (g_In_rebuild_7 G c e 17 (wI w c 5 0) 0)
set_option maxRecDepth 100000 in
theorem r_In_rebuild {fr lo sz : Nat} (G : List zC) (c e : Nat) (w : yW) (hc : yId c) (he : yTb e) (hI : yIn w c) (hR : yRk w G) (hlo : 117 ≤ lo) : zAns (fr + 4) lo 42 [.ref c, .ref e] (yhp w G sz) (none, yhp ((e_In_rebuild G c e w)) G sz) := by
  unfold e_In_rebuild
  refine zeb (fr := fr + 3) (M := M_In_rebuild) rfl (Nat.le_trans (by decide) hlo) rfl ?_
  have e0 : mL M_In_rebuild = 4 := rfl
  refine zeN (q := ((2, [(0, .ref c), (1, .ref e)], [.int 0, .ref c]), yhp w G sz)) 2 rfl ?_
  refine ypI (v := 0) rfl rfl rfl rfl hc.1 rfl rfl ?_
  have hI0 : yIn (wI w c 5 0) c := ⟨fun j hj => by rw [wI_nc (fun e => by have := e.1; omega)]; exact hI.1 j hj, by rw [wI_self]; decide⟩
  refine zeN (q := ((7, [(2, .int 0), (0, .ref c), (1, .ref e)], []), yhp (wI w c 5 0) G sz)) 2 rfl ?_
  refine zeS [(0, .ref c), (1, .ref e), (2, .int 0)] (zsub_pick [1, 2, 0] rfl rfl) ?_
  refine t_In_rebuild_7 G c e hc he (by omega) 17 (wI w c 5 0) 0 hI0 (yRk_I hR) (by decide) (by decide) (by decide) ?_
  exact zer rfl rfl
set_option maxRecDepth 100000 in
theorem kf_In_rebuild (G : List zC) (c e : Nat) (w : yW)  : yK [(c + 1, none), (c + 2, none), (c + 3, none), (c + 4, none), (c + 5, none), (c, some 5)] w (e_In_rebuild G c e w ) := by unfold e_In_rebuild; exact (yK_tr (yK_wI (by first | exact ySt_hd | exact ySt_tl ySt_hd | exact ySt_tl (ySt_tl ySt_hd) | exact ySt_tl (ySt_tl (ySt_tl ySt_hd)) | exact ySt_tl (ySt_tl (ySt_tl (ySt_tl ySt_hd))) | exact ySt_tl (ySt_tl (ySt_tl (ySt_tl (ySt_tl ySt_hs))))) yK_rfl) (kf_In_rebuild_7 ..))
theorem jf_In_rebuild (G : List zC) (c e : Nat) (w : yW)  : (e_In_rebuild G c e w ).2 = w.2 := by unfold e_In_rebuild; exact ((jf_In_rebuild_7 ..).trans (yJ_wI rfl))
theorem yIn_7 {G : List zC} {c e : Nat} : ∀ (n : Nat) (w : yW) (q : Int32), yIn w c → yIn (g_In_rebuild_7 G c e n w q) c := by
  intro n
  induction n with
  | zero => intro w q h; exact h
  | succ n ih =>
    intro w q hI
    rw [g_In_rebuild_7]
    cases zc .ge q 16
    · simp only [cond_false]
      generalize yN _ = b
      cases b
      · exact ih _ _ (yIn_add hI)
      · exact ih _ _ hI
    · exact hI
theorem yIn_reb {G : List zC} {c e : Nat} {w : yW} (hI : yIn w c) : yIn (e_In_rebuild G c e w) c := by
  unfold e_In_rebuild
  exact yIn_7 _ _ _ ⟨fun j hj => by rw [wI_nc (fun e => by have := e.1; omega)]; exact hI.1 j hj, by rw [wI_self]; decide⟩
def g_In_countWithin_5 (G : List zC) (c x dd : Nat) (w : yW) : Nat → Int32 → Int32 → Int32
  | 0, m, q => m
  | n + 1, m, q => (bif zc .ge q (w.1 c 5) then m else (bif zc .eq (f_Di_isAtLeast (w.2.1 dd 0) (w.2.1 dd 1) (f_Bo_gapToRectangle (gB G x 0) (gB G x 1) (gB G x 2) (gB G x 3) (w.1 ((c + 2)) q.toNatClampNeg) (w.1 ((c + 3)) q.toNatClampNeg) (w.1 ((c + 4)) q.toNatClampNeg) (w.1 ((c + 5)) q.toNatClampNeg))) 0 then g_In_countWithin_5 G c x dd w n  m (q + Int32.ofInt 1) else g_In_countWithin_5 G c x dd w n  (m + Int32.ofInt 1) (q + Int32.ofInt 1)))
set_option maxRecDepth 100000 in
theorem t_In_countWithin_5 {fr lo sz : Nat} {r : Option Value × zH} (G : List zC) (c x dd : Nat) (w : yW) (hc : yId c) (hx : yOk G x) (hdd : yshp[dd]? = some (true, 3, [.inr 1, .inr 1])) (hI : yIn w c) (hlo : 86 ≤ lo) : ∀ (n : Nat) (m : Int32) (q : Int32) (h0 : 0 ≤ q.toInt) (h1 : q.toInt ≤ 129) (hn : 129 < q.toInt + n) (k : zRun (fr + 2) lo none M_In_countWithin (62, [(0, .ref c), (1, .ref (x + 3)), (2, .ref dd), (3, .int ((g_In_countWithin_5 G c x dd w n m q)))], []) (yhp w G sz) r), zRun (fr + 2) lo none M_In_countWithin (5, [(0, .ref c), (1, .ref (x + 3)), (2, .ref dd), (3, .int m), (4, .int q)], []) (yhp w G sz) r := by
  intro n
  induction n with
  | zero => intro m q h0 h1 hn k; exfalso; omega
  | succ n ih =>
    intro m q h0 h1 hn k
    rw [g_In_countWithin_5] at k
    refine zeN (q := ((8, [(0, .ref c), (1, .ref (x + 3)), (2, .ref dd), (3, .int m), (4, .int q)], [.ref c, .int q]), yhp w G sz)) 2 rfl ?_
    refine ygf (kk := .inr 0) (v := .int (w.1 c 5)) rfl rfl rfl rfl hc.1 rfl rfl ?_
    refine zbc (q1 := (62, [(0, .ref c), (1, .ref (x + 3)), (2, .ref dd), (3, .int m), (4, .int q)], [])) (q2 := (14, [(0, .ref c), (1, .ref (x + 3)), (2, .ref dd), (3, .int m), (4, .int q)], [])) (cB := zc .ge q (w.1 c 5)) (off := 51) (lv := [(0, .ref c), (1, .ref (x + 3)), (2, .ref dd), (3, .int m), (4, .int q)]) (st := []) rfl rfl rfl rfl rfl (fun c11 => ?_) (fun c11 => ?_)
    · rw [c11] at k
      refine zeS [(0, .ref c), (1, .ref (x + 3)), (2, .ref dd), (3, .int m)] (zsub_pick [0, 1, 2, 3] rfl rfl) ?_
      exact k
    · rw [c11] at k
      have hcc := of_decide_eq_false (z_ge c11).symm
      have hs := hI.2
      have hq : zIx q 129 := ⟨h0, by omega⟩
      have hi1 := z_inc (a := q) (by omega) (by omega)
      refine zeN (q := ((17, [(0, .ref c), (1, .ref (x + 3)), (2, .ref dd), (3, .int m), (4, .int q)], [.ref c, .ref (x + 3), .ref dd]), yhp w G sz)) 3 rfl ?_
      refine ygf (kk := .inl (.ref (c + 2))) (v := .ref ((c + 2))) rfl rfl rfl rfl hc.1 rfl rfl ?_
      refine zeN (q := ((22, [(0, .ref c), (1, .ref (x + 3)), (2, .ref dd), (3, .int m), (4, .int q)], [.int q, .ref ((c + 2)), .ref (x + 3), .ref dd]), yhp w G sz)) 1 rfl ?_
      refine yia (N := 129) rfl rfl hc.2.2.1 (by assumption) ?_
      refine zeN (q := ((24, [(0, .ref c), (1, .ref (x + 3)), (2, .ref dd), (3, .int m), (4, .int q)], [.ref c, .int (w.1 ((c + 2)) q.toNatClampNeg), .ref (x + 3), .ref dd]), yhp w G sz)) 1 rfl ?_
      refine ygf (kk := .inl (.ref (c + 3))) (v := .ref ((c + 3))) rfl rfl rfl rfl hc.1 rfl rfl ?_
      refine zeN (q := ((29, [(0, .ref c), (1, .ref (x + 3)), (2, .ref dd), (3, .int m), (4, .int q)], [.int q, .ref ((c + 3)), .int (w.1 ((c + 2)) q.toNatClampNeg), .ref (x + 3), .ref dd]), yhp w G sz)) 1 rfl ?_
      refine yia (N := 129) rfl rfl hc.2.2.2.1 (by assumption) ?_
      refine zeN (q := ((31, [(0, .ref c), (1, .ref (x + 3)), (2, .ref dd), (3, .int m), (4, .int q)], [.ref c, .int (w.1 ((c + 3)) q.toNatClampNeg), .int (w.1 ((c + 2)) q.toNatClampNeg), .ref (x + 3), .ref dd]), yhp w G sz)) 1 rfl ?_
      refine ygf (kk := .inl (.ref (c + 4))) (v := .ref ((c + 4))) rfl rfl rfl rfl hc.1 rfl rfl ?_
      refine zeN (q := ((36, [(0, .ref c), (1, .ref (x + 3)), (2, .ref dd), (3, .int m), (4, .int q)], [.int q, .ref ((c + 4)), .int (w.1 ((c + 3)) q.toNatClampNeg), .int (w.1 ((c + 2)) q.toNatClampNeg), .ref (x + 3), .ref dd]), yhp w G sz)) 1 rfl ?_
      refine yia (N := 129) rfl rfl hc.2.2.2.2.1 (by assumption) ?_
      refine zeN (q := ((38, [(0, .ref c), (1, .ref (x + 3)), (2, .ref dd), (3, .int m), (4, .int q)], [.ref c, .int (w.1 ((c + 4)) q.toNatClampNeg), .int (w.1 ((c + 3)) q.toNatClampNeg), .int (w.1 ((c + 2)) q.toNatClampNeg), .ref (x + 3), .ref dd]), yhp w G sz)) 1 rfl ?_
      refine ygf (kk := .inl (.ref (c + 5))) (v := .ref ((c + 5))) rfl rfl rfl rfl hc.1 rfl rfl ?_
      refine zeN (q := ((43, [(0, .ref c), (1, .ref (x + 3)), (2, .ref dd), (3, .int m), (4, .int q)], [.int q, .ref ((c + 5)), .int (w.1 ((c + 4)) q.toNatClampNeg), .int (w.1 ((c + 3)) q.toNatClampNeg), .int (w.1 ((c + 2)) q.toNatClampNeg), .ref (x + 3), .ref dd]), yhp w G sz)) 1 rfl ?_
      refine yia (N := 129) rfl rfl hc.2.2.2.2.2 (by assumption) ?_
      refine zec 1 (M' := M_Bo_gapToRectangle) (qq := ([.ref (x + 3), .int (w.1 ((c + 2)) q.toNatClampNeg), .int (w.1 ((c + 3)) q.toNatClampNeg), .int (w.1 ((c + 4)) q.toNatClampNeg), .int (w.1 ((c + 5)) q.toNatClampNeg)], [.ref dd])) (s' := (47, [(0, .ref c), (1, .ref (x + 3)), (2, .ref dd), (3, .int m), (4, .int q)], [.int (f_Bo_gapToRectangle (gB G x 0) (gB G x 1) (gB G x 2) (gB G x 3) (w.1 ((c + 2)) q.toNatClampNeg) (w.1 ((c + 3)) q.toNatClampNeg) (w.1 ((c + 4)) q.toNatClampNeg) (w.1 ((c + 5)) q.toNatClampNeg)), .ref dd])) rfl rfl (fun _ => rfl) rfl rfl (zhk rfl (zrc_ok (yGb hx)) rfl) (y_gapRect hx _ _ _ _ (by omega)) rfl ?_
      refine zec 1 (M' := M_Di_isAtLeast) (qq := ([.ref dd, .int (f_Bo_gapToRectangle (gB G x 0) (gB G x 1) (gB G x 2) (gB G x 3) (w.1 ((c + 2)) q.toNatClampNeg) (w.1 ((c + 3)) q.toNatClampNeg) (w.1 ((c + 4)) q.toNatClampNeg) (w.1 ((c + 5)) q.toNatClampNeg))], [])) (s' := (50, [(0, .ref c), (1, .ref (x + 3)), (2, .ref dd), (3, .int m), (4, .int q)], [.int (f_Di_isAtLeast (w.2.1 dd 0) (w.2.1 dd 1) (f_Bo_gapToRectangle (gB G x 0) (gB G x 1) (gB G x 2) (gB G x 3) (w.1 ((c + 2)) q.toNatClampNeg) (w.1 ((c + 3)) q.toNatClampNeg) (w.1 ((c + 4)) q.toNatClampNeg) (w.1 ((c + 5)) q.toNatClampNeg)))])) rfl rfl (fun _ => rfl) rfl rfl (zhk rfl (zrc_ok (yhp_o hdd)) rfl) (y_isAtLeast hdd _ (by omega)) rfl ?_
      refine zbc (q1 := (56, [(0, .ref c), (1, .ref (x + 3)), (2, .ref dd), (3, .int m), (4, .int q)], [])) (q2 := (53, [(0, .ref c), (1, .ref (x + 3)), (2, .ref dd), (3, .int m), (4, .int q)], [])) (cB := zc .eq (f_Di_isAtLeast (w.2.1 dd 0) (w.2.1 dd 1) (f_Bo_gapToRectangle (gB G x 0) (gB G x 1) (gB G x 2) (gB G x 3) (w.1 ((c + 2)) q.toNatClampNeg) (w.1 ((c + 3)) q.toNatClampNeg) (w.1 ((c + 4)) q.toNatClampNeg) (w.1 ((c + 5)) q.toNatClampNeg))) 0) (off := 6) (lv := [(0, .ref c), (1, .ref (x + 3)), (2, .ref dd), (3, .int m), (4, .int q)]) (st := []) rfl rfl rfl rfl rfl (fun c50 => ?_) (fun c50 => ?_)
      · rw [c50] at k
        refine zeN (q := ((5, [(4, .int (q + Int32.ofInt 1)), (0, .ref c), (1, .ref (x + 3)), (2, .ref dd), (3, .int m)], []), yhp w G sz)) 2 rfl ?_
        refine zeS [(0, .ref c), (1, .ref (x + 3)), (2, .ref dd), (3, .int m), (4, .int (q + Int32.ofInt 1))] (zsub_pick [1, 2, 3, 4, 0] rfl rfl) ?_
        exact ih  m (q + Int32.ofInt 1) (by omega) (by omega) (by omega) k
      · rw [c50] at k
        refine zeN (q := ((5, [(4, .int (q + Int32.ofInt 1)), (3, .int (m + Int32.ofInt 1)), (0, .ref c), (1, .ref (x + 3)), (2, .ref dd)], []), yhp w G sz)) 3 rfl ?_
        refine zeS [(0, .ref c), (1, .ref (x + 3)), (2, .ref dd), (3, .int (m + Int32.ofInt 1)), (4, .int (q + Int32.ofInt 1))] (zsub_pick [2, 3, 4, 1, 0] rfl rfl) ?_
        exact ih  (m + Int32.ofInt 1) (q + Int32.ofInt 1) (by omega) (by omega) (by omega) k
def e_In_countWithin (G : List zC) (c x dd : Nat) (w : yW) : Int32 := (g_In_countWithin_5 G c x dd w 130 0 0)
set_option maxRecDepth 100000 in
theorem r_In_countWithin {fr lo sz : Nat} (G : List zC) (c x dd : Nat) (w : yW) (hc : yId c) (hx : yOk G x) (hdd : yshp[dd]? = some (true, 3, [.inr 1, .inr 1])) (hI : yIn w c) (hlo : 110 ≤ lo) : zAns (fr + 3) lo 51 [.ref c, .ref (x + 3), .ref dd] (yhp w G sz) (some (.int ((e_In_countWithin G c x dd w))), yhp w G sz) := by
  unfold e_In_countWithin
  refine zeb (fr := fr + 2) (M := M_In_countWithin) rfl (Nat.le_trans (by decide) hlo) rfl ?_
  have e0 : mL M_In_countWithin = 5 := rfl
  refine zeN (q := ((5, [(4, .int 0), (3, .int 0), (0, .ref c), (1, .ref (x + 3)), (2, .ref dd)], []), yhp w G sz)) 4 rfl ?_
  refine zeS [(0, .ref c), (1, .ref (x + 3)), (2, .ref dd), (3, .int 0), (4, .int 0)] (zsub_pick [2, 3, 4, 1, 0] rfl rfl) ?_
  refine t_In_countWithin_5 G c x dd w hc hx hdd hI (by omega) 130  0 0 (by decide) (by decide) (by decide) ?_
  refine zeN (q := ((63, [(0, .ref c), (1, .ref (x + 3)), (2, .ref dd), (3, .int ((g_In_countWithin_5 G c x dd w 130 0 0)))], [.int ((g_In_countWithin_5 G c x dd w 130 0 0))]), yhp w G sz)) 1 rfl ?_
  exact zer rfl rfl
