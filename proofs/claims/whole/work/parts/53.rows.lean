/-- counts of vertices within their room -/
def yMm (w : yW) : Prop := ∀ s, s < 65 → 0 ≤ (w.1 58 s).toInt ∧ (w.1 58 s).toInt ≤ 6
theorem yM_m {w : yW} (h : yM w) : yMm w := fun s hs => (h s hs).2.1
theorem yMm_K {S : List (Nat × Option Nat)} {w w' : yW} (k : yK S w w') (hS : ∀ j, ySt S 58 j = false) (h : yMm w) : yMm w' := fun s hs => by rw [yKi k (hS s)]; exact h s hs
theorem v_Mo_copyShape58 (a b mv : Int32) (w : yW) (j : Nat) : (e_Mo_copyShape a b mv w).1 58 j = bif yat 58 b.toNatClampNeg 58 j then w.1 58 a.toNatClampNeg else w.1 58 j := by
  unfold e_Mo_copyShape
  rw [yKi (kf_Mo_bind ..) rfl, u_Mo_copyShape_26 _ _ _ _ (by decide) (by decide)]
  show (bif yat 58 b.toNatClampNeg 58 j then _ else (wI w 57 b.toNatClampNeg (w.1 57 a.toNatClampNeg)).1 58 j) = _
  rw [wI_ne (by decide), wI_ne (by decide)]
theorem yMm_cs {w : yW} {a b mv : Int32} (ha : zIx a 65) (h : yMm w) : yMm (e_Mo_copyShape a b mv w) := by
  intro s hs
  rw [v_Mo_copyShape58]
  cases yat 58 b.toNatClampNeg 58 s
  · exact h s hs
  · exact h _ (zIx_n ha)
theorem yMm_cr {w : yW} {a b mv : Int32} (ha : zIx a 65) (h : yMm w) : yMm (e_Mo_copyRow a b mv w) := by
  unfold e_Mo_copyRow
  exact yMm_cs ha (yMm_K (S := [(55, none), (56, none)]) (yK_wI rfl (yK_wI rfl yK_rfl)) (fun _ => rfl) h)
def g_Mo_sameRow_97 (a b x : Int32) (w : yW)  : Int32 := (bif zc .ne (w.1 59 ((6 * a) + x).toNatClampNeg) (w.1 59 ((6 * b) + x).toNatClampNeg) then 0 else (bif zc .ne (w.1 60 ((6 * a) + x).toNatClampNeg) (w.1 60 ((6 * b) + x).toNatClampNeg) then 0 else 1))
set_option maxRecDepth 100000 in
theorem t_Mo_sameRow_97 {fr lo sz : Nat} {r : Option Value × zH} {G : List zC} (a b x : Int32) (w : yW)  (hA : zIx (6 * a + x) 390) (hB : zIx (6 * b + x) 390) (hlo : 0 ≤ lo) (k : zRun (fr + 0) lo none M_Mo_sameRow (157, [(0, .ref 54), (1, .int a), (2, .int b), (4, .int x), (3, .int ((g_Mo_sameRow_97 a b x w )))], []) (yhp w G sz) r) : zRun (fr + 0) lo none M_Mo_sameRow (97, [(0, .ref 54), (1, .int a), (2, .int b), (4, .int x)], []) (yhp w G sz) r := by
  unfold g_Mo_sameRow_97 at k
  refine zeN (q := ((98, [(0, .ref 54), (1, .int a), (2, .int b), (4, .int x)], [.ref 54]), yhp w G sz)) 1 rfl ?_
  refine ygf (kk := .inl (.ref 59)) (v := .ref 59) rfl rfl rfl rfl rfl rfl rfl ?_
  refine zeN (q := ((108, [(0, .ref 54), (1, .int a), (2, .int b), (4, .int x)], [.int ((6 * a) + x), .ref 59]), yhp w G sz)) 5 rfl ?_
  refine yia (N := 390) rfl rfl rfl (by assumption) ?_
  refine zeN (q := ((110, [(0, .ref 54), (1, .int a), (2, .int b), (4, .int x)], [.ref 54, .int (w.1 59 ((6 * a) + x).toNatClampNeg)]), yhp w G sz)) 1 rfl ?_
  refine ygf (kk := .inl (.ref 59)) (v := .ref 59) rfl rfl rfl rfl rfl rfl rfl ?_
  refine zeN (q := ((120, [(0, .ref 54), (1, .int a), (2, .int b), (4, .int x)], [.int ((6 * b) + x), .ref 59, .int (w.1 59 ((6 * a) + x).toNatClampNeg)]), yhp w G sz)) 5 rfl ?_
  refine yia (N := 390) rfl rfl rfl (by assumption) ?_
  refine zbc (q1 := (155, [(0, .ref 54), (1, .int a), (2, .int b), (4, .int x)], [])) (q2 := (124, [(0, .ref 54), (1, .int a), (2, .int b), (4, .int x)], [])) (cB := zc .ne (w.1 59 ((6 * a) + x).toNatClampNeg) (w.1 59 ((6 * b) + x).toNatClampNeg)) (off := 34) (lv := [(0, .ref 54), (1, .int a), (2, .int b), (4, .int x)]) (st := []) rfl rfl rfl rfl rfl (fun c121 => ?_) (fun c121 => ?_)
  · rw [c121] at k
    refine zeN (q := ((157, [(3, .int 0), (0, .ref 54), (1, .int a), (2, .int b), (4, .int x)], []), yhp w G sz)) 2 rfl ?_
    refine zeS [(0, .ref 54), (1, .int a), (2, .int b), (4, .int x), (3, .int 0)] (zsub_pick [1, 2, 3, 4, 0] rfl rfl) ?_
    exact k
  · rw [c121] at k
    refine zeN (q := ((125, [(0, .ref 54), (1, .int a), (2, .int b), (4, .int x)], [.ref 54]), yhp w G sz)) 1 rfl ?_
    refine ygf (kk := .inl (.ref 60)) (v := .ref 60) rfl rfl rfl rfl rfl rfl rfl ?_
    refine zeN (q := ((135, [(0, .ref 54), (1, .int a), (2, .int b), (4, .int x)], [.int ((6 * a) + x), .ref 60]), yhp w G sz)) 5 rfl ?_
    refine yia (N := 390) rfl rfl rfl (by assumption) ?_
    refine zeN (q := ((137, [(0, .ref 54), (1, .int a), (2, .int b), (4, .int x)], [.ref 54, .int (w.1 60 ((6 * a) + x).toNatClampNeg)]), yhp w G sz)) 1 rfl ?_
    refine ygf (kk := .inl (.ref 60)) (v := .ref 60) rfl rfl rfl rfl rfl rfl rfl ?_
    refine zeN (q := ((147, [(0, .ref 54), (1, .int a), (2, .int b), (4, .int x)], [.int ((6 * b) + x), .ref 60, .int (w.1 60 ((6 * a) + x).toNatClampNeg)]), yhp w G sz)) 5 rfl ?_
    refine yia (N := 390) rfl rfl rfl (by assumption) ?_
    refine zbc (q1 := (155, [(0, .ref 54), (1, .int a), (2, .int b), (4, .int x)], [])) (q2 := (151, [(0, .ref 54), (1, .int a), (2, .int b), (4, .int x)], [])) (cB := zc .ne (w.1 60 ((6 * a) + x).toNatClampNeg) (w.1 60 ((6 * b) + x).toNatClampNeg)) (off := 7) (lv := [(0, .ref 54), (1, .int a), (2, .int b), (4, .int x)]) (st := []) rfl rfl rfl rfl rfl (fun c148 => ?_) (fun c148 => ?_)
    · rw [c148] at k
      refine zeN (q := ((157, [(3, .int 0), (0, .ref 54), (1, .int a), (2, .int b), (4, .int x)], []), yhp w G sz)) 2 rfl ?_
      refine zeS [(0, .ref 54), (1, .int a), (2, .int b), (4, .int x), (3, .int 0)] (zsub_pick [1, 2, 3, 4, 0] rfl rfl) ?_
      exact k
    · rw [c148] at k
      refine zeN (q := ((157, [(3, .int 1), (0, .ref 54), (1, .int a), (2, .int b), (4, .int x)], []), yhp w G sz)) 3 rfl ?_
      refine zeS [(0, .ref 54), (1, .int a), (2, .int b), (4, .int x), (3, .int 1)] (zsub_pick [1, 2, 3, 4, 0] rfl rfl) ?_
      exact k
theorem b_Mo_sameRow_97 (a b x : Int32) (w : yW) : zB (g_Mo_sameRow_97 a b x w) := by unfold g_Mo_sameRow_97; repeat' first | exact zB0 | exact zB1 | refine zbi ?_ ?_
def g_Mo_sameRow_82 (a b : Int32) (w : yW) : Nat → Int32 → Int32 → Int32
  | 0, sm, x => 0
  | n + 1, sm, x => (bif zc .ge x (w.1 58 a.toNatClampNeg) then sm else (bif zc .eq sm 0 then sm else g_Mo_sameRow_82 a b w n  ((g_Mo_sameRow_97 a b x w  )) (x + Int32.ofInt 1)))
set_option maxRecDepth 100000 in
theorem t_Mo_sameRow_82 {fr lo sz : Nat} {G : List zC} (a b : Int32) (w : yW) (ha : zIx a 65) (hbb : zIx b 65) (hm0 : 0 ≤ (w.1 58 a.toNatClampNeg).toInt) (hm1 : (w.1 58 a.toNatClampNeg).toInt ≤ 6) (hlo : 0 ≤ lo) : ∀ (n : Nat) (sm : Int32) (x : Int32) (hb : zB sm) (h0 : 0 ≤ x.toInt) (h1 : x.toInt ≤ 6) (hn : 6 < x.toInt + n), zRun (fr + 0) lo none M_Mo_sameRow (82, [(0, .ref 54), (1, .int a), (2, .int b), (3, .int sm), (4, .int x)], []) (yhp w G sz) (some (.int ((g_Mo_sameRow_82 a b w n sm x))), yhp w G sz) := by
  intro n
  induction n with
  | zero => intro sm x hb h0 h1 hn; exfalso; omega
  | succ n ih =>
    intro sm x hb h0 h1 hn
    rw [g_Mo_sameRow_82]
    refine zeN (q := ((85, [(0, .ref 54), (1, .int a), (2, .int b), (3, .int sm), (4, .int x)], [.ref 54, .int x]), yhp w G sz)) 2 rfl ?_
    refine ygf (kk := .inl (.ref 58)) (v := .ref 58) rfl rfl rfl rfl rfl rfl rfl ?_
    refine zeN (q := ((89, [(0, .ref 54), (1, .int a), (2, .int b), (3, .int sm), (4, .int x)], [.int a, .ref 58, .int x]), yhp w G sz)) 1 rfl ?_
    refine yia (N := 65) rfl rfl rfl (by assumption) ?_
    refine zbc (q1 := (163, [(0, .ref 54), (1, .int a), (2, .int b), (3, .int sm), (4, .int x)], [])) (q2 := (93, [(0, .ref 54), (1, .int a), (2, .int b), (3, .int sm), (4, .int x)], [])) (cB := zc .ge x (w.1 58 a.toNatClampNeg)) (off := 73) (lv := [(0, .ref 54), (1, .int a), (2, .int b), (3, .int sm), (4, .int x)]) (st := []) rfl rfl rfl rfl rfl (fun c90 => ?_) (fun c90 => ?_)
    · rw [c90]
      refine zeN (q := ((164, [(0, .ref 54), (1, .int a), (2, .int b), (3, .int sm), (4, .int x)], [.int sm]), yhp w G sz)) 1 rfl ?_
      exact zer rfl (zreb hb)
    · rw [c90]
      refine zeN (q := ((94, [(0, .ref 54), (1, .int a), (2, .int b), (3, .int sm), (4, .int x)], [.int sm]), yhp w G sz)) 1 rfl ?_
      refine zbc (q1 := (163, [(0, .ref 54), (1, .int a), (2, .int b), (3, .int sm), (4, .int x)], [])) (q2 := (97, [(0, .ref 54), (1, .int a), (2, .int b), (3, .int sm), (4, .int x)], [])) (cB := zc .eq sm 0) (off := 69) (lv := [(0, .ref 54), (1, .int a), (2, .int b), (3, .int sm), (4, .int x)]) (st := []) rfl rfl rfl rfl rfl (fun c94 => ?_) (fun c94 => ?_)
      · rw [c94]
        refine zeN (q := ((164, [(0, .ref 54), (1, .int a), (2, .int b), (3, .int sm), (4, .int x)], [.int sm]), yhp w G sz)) 1 rfl ?_
        exact zer rfl (zreb hb)
      · rw [c94]
        have hcc := of_decide_eq_false (z_ge c90).symm
        have hA : zIx (6 * a + x) 390 := zIx_six6 ha.1 ha.2 h0 (by omega)
        have hB : zIx (6 * b + x) 390 := zIx_six6 hbb.1 hbb.2 h0 (by omega)
        have hi1 := z_inc (a := x) (by omega) (by omega)
        refine zeS [(0, .ref 54), (1, .int a), (2, .int b), (4, .int x)] (zsub_pick [0, 1, 2, 4] rfl rfl) ?_
        refine t_Mo_sameRow_97 a b x w  hA hB (by omega) ?_
        refine zeN (q := ((82, [(4, .int (x + Int32.ofInt 1)), (0, .ref 54), (1, .int a), (2, .int b), (3, .int ((g_Mo_sameRow_97 a b x w  )))], []), yhp w G sz)) 2 rfl ?_
        refine zeS [(0, .ref 54), (1, .int a), (2, .int b), (3, .int ((g_Mo_sameRow_97 a b x w  ))), (4, .int (x + Int32.ofInt 1))] (zsub_pick [1, 2, 3, 4, 0] rfl rfl) ?_
        exact ih  ((g_Mo_sameRow_97 a b x w  )) (x + Int32.ofInt 1) (b_Mo_sameRow_97 ..) (by omega) (by omega) (by omega)
def g_Mo_sameRow_28 (a b : Int32) (w : yW)  : Int32 := (bif zc .ne (w.1 56 a.toNatClampNeg) (w.1 56 b.toNatClampNeg) then 0 else (bif zc .ne (w.1 57 a.toNatClampNeg) (w.1 57 b.toNatClampNeg) then 0 else (bif zc .ne (w.1 58 a.toNatClampNeg) (w.1 58 b.toNatClampNeg) then 0 else 1)))
set_option maxRecDepth 100000 in
theorem t_Mo_sameRow_28 {fr lo sz : Nat} {r : Option Value × zH} {G : List zC} (a b : Int32) (w : yW)  (ha : zIx a 65) (hbb : zIx b 65) (hlo : 0 ≤ lo) (k : zRun (fr + 0) lo none M_Mo_sameRow (79, [(0, .ref 54), (1, .int a), (2, .int b), (3, .int ((g_Mo_sameRow_28 a b w )))], []) (yhp w G sz) r) : zRun (fr + 0) lo none M_Mo_sameRow (28, [(0, .ref 54), (1, .int a), (2, .int b)], []) (yhp w G sz) r := by
  unfold g_Mo_sameRow_28 at k
  refine zeN (q := ((29, [(0, .ref 54), (1, .int a), (2, .int b)], [.ref 54]), yhp w G sz)) 1 rfl ?_
  refine ygf (kk := .inl (.ref 56)) (v := .ref 56) rfl rfl rfl rfl rfl rfl rfl ?_
  refine zeN (q := ((33, [(0, .ref 54), (1, .int a), (2, .int b)], [.int a, .ref 56]), yhp w G sz)) 1 rfl ?_
  refine yia (N := 65) rfl rfl rfl (by assumption) ?_
  refine zeN (q := ((35, [(0, .ref 54), (1, .int a), (2, .int b)], [.ref 54, .int (w.1 56 a.toNatClampNeg)]), yhp w G sz)) 1 rfl ?_
  refine ygf (kk := .inl (.ref 56)) (v := .ref 56) rfl rfl rfl rfl rfl rfl rfl ?_
  refine zeN (q := ((39, [(0, .ref 54), (1, .int a), (2, .int b)], [.int b, .ref 56, .int (w.1 56 a.toNatClampNeg)]), yhp w G sz)) 1 rfl ?_
  refine yia (N := 65) rfl rfl rfl (by assumption) ?_
  refine zbc (q1 := (77, [(0, .ref 54), (1, .int a), (2, .int b)], [])) (q2 := (43, [(0, .ref 54), (1, .int a), (2, .int b)], [])) (cB := zc .ne (w.1 56 a.toNatClampNeg) (w.1 56 b.toNatClampNeg)) (off := 37) (lv := [(0, .ref 54), (1, .int a), (2, .int b)]) (st := []) rfl rfl rfl rfl rfl (fun c40 => ?_) (fun c40 => ?_)
  · rw [c40] at k
    refine zeN (q := ((79, [(3, .int 0), (0, .ref 54), (1, .int a), (2, .int b)], []), yhp w G sz)) 2 rfl ?_
    refine zeS [(0, .ref 54), (1, .int a), (2, .int b), (3, .int 0)] (zsub_pick [1, 2, 3, 0] rfl rfl) ?_
    exact k
  · rw [c40] at k
    refine zeN (q := ((44, [(0, .ref 54), (1, .int a), (2, .int b)], [.ref 54]), yhp w G sz)) 1 rfl ?_
    refine ygf (kk := .inl (.ref 57)) (v := .ref 57) rfl rfl rfl rfl rfl rfl rfl ?_
    refine zeN (q := ((48, [(0, .ref 54), (1, .int a), (2, .int b)], [.int a, .ref 57]), yhp w G sz)) 1 rfl ?_
    refine yia (N := 65) rfl rfl rfl (by assumption) ?_
    refine zeN (q := ((50, [(0, .ref 54), (1, .int a), (2, .int b)], [.ref 54, .int (w.1 57 a.toNatClampNeg)]), yhp w G sz)) 1 rfl ?_
    refine ygf (kk := .inl (.ref 57)) (v := .ref 57) rfl rfl rfl rfl rfl rfl rfl ?_
    refine zeN (q := ((54, [(0, .ref 54), (1, .int a), (2, .int b)], [.int b, .ref 57, .int (w.1 57 a.toNatClampNeg)]), yhp w G sz)) 1 rfl ?_
    refine yia (N := 65) rfl rfl rfl (by assumption) ?_
    refine zbc (q1 := (77, [(0, .ref 54), (1, .int a), (2, .int b)], [])) (q2 := (58, [(0, .ref 54), (1, .int a), (2, .int b)], [])) (cB := zc .ne (w.1 57 a.toNatClampNeg) (w.1 57 b.toNatClampNeg)) (off := 22) (lv := [(0, .ref 54), (1, .int a), (2, .int b)]) (st := []) rfl rfl rfl rfl rfl (fun c55 => ?_) (fun c55 => ?_)
    · rw [c55] at k
      refine zeN (q := ((79, [(3, .int 0), (0, .ref 54), (1, .int a), (2, .int b)], []), yhp w G sz)) 2 rfl ?_
      refine zeS [(0, .ref 54), (1, .int a), (2, .int b), (3, .int 0)] (zsub_pick [1, 2, 3, 0] rfl rfl) ?_
      exact k
    · rw [c55] at k
      refine zeN (q := ((59, [(0, .ref 54), (1, .int a), (2, .int b)], [.ref 54]), yhp w G sz)) 1 rfl ?_
      refine ygf (kk := .inl (.ref 58)) (v := .ref 58) rfl rfl rfl rfl rfl rfl rfl ?_
      refine zeN (q := ((63, [(0, .ref 54), (1, .int a), (2, .int b)], [.int a, .ref 58]), yhp w G sz)) 1 rfl ?_
      refine yia (N := 65) rfl rfl rfl (by assumption) ?_
      refine zeN (q := ((65, [(0, .ref 54), (1, .int a), (2, .int b)], [.ref 54, .int (w.1 58 a.toNatClampNeg)]), yhp w G sz)) 1 rfl ?_
      refine ygf (kk := .inl (.ref 58)) (v := .ref 58) rfl rfl rfl rfl rfl rfl rfl ?_
      refine zeN (q := ((69, [(0, .ref 54), (1, .int a), (2, .int b)], [.int b, .ref 58, .int (w.1 58 a.toNatClampNeg)]), yhp w G sz)) 1 rfl ?_
      refine yia (N := 65) rfl rfl rfl (by assumption) ?_
      refine zbc (q1 := (77, [(0, .ref 54), (1, .int a), (2, .int b)], [])) (q2 := (73, [(0, .ref 54), (1, .int a), (2, .int b)], [])) (cB := zc .ne (w.1 58 a.toNatClampNeg) (w.1 58 b.toNatClampNeg)) (off := 7) (lv := [(0, .ref 54), (1, .int a), (2, .int b)]) (st := []) rfl rfl rfl rfl rfl (fun c70 => ?_) (fun c70 => ?_)
      · rw [c70] at k
        refine zeN (q := ((79, [(3, .int 0), (0, .ref 54), (1, .int a), (2, .int b)], []), yhp w G sz)) 2 rfl ?_
        refine zeS [(0, .ref 54), (1, .int a), (2, .int b), (3, .int 0)] (zsub_pick [1, 2, 3, 0] rfl rfl) ?_
        exact k
      · rw [c70] at k
        refine zeN (q := ((79, [(3, .int 1), (0, .ref 54), (1, .int a), (2, .int b)], []), yhp w G sz)) 3 rfl ?_
        refine zeS [(0, .ref 54), (1, .int a), (2, .int b), (3, .int 1)] (zsub_pick [1, 2, 3, 0] rfl rfl) ?_
        exact k
theorem b_Mo_sameRow_28 (a b : Int32) (w : yW) : zB (g_Mo_sameRow_28 a b w) := by unfold g_Mo_sameRow_28; repeat' first | exact zB0 | exact zB1 | refine zbi ?_ ?_
def e_Mo_sameRow (a b : Int32) (w : yW) : Int32 := (bif zc .eq (w.1 55 a.toNatClampNeg) (w.1 55 b.toNatClampNeg) then (bif zc .ne (w.1 55 a.toNatClampNeg) 0 then g_Mo_sameRow_82 a b w 7 ((g_Mo_sameRow_28 a b w  )) 0 else 1) else 0)
set_option maxRecDepth 100000 in
theorem r_Mo_sameRow {fr lo sz : Nat} {G : List zC} (a b : Int32) (w : yW) (ha : zIx a 65) (hbb : zIx b 65) (hm0 : 0 ≤ (w.1 58 a.toNatClampNeg).toInt) (hm1 : (w.1 58 a.toNatClampNeg).toInt ≤ 6) (hlo : 24 ≤ lo) : zAns (fr + 1) lo 146 [.ref 54, .int a, .int b] (yhp w G sz) (some (.int ((e_Mo_sameRow a b w))), yhp w G sz) := by
  unfold e_Mo_sameRow
  refine zeb (fr := fr + 0) (M := M_Mo_sameRow) rfl (Nat.le_trans (by decide) hlo) rfl ?_
  have e0 : mL M_Mo_sameRow = 5 := rfl
  refine zeN (q := ((1, [(0, .ref 54), (1, .int a), (2, .int b)], [.ref 54]), yhp w G sz)) 1 rfl ?_
  refine ygf (kk := .inl (.ref 55)) (v := .ref 55) rfl rfl rfl rfl rfl rfl rfl ?_
  refine zeN (q := ((5, [(0, .ref 54), (1, .int a), (2, .int b)], [.int a, .ref 55]), yhp w G sz)) 1 rfl ?_
  refine yba (N := 65) rfl rfl rfl (by assumption) ?_
  refine zeN (q := ((7, [(0, .ref 54), (1, .int a), (2, .int b)], [.ref 54, .int (w.1 55 a.toNatClampNeg)]), yhp w G sz)) 1 rfl ?_
  refine ygf (kk := .inl (.ref 55)) (v := .ref 55) rfl rfl rfl rfl rfl rfl rfl ?_
  refine zeN (q := ((11, [(0, .ref 54), (1, .int a), (2, .int b)], [.int b, .ref 55, .int (w.1 55 a.toNatClampNeg)]), yhp w G sz)) 1 rfl ?_
  refine yba (N := 65) rfl rfl rfl (by assumption) ?_
  refine zbc (q1 := (17, [(0, .ref 54), (1, .int a), (2, .int b)], [])) (q2 := (15, [(0, .ref 54), (1, .int a), (2, .int b)], [])) (cB := zc .eq (w.1 55 a.toNatClampNeg) (w.1 55 b.toNatClampNeg)) (off := 5) (lv := [(0, .ref 54), (1, .int a), (2, .int b)]) (st := []) rfl rfl rfl rfl rfl (fun c12 => ?_) (fun c12 => ?_)
  · rw [c12]
    refine zeN (q := ((18, [(0, .ref 54), (1, .int a), (2, .int b)], [.ref 54]), yhp w G sz)) 1 rfl ?_
    refine ygf (kk := .inl (.ref 55)) (v := .ref 55) rfl rfl rfl rfl rfl rfl rfl ?_
    refine zeN (q := ((22, [(0, .ref 54), (1, .int a), (2, .int b)], [.int a, .ref 55]), yhp w G sz)) 1 rfl ?_
    refine yba (N := 65) rfl rfl rfl (by assumption) ?_
    refine zbc (q1 := (28, [(0, .ref 54), (1, .int a), (2, .int b)], [])) (q2 := (26, [(0, .ref 54), (1, .int a), (2, .int b)], [])) (cB := zc .ne (w.1 55 a.toNatClampNeg) 0) (off := 5) (lv := [(0, .ref 54), (1, .int a), (2, .int b)]) (st := []) rfl rfl rfl rfl rfl (fun c23 => ?_) (fun c23 => ?_)
    · rw [c23]
      refine t_Mo_sameRow_28 a b w  ha hbb (by omega) ?_
      refine zeN (q := ((82, [(4, .int 0), (0, .ref 54), (1, .int a), (2, .int b), (3, .int ((g_Mo_sameRow_28 a b w  )))], []), yhp w G sz)) 2 rfl ?_
      refine zeS [(0, .ref 54), (1, .int a), (2, .int b), (3, .int ((g_Mo_sameRow_28 a b w  ))), (4, .int 0)] (zsub_pick [1, 2, 3, 4, 0] rfl rfl) ?_
      exact t_Mo_sameRow_82 a b w ha hbb hm0 hm1 (by omega) 7  ((g_Mo_sameRow_28 a b w  )) 0 (b_Mo_sameRow_28 ..) (by decide) (by decide) (by decide)
    · rw [c23]
      refine zeN (q := ((27, [(0, .ref 54), (1, .int a), (2, .int b)], [.int 1]), yhp w G sz)) 1 rfl ?_
      exact zer rfl rfl
  · rw [c12]
    refine zeN (q := ((16, [(0, .ref 54), (1, .int a), (2, .int b)], [.int 0]), yhp w G sz)) 1 rfl ?_
    exact zer rfl rfl
theorem z_4 {p : Int32} (h0 : 0 ≤ p.toInt) (h1 : p.toInt ≤ 8) : (4 * p).toInt = 4 * p.toInt := z_mul (by show _ ≤ (4 : Int) * p.toInt; omega) (by show (4 : Int) * p.toInt < _; omega)
theorem z_4k {p k : Int32} (h0 : 0 ≤ p.toInt) (h1 : p.toInt ≤ 8) (h2 : 0 ≤ k.toInt) (h3 : k.toInt ≤ 4) : (4 * p + k).toInt = 4 * p.toInt + k.toInt := by
  rw [z_add (by rw [z_4 h0 h1]; omega) (by rw [z_4 h0 h1]; omega), z_4 h0 h1]
def g_Mo_changed_4 (p : Int32) (w : yW) : Nat → Int32 → Int32
  | 0, s => 0
  | n + 1, s => (bif zc .ge s ((4 * p) + 4) then 0 else (bif zc .ne (e_Mo_sameRow s (s + 32) w) 0 then g_Mo_changed_4 p w n  (s + Int32.ofInt 1) else 1))
set_option maxRecDepth 100000 in
theorem t_Mo_changed_4 {fr lo sz : Nat} {G : List zC} (p : Int32) (w : yW) (hp0 : 0 ≤ p.toInt) (hp1 : p.toInt ≤ 7) (hMm : yMm w) (hlo : 24 ≤ lo) : ∀ (n : Nat) (s : Int32) (h0 : 4 * p.toInt ≤ s.toInt) (h1 : s.toInt ≤ 4 * p.toInt + 4) (hn : 4 * p.toInt + 4 < s.toInt + n), zRun (fr + 1) lo none M_Mo_changed (4, [(0, .ref 54), (1, .int p), (2, .int s)], []) (yhp w G sz) (some (.int ((g_Mo_changed_4 p w n s))), yhp w G sz) := by
  intro n
  induction n with
  | zero => intro s h0 h1 hn; exfalso; omega
  | succ n ih =>
    intro s h0 h1 hn
    rw [g_Mo_changed_4]
    refine zeN (q := ((10, [(0, .ref 54), (1, .int p), (2, .int s)], [.int ((4 * p) + 4), .int s]), yhp w G sz)) 6 rfl ?_
    refine zbc (q1 := (33, [(0, .ref 54), (1, .int p), (2, .int s)], [])) (q2 := (13, [(0, .ref 54), (1, .int p), (2, .int s)], [])) (cB := zc .ge s ((4 * p) + 4)) (off := 23) (lv := [(0, .ref 54), (1, .int p), (2, .int s)]) (st := []) rfl rfl rfl rfl rfl (fun c10 => ?_) (fun c10 => ?_)
    · rw [c10]
      refine zeN (q := ((34, [(0, .ref 54), (1, .int p), (2, .int s)], [.int 0]), yhp w G sz)) 1 rfl ?_
      exact zer rfl rfl
    · rw [c10]
      have hcc := of_decide_eq_false (z_ge c10).symm
      rw [z_4k hp0 (by omega) (by decide) (by decide)] at hcc
      have hcc2 : ¬ 4 * p.toInt + 4 ≤ s.toInt := hcc
      have hs : zIx s 65 := ⟨by omega, by omega⟩
      have hs2 : zIx (s + 32) 65 := by
        have e : (s + 32).toInt = s.toInt + 32 := z_add (by show _ ≤ _ + (32 : Int); omega) (by show _ + (32 : Int) < _; omega)
        unfold zIx
        rw [e]
        omega
      have hi1 := z_inc (a := s) (by omega) (by omega)
      refine zeN (q := ((19, [(0, .ref 54), (1, .int p), (2, .int s)], [.int (s + 32), .int s, .ref 54]), yhp w G sz)) 5 rfl ?_
      refine zec 1 (M' := M_Mo_sameRow) (qq := ([.ref 54, .int s, .int (s + 32)], [])) (s' := (22, [(0, .ref 54), (1, .int p), (2, .int s)], [.int (e_Mo_sameRow s (s + 32) w)])) rfl rfl (fun _ => rfl) rfl rfl (zhk rfl (zrc_ok (yhp_o rfl)) rfl) (r_Mo_sameRow s (s + 32) _ hs hs2 (hMm _ (zIx_n hs)).1 (hMm _ (zIx_n hs)).2 (by omega)) rfl ?_
      refine zbc (q1 := (27, [(0, .ref 54), (1, .int p), (2, .int s)], [])) (q2 := (25, [(0, .ref 54), (1, .int p), (2, .int s)], [])) (cB := zc .ne (e_Mo_sameRow s (s + 32) w) 0) (off := 5) (lv := [(0, .ref 54), (1, .int p), (2, .int s)]) (st := []) rfl rfl rfl rfl rfl (fun c22 => ?_) (fun c22 => ?_)
      · rw [c22]
        refine zeN (q := ((4, [(2, .int (s + Int32.ofInt 1)), (0, .ref 54), (1, .int p)], []), yhp w G sz)) 2 rfl ?_
        refine zeS [(0, .ref 54), (1, .int p), (2, .int (s + Int32.ofInt 1))] (zsub_pick [1, 2, 0] rfl rfl) ?_
        exact ih  (s + Int32.ofInt 1) (by omega) (by omega) (by omega)
      · rw [c22]
        refine zeN (q := ((26, [(0, .ref 54), (1, .int p), (2, .int s)], [.int 1]), yhp w G sz)) 1 rfl ?_
        exact zer rfl rfl
def e_Mo_changed (p : Int32) (w : yW) : Int32 := g_Mo_changed_4 p w 5 (4 * p)
set_option maxRecDepth 100000 in
theorem r_Mo_changed {fr lo sz : Nat} {G : List zC} (p : Int32) (w : yW) (hp0 : 0 ≤ p.toInt) (hp1 : p.toInt ≤ 7) (hMm : yMm w) (hlo : 46 ≤ lo) : zAns (fr + 2) lo 145 [.ref 54, .int p] (yhp w G sz) (some (.int ((e_Mo_changed p w))), yhp w G sz) := by
  unfold e_Mo_changed
  refine zeb (fr := fr + 1) (M := M_Mo_changed) rfl (Nat.le_trans (by decide) hlo) rfl ?_
  have e0 : mL M_Mo_changed = 3 := rfl
  refine zeN (q := ((4, [(2, .int (4 * p)), (0, .ref 54), (1, .int p)], []), yhp w G sz)) 4 rfl ?_
  refine zeS [(0, .ref 54), (1, .int p), (2, .int (4 * p))] (zsub_pick [1, 2, 0] rfl rfl) ?_
  exact t_Mo_changed_4 p w hp0 hp1 hMm (by omega) 5  (4 * p) (by rw [z_4 hp0 (by omega)]; omega) (by rw [z_4 hp0 (by omega)]; omega) (by rw [z_4 hp0 (by omega)]; omega)
def e_Mo_filled (p : Int32) (w : yW) : Int32 := (bif zc .ne (w.1 55 (4 * p).toNatClampNeg) 0 then 1 else (bif zc .ne (w.1 55 ((4 * p) + 1).toNatClampNeg) 0 then 1 else (bif zc .ne (w.1 55 ((4 * p) + 2).toNatClampNeg) 0 then 1 else (bif zc .eq (w.1 55 ((4 * p) + 3).toNatClampNeg) 0 then 0 else 1))))
set_option maxRecDepth 100000 in
theorem r_Mo_filled {fr lo sz : Nat} {G : List zC} (p : Int32) (w : yW) (hp0 : 0 ≤ p.toInt) (hp1 : p.toInt ≤ 7) (hlo : 21 ≤ lo) : zAns (fr + 1) lo 147 [.ref 54, .int p] (yhp w G sz) (some (.int ((e_Mo_filled p w))), yhp w G sz) := by
  unfold e_Mo_filled
  refine zeb (fr := fr + 0) (M := M_Mo_filled) rfl (Nat.le_trans (by decide) hlo) rfl ?_
  have e0 : mL M_Mo_filled = 2 := rfl
  have hf0 : zIx (4 * p) 65 := by unfold zIx; rw [z_4 hp0 (by omega)]; omega
  have hfk : ∀ k : Int32, 0 ≤ k.toInt → k.toInt ≤ 3 → zIx (4 * p + k) 65 := fun k a b => by unfold zIx; rw [z_4k hp0 (by omega) a (by omega)]; omega
  refine zeN (q := ((1, [(0, .ref 54), (1, .int p)], [.ref 54]), yhp w G sz)) 1 rfl ?_
  refine ygf (kk := .inl (.ref 55)) (v := .ref 55) rfl rfl rfl rfl rfl rfl rfl ?_
  refine zeN (q := ((7, [(0, .ref 54), (1, .int p)], [.int (4 * p), .ref 55]), yhp w G sz)) 3 rfl ?_
  refine yba (N := 65) rfl rfl rfl hf0 ?_
  refine zbc (q1 := (50, [(0, .ref 54), (1, .int p)], [])) (q2 := (11, [(0, .ref 54), (1, .int p)], [])) (cB := zc .ne (w.1 55 (4 * p).toNatClampNeg) 0) (off := 42) (lv := [(0, .ref 54), (1, .int p)]) (st := []) rfl rfl rfl rfl rfl (fun c8 => ?_) (fun c8 => ?_)
  · rw [c8]
    refine zeN (q := ((55, [(0, .ref 54), (1, .int p)], [.int 1]), yhp w G sz)) 2 rfl ?_
    exact zer rfl rfl
  · rw [c8]
    refine zeN (q := ((12, [(0, .ref 54), (1, .int p)], [.ref 54]), yhp w G sz)) 1 rfl ?_
    refine ygf (kk := .inl (.ref 55)) (v := .ref 55) rfl rfl rfl rfl rfl rfl rfl ?_
    refine zeN (q := ((20, [(0, .ref 54), (1, .int p)], [.int ((4 * p) + 1), .ref 55]), yhp w G sz)) 5 rfl ?_
    refine yba (N := 65) rfl rfl rfl (hfk 1 (by decide) (by decide)) ?_
    refine zbc (q1 := (50, [(0, .ref 54), (1, .int p)], [])) (q2 := (24, [(0, .ref 54), (1, .int p)], [])) (cB := zc .ne (w.1 55 ((4 * p) + 1).toNatClampNeg) 0) (off := 29) (lv := [(0, .ref 54), (1, .int p)]) (st := []) rfl rfl rfl rfl rfl (fun c21 => ?_) (fun c21 => ?_)
    · rw [c21]
      refine zeN (q := ((55, [(0, .ref 54), (1, .int p)], [.int 1]), yhp w G sz)) 2 rfl ?_
      exact zer rfl rfl
    · rw [c21]
      refine zeN (q := ((25, [(0, .ref 54), (1, .int p)], [.ref 54]), yhp w G sz)) 1 rfl ?_
      refine ygf (kk := .inl (.ref 55)) (v := .ref 55) rfl rfl rfl rfl rfl rfl rfl ?_
      refine zeN (q := ((33, [(0, .ref 54), (1, .int p)], [.int ((4 * p) + 2), .ref 55]), yhp w G sz)) 5 rfl ?_
      refine yba (N := 65) rfl rfl rfl (hfk 2 (by decide) (by decide)) ?_
      refine zbc (q1 := (50, [(0, .ref 54), (1, .int p)], [])) (q2 := (37, [(0, .ref 54), (1, .int p)], [])) (cB := zc .ne (w.1 55 ((4 * p) + 2).toNatClampNeg) 0) (off := 16) (lv := [(0, .ref 54), (1, .int p)]) (st := []) rfl rfl rfl rfl rfl (fun c34 => ?_) (fun c34 => ?_)
      · rw [c34]
        refine zeN (q := ((55, [(0, .ref 54), (1, .int p)], [.int 1]), yhp w G sz)) 2 rfl ?_
        exact zer rfl rfl
      · rw [c34]
        refine zeN (q := ((38, [(0, .ref 54), (1, .int p)], [.ref 54]), yhp w G sz)) 1 rfl ?_
        refine ygf (kk := .inl (.ref 55)) (v := .ref 55) rfl rfl rfl rfl rfl rfl rfl ?_
        refine zeN (q := ((46, [(0, .ref 54), (1, .int p)], [.int ((4 * p) + 3), .ref 55]), yhp w G sz)) 5 rfl ?_
        refine yba (N := 65) rfl rfl rfl (hfk 3 (by decide) (by decide)) ?_
        refine zbc (q1 := (54, [(0, .ref 54), (1, .int p)], [])) (q2 := (50, [(0, .ref 54), (1, .int p)], [])) (cB := zc .eq (w.1 55 ((4 * p) + 3).toNatClampNeg) 0) (off := 7) (lv := [(0, .ref 54), (1, .int p)]) (st := []) rfl rfl rfl rfl rfl (fun c47 => ?_) (fun c47 => ?_)
        · rw [c47]
          refine zeN (q := ((55, [(0, .ref 54), (1, .int p)], [.int 0]), yhp w G sz)) 1 rfl ?_
          exact zer rfl rfl
        · rw [c47]
          refine zeN (q := ((55, [(0, .ref 54), (1, .int p)], [.int 1]), yhp w G sz)) 2 rfl ?_
          exact zer rfl rfl
def g_Mo_isFree_2 (f : Int32) (w : yW) : Nat → Int32 → Int32
  | 0, p => 0
  | n + 1, p => (bif zc .ge p 9 then 1 else (bif zc .eq (w.1 70 p.toNatClampNeg) f then 0 else (bif zc .ne (w.1 71 p.toNatClampNeg) f then g_Mo_isFree_2 f w n  (p + Int32.ofInt 1) else 0)))
set_option maxRecDepth 100000 in
theorem t_Mo_isFree_2 {fr lo sz : Nat} {G : List zC} (f : Int32) (w : yW)  (hlo : 0 ≤ lo) : ∀ (n : Nat) (p : Int32) (h0 : 0 ≤ p.toInt) (h1 : p.toInt ≤ 9) (hn : 9 < p.toInt + n), zRun (fr + 0) lo none M_Mo_isFree (2, [(0, .ref 54), (1, .int f), (2, .int p)], []) (yhp w G sz) (some (.int ((g_Mo_isFree_2 f w n p))), yhp w G sz) := by
  intro n
  induction n with
  | zero => intro p h0 h1 hn; exfalso; omega
  | succ n ih =>
    intro p h0 h1 hn
    rw [g_Mo_isFree_2]
    refine zeN (q := ((5, [(0, .ref 54), (1, .int f), (2, .int p)], [.int 9, .int p]), yhp w G sz)) 2 rfl ?_
    refine zbc (q1 := (36, [(0, .ref 54), (1, .int f), (2, .int p)], [])) (q2 := (8, [(0, .ref 54), (1, .int f), (2, .int p)], [])) (cB := zc .ge p 9) (off := 31) (lv := [(0, .ref 54), (1, .int f), (2, .int p)]) (st := []) rfl rfl rfl rfl rfl (fun c5 => ?_) (fun c5 => ?_)
    · rw [c5]
      refine zeN (q := ((37, [(0, .ref 54), (1, .int f), (2, .int p)], [.int 1]), yhp w G sz)) 1 rfl ?_
      exact zer rfl rfl
    · rw [c5]
      have hcc : ¬ (9 : Int) ≤ p.toInt := of_decide_eq_false (z_ge c5).symm
      have hp : zIx p 9 := ⟨h0, by omega⟩
      have hi1 := z_inc (a := p) (by omega) (by omega)
      refine zeN (q := ((9, [(0, .ref 54), (1, .int f), (2, .int p)], [.ref 54]), yhp w G sz)) 1 rfl ?_
      refine ygf (kk := .inl (.ref 70)) (v := .ref 70) rfl rfl rfl rfl rfl rfl rfl ?_
      refine zeN (q := ((13, [(0, .ref 54), (1, .int f), (2, .int p)], [.int p, .ref 70]), yhp w G sz)) 1 rfl ?_
      refine yia (N := 9) rfl rfl rfl (by assumption) ?_
      refine zeN (q := ((15, [(0, .ref 54), (1, .int f), (2, .int p)], [.int f, .int (w.1 70 p.toNatClampNeg)]), yhp w G sz)) 1 rfl ?_
      refine zbc (q1 := (28, [(0, .ref 54), (1, .int f), (2, .int p)], [])) (q2 := (18, [(0, .ref 54), (1, .int f), (2, .int p)], [])) (cB := zc .eq (w.1 70 p.toNatClampNeg) f) (off := 13) (lv := [(0, .ref 54), (1, .int f), (2, .int p)]) (st := []) rfl rfl rfl rfl rfl (fun c15 => ?_) (fun c15 => ?_)
      · rw [c15]
        refine zeN (q := ((29, [(0, .ref 54), (1, .int f), (2, .int p)], [.int 0]), yhp w G sz)) 1 rfl ?_
        exact zer rfl rfl
      · rw [c15]
        refine zeN (q := ((19, [(0, .ref 54), (1, .int f), (2, .int p)], [.ref 54]), yhp w G sz)) 1 rfl ?_
        refine ygf (kk := .inl (.ref 71)) (v := .ref 71) rfl rfl rfl rfl rfl rfl rfl ?_
        refine zeN (q := ((23, [(0, .ref 54), (1, .int f), (2, .int p)], [.int p, .ref 71]), yhp w G sz)) 1 rfl ?_
        refine yia (N := 9) rfl rfl rfl (by assumption) ?_
        refine zeN (q := ((25, [(0, .ref 54), (1, .int f), (2, .int p)], [.int f, .int (w.1 71 p.toNatClampNeg)]), yhp w G sz)) 1 rfl ?_
        refine zbc (q1 := (30, [(0, .ref 54), (1, .int f), (2, .int p)], [])) (q2 := (28, [(0, .ref 54), (1, .int f), (2, .int p)], [])) (cB := zc .ne (w.1 71 p.toNatClampNeg) f) (off := 5) (lv := [(0, .ref 54), (1, .int f), (2, .int p)]) (st := []) rfl rfl rfl rfl rfl (fun c25 => ?_) (fun c25 => ?_)
        · rw [c25]
          refine zeN (q := ((2, [(2, .int (p + Int32.ofInt 1)), (0, .ref 54), (1, .int f)], []), yhp w G sz)) 2 rfl ?_
          refine zeS [(0, .ref 54), (1, .int f), (2, .int (p + Int32.ofInt 1))] (zsub_pick [1, 2, 0] rfl rfl) ?_
          exact ih  (p + Int32.ofInt 1) (by omega) (by omega) (by omega)
        · rw [c25]
          refine zeN (q := ((29, [(0, .ref 54), (1, .int f), (2, .int p)], [.int 0]), yhp w G sz)) 1 rfl ?_
          exact zer rfl rfl
def e_Mo_isFree (f : Int32) (w : yW) : Int32 := g_Mo_isFree_2 f w 10 0
set_option maxRecDepth 100000 in
theorem r_Mo_isFree {fr lo sz : Nat} {G : List zC} (f : Int32) (w : yW)  (hlo : 22 ≤ lo) : zAns (fr + 1) lo 149 [.ref 54, .int f] (yhp w G sz) (some (.int ((e_Mo_isFree f w))), yhp w G sz) := by
  unfold e_Mo_isFree
  refine zeb (fr := fr + 0) (M := M_Mo_isFree) rfl (Nat.le_trans (by decide) hlo) rfl ?_
  have e0 : mL M_Mo_isFree = 3 := rfl
  refine zeN (q := ((2, [(2, .int 0), (0, .ref 54), (1, .int f)], []), yhp w G sz)) 2 rfl ?_
  refine zeS [(0, .ref 54), (1, .int f), (2, .int 0)] (zsub_pick [1, 2, 0] rfl rfl) ?_
  exact t_Mo_isFree_2 f w  (by omega) 10  0 (by decide) (by decide) (by decide)
def g_Mo_write_2 (p : Int32) : Nat → yW → Int32 → yW × Int32
  | 0, w, f => (w, f)
  | n + 1, w, f => (bif zc .ge f 16 then (w, f) else (bif zc .ne (e_Mo_isFree f w) 0 then (w, f) else g_Mo_write_2 p  n w (f + Int32.ofInt 1)))
set_option maxRecDepth 100000 in
theorem t_Mo_write_2 {fr lo sz : Nat} {r : Option Value × zH} {G : List zC} (p : Int32)  (hlo : 22 ≤ lo) : ∀ (n : Nat) (w : yW) (f : Int32) (h0 : 0 ≤ f.toInt) (h1 : f.toInt ≤ 16) (hn : 16 < f.toInt + n) (k : zRun (fr + 1) lo none M_Mo_write (22, [(0, .ref 54), (1, .int p), (2, .int ((g_Mo_write_2 p n w f).2))], []) (yhp (g_Mo_write_2 p n w f).1 G sz) r), zRun (fr + 1) lo none M_Mo_write (2, [(0, .ref 54), (1, .int p), (2, .int f)], []) (yhp w G sz) r := by
  intro n
  induction n with
  | zero => intro w f h0 h1 hn k; exfalso; omega
  | succ n ih =>
    intro w f h0 h1 hn k
    rw [g_Mo_write_2] at k
    refine zeN (q := ((5, [(0, .ref 54), (1, .int p), (2, .int f)], [.int 16, .int f]), yhp w G sz)) 2 rfl ?_
    refine zbc (q1 := (22, [(0, .ref 54), (1, .int p), (2, .int f)], [])) (q2 := (8, [(0, .ref 54), (1, .int p), (2, .int f)], [])) (cB := zc .ge f 16) (off := 17) (lv := [(0, .ref 54), (1, .int p), (2, .int f)]) (st := []) rfl rfl rfl rfl rfl (fun c5 => ?_) (fun c5 => ?_)
    · rw [c5] at k
      exact k
    · rw [c5] at k
      have hcc : ¬ (16 : Int) ≤ f.toInt := of_decide_eq_false (z_ge c5).symm
      have hi1 := z_inc (a := f) (by omega) (by omega)
      refine zeN (q := ((10, [(0, .ref 54), (1, .int p), (2, .int f)], [.int f, .ref 54]), yhp w G sz)) 2 rfl ?_
      refine zec 1 (M' := M_Mo_isFree) (qq := ([.ref 54, .int f], [])) (s' := (13, [(0, .ref 54), (1, .int p), (2, .int f)], [.int (e_Mo_isFree f w)])) rfl rfl (fun _ => rfl) rfl rfl (zhk rfl (zrc_ok (yhp_o rfl)) rfl) (r_Mo_isFree f _ (by omega)) rfl ?_
      refine zbc (q1 := (22, [(0, .ref 54), (1, .int p), (2, .int f)], [])) (q2 := (16, [(0, .ref 54), (1, .int p), (2, .int f)], [])) (cB := zc .ne (e_Mo_isFree f w) 0) (off := 9) (lv := [(0, .ref 54), (1, .int p), (2, .int f)]) (st := []) rfl rfl rfl rfl rfl (fun c13 => ?_) (fun c13 => ?_)
      · rw [c13] at k
        exact k
      · rw [c13] at k
        refine zeN (q := ((2, [(2, .int (f + Int32.ofInt 1)), (0, .ref 54), (1, .int p)], []), yhp w G sz)) 2 rfl ?_
        refine zeS [(0, .ref 54), (1, .int p), (2, .int (f + Int32.ofInt 1))] (zsub_pick [1, 2, 0] rfl rfl) ?_
        exact ih w (f + Int32.ofInt 1) (by omega) (by omega) (by omega) k
set_option maxRecDepth 100000 in
theorem kf_Mo_write_2 (p : Int32) : ∀ (n : Nat) (w : yW) (f : Int32), yK [(71, none)] w (g_Mo_write_2 p n w f).1 := by
  intro n
  induction n with
  | zero => intros; exact yK_rfl
  | succ n ih => intro w f; rw [g_Mo_write_2]; exact (yK_if1 (yK_p yK_rfl) (yK_if1 (yK_p yK_rfl) (yK_tr yK_rfl (ih _ _))))
def e_Mo_write (p : Int32) (w : yW) : yW × Int32 := (bif zc .ge ((g_Mo_write_2 p 17 w 0).2) 16 then (wI ((g_Mo_write_2 p 17 w 0).1) 71 p.toNatClampNeg ((g_Mo_write_2 p 17 w 0).2), 0) else (wI ((g_Mo_write_2 p 17 w 0).1) 71 p.toNatClampNeg ((g_Mo_write_2 p 17 w 0).2), 1))
set_option maxRecDepth 100000 in
theorem r_Mo_write {fr lo sz : Nat} {G : List zC} (p : Int32) (w : yW) (hp : zIx p 9) (hlo : 44 ≤ lo) : zAns (fr + 2) lo 148 [.ref 54, .int p] (yhp w G sz) (some (.int ((e_Mo_write p w).2)), yhp ((e_Mo_write p w).1) G sz) := by
  unfold e_Mo_write
  refine zeb (fr := fr + 1) (M := M_Mo_write) rfl (Nat.le_trans (by decide) hlo) rfl ?_
  have e0 : mL M_Mo_write = 3 := rfl
  refine zeN (q := ((2, [(2, .int 0), (0, .ref 54), (1, .int p)], []), yhp w G sz)) 2 rfl ?_
  refine zeS [(0, .ref 54), (1, .int p), (2, .int 0)] (zsub_pick [1, 2, 0] rfl rfl) ?_
  refine t_Mo_write_2 p  (by omega) 17 w 0 (by decide) (by decide) (by decide) ?_
  refine zeN (q := ((23, [(0, .ref 54), (1, .int p), (2, .int ((g_Mo_write_2 p 17 w 0).2))], [.ref 54]), yhp ((g_Mo_write_2 p 17 w 0).1) G sz)) 1 rfl ?_
  refine ygf (kk := .inl (.ref 71)) (v := .ref 71) rfl rfl rfl rfl rfl rfl rfl ?_
  refine zeN (q := ((28, [(0, .ref 54), (1, .int p), (2, .int ((g_Mo_write_2 p 17 w 0).2))], [.int ((g_Mo_write_2 p 17 w 0).2), .int p, .ref 71]), yhp ((g_Mo_write_2 p 17 w 0).1) G sz)) 2 rfl ?_
  refine yis (N := 9) rfl rfl rfl (by assumption) ?_
  refine zeN (q := ((32, [(0, .ref 54), (1, .int p), (2, .int ((g_Mo_write_2 p 17 w 0).2))], [.int 16, .int ((g_Mo_write_2 p 17 w 0).2)]), yhp (wI ((g_Mo_write_2 p 17 w 0).1) 71 p.toNatClampNeg ((g_Mo_write_2 p 17 w 0).2)) G sz)) 2 rfl ?_
  refine zbc (q1 := (39, [(0, .ref 54), (1, .int p), (2, .int ((g_Mo_write_2 p 17 w 0).2))], [])) (q2 := (35, [(0, .ref 54), (1, .int p), (2, .int ((g_Mo_write_2 p 17 w 0).2))], [])) (cB := zc .ge ((g_Mo_write_2 p 17 w 0).2) 16) (off := 7) (lv := [(0, .ref 54), (1, .int p), (2, .int ((g_Mo_write_2 p 17 w 0).2))]) (st := []) rfl rfl rfl rfl rfl (fun c32 => ?_) (fun c32 => ?_)
  · rw [c32]
    refine zeN (q := ((40, [(0, .ref 54), (1, .int p), (2, .int ((g_Mo_write_2 p 17 w 0).2))], [.int 0]), yhp (wI ((g_Mo_write_2 p 17 w 0).1) 71 p.toNatClampNeg ((g_Mo_write_2 p 17 w 0).2)) G sz)) 1 rfl ?_
    exact zer rfl rfl
  · rw [c32]
    refine zeN (q := ((40, [(0, .ref 54), (1, .int p), (2, .int ((g_Mo_write_2 p 17 w 0).2))], [.int 1]), yhp (wI ((g_Mo_write_2 p 17 w 0).1) 71 p.toNatClampNeg ((g_Mo_write_2 p 17 w 0).2)) G sz)) 2 rfl ?_
    exact zer rfl rfl
set_option maxRecDepth 100000 in
theorem kf_Mo_write (p : Int32) (w : yW)  : yK [(71, none)] w (e_Mo_write p w ).1 := by unfold e_Mo_write; exact (yK_if1 (yK_p (yK_wI rfl (yK_tr yK_rfl (yK_mono rfl (kf_Mo_write_2 ..))))) (yK_p (yK_wI rfl (yK_tr yK_rfl (yK_mono rfl (kf_Mo_write_2 ..))))))
def g_Mo_rollback_2  : Nat → yW → Int32 → yW
  | 0, w, s => w
  | n + 1, w, s => (bif zc .ge s 32 then w else g_Mo_rollback_2   n (e_Mo_copyRow (s + 32) s (w.1 58 (s + 32).toNatClampNeg) w) (s + Int32.ofInt 1))
set_option maxRecDepth 100000 in
theorem t_Mo_rollback_2 {fr lo sz : Nat} {r : Option Value × zH} {G : List zC}   (hlo : 68 ≤ lo) : ∀ (n : Nat) (w : yW) (s : Int32) (hMm : yMm w) (h0 : 0 ≤ s.toInt) (h1 : s.toInt ≤ 32) (hn : 32 < s.toInt + n) (k : zRun (fr + 3) lo none M_Mo_rollback (23, [(0, .ref 54)], []) (yhp (g_Mo_rollback_2  n w s) G sz) r), zRun (fr + 3) lo none M_Mo_rollback (2, [(0, .ref 54), (1, .int s)], []) (yhp w G sz) r := by
  intro n
  induction n with
  | zero => intro w s hMm h0 h1 hn k; exfalso; omega
  | succ n ih =>
    intro w s hMm h0 h1 hn k
    rw [g_Mo_rollback_2] at k
    refine zeN (q := ((5, [(0, .ref 54), (1, .int s)], [.int 32, .int s]), yhp w G sz)) 2 rfl ?_
    refine zbc (q1 := (23, [(0, .ref 54), (1, .int s)], [])) (q2 := (8, [(0, .ref 54), (1, .int s)], [])) (cB := zc .ge s 32) (off := 18) (lv := [(0, .ref 54), (1, .int s)]) (st := []) rfl rfl rfl rfl rfl (fun c5 => ?_) (fun c5 => ?_)
    · rw [c5] at k
      refine zeS [(0, .ref 54)] (zsub_pick [0] rfl rfl) ?_
      exact k
    · rw [c5] at k
      have hcc : ¬ (32 : Int) ≤ s.toInt := of_decide_eq_false (z_ge c5).symm
      have e32 : (s + 32).toInt = s.toInt + 32 := z_add (by show _ ≤ _ + (32 : Int); omega) (by show _ + (32 : Int) < _; omega)
      have hs1 : zIx (s + 32) 65 := by unfold zIx; rw [e32]; omega
      have hs2 : zIx s 65 := ⟨h0, by omega⟩
      have hi1 := z_inc (a := s) (by omega) (by omega)
      refine zeN (q := ((14, [(0, .ref 54), (1, .int s)], [.int s, .int (s + 32), .ref 54]), yhp w G sz)) 5 rfl ?_
      refine zec 1 (M' := M_Mo_copyRow) (qq := ([.ref 54, .int (s + 32), .int s], [])) (s' := (17, [(0, .ref 54), (1, .int s)], [])) rfl rfl (fun _ => rfl) rfl rfl (zhk rfl (zrc_ok (yhp_o rfl)) rfl) (p_Mo_copyRow (s + 32) s hs1 hs2 (hMm _ (zIx_n hs1)) (by omega)) rfl ?_
      refine zeN (q := ((2, [(1, .int (s + Int32.ofInt 1)), (0, .ref 54)], []), yhp (e_Mo_copyRow (s + 32) s (w.1 58 (s + 32).toNatClampNeg) w) G sz)) 2 rfl ?_
      refine zeS [(0, .ref 54), (1, .int (s + Int32.ofInt 1))] (zsub_pick [1, 0] rfl rfl) ?_
      exact ih (e_Mo_copyRow (s + 32) s (w.1 58 (s + 32).toNatClampNeg) w) (s + Int32.ofInt 1) (yMm_cr hs1 hMm) (by omega) (by omega) (by omega) k
set_option maxRecDepth 100000 in
theorem kf_Mo_rollback_2  : ∀ (n : Nat) (w : yW) (s : Int32), yK [(55, none), (56, none), (57, none), (58, none), (59, none), (60, none), (61, none), (62, none), (63, none), (64, none)] w (g_Mo_rollback_2  n w s) := by
  intro n
  induction n with
  | zero => intros; exact yK_rfl
  | succ n ih => intro w s; rw [g_Mo_rollback_2]; exact (yK_if yK_rfl (yK_tr (yK_tr yK_rfl (yK_mono rfl (kf_Mo_copyRow ..))) (ih _ _)))
def e_Mo_rollback  (w : yW) : yW := (g_Mo_rollback_2  33 w 0)
set_option maxRecDepth 100000 in
theorem r_Mo_rollback {fr lo sz : Nat} {G : List zC}  (w : yW) (hMm : yMm w) (hlo : 89 ≤ lo) : zAns (fr + 4) lo 151 [.ref 54] (yhp w G sz) (none, yhp ((e_Mo_rollback  w)) G sz) := by
  unfold e_Mo_rollback
  refine zeb (fr := fr + 3) (M := M_Mo_rollback) rfl (Nat.le_trans (by decide) hlo) rfl ?_
  have e0 : mL M_Mo_rollback = 2 := rfl
  refine zeN (q := ((2, [(1, .int 0), (0, .ref 54)], []), yhp w G sz)) 2 rfl ?_
  refine zeS [(0, .ref 54), (1, .int 0)] (zsub_pick [1, 0] rfl rfl) ?_
  refine t_Mo_rollback_2   (by omega) 33 w 0 hMm (by decide) (by decide) (by decide) ?_
  exact zer rfl rfl
set_option maxRecDepth 100000 in
theorem kf_Mo_rollback  (w : yW)  : yK [(55, none), (56, none), (57, none), (58, none), (59, none), (60, none), (61, none), (62, none), (63, none), (64, none)] w (e_Mo_rollback  w ) := by unfold e_Mo_rollback; exact (yK_tr yK_rfl (yK_mono rfl (kf_Mo_rollback_2 ..)))
def e_Mo_crash  (w : yW) : yW := wI (wI (wI (wI (e_Mo_rollback w) 54 10 0) 54 21 0) 54 22 0) 55 (64 : Int32).toNatClampNeg (0 &&& 1)
set_option maxRecDepth 100000 in
theorem r_Mo_crash {fr lo sz : Nat} {G : List zC}  (w : yW) (hMm : yMm w) (hlo : 109 ≤ lo) : zAns (fr + 5) lo 150 [.ref 54] (yhp w G sz) (none, yhp ((e_Mo_crash  w)) G sz) := by
  unfold e_Mo_crash
  refine zeb (fr := fr + 4) (M := M_Mo_crash) rfl (Nat.le_trans (by decide) hlo) rfl ?_
  have e0 : mL M_Mo_crash = 1 := rfl
  refine zeN (q := ((1, [(0, .ref 54)], [.ref 54]), yhp w G sz)) 1 rfl ?_
  refine zec 1 (M' := M_Mo_rollback) (qq := ([.ref 54], [])) (s' := (4, [(0, .ref 54)], [])) rfl rfl (fun _ => rfl) rfl rfl (zhk rfl (zrc_ok (yhp_o rfl)) rfl) (r_Mo_rollback _ hMm (by omega)) rfl ?_
  refine zeN (q := ((6, [(0, .ref 54)], [.int 0, .ref 54]), yhp (e_Mo_rollback w) G sz)) 2 rfl ?_
  refine ypI (v := 0) rfl rfl rfl rfl rfl rfl rfl ?_
  refine zeN (q := ((11, [(0, .ref 54)], [.int 0, .ref 54]), yhp (wI (e_Mo_rollback w) 54 10 0) G sz)) 2 rfl ?_
  refine ypI (v := 0) rfl rfl rfl rfl rfl rfl rfl ?_
  refine zeN (q := ((16, [(0, .ref 54)], [.int 0, .ref 54]), yhp (wI (wI (e_Mo_rollback w) 54 10 0) 54 21 0) G sz)) 2 rfl ?_
  refine ypI (v := 0) rfl rfl rfl rfl rfl rfl rfl ?_
  refine zeN (q := ((20, [(0, .ref 54)], [.ref 54]), yhp (wI (wI (wI (e_Mo_rollback w) 54 10 0) 54 21 0) 54 22 0) G sz)) 1 rfl ?_
  refine ygf (kk := .inl (.ref 55)) (v := .ref 55) rfl rfl rfl rfl rfl rfl rfl ?_
  refine zeN (q := ((26, [(0, .ref 54)], [.int 0, .int 64, .ref 55]), yhp (wI (wI (wI (e_Mo_rollback w) 54 10 0) 54 21 0) 54 22 0) G sz)) 2 rfl ?_
  refine ybs (N := 65) rfl rfl rfl zIx_64 ?_
  exact zer rfl rfl
set_option maxRecDepth 100000 in
theorem kf_Mo_crash  (w : yW)  : yK [(55, none), (56, none), (57, none), (58, none), (59, none), (60, none), (61, none), (62, none), (63, none), (64, none), (54, some 10), (54, some 21), (54, some 22)] w (e_Mo_crash  w ) := by unfold e_Mo_crash; exact (yK_wI rfl (yK_wI rfl (yK_wI rfl (yK_wI rfl (yK_tr yK_rfl (yK_mono rfl (kf_Mo_rollback ..)))))))
