set_option maxRecDepth 100000 in
theorem z_16d_n : ∀ j : Fin 32, 0 ≤ (Int32.ofNat j.1 / 16 * 16).toInt ∧ (Int32.ofNat j.1 / 16 * 16).toInt ≤ (Int32.ofNat j.1).toInt ∧ (Int32.ofNat j.1 / 16 * 16 + 16).toInt ≤ 32 := by decide +kernel
theorem z_ofn {x : Int32} (h : 0 ≤ x.toInt) : x = Int32.ofNat x.toInt.toNat := by
  apply Int32.toInt_inj.mp
  rw [z_nat (by have := Int32.toInt_lt x; omega)]
  omega
theorem z_16d {q : Int32} (hq : zIx q 32) : 0 ≤ (q / 16 * 16).toInt ∧ (q / 16 * 16).toInt ≤ q.toInt ∧ (q / 16 * 16 + 16).toInt ≤ 32 := by
  rw [z_ofn hq.1]
  exact z_16d_n ⟨q.toInt.toNat, by have := hq.1; have := hq.2; omega⟩
theorem zIx_65 {q : Int32} (hq : zIx q 32) : zIx q 65 := ⟨hq.1, by have := hq.2; omega⟩
def g_Mo_foremost_8 (q l : Int32) (w : yW) : Nat → Int32 → Int32
  | 0, s => 0
  | n + 1, s => (bif zc .ge s q then 1 else (bif zc .eq ((e_Mo_shares s q l w).2) 0 then g_Mo_foremost_8 q l w n  (s + Int32.ofInt 1) else 0))
set_option maxRecDepth 100000 in
theorem t_Mo_foremost_8 {fr lo sz : Nat} {G : List zC} (q l : Int32) (w : yW) (hq : zIx q 32) (hM : yM w) (hlo : 45 ≤ lo) : ∀ (n : Nat) (s : Int32) (h0 : 0 ≤ s.toInt) (h1 : s.toInt ≤ q.toInt) (hn : q.toInt < s.toInt + n), zRun (fr + 2) lo none M_Mo_foremost (8, [(0, .ref 54), (1, .int q), (2, .int l), (3, .int s)], []) (yhp w G sz) (some (.int ((g_Mo_foremost_8 q l w n s))), yhp w G sz) := by
  intro n
  induction n with
  | zero => intro s h0 h1 hn; exfalso; omega
  | succ n ih =>
    intro s h0 h1 hn
    rw [g_Mo_foremost_8]
    refine zeN (q := ((10, [(0, .ref 54), (1, .int q), (2, .int l), (3, .int s)], [.int q, .int s]), yhp w G sz)) 2 rfl ?_
    refine zbc (q1 := (31, [(0, .ref 54), (1, .int q), (2, .int l), (3, .int s)], [])) (q2 := (13, [(0, .ref 54), (1, .int q), (2, .int l), (3, .int s)], [])) (cB := zc .ge s q) (off := 21) (lv := [(0, .ref 54), (1, .int q), (2, .int l), (3, .int s)]) (st := []) rfl rfl rfl rfl rfl (fun c10 => ?_) (fun c10 => ?_)
    · rw [c10]
      refine zeN (q := ((32, [(0, .ref 54), (1, .int q), (2, .int l), (3, .int s)], [.int 1]), yhp w G sz)) 1 rfl ?_
      exact zer rfl rfl
    · rw [c10]
      have hcc := of_decide_eq_false (z_ge c10).symm
      have hq2 := hq.2
      have hq65 := zIx_65 hq
      have hs : zIx s 65 := ⟨h0, by omega⟩
      have hi1 := z_inc (a := s) (by omega) (by omega)
      refine zeN (q := ((17, [(0, .ref 54), (1, .int q), (2, .int l), (3, .int s)], [.int l, .int q, .int s, .ref 54]), yhp w G sz)) 4 rfl ?_
      refine zec 1 (M' := M_Mo_shares) (qq := ([.ref 54, .int s, .int q, .int l], [])) (s' := (20, [(0, .ref 54), (1, .int q), (2, .int l), (3, .int s)], [.int ((e_Mo_shares s q l w).2)])) rfl rfl (fun _ => rfl) rfl rfl (zhk rfl (zrc_ok (yhp_o rfl)) rfl) (p_Mo_shares s q l hs hq65 hM (by omega)) rfl ?_
      refine zbc (q1 := (25, [(0, .ref 54), (1, .int q), (2, .int l), (3, .int s)], [])) (q2 := (23, [(0, .ref 54), (1, .int q), (2, .int l), (3, .int s)], [])) (cB := zc .eq ((e_Mo_shares s q l w).2) 0) (off := 5) (lv := [(0, .ref 54), (1, .int q), (2, .int l), (3, .int s)]) (st := []) rfl rfl rfl rfl rfl (fun c20 => ?_) (fun c20 => ?_)
      · rw [c20]
        refine zeN (q := ((8, [(3, .int (s + Int32.ofInt 1)), (0, .ref 54), (1, .int q), (2, .int l)], []), yhp w G sz)) 2 rfl ?_
        refine zeS [(0, .ref 54), (1, .int q), (2, .int l), (3, .int (s + Int32.ofInt 1))] (zsub_pick [1, 2, 3, 0] rfl rfl) ?_
        exact ih  (s + Int32.ofInt 1) (by omega) (by omega) (by omega)
      · rw [c20]
        refine zeN (q := ((24, [(0, .ref 54), (1, .int q), (2, .int l), (3, .int s)], [.int 0]), yhp w G sz)) 1 rfl ?_
        exact zer rfl rfl
def e_Mo_foremost (q l : Int32) (w : yW) : Int32 := g_Mo_foremost_8 q l w 33 ((q / 16) * 16)
set_option maxRecDepth 100000 in
theorem r_Mo_foremost {fr lo sz : Nat} {G : List zC} (q l : Int32) (w : yW) (hq : zIx q 32) (hM : yM w) (hlo : 68 ≤ lo) : zAns (fr + 3) lo 132 [.ref 54, .int q, .int l] (yhp w G sz) (some (.int ((e_Mo_foremost q l w))), yhp w G sz) := by
  unfold e_Mo_foremost
  refine zeb (fr := fr + 2) (M := M_Mo_foremost) rfl (Nat.le_trans (by decide) hlo) rfl ?_
  have e0 : mL M_Mo_foremost = 4 := rfl
  refine zeN (q := ((3, [(0, .ref 54), (1, .int q), (2, .int l)], [.int 16, .int q]), yhp w G sz)) 2 rfl ?_
  refine zedi rfl rfl (by decide) ?_
  refine zeN (q := ((8, [(3, .int ((q / 16) * 16)), (0, .ref 54), (1, .int q), (2, .int l)], []), yhp w G sz)) 3 rfl ?_
  have hd := z_16d hq
  refine zeS [(0, .ref 54), (1, .int q), (2, .int l), (3, .int ((q / 16) * 16))] (zsub_pick [1, 2, 3, 0] rfl rfl) ?_
  exact t_Mo_foremost_8 q l w hq hM (by omega) 33  ((q / 16) * 16) hd.1 hd.2.1 (by have := hd.1; have := hq.2; omega)
def g_Mo_nodeBound_40 (q l s : Int32) (w : yW)  : yW := (bif zc .ge (w.1 61 s.toNatClampNeg) (w.1 54 17) then wI w 54 17 (w.1 54 17) else wI w 54 17 (w.1 61 s.toNatClampNeg))
set_option maxRecDepth 100000 in
theorem t_Mo_nodeBound_40 {fr lo sz : Nat} {r : Option Value × zH} {G : List zC} (q l s : Int32) (w : yW)  (hs : zIx s 65) (hlo : 45 ≤ lo) (k : zRun (fr + 2) lo none M_Mo_nodeBound (70, [(0, .ref 54), (1, .int q), (2, .int l), (3, .int s)], []) (yhp (g_Mo_nodeBound_40 q l s w ) G sz) r) : zRun (fr + 2) lo none M_Mo_nodeBound (40, [(0, .ref 54), (1, .int q), (2, .int l), (3, .int s)], []) (yhp w G sz) r := by
  unfold g_Mo_nodeBound_40 at k
  refine zeN (q := ((42, [(0, .ref 54), (1, .int q), (2, .int l), (3, .int s)], [.ref 54, .ref 54]), yhp w G sz)) 2 rfl ?_
  refine ygf (kk := .inl (.ref 61)) (v := .ref 61) rfl rfl rfl rfl rfl rfl rfl ?_
  refine zeN (q := ((46, [(0, .ref 54), (1, .int q), (2, .int l), (3, .int s)], [.int s, .ref 61, .ref 54]), yhp w G sz)) 1 rfl ?_
  refine yia (N := 65) rfl rfl rfl (by assumption) ?_
  refine zeN (q := ((48, [(0, .ref 54), (1, .int q), (2, .int l), (3, .int s)], [.ref 54, .int (w.1 61 s.toNatClampNeg), .ref 54]), yhp w G sz)) 1 rfl ?_
  refine ygf (kk := .inr 0) (v := .int (w.1 54 17)) rfl rfl rfl rfl rfl rfl rfl ?_
  refine zbc (q1 := (63, [(0, .ref 54), (1, .int q), (2, .int l), (3, .int s)], [.ref 54])) (q2 := (54, [(0, .ref 54), (1, .int q), (2, .int l), (3, .int s)], [.ref 54])) (cB := zc .ge (w.1 61 s.toNatClampNeg) (w.1 54 17)) (off := 12) (lv := [(0, .ref 54), (1, .int q), (2, .int l), (3, .int s)]) (st := [.ref 54]) rfl rfl rfl rfl rfl (fun c51 => ?_) (fun c51 => ?_)
  · rw [c51] at k
    refine zeN (q := ((64, [(0, .ref 54), (1, .int q), (2, .int l), (3, .int s)], [.ref 54, .ref 54]), yhp w G sz)) 1 rfl ?_
    refine ygf (kk := .inr 0) (v := .int (w.1 54 17)) rfl rfl rfl rfl rfl rfl rfl ?_
    refine ypI (v := w.1 54 17) rfl rfl rfl rfl rfl rfl rfl ?_
    exact k
  · rw [c51] at k
    refine zeN (q := ((55, [(0, .ref 54), (1, .int q), (2, .int l), (3, .int s)], [.ref 54, .ref 54]), yhp w G sz)) 1 rfl ?_
    refine ygf (kk := .inl (.ref 61)) (v := .ref 61) rfl rfl rfl rfl rfl rfl rfl ?_
    refine zeN (q := ((59, [(0, .ref 54), (1, .int q), (2, .int l), (3, .int s)], [.int s, .ref 61, .ref 54]), yhp w G sz)) 1 rfl ?_
    refine yia (N := 65) rfl rfl rfl (by assumption) ?_
    refine zeN (q := ((67, [(0, .ref 54), (1, .int q), (2, .int l), (3, .int s)], [.int (w.1 61 s.toNatClampNeg), .ref 54]), yhp w G sz)) 1 rfl ?_
    refine ypI (v := w.1 61 s.toNatClampNeg) rfl rfl rfl rfl rfl rfl rfl ?_
    exact k
set_option maxRecDepth 100000 in
theorem kf_Mo_nodeBound_40 (q l s : Int32) (w : yW)  : yK [(54, some 17), (54, some 18), (54, some 19), (54, some 20)] w (g_Mo_nodeBound_40 q l s w ) := by unfold g_Mo_nodeBound_40; exact (yK_if (yK_wI rfl yK_rfl) (yK_wI rfl yK_rfl))
def g_Mo_nodeBound_70 (q l s : Int32) (w : yW)  : yW := (bif zc .le (w.1 62 s.toNatClampNeg) (w.1 54 18) then wI w 54 18 (w.1 54 18) else wI w 54 18 (w.1 62 s.toNatClampNeg))
set_option maxRecDepth 100000 in
theorem t_Mo_nodeBound_70 {fr lo sz : Nat} {r : Option Value × zH} {G : List zC} (q l s : Int32) (w : yW)  (hs : zIx s 65) (hlo : 45 ≤ lo) (k : zRun (fr + 2) lo none M_Mo_nodeBound (100, [(0, .ref 54), (1, .int q), (2, .int l), (3, .int s)], []) (yhp (g_Mo_nodeBound_70 q l s w ) G sz) r) : zRun (fr + 2) lo none M_Mo_nodeBound (70, [(0, .ref 54), (1, .int q), (2, .int l), (3, .int s)], []) (yhp w G sz) r := by
  unfold g_Mo_nodeBound_70 at k
  refine zeN (q := ((72, [(0, .ref 54), (1, .int q), (2, .int l), (3, .int s)], [.ref 54, .ref 54]), yhp w G sz)) 2 rfl ?_
  refine ygf (kk := .inl (.ref 62)) (v := .ref 62) rfl rfl rfl rfl rfl rfl rfl ?_
  refine zeN (q := ((76, [(0, .ref 54), (1, .int q), (2, .int l), (3, .int s)], [.int s, .ref 62, .ref 54]), yhp w G sz)) 1 rfl ?_
  refine yia (N := 65) rfl rfl rfl (by assumption) ?_
  refine zeN (q := ((78, [(0, .ref 54), (1, .int q), (2, .int l), (3, .int s)], [.ref 54, .int (w.1 62 s.toNatClampNeg), .ref 54]), yhp w G sz)) 1 rfl ?_
  refine ygf (kk := .inr 0) (v := .int (w.1 54 18)) rfl rfl rfl rfl rfl rfl rfl ?_
  refine zbc (q1 := (93, [(0, .ref 54), (1, .int q), (2, .int l), (3, .int s)], [.ref 54])) (q2 := (84, [(0, .ref 54), (1, .int q), (2, .int l), (3, .int s)], [.ref 54])) (cB := zc .le (w.1 62 s.toNatClampNeg) (w.1 54 18)) (off := 12) (lv := [(0, .ref 54), (1, .int q), (2, .int l), (3, .int s)]) (st := [.ref 54]) rfl rfl rfl rfl rfl (fun c81 => ?_) (fun c81 => ?_)
  · rw [c81] at k
    refine zeN (q := ((94, [(0, .ref 54), (1, .int q), (2, .int l), (3, .int s)], [.ref 54, .ref 54]), yhp w G sz)) 1 rfl ?_
    refine ygf (kk := .inr 0) (v := .int (w.1 54 18)) rfl rfl rfl rfl rfl rfl rfl ?_
    refine ypI (v := w.1 54 18) rfl rfl rfl rfl rfl rfl rfl ?_
    exact k
  · rw [c81] at k
    refine zeN (q := ((85, [(0, .ref 54), (1, .int q), (2, .int l), (3, .int s)], [.ref 54, .ref 54]), yhp w G sz)) 1 rfl ?_
    refine ygf (kk := .inl (.ref 62)) (v := .ref 62) rfl rfl rfl rfl rfl rfl rfl ?_
    refine zeN (q := ((89, [(0, .ref 54), (1, .int q), (2, .int l), (3, .int s)], [.int s, .ref 62, .ref 54]), yhp w G sz)) 1 rfl ?_
    refine yia (N := 65) rfl rfl rfl (by assumption) ?_
    refine zeN (q := ((97, [(0, .ref 54), (1, .int q), (2, .int l), (3, .int s)], [.int (w.1 62 s.toNatClampNeg), .ref 54]), yhp w G sz)) 1 rfl ?_
    refine ypI (v := w.1 62 s.toNatClampNeg) rfl rfl rfl rfl rfl rfl rfl ?_
    exact k
set_option maxRecDepth 100000 in
theorem kf_Mo_nodeBound_70 (q l s : Int32) (w : yW)  : yK [(54, some 17), (54, some 18), (54, some 19), (54, some 20)] w (g_Mo_nodeBound_70 q l s w ) := by unfold g_Mo_nodeBound_70; exact (yK_if (yK_wI rfl yK_rfl) (yK_wI rfl yK_rfl))
def g_Mo_nodeBound_100 (q l s : Int32) (w : yW)  : yW := (bif zc .ge (w.1 63 s.toNatClampNeg) (w.1 54 19) then wI w 54 19 (w.1 54 19) else wI w 54 19 (w.1 63 s.toNatClampNeg))
set_option maxRecDepth 100000 in
theorem t_Mo_nodeBound_100 {fr lo sz : Nat} {r : Option Value × zH} {G : List zC} (q l s : Int32) (w : yW)  (hs : zIx s 65) (hlo : 45 ≤ lo) (k : zRun (fr + 2) lo none M_Mo_nodeBound (130, [(0, .ref 54), (1, .int q), (2, .int l), (3, .int s)], []) (yhp (g_Mo_nodeBound_100 q l s w ) G sz) r) : zRun (fr + 2) lo none M_Mo_nodeBound (100, [(0, .ref 54), (1, .int q), (2, .int l), (3, .int s)], []) (yhp w G sz) r := by
  unfold g_Mo_nodeBound_100 at k
  refine zeN (q := ((102, [(0, .ref 54), (1, .int q), (2, .int l), (3, .int s)], [.ref 54, .ref 54]), yhp w G sz)) 2 rfl ?_
  refine ygf (kk := .inl (.ref 63)) (v := .ref 63) rfl rfl rfl rfl rfl rfl rfl ?_
  refine zeN (q := ((106, [(0, .ref 54), (1, .int q), (2, .int l), (3, .int s)], [.int s, .ref 63, .ref 54]), yhp w G sz)) 1 rfl ?_
  refine yia (N := 65) rfl rfl rfl (by assumption) ?_
  refine zeN (q := ((108, [(0, .ref 54), (1, .int q), (2, .int l), (3, .int s)], [.ref 54, .int (w.1 63 s.toNatClampNeg), .ref 54]), yhp w G sz)) 1 rfl ?_
  refine ygf (kk := .inr 0) (v := .int (w.1 54 19)) rfl rfl rfl rfl rfl rfl rfl ?_
  refine zbc (q1 := (123, [(0, .ref 54), (1, .int q), (2, .int l), (3, .int s)], [.ref 54])) (q2 := (114, [(0, .ref 54), (1, .int q), (2, .int l), (3, .int s)], [.ref 54])) (cB := zc .ge (w.1 63 s.toNatClampNeg) (w.1 54 19)) (off := 12) (lv := [(0, .ref 54), (1, .int q), (2, .int l), (3, .int s)]) (st := [.ref 54]) rfl rfl rfl rfl rfl (fun c111 => ?_) (fun c111 => ?_)
  · rw [c111] at k
    refine zeN (q := ((124, [(0, .ref 54), (1, .int q), (2, .int l), (3, .int s)], [.ref 54, .ref 54]), yhp w G sz)) 1 rfl ?_
    refine ygf (kk := .inr 0) (v := .int (w.1 54 19)) rfl rfl rfl rfl rfl rfl rfl ?_
    refine ypI (v := w.1 54 19) rfl rfl rfl rfl rfl rfl rfl ?_
    exact k
  · rw [c111] at k
    refine zeN (q := ((115, [(0, .ref 54), (1, .int q), (2, .int l), (3, .int s)], [.ref 54, .ref 54]), yhp w G sz)) 1 rfl ?_
    refine ygf (kk := .inl (.ref 63)) (v := .ref 63) rfl rfl rfl rfl rfl rfl rfl ?_
    refine zeN (q := ((119, [(0, .ref 54), (1, .int q), (2, .int l), (3, .int s)], [.int s, .ref 63, .ref 54]), yhp w G sz)) 1 rfl ?_
    refine yia (N := 65) rfl rfl rfl (by assumption) ?_
    refine zeN (q := ((127, [(0, .ref 54), (1, .int q), (2, .int l), (3, .int s)], [.int (w.1 63 s.toNatClampNeg), .ref 54]), yhp w G sz)) 1 rfl ?_
    refine ypI (v := w.1 63 s.toNatClampNeg) rfl rfl rfl rfl rfl rfl rfl ?_
    exact k
set_option maxRecDepth 100000 in
theorem kf_Mo_nodeBound_100 (q l s : Int32) (w : yW)  : yK [(54, some 17), (54, some 18), (54, some 19), (54, some 20)] w (g_Mo_nodeBound_100 q l s w ) := by unfold g_Mo_nodeBound_100; exact (yK_if (yK_wI rfl yK_rfl) (yK_wI rfl yK_rfl))
def g_Mo_nodeBound_130 (q l s : Int32) (w : yW)  : yW := (bif zc .le (w.1 64 s.toNatClampNeg) (w.1 54 20) then wI w 54 20 (w.1 54 20) else wI w 54 20 (w.1 64 s.toNatClampNeg))
set_option maxRecDepth 100000 in
theorem t_Mo_nodeBound_130 {fr lo sz : Nat} {r : Option Value × zH} {G : List zC} (q l s : Int32) (w : yW)  (hs : zIx s 65) (hlo : 45 ≤ lo) (k : zRun (fr + 2) lo none M_Mo_nodeBound (160, [(0, .ref 54), (1, .int q), (2, .int l), (3, .int s)], []) (yhp (g_Mo_nodeBound_130 q l s w ) G sz) r) : zRun (fr + 2) lo none M_Mo_nodeBound (130, [(0, .ref 54), (1, .int q), (2, .int l), (3, .int s)], []) (yhp w G sz) r := by
  unfold g_Mo_nodeBound_130 at k
  refine zeN (q := ((132, [(0, .ref 54), (1, .int q), (2, .int l), (3, .int s)], [.ref 54, .ref 54]), yhp w G sz)) 2 rfl ?_
  refine ygf (kk := .inl (.ref 64)) (v := .ref 64) rfl rfl rfl rfl rfl rfl rfl ?_
  refine zeN (q := ((136, [(0, .ref 54), (1, .int q), (2, .int l), (3, .int s)], [.int s, .ref 64, .ref 54]), yhp w G sz)) 1 rfl ?_
  refine yia (N := 65) rfl rfl rfl (by assumption) ?_
  refine zeN (q := ((138, [(0, .ref 54), (1, .int q), (2, .int l), (3, .int s)], [.ref 54, .int (w.1 64 s.toNatClampNeg), .ref 54]), yhp w G sz)) 1 rfl ?_
  refine ygf (kk := .inr 0) (v := .int (w.1 54 20)) rfl rfl rfl rfl rfl rfl rfl ?_
  refine zbc (q1 := (153, [(0, .ref 54), (1, .int q), (2, .int l), (3, .int s)], [.ref 54])) (q2 := (144, [(0, .ref 54), (1, .int q), (2, .int l), (3, .int s)], [.ref 54])) (cB := zc .le (w.1 64 s.toNatClampNeg) (w.1 54 20)) (off := 12) (lv := [(0, .ref 54), (1, .int q), (2, .int l), (3, .int s)]) (st := [.ref 54]) rfl rfl rfl rfl rfl (fun c141 => ?_) (fun c141 => ?_)
  · rw [c141] at k
    refine zeN (q := ((154, [(0, .ref 54), (1, .int q), (2, .int l), (3, .int s)], [.ref 54, .ref 54]), yhp w G sz)) 1 rfl ?_
    refine ygf (kk := .inr 0) (v := .int (w.1 54 20)) rfl rfl rfl rfl rfl rfl rfl ?_
    refine ypI (v := w.1 54 20) rfl rfl rfl rfl rfl rfl rfl ?_
    exact k
  · rw [c141] at k
    refine zeN (q := ((145, [(0, .ref 54), (1, .int q), (2, .int l), (3, .int s)], [.ref 54, .ref 54]), yhp w G sz)) 1 rfl ?_
    refine ygf (kk := .inl (.ref 64)) (v := .ref 64) rfl rfl rfl rfl rfl rfl rfl ?_
    refine zeN (q := ((149, [(0, .ref 54), (1, .int q), (2, .int l), (3, .int s)], [.int s, .ref 64, .ref 54]), yhp w G sz)) 1 rfl ?_
    refine yia (N := 65) rfl rfl rfl (by assumption) ?_
    refine zeN (q := ((157, [(0, .ref 54), (1, .int q), (2, .int l), (3, .int s)], [.int (w.1 64 s.toNatClampNeg), .ref 54]), yhp w G sz)) 1 rfl ?_
    refine ypI (v := w.1 64 s.toNatClampNeg) rfl rfl rfl rfl rfl rfl rfl ?_
    exact k
set_option maxRecDepth 100000 in
theorem kf_Mo_nodeBound_130 (q l s : Int32) (w : yW)  : yK [(54, some 17), (54, some 18), (54, some 19), (54, some 20)] w (g_Mo_nodeBound_130 q l s w ) := by unfold g_Mo_nodeBound_130; exact (yK_if (yK_wI rfl yK_rfl) (yK_wI rfl yK_rfl))
def g_Mo_nodeBound_13 (q l : Int32) : Nat → yW → Int32 → yW
  | 0, w, s => w
  | n + 1, w, s => (bif zc .ge s (((q / 16) * 16) + 16) then w else (bif zc .ne ((e_Mo_shares s q l w).2) 0 then g_Mo_nodeBound_13 q l  n ((g_Mo_nodeBound_130 q l s  ((g_Mo_nodeBound_100 q l s  ((g_Mo_nodeBound_70 q l s  ((g_Mo_nodeBound_40 q l s  w )) )) )) )) (s + Int32.ofInt 1) else g_Mo_nodeBound_13 q l  n w (s + Int32.ofInt 1)))
set_option maxRecDepth 100000 in
theorem t_Mo_nodeBound_13 {fr lo sz : Nat} {r : Option Value × zH} {G : List zC} (q l : Int32) (hq : zIx q 32) (hlo : 45 ≤ lo) : ∀ (n : Nat) (w : yW) (s : Int32) (hM : yM w) (h0 : 0 ≤ s.toInt) (h1 : s.toInt ≤ 32) (hn : 32 < s.toInt + n) (k : zRun (fr + 2) lo none M_Mo_nodeBound (166, [(0, .ref 54), (1, .int q), (2, .int l)], []) (yhp (g_Mo_nodeBound_13 q l n w s) G sz) r), zRun (fr + 2) lo none M_Mo_nodeBound (13, [(0, .ref 54), (1, .int q), (2, .int l), (3, .int s)], []) (yhp w G sz) r := by
  intro n
  induction n with
  | zero => intro w s hM h0 h1 hn k; exfalso; omega
  | succ n ih =>
    intro w s hM h0 h1 hn k
    rw [g_Mo_nodeBound_13] at k
    refine zeN (q := ((17, [(0, .ref 54), (1, .int q), (2, .int l), (3, .int s)], [.int 16, .int q, .int s]), yhp w G sz)) 3 rfl ?_
    refine zedi rfl rfl (by decide) ?_
    refine zeN (q := ((24, [(0, .ref 54), (1, .int q), (2, .int l), (3, .int s)], [.int (((q / 16) * 16) + 16), .int s]), yhp w G sz)) 4 rfl ?_
    refine zbc (q1 := (166, [(0, .ref 54), (1, .int q), (2, .int l), (3, .int s)], [])) (q2 := (27, [(0, .ref 54), (1, .int q), (2, .int l), (3, .int s)], [])) (cB := zc .ge s (((q / 16) * 16) + 16)) (off := 142) (lv := [(0, .ref 54), (1, .int q), (2, .int l), (3, .int s)]) (st := []) rfl rfl rfl rfl rfl (fun c24 => ?_) (fun c24 => ?_)
    · rw [c24] at k
      refine zeS [(0, .ref 54), (1, .int q), (2, .int l)] (zsub_pick [0, 1, 2] rfl rfl) ?_
      exact k
    · rw [c24] at k
      have hcc := of_decide_eq_false (z_ge c24).symm
      have hd := z_16d hq
      have hq65 := zIx_65 hq
      have hs : zIx s 65 := ⟨h0, by omega⟩
      have hi1 := z_inc (a := s) (by omega) (by omega)
      refine zeN (q := ((31, [(0, .ref 54), (1, .int q), (2, .int l), (3, .int s)], [.int l, .int q, .int s, .ref 54]), yhp w G sz)) 4 rfl ?_
      refine zec 1 (M' := M_Mo_shares) (qq := ([.ref 54, .int s, .int q, .int l], [])) (s' := (34, [(0, .ref 54), (1, .int q), (2, .int l), (3, .int s)], [.int ((e_Mo_shares s q l w).2)])) rfl rfl (fun _ => rfl) rfl rfl (zhk rfl (zrc_ok (yhp_o rfl)) rfl) (p_Mo_shares s q l hs hq65 hM (by omega)) rfl ?_
      refine zbc (q1 := (40, [(0, .ref 54), (1, .int q), (2, .int l), (3, .int s)], [])) (q2 := (37, [(0, .ref 54), (1, .int q), (2, .int l), (3, .int s)], [])) (cB := zc .ne ((e_Mo_shares s q l w).2) 0) (off := 6) (lv := [(0, .ref 54), (1, .int q), (2, .int l), (3, .int s)]) (st := []) rfl rfl rfl rfl rfl (fun c34 => ?_) (fun c34 => ?_)
      · rw [c34] at k
        refine t_Mo_nodeBound_40 q l s w  hs (by omega) ?_
        refine t_Mo_nodeBound_70 q l s ((g_Mo_nodeBound_40 q l s  w ))  hs (by omega) ?_
        refine t_Mo_nodeBound_100 q l s ((g_Mo_nodeBound_70 q l s  ((g_Mo_nodeBound_40 q l s  w )) ))  hs (by omega) ?_
        refine t_Mo_nodeBound_130 q l s ((g_Mo_nodeBound_100 q l s  ((g_Mo_nodeBound_70 q l s  ((g_Mo_nodeBound_40 q l s  w )) )) ))  hs (by omega) ?_
        refine zeN (q := ((13, [(3, .int (s + Int32.ofInt 1)), (0, .ref 54), (1, .int q), (2, .int l)], []), yhp ((g_Mo_nodeBound_130 q l s  ((g_Mo_nodeBound_100 q l s  ((g_Mo_nodeBound_70 q l s  ((g_Mo_nodeBound_40 q l s  w )) )) )) )) G sz)) 2 rfl ?_
        refine zeS [(0, .ref 54), (1, .int q), (2, .int l), (3, .int (s + Int32.ofInt 1))] (zsub_pick [1, 2, 3, 0] rfl rfl) ?_
        exact ih ((g_Mo_nodeBound_130 q l s  ((g_Mo_nodeBound_100 q l s  ((g_Mo_nodeBound_70 q l s  ((g_Mo_nodeBound_40 q l s  w )) )) )) )) (s + Int32.ofInt 1) (yM_K (S := [(54, some 17), (54, some 18), (54, some 19), (54, some 20)]) (yK_tr (yK_tr (yK_tr (yK_tr yK_rfl (yK_mono rfl (kf_Mo_nodeBound_40 ..))) (yK_mono rfl (kf_Mo_nodeBound_70 ..))) (yK_mono rfl (kf_Mo_nodeBound_100 ..))) (yK_mono rfl (kf_Mo_nodeBound_130 ..))) rfl rfl hM) (by omega) (by omega) (by omega) k
      · rw [c34] at k
        refine zeN (q := ((13, [(3, .int (s + Int32.ofInt 1)), (0, .ref 54), (1, .int q), (2, .int l)], []), yhp w G sz)) 3 rfl ?_
        refine zeS [(0, .ref 54), (1, .int q), (2, .int l), (3, .int (s + Int32.ofInt 1))] (zsub_pick [1, 2, 3, 0] rfl rfl) ?_
        exact ih w (s + Int32.ofInt 1) (yM_K (S := [(54, some 17), (54, some 18), (54, some 19), (54, some 20)]) yK_rfl rfl rfl hM) (by omega) (by omega) (by omega) k
set_option maxRecDepth 100000 in
theorem kf_Mo_nodeBound_13 (q l : Int32) : ∀ (n : Nat) (w : yW) (s : Int32), yK [(54, some 17), (54, some 18), (54, some 19), (54, some 20)] w (g_Mo_nodeBound_13 q l n w s) := by
  intro n
  induction n with
  | zero => intros; exact yK_rfl
  | succ n ih => intro w s; rw [g_Mo_nodeBound_13]; exact (yK_if yK_rfl (yK_if (yK_tr (yK_tr (yK_tr (yK_tr (yK_tr yK_rfl (yK_mono rfl (kf_Mo_nodeBound_40 ..))) (yK_mono rfl (kf_Mo_nodeBound_70 ..))) (yK_mono rfl (kf_Mo_nodeBound_100 ..))) (yK_mono rfl (kf_Mo_nodeBound_130 ..))) (ih _ _)) (yK_tr yK_rfl (ih _ _))))
def e_Mo_nodeBound (q l : Int32) (w : yW) : yW := (g_Mo_nodeBound_13 q l 33 (e_Mo_around q w) ((q / 16) * 16))
set_option maxRecDepth 100000 in
theorem r_Mo_nodeBound {fr lo sz : Nat} {G : List zC} (q l : Int32) (w : yW) (hq : zIx q 32) (hM : yM w) (hlo : 68 ≤ lo) : zAns (fr + 3) lo 134 [.ref 54, .int q, .int l] (yhp w G sz) (none, yhp ((e_Mo_nodeBound q l w)) G sz) := by
  unfold e_Mo_nodeBound
  refine zeb (fr := fr + 2) (M := M_Mo_nodeBound) rfl (Nat.le_trans (by decide) hlo) rfl ?_
  have e0 : mL M_Mo_nodeBound = 4 := rfl
  have hq65 := zIx_65 hq
  have hd := z_16d hq
  refine zeN (q := ((2, [(0, .ref 54), (1, .int q), (2, .int l)], [.int q, .ref 54]), yhp w G sz)) 2 rfl ?_
  refine zec 1 (M' := M_Mo_around) (qq := ([.ref 54, .int q], [])) (s' := (5, [(0, .ref 54), (1, .int q), (2, .int l)], [])) rfl rfl (fun _ => rfl) rfl rfl (zhk rfl (zrc_ok (yhp_o rfl)) rfl) (r_Mo_around q _ hq65 (by omega)) rfl ?_
  refine zeN (q := ((8, [(0, .ref 54), (1, .int q), (2, .int l)], [.int 16, .int q]), yhp (e_Mo_around q w) G sz)) 2 rfl ?_
  refine zedi rfl rfl (by decide) ?_
  refine zeN (q := ((13, [(3, .int ((q / 16) * 16)), (0, .ref 54), (1, .int q), (2, .int l)], []), yhp (e_Mo_around q w) G sz)) 3 rfl ?_
  refine zeS [(0, .ref 54), (1, .int q), (2, .int l), (3, .int ((q / 16) * 16))] (zsub_pick [1, 2, 3, 0] rfl rfl) ?_
  refine t_Mo_nodeBound_13 q l hq (by omega) 33 (e_Mo_around q w) ((q / 16) * 16) (yM_K (S := [(54, some 17), (54, some 18), (54, some 19), (54, some 20)]) (yK_tr yK_rfl (yK_mono rfl (kf_Mo_around ..))) rfl rfl hM) hd.1 (by have := hd.2.1; have := hq.2; omega) (by have := hd.1; omega) ?_
  exact zer rfl rfl
set_option maxRecDepth 100000 in
theorem kf_Mo_nodeBound (q l : Int32) (w : yW)  : yK [(54, some 17), (54, some 18), (54, some 19), (54, some 20)] w (e_Mo_nodeBound q l w ) := by unfold e_Mo_nodeBound; exact (yK_tr (yK_tr yK_rfl (yK_mono rfl (kf_Mo_around ..))) (yK_mono rfl (kf_Mo_nodeBound_13 ..)))
