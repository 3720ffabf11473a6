-- the law's loop
section LAW
variable {L : Nat} {xs : Nat → Int32}
/-- the run ends with true, in bounds -/
def zFi (L : Nat) (xs : Nat → Int32) (s : zS) (h : zH) : Prop := ∃ h' : zH, zRun 9 420 (some (L, xs)) M_law s h (some (.int 1), h') ∧ h'.1.length ≤ 600000 ∧ h'.2 ≤ 7302250
theorem zFi_of {s s' : zS} {h h' : zH} (f : ∀ r, zRun 9 420 (some (L, xs)) M_law s' h' r → zRun 9 420 (some (L, xs)) M_law s h r) (k : zFi L xs s' h') : zFi L xs s h := by
  obtain ⟨q, a, b⟩ := k
  exact ⟨q, f _ a, b⟩
theorem zesc {fr lo pc : Nat} {M : zM} {x : zE} {lv : List (Nat × Value)} {rest : List Value} {h : zH} {r : Option Value × zH} {j : Int32} {n a : Nat} (hx : zlk2 (mT M) pc = some x) (hi : xI x = .iaload) (hj : j.toInt = (n : Int)) (hn : n < L) (k : zRun fr lo (some (L, xs)) M (pc + 1, lv, .int (xs n) :: rest) h r) : zRun fr lo (some (L, xs)) M (pc, lv, .int j :: .retAddr a :: rest) h r := by
  refine ze1 (q := ((pc + 1, lv, .int (xs n) :: rest), h)) hx (by rw [hi]; rfl) (fun call => zsR hi (fun _ => rfl) ?_) k
  obtain ⟨h1, h2⟩ := zin_ok hj hn
  show zal (fun t => Nat.beq t 0) (some (L, xs)) h.1 (pc + 1) lv (.int j :: .retAddr a :: rest) = _
  simp [zal, h1, h2]
theorem li {i c : Nat} (h : i + c < 2147483648) : (Int32.ofNat i + Int32.ofNat c).toInt = ((i + c : Nat) : Int) := by
  rw [mk_add]
  exact z_nat h

set_option maxRecDepth 100000 in
theorem law_0 {k : Nat} {w : yW} {G : List zC} {sz : Nat} (hL : 5 * k + 4 < L) (hL2 : L < 2147483648) (T : zTn 7 98 [.int (xs (5 * k + 1)), .int (xs (5 * k + 2))] w G sz) (kk : ∀ w2 G1 s1, INV w2 G1 → G1.length ≤ G.length + 4 → s1 ≤ sz + 20 → zFi L xs (18, [(3, .int (Int32.ofNat (5 * (k + 1)))), (2, .ref 54), (1, .ref 0), (0, .retAddr 0)], []) (yhp w2 G1 s1)) : zFi L xs (32, [(3, .int (Int32.ofNat (5 * k))), (2, .ref 54), (1, .ref 0), (0, .retAddr 0)], [.int (Int32.ofNat 0)]) (yhp w G sz) := by
  obtain ⟨v, w1, G1, s1, w2, t1, t2, t3, t4, t5⟩ := T
  refine zFi_of (fun r kr => ?_) (kk w2 G1 s1 t3 t4 t5)
  refine zeN (q := ((121, [(3, .int (Int32.ofNat (5 * k))), (2, .ref 54), (1, .ref 0), (0, .retAddr 0)], [.ref 0]), yhp w G sz)) 2 rfl ?_
  refine zeN (q := ((125, [(3, .int (Int32.ofNat (5 * k))), (2, .ref 54), (1, .ref 0), (0, .retAddr 0)], [.int (Int32.ofNat (5 * k) + 1), .retAddr 0, .ref 0]), yhp w G sz)) 4 rfl ?_
  refine zesc (n := 5 * k + 1) rfl rfl (li (c := 1) (by omega)) (by omega) ?_
  refine zeN (q := ((130, [(3, .int (Int32.ofNat (5 * k))), (2, .ref 54), (1, .ref 0), (0, .retAddr 0)], [.int (Int32.ofNat (5 * k) + 2), .retAddr 0, .int (xs (5 * k + 1)), .ref 0]), yhp w G sz)) 4 rfl ?_
  refine zesc (n := 5 * k + 2) rfl rfl (li (c := 2) (by omega)) (by omega) ?_
  refine zec 1 (M' := M_ST_vertex) (qq := ([.ref 0, .int (xs (5 * k + 1)), .int (xs (5 * k + 2))], [])) (s' := (134, [(3, .int (Int32.ofNat (5 * k))), (2, .ref 54), (1, .ref 0), (0, .retAddr 0)], [.int v])) rfl rfl (fun _ => rfl) rfl rfl (zhk rfl (zrc_ok (yhp_o rfl)) rfl) t1 rfl ?_
  refine zeN (q := ((135, [(3, .int (Int32.ofNat (5 * k))), (2, .ref 54), (1, .ref 0), (0, .retAddr 0)], [.ref 54, .int v]), yhp w1 G1 s1)) 1 rfl ?_
  refine zeN (q := ((139, [(3, .int (Int32.ofNat (5 * k))), (2, .ref 54), (1, .ref 0), (0, .retAddr 0)], [.int (Int32.ofNat (5 * k) + 1), .retAddr 0, .ref 54, .int v]), yhp w1 G1 s1)) 4 rfl ?_
  refine zesc (n := 5 * k + 1) rfl rfl (li (c := 1) (by omega)) (by omega) ?_
  refine zeN (q := ((144, [(3, .int (Int32.ofNat (5 * k))), (2, .ref 54), (1, .ref 0), (0, .retAddr 0)], [.int (Int32.ofNat (5 * k) + 2), .retAddr 0, .int (xs (5 * k + 1)), .ref 54, .int v]), yhp w1 G1 s1)) 4 rfl ?_
  refine zesc (n := 5 * k + 2) rfl rfl (li (c := 2) (by omega)) (by omega) ?_
  refine zec 1 (M' := M_Mo_vertex) (qq := ([.ref 54, .int (xs (5 * k + 1)), .int (xs (5 * k + 2))], [.int v])) (s' := (148, [(3, .int (Int32.ofNat (5 * k))), (2, .ref 54), (1, .ref 0), (0, .retAddr 0)], [.int v, .int v])) rfl rfl (fun _ => rfl) rfl rfl (zhk rfl (zrc_ok (yhp_o rfl)) rfl) t2 rfl ?_
  refine zeb2 (q := (636, [(3, .int (Int32.ofNat (5 * k))), (2, .ref 54), (1, .ref 0), (0, .retAddr 0)], [])) (cB := zc .eq v v) (v := true) (off := 488) (lv := [(3, .int (Int32.ofNat (5 * k))), (2, .ref 54), (1, .ref 0), (0, .retAddr 0)]) (st := []) rfl rfl rfl (decide_eq_true rfl) rfl ?_
  refine zeN (q := ((18, [(3, .int (Int32.ofNat (5 * k) + Int32.ofInt 5)), (2, .ref 54), (1, .ref 0), (0, .retAddr 0)], []), yhp w2 G1 s1)) 2 rfl ?_
  rw [show Int32.ofNat (5 * k) + Int32.ofInt 5 = Int32.ofNat (5 * (k + 1)) from mk_add (5 * k) 5]
  exact kr
set_option maxRecDepth 100000 in
theorem law_1 {k : Nat} {w : yW} {G : List zC} {sz : Nat} (hL : 5 * k + 4 < L) (hL2 : L < 2147483648) (T : zTn 10 99 [.int (xs (5 * k + 1))] w G sz) (kk : ∀ w2 G1 s1, INV w2 G1 → G1.length ≤ G.length + 4 → s1 ≤ sz + 20 → zFi L xs (18, [(3, .int (Int32.ofNat (5 * (k + 1)))), (2, .ref 54), (1, .ref 0), (0, .retAddr 0)], []) (yhp w2 G1 s1)) : zFi L xs (32, [(3, .int (Int32.ofNat (5 * k))), (2, .ref 54), (1, .ref 0), (0, .retAddr 0)], [.int (Int32.ofNat 1)]) (yhp w G sz) := by
  obtain ⟨v, w1, G1, s1, w2, t1, t2, t3, t4, t5⟩ := T
  refine zFi_of (fun r kr => ?_) (kk w2 G1 s1 t3 t4 t5)
  refine zeN (q := ((154, [(3, .int (Int32.ofNat (5 * k))), (2, .ref 54), (1, .ref 0), (0, .retAddr 0)], [.ref 0]), yhp w G sz)) 2 rfl ?_
  refine zeN (q := ((158, [(3, .int (Int32.ofNat (5 * k))), (2, .ref 54), (1, .ref 0), (0, .retAddr 0)], [.int (Int32.ofNat (5 * k) + 1), .retAddr 0, .ref 0]), yhp w G sz)) 4 rfl ?_
  refine zesc (n := 5 * k + 1) rfl rfl (li (c := 1) (by omega)) (by omega) ?_
  refine zec 1 (M' := M_ST_shape) (qq := ([.ref 0, .int (xs (5 * k + 1))], [])) (s' := (162, [(3, .int (Int32.ofNat (5 * k))), (2, .ref 54), (1, .ref 0), (0, .retAddr 0)], [.int v])) rfl rfl (fun _ => rfl) rfl rfl (zhk rfl (zrc_ok (yhp_o rfl)) rfl) t1 rfl ?_
  refine zeN (q := ((163, [(3, .int (Int32.ofNat (5 * k))), (2, .ref 54), (1, .ref 0), (0, .retAddr 0)], [.ref 54, .int v]), yhp w1 G1 s1)) 1 rfl ?_
  refine zeN (q := ((167, [(3, .int (Int32.ofNat (5 * k))), (2, .ref 54), (1, .ref 0), (0, .retAddr 0)], [.int (Int32.ofNat (5 * k) + 1), .retAddr 0, .ref 54, .int v]), yhp w1 G1 s1)) 4 rfl ?_
  refine zesc (n := 5 * k + 1) rfl rfl (li (c := 1) (by omega)) (by omega) ?_
  refine zec 1 (M' := M_Mo_shape) (qq := ([.ref 54, .int (xs (5 * k + 1))], [.int v])) (s' := (171, [(3, .int (Int32.ofNat (5 * k))), (2, .ref 54), (1, .ref 0), (0, .retAddr 0)], [.int v, .int v])) rfl rfl (fun _ => rfl) rfl rfl (zhk rfl (zrc_ok (yhp_o rfl)) rfl) t2 rfl ?_
  refine zeb2 (q := (636, [(3, .int (Int32.ofNat (5 * k))), (2, .ref 54), (1, .ref 0), (0, .retAddr 0)], [])) (cB := zc .eq v v) (v := true) (off := 465) (lv := [(3, .int (Int32.ofNat (5 * k))), (2, .ref 54), (1, .ref 0), (0, .retAddr 0)]) (st := []) rfl rfl rfl (decide_eq_true rfl) rfl ?_
  refine zeN (q := ((18, [(3, .int (Int32.ofNat (5 * k) + Int32.ofInt 5)), (2, .ref 54), (1, .ref 0), (0, .retAddr 0)], []), yhp w2 G1 s1)) 2 rfl ?_
  rw [show Int32.ofNat (5 * k) + Int32.ofInt 5 = Int32.ofNat (5 * (k + 1)) from mk_add (5 * k) 5]
  exact kr
set_option maxRecDepth 100000 in
theorem law_2 {k : Nat} {w : yW} {G : List zC} {sz : Nat} (hL : 5 * k + 4 < L) (hL2 : L < 2147483648) (T : zTn 29 108 [.int (xs (5 * k + 1)), .int (xs (5 * k + 2))] w G sz) (kk : ∀ w2 G1 s1, INV w2 G1 → G1.length ≤ G.length + 4 → s1 ≤ sz + 20 → zFi L xs (18, [(3, .int (Int32.ofNat (5 * (k + 1)))), (2, .ref 54), (1, .ref 0), (0, .retAddr 0)], []) (yhp w2 G1 s1)) : zFi L xs (32, [(3, .int (Int32.ofNat (5 * k))), (2, .ref 54), (1, .ref 0), (0, .retAddr 0)], [.int (Int32.ofNat 2)]) (yhp w G sz) := by
  obtain ⟨v, w1, G1, s1, w2, t1, t2, t3, t4, t5⟩ := T
  refine zFi_of (fun r kr => ?_) (kk w2 G1 s1 t3 t4 t5)
  refine zeN (q := ((177, [(3, .int (Int32.ofNat (5 * k))), (2, .ref 54), (1, .ref 0), (0, .retAddr 0)], [.ref 0]), yhp w G sz)) 2 rfl ?_
  refine zeN (q := ((181, [(3, .int (Int32.ofNat (5 * k))), (2, .ref 54), (1, .ref 0), (0, .retAddr 0)], [.int (Int32.ofNat (5 * k) + 1), .retAddr 0, .ref 0]), yhp w G sz)) 4 rfl ?_
  refine zesc (n := 5 * k + 1) rfl rfl (li (c := 1) (by omega)) (by omega) ?_
  refine zeN (q := ((186, [(3, .int (Int32.ofNat (5 * k))), (2, .ref 54), (1, .ref 0), (0, .retAddr 0)], [.int (Int32.ofNat (5 * k) + 2), .retAddr 0, .int (xs (5 * k + 1)), .ref 0]), yhp w G sz)) 4 rfl ?_
  refine zesc (n := 5 * k + 2) rfl rfl (li (c := 2) (by omega)) (by omega) ?_
  refine zec 1 (M' := M_ST_insert) (qq := ([.ref 0, .int (xs (5 * k + 1)), .int (xs (5 * k + 2))], [])) (s' := (190, [(3, .int (Int32.ofNat (5 * k))), (2, .ref 54), (1, .ref 0), (0, .retAddr 0)], [.int v])) rfl rfl (fun _ => rfl) rfl rfl (zhk rfl (zrc_ok (yhp_o rfl)) rfl) t1 rfl ?_
  refine zeN (q := ((191, [(3, .int (Int32.ofNat (5 * k))), (2, .ref 54), (1, .ref 0), (0, .retAddr 0)], [.ref 54, .int v]), yhp w1 G1 s1)) 1 rfl ?_
  refine zeN (q := ((195, [(3, .int (Int32.ofNat (5 * k))), (2, .ref 54), (1, .ref 0), (0, .retAddr 0)], [.int (Int32.ofNat (5 * k) + 1), .retAddr 0, .ref 54, .int v]), yhp w1 G1 s1)) 4 rfl ?_
  refine zesc (n := 5 * k + 1) rfl rfl (li (c := 1) (by omega)) (by omega) ?_
  refine zeN (q := ((200, [(3, .int (Int32.ofNat (5 * k))), (2, .ref 54), (1, .ref 0), (0, .retAddr 0)], [.int (Int32.ofNat (5 * k) + 2), .retAddr 0, .int (xs (5 * k + 1)), .ref 54, .int v]), yhp w1 G1 s1)) 4 rfl ?_
  refine zesc (n := 5 * k + 2) rfl rfl (li (c := 2) (by omega)) (by omega) ?_
  refine zec 1 (M' := M_Mo_insert) (qq := ([.ref 54, .int (xs (5 * k + 1)), .int (xs (5 * k + 2))], [.int v])) (s' := (204, [(3, .int (Int32.ofNat (5 * k))), (2, .ref 54), (1, .ref 0), (0, .retAddr 0)], [.int v, .int v])) rfl rfl (fun _ => rfl) rfl rfl (zhk rfl (zrc_ok (yhp_o rfl)) rfl) t2 rfl ?_
  refine zeb2 (q := (636, [(3, .int (Int32.ofNat (5 * k))), (2, .ref 54), (1, .ref 0), (0, .retAddr 0)], [])) (cB := zc .eq v v) (v := true) (off := 432) (lv := [(3, .int (Int32.ofNat (5 * k))), (2, .ref 54), (1, .ref 0), (0, .retAddr 0)]) (st := []) rfl rfl rfl (decide_eq_true rfl) rfl ?_
  refine zeN (q := ((18, [(3, .int (Int32.ofNat (5 * k) + Int32.ofInt 5)), (2, .ref 54), (1, .ref 0), (0, .retAddr 0)], []), yhp w2 G1 s1)) 2 rfl ?_
  rw [show Int32.ofNat (5 * k) + Int32.ofInt 5 = Int32.ofNat (5 * (k + 1)) from mk_add (5 * k) 5]
  exact kr
set_option maxRecDepth 100000 in
theorem law_3 {k : Nat} {w : yW} {G : List zC} {sz : Nat} (hL : 5 * k + 4 < L) (hL2 : L < 2147483648) (T : zTn 39 112 [.int (xs (5 * k + 1)), .int (xs (5 * k + 2))] w G sz) (kk : ∀ w2 G1 s1, INV w2 G1 → G1.length ≤ G.length + 4 → s1 ≤ sz + 20 → zFi L xs (18, [(3, .int (Int32.ofNat (5 * (k + 1)))), (2, .ref 54), (1, .ref 0), (0, .retAddr 0)], []) (yhp w2 G1 s1)) : zFi L xs (32, [(3, .int (Int32.ofNat (5 * k))), (2, .ref 54), (1, .ref 0), (0, .retAddr 0)], [.int (Int32.ofNat 3)]) (yhp w G sz) := by
  obtain ⟨v, w1, G1, s1, w2, t1, t2, t3, t4, t5⟩ := T
  refine zFi_of (fun r kr => ?_) (kk w2 G1 s1 t3 t4 t5)
  refine zeN (q := ((210, [(3, .int (Int32.ofNat (5 * k))), (2, .ref 54), (1, .ref 0), (0, .retAddr 0)], [.ref 0]), yhp w G sz)) 2 rfl ?_
  refine zeN (q := ((214, [(3, .int (Int32.ofNat (5 * k))), (2, .ref 54), (1, .ref 0), (0, .retAddr 0)], [.int (Int32.ofNat (5 * k) + 1), .retAddr 0, .ref 0]), yhp w G sz)) 4 rfl ?_
  refine zesc (n := 5 * k + 1) rfl rfl (li (c := 1) (by omega)) (by omega) ?_
  refine zeN (q := ((219, [(3, .int (Int32.ofNat (5 * k))), (2, .ref 54), (1, .ref 0), (0, .retAddr 0)], [.int (Int32.ofNat (5 * k) + 2), .retAddr 0, .int (xs (5 * k + 1)), .ref 0]), yhp w G sz)) 4 rfl ?_
  refine zesc (n := 5 * k + 2) rfl rfl (li (c := 2) (by omega)) (by omega) ?_
  refine zec 1 (M' := M_ST_delete) (qq := ([.ref 0, .int (xs (5 * k + 1)), .int (xs (5 * k + 2))], [])) (s' := (223, [(3, .int (Int32.ofNat (5 * k))), (2, .ref 54), (1, .ref 0), (0, .retAddr 0)], [.int v])) rfl rfl (fun _ => rfl) rfl rfl (zhk rfl (zrc_ok (yhp_o rfl)) rfl) t1 rfl ?_
  refine zeN (q := ((224, [(3, .int (Int32.ofNat (5 * k))), (2, .ref 54), (1, .ref 0), (0, .retAddr 0)], [.ref 54, .int v]), yhp w1 G1 s1)) 1 rfl ?_
  refine zeN (q := ((228, [(3, .int (Int32.ofNat (5 * k))), (2, .ref 54), (1, .ref 0), (0, .retAddr 0)], [.int (Int32.ofNat (5 * k) + 1), .retAddr 0, .ref 54, .int v]), yhp w1 G1 s1)) 4 rfl ?_
  refine zesc (n := 5 * k + 1) rfl rfl (li (c := 1) (by omega)) (by omega) ?_
  refine zeN (q := ((233, [(3, .int (Int32.ofNat (5 * k))), (2, .ref 54), (1, .ref 0), (0, .retAddr 0)], [.int (Int32.ofNat (5 * k) + 2), .retAddr 0, .int (xs (5 * k + 1)), .ref 54, .int v]), yhp w1 G1 s1)) 4 rfl ?_
  refine zesc (n := 5 * k + 2) rfl rfl (li (c := 2) (by omega)) (by omega) ?_
  refine zec 1 (M' := M_Mo_delete) (qq := ([.ref 54, .int (xs (5 * k + 1)), .int (xs (5 * k + 2))], [.int v])) (s' := (237, [(3, .int (Int32.ofNat (5 * k))), (2, .ref 54), (1, .ref 0), (0, .retAddr 0)], [.int v, .int v])) rfl rfl (fun _ => rfl) rfl rfl (zhk rfl (zrc_ok (yhp_o rfl)) rfl) t2 rfl ?_
  refine zeb2 (q := (636, [(3, .int (Int32.ofNat (5 * k))), (2, .ref 54), (1, .ref 0), (0, .retAddr 0)], [])) (cB := zc .eq v v) (v := true) (off := 399) (lv := [(3, .int (Int32.ofNat (5 * k))), (2, .ref 54), (1, .ref 0), (0, .retAddr 0)]) (st := []) rfl rfl rfl (decide_eq_true rfl) rfl ?_
  refine zeN (q := ((18, [(3, .int (Int32.ofNat (5 * k) + Int32.ofInt 5)), (2, .ref 54), (1, .ref 0), (0, .retAddr 0)], []), yhp w2 G1 s1)) 2 rfl ?_
  rw [show Int32.ofNat (5 * k) + Int32.ofInt 5 = Int32.ofNat (5 * (k + 1)) from mk_add (5 * k) 5]
  exact kr
set_option maxRecDepth 100000 in
theorem law_4z {k : Nat} {w : yW} {G : List zC} {sz : Nat} (hz : zc .eq (xs (5 * k + 4)) 0 = true) (hL : 5 * k + 4 < L) (hL2 : L < 2147483648) (T : zTn 43 114 [.int (xs (5 * k + 1)), .int (xs (5 * k + 2)), .int (xs (5 * k + 3)), .int 0] w G sz) (kk : ∀ w2 G1 s1, INV w2 G1 → G1.length ≤ G.length + 4 → s1 ≤ sz + 20 → zFi L xs (18, [(3, .int (Int32.ofNat (5 * (k + 1)))), (2, .ref 54), (1, .ref 0), (0, .retAddr 0)], []) (yhp w2 G1 s1)) : zFi L xs (32, [(3, .int (Int32.ofNat (5 * k))), (2, .ref 54), (1, .ref 0), (0, .retAddr 0)], [.int (Int32.ofNat 4)]) (yhp w G sz) := by
  obtain ⟨v, w1, G1, s1, w2, t1, t2, t3, t4, t5⟩ := T
  refine zFi_of (fun r kr => ?_) (kk w2 G1 s1 t3 t4 t5)
  refine zeN (q := ((243, [(3, .int (Int32.ofNat (5 * k))), (2, .ref 54), (1, .ref 0), (0, .retAddr 0)], [.ref 0]), yhp w G sz)) 2 rfl ?_
  refine zeN (q := ((247, [(3, .int (Int32.ofNat (5 * k))), (2, .ref 54), (1, .ref 0), (0, .retAddr 0)], [.int (Int32.ofNat (5 * k) + 1), .retAddr 0, .ref 0]), yhp w G sz)) 4 rfl ?_
  refine zesc (n := 5 * k + 1) rfl rfl (li (c := 1) (by omega)) (by omega) ?_
  refine zeN (q := ((252, [(3, .int (Int32.ofNat (5 * k))), (2, .ref 54), (1, .ref 0), (0, .retAddr 0)], [.int (Int32.ofNat (5 * k) + 2), .retAddr 0, .int (xs (5 * k + 1)), .ref 0]), yhp w G sz)) 4 rfl ?_
  refine zesc (n := 5 * k + 2) rfl rfl (li (c := 2) (by omega)) (by omega) ?_
  refine zeN (q := ((257, [(3, .int (Int32.ofNat (5 * k))), (2, .ref 54), (1, .ref 0), (0, .retAddr 0)], [.int (Int32.ofNat (5 * k) + 3), .retAddr 0, .int (xs (5 * k + 2)), .int (xs (5 * k + 1)), .ref 0]), yhp w G sz)) 4 rfl ?_
  refine zesc (n := 5 * k + 3) rfl rfl (li (c := 3) (by omega)) (by omega) ?_
  refine zeN (q := ((262, [(3, .int (Int32.ofNat (5 * k))), (2, .ref 54), (1, .ref 0), (0, .retAddr 0)], [.int (Int32.ofNat (5 * k) + 4), .retAddr 0, .int (xs (5 * k + 3)), .int (xs (5 * k + 2)), .int (xs (5 * k + 1)), .ref 0]), yhp w G sz)) 4 rfl ?_
  refine zesc (n := 5 * k + 4) rfl rfl (li (c := 4) (by omega)) (by omega) ?_
  refine zeb2 (q := (270, [(3, .int (Int32.ofNat (5 * k))), (2, .ref 54), (1, .ref 0), (0, .retAddr 0)], [.int (xs (5 * k + 3)), .int (xs (5 * k + 2)), .int (xs (5 * k + 1)), .ref 0])) (cB := zc .eq (xs (5 * k + 4)) 0) (v := true) (off := 7) (lv := [(3, .int (Int32.ofNat (5 * k))), (2, .ref 54), (1, .ref 0), (0, .retAddr 0)]) (st := [.int (xs (5 * k + 3)), .int (xs (5 * k + 2)), .int (xs (5 * k + 1)), .ref 0]) rfl rfl rfl hz rfl ?_
  refine zeN (q := ((271, [(3, .int (Int32.ofNat (5 * k))), (2, .ref 54), (1, .ref 0), (0, .retAddr 0)], [.int 0, .int (xs (5 * k + 3)), .int (xs (5 * k + 2)), .int (xs (5 * k + 1)), .ref 0]), yhp w G sz)) 1 rfl ?_
  refine zec 1 (M' := M_ST_update) (qq := ([.ref 0, .int (xs (5 * k + 1)), .int (xs (5 * k + 2)), .int (xs (5 * k + 3)), .int 0], [])) (s' := (274, [(3, .int (Int32.ofNat (5 * k))), (2, .ref 54), (1, .ref 0), (0, .retAddr 0)], [.int v])) rfl rfl (fun _ => rfl) rfl rfl (zhk rfl (zrc_ok (yhp_o rfl)) rfl) t1 rfl ?_
  refine zeN (q := ((275, [(3, .int (Int32.ofNat (5 * k))), (2, .ref 54), (1, .ref 0), (0, .retAddr 0)], [.ref 54, .int v]), yhp w1 G1 s1)) 1 rfl ?_
  refine zeN (q := ((279, [(3, .int (Int32.ofNat (5 * k))), (2, .ref 54), (1, .ref 0), (0, .retAddr 0)], [.int (Int32.ofNat (5 * k) + 1), .retAddr 0, .ref 54, .int v]), yhp w1 G1 s1)) 4 rfl ?_
  refine zesc (n := 5 * k + 1) rfl rfl (li (c := 1) (by omega)) (by omega) ?_
  refine zeN (q := ((284, [(3, .int (Int32.ofNat (5 * k))), (2, .ref 54), (1, .ref 0), (0, .retAddr 0)], [.int (Int32.ofNat (5 * k) + 2), .retAddr 0, .int (xs (5 * k + 1)), .ref 54, .int v]), yhp w1 G1 s1)) 4 rfl ?_
  refine zesc (n := 5 * k + 2) rfl rfl (li (c := 2) (by omega)) (by omega) ?_
  refine zeN (q := ((289, [(3, .int (Int32.ofNat (5 * k))), (2, .ref 54), (1, .ref 0), (0, .retAddr 0)], [.int (Int32.ofNat (5 * k) + 3), .retAddr 0, .int (xs (5 * k + 2)), .int (xs (5 * k + 1)), .ref 54, .int v]), yhp w1 G1 s1)) 4 rfl ?_
  refine zesc (n := 5 * k + 3) rfl rfl (li (c := 3) (by omega)) (by omega) ?_
  refine zeN (q := ((294, [(3, .int (Int32.ofNat (5 * k))), (2, .ref 54), (1, .ref 0), (0, .retAddr 0)], [.int (Int32.ofNat (5 * k) + 4), .retAddr 0, .int (xs (5 * k + 3)), .int (xs (5 * k + 2)), .int (xs (5 * k + 1)), .ref 54, .int v]), yhp w1 G1 s1)) 4 rfl ?_
  refine zesc (n := 5 * k + 4) rfl rfl (li (c := 4) (by omega)) (by omega) ?_
  refine zeb2 (q := (302, [(3, .int (Int32.ofNat (5 * k))), (2, .ref 54), (1, .ref 0), (0, .retAddr 0)], [.int (xs (5 * k + 3)), .int (xs (5 * k + 2)), .int (xs (5 * k + 1)), .ref 54, .int v])) (cB := zc .eq (xs (5 * k + 4)) 0) (v := true) (off := 7) (lv := [(3, .int (Int32.ofNat (5 * k))), (2, .ref 54), (1, .ref 0), (0, .retAddr 0)]) (st := [.int (xs (5 * k + 3)), .int (xs (5 * k + 2)), .int (xs (5 * k + 1)), .ref 54, .int v]) rfl rfl rfl hz rfl ?_
  refine zeN (q := ((303, [(3, .int (Int32.ofNat (5 * k))), (2, .ref 54), (1, .ref 0), (0, .retAddr 0)], [.int 0, .int (xs (5 * k + 3)), .int (xs (5 * k + 2)), .int (xs (5 * k + 1)), .ref 54, .int v]), yhp w1 G1 s1)) 1 rfl ?_
  refine zec 1 (M' := M_Mo_update) (qq := ([.ref 54, .int (xs (5 * k + 1)), .int (xs (5 * k + 2)), .int (xs (5 * k + 3)), .int 0], [.int v])) (s' := (306, [(3, .int (Int32.ofNat (5 * k))), (2, .ref 54), (1, .ref 0), (0, .retAddr 0)], [.int v, .int v])) rfl rfl (fun _ => rfl) rfl rfl (zhk rfl (zrc_ok (yhp_o rfl)) rfl) t2 rfl ?_
  refine zeb2 (q := (636, [(3, .int (Int32.ofNat (5 * k))), (2, .ref 54), (1, .ref 0), (0, .retAddr 0)], [])) (cB := zc .eq v v) (v := true) (off := 330) (lv := [(3, .int (Int32.ofNat (5 * k))), (2, .ref 54), (1, .ref 0), (0, .retAddr 0)]) (st := []) rfl rfl rfl (decide_eq_true rfl) rfl ?_
  refine zeN (q := ((18, [(3, .int (Int32.ofNat (5 * k) + Int32.ofInt 5)), (2, .ref 54), (1, .ref 0), (0, .retAddr 0)], []), yhp w2 G1 s1)) 2 rfl ?_
  rw [show Int32.ofNat (5 * k) + Int32.ofInt 5 = Int32.ofNat (5 * (k + 1)) from mk_add (5 * k) 5]
  exact kr
set_option maxRecDepth 100000 in
theorem law_4n {k : Nat} {w : yW} {G : List zC} {sz : Nat} (hz : zc .eq (xs (5 * k + 4)) 0 = false) (hL : 5 * k + 4 < L) (hL2 : L < 2147483648) (T : zTn 43 114 [.int (xs (5 * k + 1)), .int (xs (5 * k + 2)), .int (xs (5 * k + 3)), .int 1] w G sz) (kk : ∀ w2 G1 s1, INV w2 G1 → G1.length ≤ G.length + 4 → s1 ≤ sz + 20 → zFi L xs (18, [(3, .int (Int32.ofNat (5 * (k + 1)))), (2, .ref 54), (1, .ref 0), (0, .retAddr 0)], []) (yhp w2 G1 s1)) : zFi L xs (32, [(3, .int (Int32.ofNat (5 * k))), (2, .ref 54), (1, .ref 0), (0, .retAddr 0)], [.int (Int32.ofNat 4)]) (yhp w G sz) := by
  obtain ⟨v, w1, G1, s1, w2, t1, t2, t3, t4, t5⟩ := T
  refine zFi_of (fun r kr => ?_) (kk w2 G1 s1 t3 t4 t5)
  refine zeN (q := ((243, [(3, .int (Int32.ofNat (5 * k))), (2, .ref 54), (1, .ref 0), (0, .retAddr 0)], [.ref 0]), yhp w G sz)) 2 rfl ?_
  refine zeN (q := ((247, [(3, .int (Int32.ofNat (5 * k))), (2, .ref 54), (1, .ref 0), (0, .retAddr 0)], [.int (Int32.ofNat (5 * k) + 1), .retAddr 0, .ref 0]), yhp w G sz)) 4 rfl ?_
  refine zesc (n := 5 * k + 1) rfl rfl (li (c := 1) (by omega)) (by omega) ?_
  refine zeN (q := ((252, [(3, .int (Int32.ofNat (5 * k))), (2, .ref 54), (1, .ref 0), (0, .retAddr 0)], [.int (Int32.ofNat (5 * k) + 2), .retAddr 0, .int (xs (5 * k + 1)), .ref 0]), yhp w G sz)) 4 rfl ?_
  refine zesc (n := 5 * k + 2) rfl rfl (li (c := 2) (by omega)) (by omega) ?_
  refine zeN (q := ((257, [(3, .int (Int32.ofNat (5 * k))), (2, .ref 54), (1, .ref 0), (0, .retAddr 0)], [.int (Int32.ofNat (5 * k) + 3), .retAddr 0, .int (xs (5 * k + 2)), .int (xs (5 * k + 1)), .ref 0]), yhp w G sz)) 4 rfl ?_
  refine zesc (n := 5 * k + 3) rfl rfl (li (c := 3) (by omega)) (by omega) ?_
  refine zeN (q := ((262, [(3, .int (Int32.ofNat (5 * k))), (2, .ref 54), (1, .ref 0), (0, .retAddr 0)], [.int (Int32.ofNat (5 * k) + 4), .retAddr 0, .int (xs (5 * k + 3)), .int (xs (5 * k + 2)), .int (xs (5 * k + 1)), .ref 0]), yhp w G sz)) 4 rfl ?_
  refine zesc (n := 5 * k + 4) rfl rfl (li (c := 4) (by omega)) (by omega) ?_
  refine zeb2 (q := (266, [(3, .int (Int32.ofNat (5 * k))), (2, .ref 54), (1, .ref 0), (0, .retAddr 0)], [.int (xs (5 * k + 3)), .int (xs (5 * k + 2)), .int (xs (5 * k + 1)), .ref 0])) (cB := zc .eq (xs (5 * k + 4)) 0) (v := false) (off := 7) (lv := [(3, .int (Int32.ofNat (5 * k))), (2, .ref 54), (1, .ref 0), (0, .retAddr 0)]) (st := [.int (xs (5 * k + 3)), .int (xs (5 * k + 2)), .int (xs (5 * k + 1)), .ref 0]) rfl rfl rfl hz rfl ?_
  refine zeN (q := ((271, [(3, .int (Int32.ofNat (5 * k))), (2, .ref 54), (1, .ref 0), (0, .retAddr 0)], [.int 1, .int (xs (5 * k + 3)), .int (xs (5 * k + 2)), .int (xs (5 * k + 1)), .ref 0]), yhp w G sz)) 2 rfl ?_
  refine zec 1 (M' := M_ST_update) (qq := ([.ref 0, .int (xs (5 * k + 1)), .int (xs (5 * k + 2)), .int (xs (5 * k + 3)), .int 1], [])) (s' := (274, [(3, .int (Int32.ofNat (5 * k))), (2, .ref 54), (1, .ref 0), (0, .retAddr 0)], [.int v])) rfl rfl (fun _ => rfl) rfl rfl (zhk rfl (zrc_ok (yhp_o rfl)) rfl) t1 rfl ?_
  refine zeN (q := ((275, [(3, .int (Int32.ofNat (5 * k))), (2, .ref 54), (1, .ref 0), (0, .retAddr 0)], [.ref 54, .int v]), yhp w1 G1 s1)) 1 rfl ?_
  refine zeN (q := ((279, [(3, .int (Int32.ofNat (5 * k))), (2, .ref 54), (1, .ref 0), (0, .retAddr 0)], [.int (Int32.ofNat (5 * k) + 1), .retAddr 0, .ref 54, .int v]), yhp w1 G1 s1)) 4 rfl ?_
  refine zesc (n := 5 * k + 1) rfl rfl (li (c := 1) (by omega)) (by omega) ?_
  refine zeN (q := ((284, [(3, .int (Int32.ofNat (5 * k))), (2, .ref 54), (1, .ref 0), (0, .retAddr 0)], [.int (Int32.ofNat (5 * k) + 2), .retAddr 0, .int (xs (5 * k + 1)), .ref 54, .int v]), yhp w1 G1 s1)) 4 rfl ?_
  refine zesc (n := 5 * k + 2) rfl rfl (li (c := 2) (by omega)) (by omega) ?_
  refine zeN (q := ((289, [(3, .int (Int32.ofNat (5 * k))), (2, .ref 54), (1, .ref 0), (0, .retAddr 0)], [.int (Int32.ofNat (5 * k) + 3), .retAddr 0, .int (xs (5 * k + 2)), .int (xs (5 * k + 1)), .ref 54, .int v]), yhp w1 G1 s1)) 4 rfl ?_
  refine zesc (n := 5 * k + 3) rfl rfl (li (c := 3) (by omega)) (by omega) ?_
  refine zeN (q := ((294, [(3, .int (Int32.ofNat (5 * k))), (2, .ref 54), (1, .ref 0), (0, .retAddr 0)], [.int (Int32.ofNat (5 * k) + 4), .retAddr 0, .int (xs (5 * k + 3)), .int (xs (5 * k + 2)), .int (xs (5 * k + 1)), .ref 54, .int v]), yhp w1 G1 s1)) 4 rfl ?_
  refine zesc (n := 5 * k + 4) rfl rfl (li (c := 4) (by omega)) (by omega) ?_
  refine zeb2 (q := (298, [(3, .int (Int32.ofNat (5 * k))), (2, .ref 54), (1, .ref 0), (0, .retAddr 0)], [.int (xs (5 * k + 3)), .int (xs (5 * k + 2)), .int (xs (5 * k + 1)), .ref 54, .int v])) (cB := zc .eq (xs (5 * k + 4)) 0) (v := false) (off := 7) (lv := [(3, .int (Int32.ofNat (5 * k))), (2, .ref 54), (1, .ref 0), (0, .retAddr 0)]) (st := [.int (xs (5 * k + 3)), .int (xs (5 * k + 2)), .int (xs (5 * k + 1)), .ref 54, .int v]) rfl rfl rfl hz rfl ?_
  refine zeN (q := ((303, [(3, .int (Int32.ofNat (5 * k))), (2, .ref 54), (1, .ref 0), (0, .retAddr 0)], [.int 1, .int (xs (5 * k + 3)), .int (xs (5 * k + 2)), .int (xs (5 * k + 1)), .ref 54, .int v]), yhp w1 G1 s1)) 2 rfl ?_
  refine zec 1 (M' := M_Mo_update) (qq := ([.ref 54, .int (xs (5 * k + 1)), .int (xs (5 * k + 2)), .int (xs (5 * k + 3)), .int 1], [.int v])) (s' := (306, [(3, .int (Int32.ofNat (5 * k))), (2, .ref 54), (1, .ref 0), (0, .retAddr 0)], [.int v, .int v])) rfl rfl (fun _ => rfl) rfl rfl (zhk rfl (zrc_ok (yhp_o rfl)) rfl) t2 rfl ?_
  refine zeb2 (q := (636, [(3, .int (Int32.ofNat (5 * k))), (2, .ref 54), (1, .ref 0), (0, .retAddr 0)], [])) (cB := zc .eq v v) (v := true) (off := 330) (lv := [(3, .int (Int32.ofNat (5 * k))), (2, .ref 54), (1, .ref 0), (0, .retAddr 0)]) (st := []) rfl rfl rfl (decide_eq_true rfl) rfl ?_
  refine zeN (q := ((18, [(3, .int (Int32.ofNat (5 * k) + Int32.ofInt 5)), (2, .ref 54), (1, .ref 0), (0, .retAddr 0)], []), yhp w2 G1 s1)) 2 rfl ?_
  rw [show Int32.ofNat (5 * k) + Int32.ofInt 5 = Int32.ofNat (5 * (k + 1)) from mk_add (5 * k) 5]
  exact kr
set_option maxRecDepth 100000 in
theorem law_5 {k : Nat} {w : yW} {G : List zC} {sz : Nat} (hL : 5 * k + 4 < L) (hL2 : L < 2147483648) (T : zTn 44 115 [.int (xs (5 * k + 1)), .int (xs (5 * k + 2)), .int (xs (5 * k + 3)), .int (xs (5 * k + 4))] w G sz) (kk : ∀ w2 G1 s1, INV w2 G1 → G1.length ≤ G.length + 4 → s1 ≤ sz + 20 → zFi L xs (18, [(3, .int (Int32.ofNat (5 * (k + 1)))), (2, .ref 54), (1, .ref 0), (0, .retAddr 0)], []) (yhp w2 G1 s1)) : zFi L xs (32, [(3, .int (Int32.ofNat (5 * k))), (2, .ref 54), (1, .ref 0), (0, .retAddr 0)], [.int (Int32.ofNat 5)]) (yhp w G sz) := by
  obtain ⟨v, w1, G1, s1, w2, t1, t2, t3, t4, t5⟩ := T
  refine zFi_of (fun r kr => ?_) (kk w2 G1 s1 t3 t4 t5)
  refine zeN (q := ((312, [(3, .int (Int32.ofNat (5 * k))), (2, .ref 54), (1, .ref 0), (0, .retAddr 0)], [.ref 0]), yhp w G sz)) 2 rfl ?_
  refine zeN (q := ((316, [(3, .int (Int32.ofNat (5 * k))), (2, .ref 54), (1, .ref 0), (0, .retAddr 0)], [.int (Int32.ofNat (5 * k) + 1), .retAddr 0, .ref 0]), yhp w G sz)) 4 rfl ?_
  refine zesc (n := 5 * k + 1) rfl rfl (li (c := 1) (by omega)) (by omega) ?_
  refine zeN (q := ((321, [(3, .int (Int32.ofNat (5 * k))), (2, .ref 54), (1, .ref 0), (0, .retAddr 0)], [.int (Int32.ofNat (5 * k) + 2), .retAddr 0, .int (xs (5 * k + 1)), .ref 0]), yhp w G sz)) 4 rfl ?_
  refine zesc (n := 5 * k + 2) rfl rfl (li (c := 2) (by omega)) (by omega) ?_
  refine zeN (q := ((326, [(3, .int (Int32.ofNat (5 * k))), (2, .ref 54), (1, .ref 0), (0, .retAddr 0)], [.int (Int32.ofNat (5 * k) + 3), .retAddr 0, .int (xs (5 * k + 2)), .int (xs (5 * k + 1)), .ref 0]), yhp w G sz)) 4 rfl ?_
  refine zesc (n := 5 * k + 3) rfl rfl (li (c := 3) (by omega)) (by omega) ?_
  refine zeN (q := ((331, [(3, .int (Int32.ofNat (5 * k))), (2, .ref 54), (1, .ref 0), (0, .retAddr 0)], [.int (Int32.ofNat (5 * k) + 4), .retAddr 0, .int (xs (5 * k + 3)), .int (xs (5 * k + 2)), .int (xs (5 * k + 1)), .ref 0]), yhp w G sz)) 4 rfl ?_
  refine zesc (n := 5 * k + 4) rfl rfl (li (c := 4) (by omega)) (by omega) ?_
  refine zec 1 (M' := M_ST_select) (qq := ([.ref 0, .int (xs (5 * k + 1)), .int (xs (5 * k + 2)), .int (xs (5 * k + 3)), .int (xs (5 * k + 4))], [])) (s' := (335, [(3, .int (Int32.ofNat (5 * k))), (2, .ref 54), (1, .ref 0), (0, .retAddr 0)], [.int v])) rfl rfl (fun _ => rfl) rfl rfl (zhk rfl (zrc_ok (yhp_o rfl)) rfl) t1 rfl ?_
  refine zeN (q := ((336, [(3, .int (Int32.ofNat (5 * k))), (2, .ref 54), (1, .ref 0), (0, .retAddr 0)], [.ref 54, .int v]), yhp w1 G1 s1)) 1 rfl ?_
  refine zeN (q := ((340, [(3, .int (Int32.ofNat (5 * k))), (2, .ref 54), (1, .ref 0), (0, .retAddr 0)], [.int (Int32.ofNat (5 * k) + 1), .retAddr 0, .ref 54, .int v]), yhp w1 G1 s1)) 4 rfl ?_
  refine zesc (n := 5 * k + 1) rfl rfl (li (c := 1) (by omega)) (by omega) ?_
  refine zeN (q := ((345, [(3, .int (Int32.ofNat (5 * k))), (2, .ref 54), (1, .ref 0), (0, .retAddr 0)], [.int (Int32.ofNat (5 * k) + 2), .retAddr 0, .int (xs (5 * k + 1)), .ref 54, .int v]), yhp w1 G1 s1)) 4 rfl ?_
  refine zesc (n := 5 * k + 2) rfl rfl (li (c := 2) (by omega)) (by omega) ?_
  refine zeN (q := ((350, [(3, .int (Int32.ofNat (5 * k))), (2, .ref 54), (1, .ref 0), (0, .retAddr 0)], [.int (Int32.ofNat (5 * k) + 3), .retAddr 0, .int (xs (5 * k + 2)), .int (xs (5 * k + 1)), .ref 54, .int v]), yhp w1 G1 s1)) 4 rfl ?_
  refine zesc (n := 5 * k + 3) rfl rfl (li (c := 3) (by omega)) (by omega) ?_
  refine zeN (q := ((355, [(3, .int (Int32.ofNat (5 * k))), (2, .ref 54), (1, .ref 0), (0, .retAddr 0)], [.int (Int32.ofNat (5 * k) + 4), .retAddr 0, .int (xs (5 * k + 3)), .int (xs (5 * k + 2)), .int (xs (5 * k + 1)), .ref 54, .int v]), yhp w1 G1 s1)) 4 rfl ?_
  refine zesc (n := 5 * k + 4) rfl rfl (li (c := 4) (by omega)) (by omega) ?_
  refine zec 1 (M' := M_Mo_select) (qq := ([.ref 54, .int (xs (5 * k + 1)), .int (xs (5 * k + 2)), .int (xs (5 * k + 3)), .int (xs (5 * k + 4))], [.int v])) (s' := (359, [(3, .int (Int32.ofNat (5 * k))), (2, .ref 54), (1, .ref 0), (0, .retAddr 0)], [.int v, .int v])) rfl rfl (fun _ => rfl) rfl rfl (zhk rfl (zrc_ok (yhp_o rfl)) rfl) t2 rfl ?_
  refine zeb2 (q := (636, [(3, .int (Int32.ofNat (5 * k))), (2, .ref 54), (1, .ref 0), (0, .retAddr 0)], [])) (cB := zc .eq v v) (v := true) (off := 277) (lv := [(3, .int (Int32.ofNat (5 * k))), (2, .ref 54), (1, .ref 0), (0, .retAddr 0)]) (st := []) rfl rfl rfl (decide_eq_true rfl) rfl ?_
  refine zeN (q := ((18, [(3, .int (Int32.ofNat (5 * k) + Int32.ofInt 5)), (2, .ref 54), (1, .ref 0), (0, .retAddr 0)], []), yhp w2 G1 s1)) 2 rfl ?_
  rw [show Int32.ofNat (5 * k) + Int32.ofInt 5 = Int32.ofNat (5 * (k + 1)) from mk_add (5 * k) 5]
  exact kr
set_option maxRecDepth 100000 in
theorem law_6 {k : Nat} {w : yW} {G : List zC} {sz : Nat} (hL : 5 * k + 4 < L) (hL2 : L < 2147483648) (T : zTn 67 135 [.int (xs (5 * k + 1)), .int (xs (5 * k + 2))] w G sz) (kk : ∀ w2 G1 s1, INV w2 G1 → G1.length ≤ G.length + 4 → s1 ≤ sz + 20 → zFi L xs (18, [(3, .int (Int32.ofNat (5 * (k + 1)))), (2, .ref 54), (1, .ref 0), (0, .retAddr 0)], []) (yhp w2 G1 s1)) : zFi L xs (32, [(3, .int (Int32.ofNat (5 * k))), (2, .ref 54), (1, .ref 0), (0, .retAddr 0)], [.int (Int32.ofNat 6)]) (yhp w G sz) := by
  obtain ⟨v, w1, G1, s1, w2, t1, t2, t3, t4, t5⟩ := T
  refine zFi_of (fun r kr => ?_) (kk w2 G1 s1 t3 t4 t5)
  refine zeN (q := ((365, [(3, .int (Int32.ofNat (5 * k))), (2, .ref 54), (1, .ref 0), (0, .retAddr 0)], [.ref 0]), yhp w G sz)) 2 rfl ?_
  refine zeN (q := ((369, [(3, .int (Int32.ofNat (5 * k))), (2, .ref 54), (1, .ref 0), (0, .retAddr 0)], [.int (Int32.ofNat (5 * k) + 1), .retAddr 0, .ref 0]), yhp w G sz)) 4 rfl ?_
  refine zesc (n := 5 * k + 1) rfl rfl (li (c := 1) (by omega)) (by omega) ?_
  refine zeN (q := ((374, [(3, .int (Int32.ofNat (5 * k))), (2, .ref 54), (1, .ref 0), (0, .retAddr 0)], [.int (Int32.ofNat (5 * k) + 2), .retAddr 0, .int (xs (5 * k + 1)), .ref 0]), yhp w G sz)) 4 rfl ?_
  refine zesc (n := 5 * k + 2) rfl rfl (li (c := 2) (by omega)) (by omega) ?_
  refine zec 1 (M' := M_ST_nearest) (qq := ([.ref 0, .int (xs (5 * k + 1)), .int (xs (5 * k + 2))], [])) (s' := (378, [(3, .int (Int32.ofNat (5 * k))), (2, .ref 54), (1, .ref 0), (0, .retAddr 0)], [.int v])) rfl rfl (fun _ => rfl) rfl rfl (zhk rfl (zrc_ok (yhp_o rfl)) rfl) t1 rfl ?_
  refine zeN (q := ((379, [(3, .int (Int32.ofNat (5 * k))), (2, .ref 54), (1, .ref 0), (0, .retAddr 0)], [.ref 54, .int v]), yhp w1 G1 s1)) 1 rfl ?_
  refine zeN (q := ((383, [(3, .int (Int32.ofNat (5 * k))), (2, .ref 54), (1, .ref 0), (0, .retAddr 0)], [.int (Int32.ofNat (5 * k) + 1), .retAddr 0, .ref 54, .int v]), yhp w1 G1 s1)) 4 rfl ?_
  refine zesc (n := 5 * k + 1) rfl rfl (li (c := 1) (by omega)) (by omega) ?_
  refine zeN (q := ((388, [(3, .int (Int32.ofNat (5 * k))), (2, .ref 54), (1, .ref 0), (0, .retAddr 0)], [.int (Int32.ofNat (5 * k) + 2), .retAddr 0, .int (xs (5 * k + 1)), .ref 54, .int v]), yhp w1 G1 s1)) 4 rfl ?_
  refine zesc (n := 5 * k + 2) rfl rfl (li (c := 2) (by omega)) (by omega) ?_
  refine zec 1 (M' := M_Mo_nearest) (qq := ([.ref 54, .int (xs (5 * k + 1)), .int (xs (5 * k + 2))], [.int v])) (s' := (392, [(3, .int (Int32.ofNat (5 * k))), (2, .ref 54), (1, .ref 0), (0, .retAddr 0)], [.int v, .int v])) rfl rfl (fun _ => rfl) rfl rfl (zhk rfl (zrc_ok (yhp_o rfl)) rfl) t2 rfl ?_
  refine zeb2 (q := (636, [(3, .int (Int32.ofNat (5 * k))), (2, .ref 54), (1, .ref 0), (0, .retAddr 0)], [])) (cB := zc .eq v v) (v := true) (off := 244) (lv := [(3, .int (Int32.ofNat (5 * k))), (2, .ref 54), (1, .ref 0), (0, .retAddr 0)]) (st := []) rfl rfl rfl (decide_eq_true rfl) rfl ?_
  refine zeN (q := ((18, [(3, .int (Int32.ofNat (5 * k) + Int32.ofInt 5)), (2, .ref 54), (1, .ref 0), (0, .retAddr 0)], []), yhp w2 G1 s1)) 2 rfl ?_
  rw [show Int32.ofNat (5 * k) + Int32.ofInt 5 = Int32.ofNat (5 * (k + 1)) from mk_add (5 * k) 5]
  exact kr
set_option maxRecDepth 100000 in
theorem law_7 {k : Nat} {w : yW} {G : List zC} {sz : Nat} (hL : 5 * k + 4 < L) (hL2 : L < 2147483648) (T : zTn 72 137 [.int (xs (5 * k + 1))] w G sz) (kk : ∀ w2 G1 s1, INV w2 G1 → G1.length ≤ G.length + 4 → s1 ≤ sz + 20 → zFi L xs (18, [(3, .int (Int32.ofNat (5 * (k + 1)))), (2, .ref 54), (1, .ref 0), (0, .retAddr 0)], []) (yhp w2 G1 s1)) : zFi L xs (32, [(3, .int (Int32.ofNat (5 * k))), (2, .ref 54), (1, .ref 0), (0, .retAddr 0)], [.int (Int32.ofNat 7)]) (yhp w G sz) := by
  obtain ⟨v, w1, G1, s1, w2, t1, t2, t3, t4, t5⟩ := T
  refine zFi_of (fun r kr => ?_) (kk w2 G1 s1 t3 t4 t5)
  refine zeN (q := ((398, [(3, .int (Int32.ofNat (5 * k))), (2, .ref 54), (1, .ref 0), (0, .retAddr 0)], [.ref 0]), yhp w G sz)) 2 rfl ?_
  refine zeN (q := ((402, [(3, .int (Int32.ofNat (5 * k))), (2, .ref 54), (1, .ref 0), (0, .retAddr 0)], [.int (Int32.ofNat (5 * k) + 1), .retAddr 0, .ref 0]), yhp w G sz)) 4 rfl ?_
  refine zesc (n := 5 * k + 1) rfl rfl (li (c := 1) (by omega)) (by omega) ?_
  refine zec 1 (M' := M_ST_join) (qq := ([.ref 0, .int (xs (5 * k + 1))], [])) (s' := (406, [(3, .int (Int32.ofNat (5 * k))), (2, .ref 54), (1, .ref 0), (0, .retAddr 0)], [.int v])) rfl rfl (fun _ => rfl) rfl rfl (zhk rfl (zrc_ok (yhp_o rfl)) rfl) t1 rfl ?_
  refine zeN (q := ((407, [(3, .int (Int32.ofNat (5 * k))), (2, .ref 54), (1, .ref 0), (0, .retAddr 0)], [.ref 54, .int v]), yhp w1 G1 s1)) 1 rfl ?_
  refine zeN (q := ((411, [(3, .int (Int32.ofNat (5 * k))), (2, .ref 54), (1, .ref 0), (0, .retAddr 0)], [.int (Int32.ofNat (5 * k) + 1), .retAddr 0, .ref 54, .int v]), yhp w1 G1 s1)) 4 rfl ?_
  refine zesc (n := 5 * k + 1) rfl rfl (li (c := 1) (by omega)) (by omega) ?_
  refine zec 1 (M' := M_Mo_join) (qq := ([.ref 54, .int (xs (5 * k + 1))], [.int v])) (s' := (415, [(3, .int (Int32.ofNat (5 * k))), (2, .ref 54), (1, .ref 0), (0, .retAddr 0)], [.int v, .int v])) rfl rfl (fun _ => rfl) rfl rfl (zhk rfl (zrc_ok (yhp_o rfl)) rfl) t2 rfl ?_
  refine zeb2 (q := (636, [(3, .int (Int32.ofNat (5 * k))), (2, .ref 54), (1, .ref 0), (0, .retAddr 0)], [])) (cB := zc .eq v v) (v := true) (off := 221) (lv := [(3, .int (Int32.ofNat (5 * k))), (2, .ref 54), (1, .ref 0), (0, .retAddr 0)]) (st := []) rfl rfl rfl (decide_eq_true rfl) rfl ?_
  refine zeN (q := ((18, [(3, .int (Int32.ofNat (5 * k) + Int32.ofInt 5)), (2, .ref 54), (1, .ref 0), (0, .retAddr 0)], []), yhp w2 G1 s1)) 2 rfl ?_
  rw [show Int32.ofNat (5 * k) + Int32.ofInt 5 = Int32.ofNat (5 * (k + 1)) from mk_add (5 * k) 5]
  exact kr
set_option maxRecDepth 100000 in
theorem law_8 {k : Nat} {w : yW} {G : List zC} {sz : Nat} (hL : 5 * k + 4 < L) (hL2 : L < 2147483648) (T : zTn 74 138 [.int (xs (5 * k + 1))] w G sz) (kk : ∀ w2 G1 s1, INV w2 G1 → G1.length ≤ G.length + 4 → s1 ≤ sz + 20 → zFi L xs (18, [(3, .int (Int32.ofNat (5 * (k + 1)))), (2, .ref 54), (1, .ref 0), (0, .retAddr 0)], []) (yhp w2 G1 s1)) : zFi L xs (32, [(3, .int (Int32.ofNat (5 * k))), (2, .ref 54), (1, .ref 0), (0, .retAddr 0)], [.int (Int32.ofNat 8)]) (yhp w G sz) := by
  obtain ⟨v, w1, G1, s1, w2, t1, t2, t3, t4, t5⟩ := T
  refine zFi_of (fun r kr => ?_) (kk w2 G1 s1 t3 t4 t5)
  refine zeN (q := ((421, [(3, .int (Int32.ofNat (5 * k))), (2, .ref 54), (1, .ref 0), (0, .retAddr 0)], [.ref 0]), yhp w G sz)) 2 rfl ?_
  refine zeN (q := ((425, [(3, .int (Int32.ofNat (5 * k))), (2, .ref 54), (1, .ref 0), (0, .retAddr 0)], [.int (Int32.ofNat (5 * k) + 1), .retAddr 0, .ref 0]), yhp w G sz)) 4 rfl ?_
  refine zesc (n := 5 * k + 1) rfl rfl (li (c := 1) (by omega)) (by omega) ?_
  refine zec 1 (M' := M_ST_result) (qq := ([.ref 0, .int (xs (5 * k + 1))], [])) (s' := (429, [(3, .int (Int32.ofNat (5 * k))), (2, .ref 54), (1, .ref 0), (0, .retAddr 0)], [.int v])) rfl rfl (fun _ => rfl) rfl rfl (zhk rfl (zrc_ok (yhp_o rfl)) rfl) t1 rfl ?_
  refine zeN (q := ((430, [(3, .int (Int32.ofNat (5 * k))), (2, .ref 54), (1, .ref 0), (0, .retAddr 0)], [.ref 54, .int v]), yhp w1 G1 s1)) 1 rfl ?_
  refine zeN (q := ((434, [(3, .int (Int32.ofNat (5 * k))), (2, .ref 54), (1, .ref 0), (0, .retAddr 0)], [.int (Int32.ofNat (5 * k) + 1), .retAddr 0, .ref 54, .int v]), yhp w1 G1 s1)) 4 rfl ?_
  refine zesc (n := 5 * k + 1) rfl rfl (li (c := 1) (by omega)) (by omega) ?_
  refine zec 1 (M' := M_Mo_result) (qq := ([.ref 54, .int (xs (5 * k + 1))], [.int v])) (s' := (438, [(3, .int (Int32.ofNat (5 * k))), (2, .ref 54), (1, .ref 0), (0, .retAddr 0)], [.int v, .int v])) rfl rfl (fun _ => rfl) rfl rfl (zhk rfl (zrc_ok (yhp_o rfl)) rfl) t2 rfl ?_
  refine zeb2 (q := (636, [(3, .int (Int32.ofNat (5 * k))), (2, .ref 54), (1, .ref 0), (0, .retAddr 0)], [])) (cB := zc .eq v v) (v := true) (off := 198) (lv := [(3, .int (Int32.ofNat (5 * k))), (2, .ref 54), (1, .ref 0), (0, .retAddr 0)]) (st := []) rfl rfl rfl (decide_eq_true rfl) rfl ?_
  refine zeN (q := ((18, [(3, .int (Int32.ofNat (5 * k) + Int32.ofInt 5)), (2, .ref 54), (1, .ref 0), (0, .retAddr 0)], []), yhp w2 G1 s1)) 2 rfl ?_
  rw [show Int32.ofNat (5 * k) + Int32.ofInt 5 = Int32.ofNat (5 * (k + 1)) from mk_add (5 * k) 5]
  exact kr
set_option maxRecDepth 100000 in
theorem law_9 {k : Nat} {w : yW} {G : List zC} {sz : Nat} (hL : 5 * k + 4 < L) (hL2 : L < 2147483648) (T : zTn 75 139 [] w G sz) (kk : ∀ w2 G1 s1, INV w2 G1 → G1.length ≤ G.length + 4 → s1 ≤ sz + 20 → zFi L xs (18, [(3, .int (Int32.ofNat (5 * (k + 1)))), (2, .ref 54), (1, .ref 0), (0, .retAddr 0)], []) (yhp w2 G1 s1)) : zFi L xs (32, [(3, .int (Int32.ofNat (5 * k))), (2, .ref 54), (1, .ref 0), (0, .retAddr 0)], [.int (Int32.ofNat 9)]) (yhp w G sz) := by
  obtain ⟨v, w1, G1, s1, w2, t1, t2, t3, t4, t5⟩ := T
  refine zFi_of (fun r kr => ?_) (kk w2 G1 s1 t3 t4 t5)
  refine zeN (q := ((444, [(3, .int (Int32.ofNat (5 * k))), (2, .ref 54), (1, .ref 0), (0, .retAddr 0)], [.ref 0]), yhp w G sz)) 2 rfl ?_
  refine zec 1 (M' := M_ST_reads) (qq := ([.ref 0], [])) (s' := (447, [(3, .int (Int32.ofNat (5 * k))), (2, .ref 54), (1, .ref 0), (0, .retAddr 0)], [.int v])) rfl rfl (fun _ => rfl) rfl rfl (zhk rfl (zrc_ok (yhp_o rfl)) rfl) t1 rfl ?_
  refine zeN (q := ((448, [(3, .int (Int32.ofNat (5 * k))), (2, .ref 54), (1, .ref 0), (0, .retAddr 0)], [.ref 54, .int v]), yhp w1 G1 s1)) 1 rfl ?_
  refine zec 1 (M' := M_Mo_reads) (qq := ([.ref 54], [.int v])) (s' := (451, [(3, .int (Int32.ofNat (5 * k))), (2, .ref 54), (1, .ref 0), (0, .retAddr 0)], [.int v, .int v])) rfl rfl (fun _ => rfl) rfl rfl (zhk rfl (zrc_ok (yhp_o rfl)) rfl) t2 rfl ?_
  refine zeb2 (q := (636, [(3, .int (Int32.ofNat (5 * k))), (2, .ref 54), (1, .ref 0), (0, .retAddr 0)], [])) (cB := zc .eq v v) (v := true) (off := 185) (lv := [(3, .int (Int32.ofNat (5 * k))), (2, .ref 54), (1, .ref 0), (0, .retAddr 0)]) (st := []) rfl rfl rfl (decide_eq_true rfl) rfl ?_
  refine zeN (q := ((18, [(3, .int (Int32.ofNat (5 * k) + Int32.ofInt 5)), (2, .ref 54), (1, .ref 0), (0, .retAddr 0)], []), yhp w2 G1 s1)) 2 rfl ?_
  rw [show Int32.ofNat (5 * k) + Int32.ofInt 5 = Int32.ofNat (5 * (k + 1)) from mk_add (5 * k) 5]
  exact kr
set_option maxRecDepth 100000 in
theorem law_10 {k : Nat} {w : yW} {G : List zC} {sz : Nat} (hL : 5 * k + 4 < L) (hL2 : L < 2147483648) (T : zTn 76 140 [.int (xs (5 * k + 1)), .int (xs (5 * k + 2))] w G sz) (kk : ∀ w2 G1 s1, INV w2 G1 → G1.length ≤ G.length + 4 → s1 ≤ sz + 20 → zFi L xs (18, [(3, .int (Int32.ofNat (5 * (k + 1)))), (2, .ref 54), (1, .ref 0), (0, .retAddr 0)], []) (yhp w2 G1 s1)) : zFi L xs (32, [(3, .int (Int32.ofNat (5 * k))), (2, .ref 54), (1, .ref 0), (0, .retAddr 0)], [.int (Int32.ofNat 10)]) (yhp w G sz) := by
  obtain ⟨v, w1, G1, s1, w2, t1, t2, t3, t4, t5⟩ := T
  refine zFi_of (fun r kr => ?_) (kk w2 G1 s1 t3 t4 t5)
  refine zeN (q := ((457, [(3, .int (Int32.ofNat (5 * k))), (2, .ref 54), (1, .ref 0), (0, .retAddr 0)], [.ref 0]), yhp w G sz)) 2 rfl ?_
  refine zeN (q := ((461, [(3, .int (Int32.ofNat (5 * k))), (2, .ref 54), (1, .ref 0), (0, .retAddr 0)], [.int (Int32.ofNat (5 * k) + 1), .retAddr 0, .ref 0]), yhp w G sz)) 4 rfl ?_
  refine zesc (n := 5 * k + 1) rfl rfl (li (c := 1) (by omega)) (by omega) ?_
  refine zeN (q := ((466, [(3, .int (Int32.ofNat (5 * k))), (2, .ref 54), (1, .ref 0), (0, .retAddr 0)], [.int (Int32.ofNat (5 * k) + 2), .retAddr 0, .int (xs (5 * k + 1)), .ref 0]), yhp w G sz)) 4 rfl ?_
  refine zesc (n := 5 * k + 2) rfl rfl (li (c := 2) (by omega)) (by omega) ?_
  refine zec 1 (M' := M_ST_measure) (qq := ([.ref 0, .int (xs (5 * k + 1)), .int (xs (5 * k + 2))], [])) (s' := (470, [(3, .int (Int32.ofNat (5 * k))), (2, .ref 54), (1, .ref 0), (0, .retAddr 0)], [.int v])) rfl rfl (fun _ => rfl) rfl rfl (zhk rfl (zrc_ok (yhp_o rfl)) rfl) t1 rfl ?_
  refine zeN (q := ((471, [(3, .int (Int32.ofNat (5 * k))), (2, .ref 54), (1, .ref 0), (0, .retAddr 0)], [.ref 54, .int v]), yhp w1 G1 s1)) 1 rfl ?_
  refine zeN (q := ((475, [(3, .int (Int32.ofNat (5 * k))), (2, .ref 54), (1, .ref 0), (0, .retAddr 0)], [.int (Int32.ofNat (5 * k) + 1), .retAddr 0, .ref 54, .int v]), yhp w1 G1 s1)) 4 rfl ?_
  refine zesc (n := 5 * k + 1) rfl rfl (li (c := 1) (by omega)) (by omega) ?_
  refine zeN (q := ((480, [(3, .int (Int32.ofNat (5 * k))), (2, .ref 54), (1, .ref 0), (0, .retAddr 0)], [.int (Int32.ofNat (5 * k) + 2), .retAddr 0, .int (xs (5 * k + 1)), .ref 54, .int v]), yhp w1 G1 s1)) 4 rfl ?_
  refine zesc (n := 5 * k + 2) rfl rfl (li (c := 2) (by omega)) (by omega) ?_
  refine zec 1 (M' := M_Mo_measure) (qq := ([.ref 54, .int (xs (5 * k + 1)), .int (xs (5 * k + 2))], [.int v])) (s' := (484, [(3, .int (Int32.ofNat (5 * k))), (2, .ref 54), (1, .ref 0), (0, .retAddr 0)], [.int v, .int v])) rfl rfl (fun _ => rfl) rfl rfl (zhk rfl (zrc_ok (yhp_o rfl)) rfl) t2 rfl ?_
  refine zeb2 (q := (636, [(3, .int (Int32.ofNat (5 * k))), (2, .ref 54), (1, .ref 0), (0, .retAddr 0)], [])) (cB := zc .eq v v) (v := true) (off := 152) (lv := [(3, .int (Int32.ofNat (5 * k))), (2, .ref 54), (1, .ref 0), (0, .retAddr 0)]) (st := []) rfl rfl rfl (decide_eq_true rfl) rfl ?_
  refine zeN (q := ((18, [(3, .int (Int32.ofNat (5 * k) + Int32.ofInt 5)), (2, .ref 54), (1, .ref 0), (0, .retAddr 0)], []), yhp w2 G1 s1)) 2 rfl ?_
  rw [show Int32.ofNat (5 * k) + Int32.ofInt 5 = Int32.ofNat (5 * (k + 1)) from mk_add (5 * k) 5]
  exact kr
set_option maxRecDepth 100000 in
theorem law_11 {k : Nat} {w : yW} {G : List zC} {sz : Nat} (hL : 5 * k + 4 < L) (hL2 : L < 2147483648) (T : zTn 78 141 [.int (xs (5 * k + 1)), .int (xs (5 * k + 2))] w G sz) (kk : ∀ w2 G1 s1, INV w2 G1 → G1.length ≤ G.length + 4 → s1 ≤ sz + 20 → zFi L xs (18, [(3, .int (Int32.ofNat (5 * (k + 1)))), (2, .ref 54), (1, .ref 0), (0, .retAddr 0)], []) (yhp w2 G1 s1)) : zFi L xs (32, [(3, .int (Int32.ofNat (5 * k))), (2, .ref 54), (1, .ref 0), (0, .retAddr 0)], [.int (Int32.ofNat 11)]) (yhp w G sz) := by
  obtain ⟨v, w1, G1, s1, w2, t1, t2, t3, t4, t5⟩ := T
  refine zFi_of (fun r kr => ?_) (kk w2 G1 s1 t3 t4 t5)
  refine zeN (q := ((490, [(3, .int (Int32.ofNat (5 * k))), (2, .ref 54), (1, .ref 0), (0, .retAddr 0)], [.ref 0]), yhp w G sz)) 2 rfl ?_
  refine zeN (q := ((494, [(3, .int (Int32.ofNat (5 * k))), (2, .ref 54), (1, .ref 0), (0, .retAddr 0)], [.int (Int32.ofNat (5 * k) + 1), .retAddr 0, .ref 0]), yhp w G sz)) 4 rfl ?_
  refine zesc (n := 5 * k + 1) rfl rfl (li (c := 1) (by omega)) (by omega) ?_
  refine zeN (q := ((499, [(3, .int (Int32.ofNat (5 * k))), (2, .ref 54), (1, .ref 0), (0, .retAddr 0)], [.int (Int32.ofNat (5 * k) + 2), .retAddr 0, .int (xs (5 * k + 1)), .ref 0]), yhp w G sz)) 4 rfl ?_
  refine zesc (n := 5 * k + 2) rfl rfl (li (c := 2) (by omega)) (by omega) ?_
  refine zec 1 (M' := M_ST_value) (qq := ([.ref 0, .int (xs (5 * k + 1)), .int (xs (5 * k + 2))], [])) (s' := (503, [(3, .int (Int32.ofNat (5 * k))), (2, .ref 54), (1, .ref 0), (0, .retAddr 0)], [.int v])) rfl rfl (fun _ => rfl) rfl rfl (zhk rfl (zrc_ok (yhp_o rfl)) rfl) t1 rfl ?_
  refine zeN (q := ((504, [(3, .int (Int32.ofNat (5 * k))), (2, .ref 54), (1, .ref 0), (0, .retAddr 0)], [.ref 54, .int v]), yhp w1 G1 s1)) 1 rfl ?_
  refine zeN (q := ((508, [(3, .int (Int32.ofNat (5 * k))), (2, .ref 54), (1, .ref 0), (0, .retAddr 0)], [.int (Int32.ofNat (5 * k) + 1), .retAddr 0, .ref 54, .int v]), yhp w1 G1 s1)) 4 rfl ?_
  refine zesc (n := 5 * k + 1) rfl rfl (li (c := 1) (by omega)) (by omega) ?_
  refine zeN (q := ((513, [(3, .int (Int32.ofNat (5 * k))), (2, .ref 54), (1, .ref 0), (0, .retAddr 0)], [.int (Int32.ofNat (5 * k) + 2), .retAddr 0, .int (xs (5 * k + 1)), .ref 54, .int v]), yhp w1 G1 s1)) 4 rfl ?_
  refine zesc (n := 5 * k + 2) rfl rfl (li (c := 2) (by omega)) (by omega) ?_
  refine zec 1 (M' := M_Mo_value) (qq := ([.ref 54, .int (xs (5 * k + 1)), .int (xs (5 * k + 2))], [.int v])) (s' := (517, [(3, .int (Int32.ofNat (5 * k))), (2, .ref 54), (1, .ref 0), (0, .retAddr 0)], [.int v, .int v])) rfl rfl (fun _ => rfl) rfl rfl (zhk rfl (zrc_ok (yhp_o rfl)) rfl) t2 rfl ?_
  refine zeb2 (q := (636, [(3, .int (Int32.ofNat (5 * k))), (2, .ref 54), (1, .ref 0), (0, .retAddr 0)], [])) (cB := zc .eq v v) (v := true) (off := 119) (lv := [(3, .int (Int32.ofNat (5 * k))), (2, .ref 54), (1, .ref 0), (0, .retAddr 0)]) (st := []) rfl rfl rfl (decide_eq_true rfl) rfl ?_
  refine zeN (q := ((18, [(3, .int (Int32.ofNat (5 * k) + Int32.ofInt 5)), (2, .ref 54), (1, .ref 0), (0, .retAddr 0)], []), yhp w2 G1 s1)) 2 rfl ?_
  rw [show Int32.ofNat (5 * k) + Int32.ofInt 5 = Int32.ofNat (5 * (k + 1)) from mk_add (5 * k) 5]
  exact kr
set_option maxRecDepth 100000 in
theorem law_12 {k : Nat} {w : yW} {G : List zC} {sz : Nat} (hL : 5 * k + 4 < L) (hL2 : L < 2147483648) (T : zTn 79 142 [.int (xs (5 * k + 1))] w G sz) (kk : ∀ w2 G1 s1, INV w2 G1 → G1.length ≤ G.length + 4 → s1 ≤ sz + 20 → zFi L xs (18, [(3, .int (Int32.ofNat (5 * (k + 1)))), (2, .ref 54), (1, .ref 0), (0, .retAddr 0)], []) (yhp w2 G1 s1)) : zFi L xs (32, [(3, .int (Int32.ofNat (5 * k))), (2, .ref 54), (1, .ref 0), (0, .retAddr 0)], [.int (Int32.ofNat 12)]) (yhp w G sz) := by
  obtain ⟨v, w1, G1, s1, w2, t1, t2, t3, t4, t5⟩ := T
  refine zFi_of (fun r kr => ?_) (kk w2 G1 s1 t3 t4 t5)
  refine zeN (q := ((523, [(3, .int (Int32.ofNat (5 * k))), (2, .ref 54), (1, .ref 0), (0, .retAddr 0)], [.ref 0]), yhp w G sz)) 2 rfl ?_
  refine zeN (q := ((527, [(3, .int (Int32.ofNat (5 * k))), (2, .ref 54), (1, .ref 0), (0, .retAddr 0)], [.int (Int32.ofNat (5 * k) + 1), .retAddr 0, .ref 0]), yhp w G sz)) 4 rfl ?_
  refine zesc (n := 5 * k + 1) rfl rfl (li (c := 1) (by omega)) (by omega) ?_
  refine zec 1 (M' := M_ST_rows) (qq := ([.ref 0, .int (xs (5 * k + 1))], [])) (s' := (531, [(3, .int (Int32.ofNat (5 * k))), (2, .ref 54), (1, .ref 0), (0, .retAddr 0)], [.int v])) rfl rfl (fun _ => rfl) rfl rfl (zhk rfl (zrc_ok (yhp_o rfl)) rfl) t1 rfl ?_
  refine zeN (q := ((532, [(3, .int (Int32.ofNat (5 * k))), (2, .ref 54), (1, .ref 0), (0, .retAddr 0)], [.ref 54, .int v]), yhp w1 G1 s1)) 1 rfl ?_
  refine zeN (q := ((536, [(3, .int (Int32.ofNat (5 * k))), (2, .ref 54), (1, .ref 0), (0, .retAddr 0)], [.int (Int32.ofNat (5 * k) + 1), .retAddr 0, .ref 54, .int v]), yhp w1 G1 s1)) 4 rfl ?_
  refine zesc (n := 5 * k + 1) rfl rfl (li (c := 1) (by omega)) (by omega) ?_
  refine zec 1 (M' := M_Mo_rows) (qq := ([.ref 54, .int (xs (5 * k + 1))], [.int v])) (s' := (540, [(3, .int (Int32.ofNat (5 * k))), (2, .ref 54), (1, .ref 0), (0, .retAddr 0)], [.int v, .int v])) rfl rfl (fun _ => rfl) rfl rfl (zhk rfl (zrc_ok (yhp_o rfl)) rfl) t2 rfl ?_
  refine zeb2 (q := (636, [(3, .int (Int32.ofNat (5 * k))), (2, .ref 54), (1, .ref 0), (0, .retAddr 0)], [])) (cB := zc .eq v v) (v := true) (off := 96) (lv := [(3, .int (Int32.ofNat (5 * k))), (2, .ref 54), (1, .ref 0), (0, .retAddr 0)]) (st := []) rfl rfl rfl (decide_eq_true rfl) rfl ?_
  refine zeN (q := ((18, [(3, .int (Int32.ofNat (5 * k) + Int32.ofInt 5)), (2, .ref 54), (1, .ref 0), (0, .retAddr 0)], []), yhp w2 G1 s1)) 2 rfl ?_
  rw [show Int32.ofNat (5 * k) + Int32.ofInt 5 = Int32.ofNat (5 * (k + 1)) from mk_add (5 * k) 5]
  exact kr
set_option maxRecDepth 100000 in
theorem law_13 {k : Nat} {w : yW} {G : List zC} {sz : Nat} (hL : 5 * k + 4 < L) (hL2 : L < 2147483648) (T : zTn 80 143 [.int (xs (5 * k + 1))] w G sz) (kk : ∀ w2 G1 s1, INV w2 G1 → G1.length ≤ G.length + 4 → s1 ≤ sz + 20 → zFi L xs (18, [(3, .int (Int32.ofNat (5 * (k + 1)))), (2, .ref 54), (1, .ref 0), (0, .retAddr 0)], []) (yhp w2 G1 s1)) : zFi L xs (32, [(3, .int (Int32.ofNat (5 * k))), (2, .ref 54), (1, .ref 0), (0, .retAddr 0)], [.int (Int32.ofNat 13)]) (yhp w G sz) := by
  obtain ⟨v, w1, G1, s1, w2, t1, t2, t3, t4, t5⟩ := T
  refine zFi_of (fun r kr => ?_) (kk w2 G1 s1 t3 t4 t5)
  refine zeN (q := ((546, [(3, .int (Int32.ofNat (5 * k))), (2, .ref 54), (1, .ref 0), (0, .retAddr 0)], [.ref 0]), yhp w G sz)) 2 rfl ?_
  refine zeN (q := ((550, [(3, .int (Int32.ofNat (5 * k))), (2, .ref 54), (1, .ref 0), (0, .retAddr 0)], [.int (Int32.ofNat (5 * k) + 1), .retAddr 0, .ref 0]), yhp w G sz)) 4 rfl ?_
  refine zesc (n := 5 * k + 1) rfl rfl (li (c := 1) (by omega)) (by omega) ?_
  refine zec 1 (M' := M_ST_nodes) (qq := ([.ref 0, .int (xs (5 * k + 1))], [])) (s' := (554, [(3, .int (Int32.ofNat (5 * k))), (2, .ref 54), (1, .ref 0), (0, .retAddr 0)], [.int v])) rfl rfl (fun _ => rfl) rfl rfl (zhk rfl (zrc_ok (yhp_o rfl)) rfl) t1 rfl ?_
  refine zeN (q := ((555, [(3, .int (Int32.ofNat (5 * k))), (2, .ref 54), (1, .ref 0), (0, .retAddr 0)], [.ref 54, .int v]), yhp w1 G1 s1)) 1 rfl ?_
  refine zeN (q := ((559, [(3, .int (Int32.ofNat (5 * k))), (2, .ref 54), (1, .ref 0), (0, .retAddr 0)], [.int (Int32.ofNat (5 * k) + 1), .retAddr 0, .ref 54, .int v]), yhp w1 G1 s1)) 4 rfl ?_
  refine zesc (n := 5 * k + 1) rfl rfl (li (c := 1) (by omega)) (by omega) ?_
  refine zec 1 (M' := M_Mo_nodes) (qq := ([.ref 54, .int (xs (5 * k + 1))], [.int v])) (s' := (563, [(3, .int (Int32.ofNat (5 * k))), (2, .ref 54), (1, .ref 0), (0, .retAddr 0)], [.int v, .int v])) rfl rfl (fun _ => rfl) rfl rfl (zhk rfl (zrc_ok (yhp_o rfl)) rfl) t2 rfl ?_
  refine zeb2 (q := (636, [(3, .int (Int32.ofNat (5 * k))), (2, .ref 54), (1, .ref 0), (0, .retAddr 0)], [])) (cB := zc .eq v v) (v := true) (off := 73) (lv := [(3, .int (Int32.ofNat (5 * k))), (2, .ref 54), (1, .ref 0), (0, .retAddr 0)]) (st := []) rfl rfl rfl (decide_eq_true rfl) rfl ?_
  refine zeN (q := ((18, [(3, .int (Int32.ofNat (5 * k) + Int32.ofInt 5)), (2, .ref 54), (1, .ref 0), (0, .retAddr 0)], []), yhp w2 G1 s1)) 2 rfl ?_
  rw [show Int32.ofNat (5 * k) + Int32.ofInt 5 = Int32.ofNat (5 * (k + 1)) from mk_add (5 * k) 5]
  exact kr
set_option maxRecDepth 100000 in
theorem law_14 {k : Nat} {w : yW} {G : List zC} {sz : Nat} (hL : 5 * k + 4 < L) (hL2 : L < 2147483648) (T : zTn 81 144 [.int (xs (5 * k + 1))] w G sz) (kk : ∀ w2 G1 s1, INV w2 G1 → G1.length ≤ G.length + 4 → s1 ≤ sz + 20 → zFi L xs (18, [(3, .int (Int32.ofNat (5 * (k + 1)))), (2, .ref 54), (1, .ref 0), (0, .retAddr 0)], []) (yhp w2 G1 s1)) : zFi L xs (32, [(3, .int (Int32.ofNat (5 * k))), (2, .ref 54), (1, .ref 0), (0, .retAddr 0)], [.int (Int32.ofNat 14)]) (yhp w G sz) := by
  obtain ⟨v, w1, G1, s1, w2, t1, t2, t3, t4, t5⟩ := T
  refine zFi_of (fun r kr => ?_) (kk w2 G1 s1 t3 t4 t5)
  refine zeN (q := ((569, [(3, .int (Int32.ofNat (5 * k))), (2, .ref 54), (1, .ref 0), (0, .retAddr 0)], [.ref 0]), yhp w G sz)) 2 rfl ?_
  refine zeN (q := ((573, [(3, .int (Int32.ofNat (5 * k))), (2, .ref 54), (1, .ref 0), (0, .retAddr 0)], [.int (Int32.ofNat (5 * k) + 1), .retAddr 0, .ref 0]), yhp w G sz)) 4 rfl ?_
  refine zesc (n := 5 * k + 1) rfl rfl (li (c := 1) (by omega)) (by omega) ?_
  refine zec 1 (M' := M_ST_commit) (qq := ([.ref 0, .int (xs (5 * k + 1))], [])) (s' := (577, [(3, .int (Int32.ofNat (5 * k))), (2, .ref 54), (1, .ref 0), (0, .retAddr 0)], [.int v])) rfl rfl (fun _ => rfl) rfl rfl (zhk rfl (zrc_ok (yhp_o rfl)) rfl) t1 rfl ?_
  refine zeN (q := ((578, [(3, .int (Int32.ofNat (5 * k))), (2, .ref 54), (1, .ref 0), (0, .retAddr 0)], [.ref 54, .int v]), yhp w1 G1 s1)) 1 rfl ?_
  refine zeN (q := ((582, [(3, .int (Int32.ofNat (5 * k))), (2, .ref 54), (1, .ref 0), (0, .retAddr 0)], [.int (Int32.ofNat (5 * k) + 1), .retAddr 0, .ref 54, .int v]), yhp w1 G1 s1)) 4 rfl ?_
  refine zesc (n := 5 * k + 1) rfl rfl (li (c := 1) (by omega)) (by omega) ?_
  refine zec 1 (M' := M_Mo_commit) (qq := ([.ref 54, .int (xs (5 * k + 1))], [.int v])) (s' := (586, [(3, .int (Int32.ofNat (5 * k))), (2, .ref 54), (1, .ref 0), (0, .retAddr 0)], [.int v, .int v])) rfl rfl (fun _ => rfl) rfl rfl (zhk rfl (zrc_ok (yhp_o rfl)) rfl) t2 rfl ?_
  refine zeb2 (q := (636, [(3, .int (Int32.ofNat (5 * k))), (2, .ref 54), (1, .ref 0), (0, .retAddr 0)], [])) (cB := zc .eq v v) (v := true) (off := 50) (lv := [(3, .int (Int32.ofNat (5 * k))), (2, .ref 54), (1, .ref 0), (0, .retAddr 0)]) (st := []) rfl rfl rfl (decide_eq_true rfl) rfl ?_
  refine zeN (q := ((18, [(3, .int (Int32.ofNat (5 * k) + Int32.ofInt 5)), (2, .ref 54), (1, .ref 0), (0, .retAddr 0)], []), yhp w2 G1 s1)) 2 rfl ?_
  rw [show Int32.ofNat (5 * k) + Int32.ofInt 5 = Int32.ofNat (5 * (k + 1)) from mk_add (5 * k) 5]
  exact kr
set_option maxRecDepth 100000 in
theorem law_15 {k : Nat} {w : yW} {G : List zC} {sz : Nat} (T : zTv 94 151 w G sz) (kk : ∀ w2, INV w2 G → zFi L xs (18, [(3, .int (Int32.ofNat (5 * (k + 1)))), (2, .ref 54), (1, .ref 0), (0, .retAddr 0)], []) (yhp w2 G sz)) : zFi L xs (32, [(3, .int (Int32.ofNat (5 * k))), (2, .ref 54), (1, .ref 0), (0, .retAddr 0)], [.int (Int32.ofNat 15)]) (yhp w G sz) := by
  obtain ⟨w1, w2, t1, t2, t3⟩ := T
  refine zFi_of (fun r kr => ?_) (kk w2 t3)
  refine zeN (q := ((592, [(3, .int (Int32.ofNat (5 * k))), (2, .ref 54), (1, .ref 0), (0, .retAddr 0)], [.ref 0]), yhp w G sz)) 2 rfl ?_
  refine zec 1 (M' := M_ST_rollback) (qq := ([.ref 0], [])) (s' := (595, [(3, .int (Int32.ofNat (5 * k))), (2, .ref 54), (1, .ref 0), (0, .retAddr 0)], [])) rfl rfl (fun _ => rfl) rfl rfl (zhk rfl (zrc_ok (yhp_o rfl)) rfl) t1 rfl ?_
  refine zeN (q := ((596, [(3, .int (Int32.ofNat (5 * k))), (2, .ref 54), (1, .ref 0), (0, .retAddr 0)], [.ref 54]), yhp w1 G sz)) 1 rfl ?_
  refine zec 1 (M' := M_Mo_rollback) (qq := ([.ref 54], [])) (s' := (599, [(3, .int (Int32.ofNat (5 * k))), (2, .ref 54), (1, .ref 0), (0, .retAddr 0)], [])) rfl rfl (fun _ => rfl) rfl rfl (zhk rfl (zrc_ok (yhp_o rfl)) rfl) t2 rfl ?_
  refine zeN (q := ((18, [(3, .int (Int32.ofNat (5 * k) + Int32.ofInt 5)), (2, .ref 54), (1, .ref 0), (0, .retAddr 0)], []), yhp w2 G sz)) 3 rfl ?_
  rw [show Int32.ofNat (5 * k) + Int32.ofInt 5 = Int32.ofNat (5 * (k + 1)) from mk_add (5 * k) 5]
  exact kr
set_option maxRecDepth 100000 in
theorem law_16 {k : Nat} {w : yW} {G : List zC} {sz : Nat} (T : zTv 93 150 w G sz) (kk : ∀ w2, INV w2 G → zFi L xs (18, [(3, .int (Int32.ofNat (5 * (k + 1)))), (2, .ref 54), (1, .ref 0), (0, .retAddr 0)], []) (yhp w2 G sz)) : zFi L xs (32, [(3, .int (Int32.ofNat (5 * k))), (2, .ref 54), (1, .ref 0), (0, .retAddr 0)], [.int (Int32.ofNat 16)]) (yhp w G sz) := by
  obtain ⟨w1, w2, t1, t2, t3⟩ := T
  refine zFi_of (fun r kr => ?_) (kk w2 t3)
  refine zeN (q := ((603, [(3, .int (Int32.ofNat (5 * k))), (2, .ref 54), (1, .ref 0), (0, .retAddr 0)], [.ref 0]), yhp w G sz)) 2 rfl ?_
  refine zec 1 (M' := M_ST_crash) (qq := ([.ref 0], [])) (s' := (606, [(3, .int (Int32.ofNat (5 * k))), (2, .ref 54), (1, .ref 0), (0, .retAddr 0)], [])) rfl rfl (fun _ => rfl) rfl rfl (zhk rfl (zrc_ok (yhp_o rfl)) rfl) t1 rfl ?_
  refine zeN (q := ((607, [(3, .int (Int32.ofNat (5 * k))), (2, .ref 54), (1, .ref 0), (0, .retAddr 0)], [.ref 54]), yhp w1 G sz)) 1 rfl ?_
  refine zec 1 (M' := M_Mo_crash) (qq := ([.ref 54], [])) (s' := (610, [(3, .int (Int32.ofNat (5 * k))), (2, .ref 54), (1, .ref 0), (0, .retAddr 0)], [])) rfl rfl (fun _ => rfl) rfl rfl (zhk rfl (zrc_ok (yhp_o rfl)) rfl) t2 rfl ?_
  refine zeN (q := ((18, [(3, .int (Int32.ofNat (5 * k) + Int32.ofInt 5)), (2, .ref 54), (1, .ref 0), (0, .retAddr 0)], []), yhp w2 G sz)) 3 rfl ?_
  rw [show Int32.ofNat (5 * k) + Int32.ofInt 5 = Int32.ofNat (5 * (k + 1)) from mk_add (5 * k) 5]
  exact kr
set_option maxRecDepth 100000 in
theorem law_17 {k : Nat} {w : yW} {G : List zC} {sz : Nat} (hL : 5 * k + 4 < L) (hL2 : L < 2147483648) (T : zTn 95 153 [.int (xs (5 * k + 1))] w G sz) (kk : ∀ w2 G1 s1, INV w2 G1 → G1.length ≤ G.length + 4 → s1 ≤ sz + 20 → zFi L xs (18, [(3, .int (Int32.ofNat (5 * (k + 1)))), (2, .ref 54), (1, .ref 0), (0, .retAddr 0)], []) (yhp w2 G1 s1)) : zFi L xs (32, [(3, .int (Int32.ofNat (5 * k))), (2, .ref 54), (1, .ref 0), (0, .retAddr 0)], [.int (Int32.ofNat 17)]) (yhp w G sz) := by
  obtain ⟨v, w1, G1, s1, w2, t1, t2, t3, t4, t5⟩ := T
  refine zFi_of (fun r kr => ?_) (kk w2 G1 s1 t3 t4 t5)
  refine zeN (q := ((614, [(3, .int (Int32.ofNat (5 * k))), (2, .ref 54), (1, .ref 0), (0, .retAddr 0)], [.ref 0]), yhp w G sz)) 2 rfl ?_
  refine zeN (q := ((618, [(3, .int (Int32.ofNat (5 * k))), (2, .ref 54), (1, .ref 0), (0, .retAddr 0)], [.int (Int32.ofNat (5 * k) + 1), .retAddr 0, .ref 0]), yhp w G sz)) 4 rfl ?_
  refine zesc (n := 5 * k + 1) rfl rfl (li (c := 1) (by omega)) (by omega) ?_
  refine zec 1 (M' := M_ST_frame) (qq := ([.ref 0, .int (xs (5 * k + 1))], [])) (s' := (622, [(3, .int (Int32.ofNat (5 * k))), (2, .ref 54), (1, .ref 0), (0, .retAddr 0)], [.int v])) rfl rfl (fun _ => rfl) rfl rfl (zhk rfl (zrc_ok (yhp_o rfl)) rfl) t1 rfl ?_
  refine zeN (q := ((623, [(3, .int (Int32.ofNat (5 * k))), (2, .ref 54), (1, .ref 0), (0, .retAddr 0)], [.ref 54, .int v]), yhp w1 G1 s1)) 1 rfl ?_
  refine zeN (q := ((627, [(3, .int (Int32.ofNat (5 * k))), (2, .ref 54), (1, .ref 0), (0, .retAddr 0)], [.int (Int32.ofNat (5 * k) + 1), .retAddr 0, .ref 54, .int v]), yhp w1 G1 s1)) 4 rfl ?_
  refine zesc (n := 5 * k + 1) rfl rfl (li (c := 1) (by omega)) (by omega) ?_
  refine zec 1 (M' := M_Mo_frame) (qq := ([.ref 54, .int (xs (5 * k + 1))], [.int v])) (s' := (631, [(3, .int (Int32.ofNat (5 * k))), (2, .ref 54), (1, .ref 0), (0, .retAddr 0)], [.int v, .int v])) rfl rfl (fun _ => rfl) rfl rfl (zhk rfl (zrc_ok (yhp_o rfl)) rfl) t2 rfl ?_
  refine zeb2 (q := (636, [(3, .int (Int32.ofNat (5 * k))), (2, .ref 54), (1, .ref 0), (0, .retAddr 0)], [])) (cB := zc .eq v v) (v := true) (off := 5) (lv := [(3, .int (Int32.ofNat (5 * k))), (2, .ref 54), (1, .ref 0), (0, .retAddr 0)]) (st := []) rfl rfl rfl (decide_eq_true rfl) rfl ?_
  refine zeN (q := ((18, [(3, .int (Int32.ofNat (5 * k) + Int32.ofInt 5)), (2, .ref 54), (1, .ref 0), (0, .retAddr 0)], []), yhp w2 G1 s1)) 2 rfl ?_
  rw [show Int32.ofNat (5 * k) + Int32.ofInt 5 = Int32.ofNat (5 * (k + 1)) from mk_add (5 * k) 5]
  exact kr
set_option maxRecDepth 100000 in
theorem law_other {k c : Nat} {h : zH} (h1 : 18 ≤ c) (h2 : c < 32) (kk : zFi L xs (18, [(3, .int (Int32.ofNat (5 * (k + 1)))), (2, .ref 54), (1, .ref 0), (0, .retAddr 0)], []) h) : zFi L xs (32, [(3, .int (Int32.ofNat (5 * k))), (2, .ref 54), (1, .ref 0), (0, .retAddr 0)], [.int (Int32.ofNat c)]) h := by
  refine zFi_of (fun r kr => ?_) kk
  have kr2 : zRun 9 420 (some (L, xs)) M_law (18, [(3, .int (Int32.ofNat (5 * k) + Int32.ofInt 5)), (2, .ref 54), (1, .ref 0), (0, .retAddr 0)], []) h r := by
    rw [show Int32.ofNat (5 * k) + Int32.ofInt 5 = Int32.ofNat (5 * (k + 1)) from mk_add (5 * k) 5]
    exact kr
  match c, h1, h2 with
  | 18, _, _ => exact zeN (q := ((18, [(3, .int (Int32.ofNat (5 * k) + Int32.ofInt 5)), (2, .ref 54), (1, .ref 0), (0, .retAddr 0)], []), h)) 3 rfl kr2
  | 19, _, _ => exact zeN (q := ((18, [(3, .int (Int32.ofNat (5 * k) + Int32.ofInt 5)), (2, .ref 54), (1, .ref 0), (0, .retAddr 0)], []), h)) 3 rfl kr2
  | 20, _, _ => exact zeN (q := ((18, [(3, .int (Int32.ofNat (5 * k) + Int32.ofInt 5)), (2, .ref 54), (1, .ref 0), (0, .retAddr 0)], []), h)) 3 rfl kr2
  | 21, _, _ => exact zeN (q := ((18, [(3, .int (Int32.ofNat (5 * k) + Int32.ofInt 5)), (2, .ref 54), (1, .ref 0), (0, .retAddr 0)], []), h)) 3 rfl kr2
  | 22, _, _ => exact zeN (q := ((18, [(3, .int (Int32.ofNat (5 * k) + Int32.ofInt 5)), (2, .ref 54), (1, .ref 0), (0, .retAddr 0)], []), h)) 3 rfl kr2
  | 23, _, _ => exact zeN (q := ((18, [(3, .int (Int32.ofNat (5 * k) + Int32.ofInt 5)), (2, .ref 54), (1, .ref 0), (0, .retAddr 0)], []), h)) 3 rfl kr2
  | 24, _, _ => exact zeN (q := ((18, [(3, .int (Int32.ofNat (5 * k) + Int32.ofInt 5)), (2, .ref 54), (1, .ref 0), (0, .retAddr 0)], []), h)) 3 rfl kr2
  | 25, _, _ => exact zeN (q := ((18, [(3, .int (Int32.ofNat (5 * k) + Int32.ofInt 5)), (2, .ref 54), (1, .ref 0), (0, .retAddr 0)], []), h)) 3 rfl kr2
  | 26, _, _ => exact zeN (q := ((18, [(3, .int (Int32.ofNat (5 * k) + Int32.ofInt 5)), (2, .ref 54), (1, .ref 0), (0, .retAddr 0)], []), h)) 3 rfl kr2
  | 27, _, _ => exact zeN (q := ((18, [(3, .int (Int32.ofNat (5 * k) + Int32.ofInt 5)), (2, .ref 54), (1, .ref 0), (0, .retAddr 0)], []), h)) 3 rfl kr2
  | 28, _, _ => exact zeN (q := ((18, [(3, .int (Int32.ofNat (5 * k) + Int32.ofInt 5)), (2, .ref 54), (1, .ref 0), (0, .retAddr 0)], []), h)) 3 rfl kr2
  | 29, _, _ => exact zeN (q := ((18, [(3, .int (Int32.ofNat (5 * k) + Int32.ofInt 5)), (2, .ref 54), (1, .ref 0), (0, .retAddr 0)], []), h)) 3 rfl kr2
  | 30, _, _ => exact zeN (q := ((18, [(3, .int (Int32.ofNat (5 * k) + Int32.ofInt 5)), (2, .ref 54), (1, .ref 0), (0, .retAddr 0)], []), h)) 3 rfl kr2
  | 31, _, _ => exact zeN (q := ((18, [(3, .int (Int32.ofNat (5 * k) + Int32.ofInt 5)), (2, .ref 54), (1, .ref 0), (0, .retAddr 0)], []), h)) 3 rfl kr2
  | n + 32, _, h3 => exact absurd h3 (by omega)
set_option maxRecDepth 100000 in
theorem law_turn {k : Nat} {w : yW} {G : List zC} {sz : Nat} (h : INV w G) (hL : 5 * k + 4 < L) (hL2 : L < 2147483648) (kk : ∀ w2 G1 s1, INV w2 G1 → G1.length ≤ G.length + 4 → s1 ≤ sz + 20 → zFi L xs (18, [(3, .int (Int32.ofNat (5 * (k + 1)))), (2, .ref 54), (1, .ref 0), (0, .retAddr 0)], []) (yhp w2 G1 s1)) : zFi L xs (32, [(3, .int (Int32.ofNat (5 * k))), (2, .ref 54), (1, .ref 0), (0, .retAddr 0)], [.int (xs (5 * k) &&& 31)]) (yhp w G sz) := by
  obtain ⟨j, hj, e⟩ := pk_andE (xs (5 * k)) (m := 31) 5 (by decide)
  rw [e]
  have hj : j < 32 := hj
  have kv : ∀ w2, INV w2 G → zFi L xs (18, [(3, .int (Int32.ofNat (5 * (k + 1)))), (2, .ref 54), (1, .ref 0), (0, .retAddr 0)], []) (yhp w2 G sz) := fun w2 h2 => kk w2 G sz h2 (by omega) (by omega)
  by_cases h18 : 18 ≤ j
  · exact law_other h18 hj (kv w h)
  · match j, h18 with
    | 0, _ => exact law_0 hL hL2 (op_vertex h (xs (5 * k + 1)) (xs (5 * k + 2))) kk
    | 1, _ => exact law_1 hL hL2 (op_shape h (xs (5 * k + 1))) kk
    | 2, _ => exact law_2 hL hL2 (op_insert h (xs (5 * k + 1)) (xs (5 * k + 2))) kk
    | 3, _ => exact law_3 hL hL2 (op_delete h (xs (5 * k + 1)) (xs (5 * k + 2))) kk
    | 4, _ =>
      cases hz : zc .eq (xs (5 * k + 4)) 0 with
      | true => exact law_4z hz hL hL2 (op_update h (xs (5 * k + 1)) (xs (5 * k + 2)) (xs (5 * k + 3)) 0) kk
      | false => exact law_4n hz hL hL2 (op_update h (xs (5 * k + 1)) (xs (5 * k + 2)) (xs (5 * k + 3)) 1) kk
    | 5, _ => exact law_5 hL hL2 (op_select h (xs (5 * k + 1)) (xs (5 * k + 2)) (xs (5 * k + 3)) (xs (5 * k + 4))) kk
    | 6, _ => exact law_6 hL hL2 (op_nearest h (xs (5 * k + 1)) (xs (5 * k + 2))) kk
    | 7, _ => exact law_7 hL hL2 (op_join h (xs (5 * k + 1))) kk
    | 8, _ => exact law_8 hL hL2 (op_result h (xs (5 * k + 1))) kk
    | 9, _ => exact law_9 hL hL2 (op_reads h ) kk
    | 10, _ => exact law_10 hL hL2 (op_measure h (xs (5 * k + 1)) (xs (5 * k + 2))) kk
    | 11, _ => exact law_11 hL hL2 (op_value h (xs (5 * k + 1)) (xs (5 * k + 2))) kk
    | 12, _ => exact law_12 hL hL2 (op_rows h (xs (5 * k + 1))) kk
    | 13, _ => exact law_13 hL hL2 (op_nodes h (xs (5 * k + 1))) kk
    | 14, _ => exact law_14 hL hL2 (op_commit h (xs (5 * k + 1))) kk
    | 15, _ => exact law_15 (op_rollback h) kv
    | 16, _ => exact law_16 (op_crash h) kv
    | 17, _ => exact law_17 hL hL2 (op_frame h (xs (5 * k + 1))) kk
    | n + 18, h3 => exact absurd (Nat.le_add_left 18 n) h3
set_option maxRecDepth 100000 in
theorem law_L (hL2 : L ≤ 100000) : ∀ (n k : Nat) (w : yW) (G : List zC) (sz : Nat), L < 5 * (k + n) → INV w G → G.length ≤ 4 * k → sz ≤ 100000 + 20 * k → 5 * k ≤ L → zFi L xs (18, [(3, .int (Int32.ofNat (5 * k))), (2, .ref 54), (1, .ref 0), (0, .retAddr 0)], []) (yhp w G sz)
  | 0, k, w, G, sz, h1, _, _, _, h5 => by omega
  | n + 1, k, w, G, sz, h1, h2, h3, h4, h5 => by
    have hle : (Int32.ofNat L - 5).toInt = (L : Int) - 5 := by
      rw [z_sub (by rw [z_nat (by omega), show (5 : Int32).toInt = 5 from rfl]; omega) (by rw [z_nat (by omega), show (5 : Int32).toInt = 5 from rfl]; omega), z_nat (by omega)]
      rfl
    refine zFi_of (s' := (23, [(3, .int (Int32.ofNat (5 * k))), (2, .ref 54), (1, .ref 0), (0, .retAddr 0)], [.int (Int32.ofNat L - 5), .int (Int32.ofNat (5 * k))])) (h' := yhp w G sz) (fun r kr => zeN (q := ((23, [(3, .int (Int32.ofNat (5 * k))), (2, .ref 54), (1, .ref 0), (0, .retAddr 0)], [.int (Int32.ofNat L - 5), .int (Int32.ofNat (5 * k))]), yhp w G sz)) 5 rfl kr) ?_
    by_cases hk : 5 * k + 4 < L
    · refine zFi_of (s' := (26, [(3, .int (Int32.ofNat (5 * k))), (2, .ref 54), (1, .ref 0), (0, .retAddr 0)], [])) (h' := yhp w G sz) (fun r kr => zeb2 (q := (26, [(3, .int (Int32.ofNat (5 * k))), (2, .ref 54), (1, .ref 0), (0, .retAddr 0)], [])) (cB := zc .gt (Int32.ofNat (5 * k)) (Int32.ofNat L - 5)) (v := false) (off := 619) (lv := [(3, .int (Int32.ofNat (5 * k))), (2, .ref 54), (1, .ref 0), (0, .retAddr 0)]) (st := []) rfl rfl rfl (by
        rw [zc_gt, hle, z_nat (by omega)]
        exact decide_eq_false (by omega)) rfl kr) ?_
      refine zFi_of (s' := (32, [(3, .int (Int32.ofNat (5 * k))), (2, .ref 54), (1, .ref 0), (0, .retAddr 0)], [.int (xs (5 * k) &&& 31)])) (h' := yhp w G sz) (fun r kr => ?_) (law_turn h2 hk (by omega) (fun w2 G1 s1 i1 i2 i3 => law_L hL2 n (k + 1) w2 G1 s1 (by omega) i1 (by omega) (by omega) (by omega)))
      refine zeN (q := ((28, [(3, .int (Int32.ofNat (5 * k))), (2, .ref 54), (1, .ref 0), (0, .retAddr 0)], [.int (Int32.ofNat (5 * k)), .retAddr 0]), yhp w G sz)) 2 rfl ?_
      refine zesc (n := 5 * k) rfl rfl (z_nat (by omega)) (by omega) ?_
      exact zeN (q := ((32, [(3, .int (Int32.ofNat (5 * k))), (2, .ref 54), (1, .ref 0), (0, .retAddr 0)], [.int (xs (5 * k) &&& 31)]), yhp w G sz)) 2 rfl kr
    · refine zFi_of (s' := (642, [(3, .int (Int32.ofNat (5 * k))), (2, .ref 54), (1, .ref 0), (0, .retAddr 0)], [])) (h' := yhp w G sz) (fun r kr => zeb2 (q := (642, [(3, .int (Int32.ofNat (5 * k))), (2, .ref 54), (1, .ref 0), (0, .retAddr 0)], [])) (cB := zc .gt (Int32.ofNat (5 * k)) (Int32.ofNat L - 5)) (v := true) (off := 619) (lv := [(3, .int (Int32.ofNat (5 * k))), (2, .ref 54), (1, .ref 0), (0, .retAddr 0)]) (st := []) rfl rfl rfl (by
        rw [zc_gt, hle, z_nat (by omega)]
        exact decide_eq_true (by omega)) rfl kr) ?_
      refine ⟨yhp w G sz, zeN (q := ((643, [(3, .int (Int32.ofNat (5 * k))), (2, .ref 54), (1, .ref 0), (0, .retAddr 0)], [.int 1]), yhp w G sz)) 1 rfl (zer rfl rfl), ?_, ?_⟩
      · show (ypic w ++ G).length ≤ 600000
        rw [List.length_append, ypic_len]
        omega
      · show sz ≤ 7302250
        omega
end LAW
