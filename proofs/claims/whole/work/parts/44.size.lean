def e_Mo_copyRow (a b mv : Int32) (w : yW) : yW := e_Mo_copyShape a b mv (wI (wI w 55 b.toNatClampNeg ((w.1 55 a.toNatClampNeg) &&& 1)) 56 b.toNatClampNeg ((wI w 55 b.toNatClampNeg ((w.1 55 a.toNatClampNeg) &&& 1)).1 56 a.toNatClampNeg))
set_option maxRecDepth 100000 in
theorem r_Mo_copyRow {fr lo sz : Nat} {G : List zC} (a b mv : Int32) (w : yW) (ha : zIx a 65) (hb : zIx b 65) (hmv : w.1 58 a.toNatClampNeg = mv) (hv0 : 0 ≤ mv.toInt) (hv1 : mv.toInt ≤ 6) (hlo : 68 ≤ lo) : zAns (fr + 3) lo 152 [.ref 54, .int a, .int b] (yhp w G sz) (none, yhp (e_Mo_copyRow a b mv w) G sz) := by
  unfold e_Mo_copyRow
  refine zeb (fr := fr + 2) (M := M_Mo_copyRow) rfl (Nat.le_trans (by decide) hlo) rfl ?_
  have e0 : mL M_Mo_copyRow = 3 := rfl
  refine zeN (q := ((1, [(0, .ref 54), (1, .int a), (2, .int b)], [.ref 54]), yhp w G sz)) 1 rfl ?_
  refine ygf (kk := .inl (.ref 55)) (v := .ref 55) rfl rfl rfl rfl rfl rfl rfl ?_
  refine zeN (q := ((6, [(0, .ref 54), (1, .int a), (2, .int b)], [.ref 54, .int b, .ref 55]), yhp w G sz)) 2 rfl ?_
  refine ygf (kk := .inl (.ref 55)) (v := .ref 55) rfl rfl rfl rfl rfl rfl rfl ?_
  refine zeN (q := ((10, [(0, .ref 54), (1, .int a), (2, .int b)], [.int a, .ref 55, .int b, .ref 55]), yhp w G sz)) 1 rfl ?_
  refine yba (N := 65) rfl rfl rfl (by assumption) ?_
  refine ybs (N := 65) rfl rfl rfl (by assumption) ?_
  refine zeN (q := ((13, [(0, .ref 54), (1, .int a), (2, .int b)], [.ref 54]), yhp (wI w 55 b.toNatClampNeg ((w.1 55 a.toNatClampNeg) &&& 1)) G sz)) 1 rfl ?_
  refine ygf (kk := .inl (.ref 56)) (v := .ref 56) rfl rfl rfl rfl rfl rfl rfl ?_
  refine zeN (q := ((18, [(0, .ref 54), (1, .int a), (2, .int b)], [.ref 54, .int b, .ref 56]), yhp (wI w 55 b.toNatClampNeg ((w.1 55 a.toNatClampNeg) &&& 1)) G sz)) 2 rfl ?_
  refine ygf (kk := .inl (.ref 56)) (v := .ref 56) rfl rfl rfl rfl rfl rfl rfl ?_
  refine zeN (q := ((22, [(0, .ref 54), (1, .int a), (2, .int b)], [.int a, .ref 56, .int b, .ref 56]), yhp (wI w 55 b.toNatClampNeg ((w.1 55 a.toNatClampNeg) &&& 1)) G sz)) 1 rfl ?_
  refine yia (N := 65) rfl rfl rfl (by assumption) ?_
  refine yis (N := 65) rfl rfl rfl (by assumption) ?_
  refine zeN (q := ((27, [(0, .ref 54), (1, .int a), (2, .int b)], [.int b, .int a, .ref 54]), yhp (wI (wI w 55 b.toNatClampNeg ((w.1 55 a.toNatClampNeg) &&& 1)) 56 b.toNatClampNeg ((wI w 55 b.toNatClampNeg ((w.1 55 a.toNatClampNeg) &&& 1)).1 56 a.toNatClampNeg)) G sz)) 3 rfl ?_
  refine zec 1 (M' := M_Mo_copyShape) (qq := ([.ref 54, .int a, .int b], [])) (s' := (30, [(0, .ref 54), (1, .int a), (2, .int b)], [])) rfl rfl (fun _ => rfl) rfl rfl (zhk rfl (zrc_ok (yhp_o rfl)) rfl) (r_Mo_copyShape a b mv _ ha hb hmv hv0 hv1 (by omega)) rfl ?_
  exact zer rfl rfl
theorem z_16 {t : Int32} (h0 : 0 ≤ t.toInt) (h1 : t.toInt ≤ 1) : (16 * t).toInt = 16 * t.toInt := z_mul (by show _ ≤ (16 : Int) * t.toInt; omega) (by show (16 : Int) * t.toInt < _; omega)
theorem z_1616 {t : Int32} (h0 : 0 ≤ t.toInt) (h1 : t.toInt ≤ 1) : (16 * t + 16).toInt = 16 * t.toInt + 16 := by
  rw [z_add (by rw [z_16 h0 h1]; show _ ≤ _ + (16 : Int); omega) (by rw [z_16 h0 h1]; show _ + (16 : Int) < _; omega), z_16 h0 h1]
  rfl
def g_Mo_size_7 (t : Int32) : Nat → yW → Int32 → Int32 → yW × Int32
  | 0, w, c, q => (w, c)
  | n + 1, w, c, q => (bif zc .ge q ((16 * t) + 16) then (w, c) else (bif zc .eq (w.1 55 q.toNatClampNeg) 0 then g_Mo_size_7 t n w (c + 0) (q + Int32.ofInt 1) else g_Mo_size_7 t n w (c + 1) (q + Int32.ofInt 1)))
set_option maxRecDepth 100000 in
theorem t_Mo_size_7 {fr lo sz : Nat} {G : List zC} {r : Option Value × zH} (t : Int32) (ht0 : 0 ≤ t.toInt) (ht1 : t.toInt ≤ 1) (hlo : 0 ≤ lo) : ∀ (n : Nat) (w : yW) (c : Int32) (q : Int32) (h0 : 16 * t.toInt ≤ q.toInt) (h1 : q.toInt ≤ 16 * t.toInt + 16) (hn : 16 * t.toInt + 16 < q.toInt + n) (k : zRun (fr + 0) lo none M_Mo_size (41, [(0, .ref 54), (1, .int t), (2, .int ((g_Mo_size_7 t n w c q).2))], []) (yhp (g_Mo_size_7 t n w c q).1 G sz) r), zRun (fr + 0) lo none M_Mo_size (7, [(0, .ref 54), (1, .int t), (2, .int c), (3, .int q)], []) (yhp w G sz) r := by
  intro n
  induction n with
  | zero => intro w c q h0 h1 hn k; exfalso; omega
  | succ n ih =>
    intro w c q h0 h1 hn k
    rw [g_Mo_size_7] at k
    refine zeN (q := ((15, [(0, .ref 54), (1, .int t), (2, .int c), (3, .int q)], [.int ((16 * t) + 16), .int q]), yhp w G sz)) 6 rfl ?_
    refine zbc (q1 := (41, [(0, .ref 54), (1, .int t), (2, .int c), (3, .int q)], [])) (q2 := (18, [(0, .ref 54), (1, .int t), (2, .int c), (3, .int q)], [])) (cB := zc .ge q ((16 * t) + 16)) (off := 26) (lv := [(0, .ref 54), (1, .int t), (2, .int c), (3, .int q)]) (st := []) rfl rfl rfl rfl rfl (fun c15 => ?_) (fun c15 => ?_)
    · rw [c15] at k
      refine zeS [(0, .ref 54), (1, .int t), (2, .int c)] (zsub_pick [0, 1, 2] rfl rfl) ?_
      exact k
    · rw [c15] at k
      have hcc := of_decide_eq_false (z_ge c15).symm
      rw [z_1616 ht0 ht1] at hcc
      have hr : zIx q 65 := ⟨by omega, by omega⟩
      have hr1 := z_inc (a := q) (by omega) (by omega)
      refine zeN (q := ((20, [(0, .ref 54), (1, .int t), (2, .int c), (3, .int q)], [.ref 54, .int c]), yhp w G sz)) 2 rfl ?_
      refine ygf (kk := .inl (.ref 55)) (v := .ref 55) rfl rfl rfl rfl rfl rfl rfl ?_
      refine zeN (q := ((24, [(0, .ref 54), (1, .int t), (2, .int c), (3, .int q)], [.int q, .ref 55, .int c]), yhp w G sz)) 1 rfl ?_
      refine yba (N := 65) rfl rfl rfl (by assumption) ?_
      refine zbc (q1 := (32, [(0, .ref 54), (1, .int t), (2, .int c), (3, .int q)], [.int c])) (q2 := (28, [(0, .ref 54), (1, .int t), (2, .int c), (3, .int q)], [.int c])) (cB := zc .eq (w.1 55 q.toNatClampNeg) 0) (off := 7) (lv := [(0, .ref 54), (1, .int t), (2, .int c), (3, .int q)]) (st := [.int c]) rfl rfl rfl rfl rfl (fun c25 => ?_) (fun c25 => ?_)
      · rw [c25] at k
        refine zeN (q := ((7, [(3, .int (q + Int32.ofInt 1)), (2, .int (c + 0)), (0, .ref 54), (1, .int t)], []), yhp w G sz)) 5 rfl ?_
        refine zeS [(0, .ref 54), (1, .int t), (2, .int (c + 0)), (3, .int (q + Int32.ofInt 1))] (zsub_pick [2, 3, 1, 0] rfl rfl) ?_
        exact ih w (c + 0) (q + Int32.ofInt 1) (by omega) (by omega) (by omega) k
      · rw [c25] at k
        refine zeN (q := ((7, [(3, .int (q + Int32.ofInt 1)), (2, .int (c + 1)), (0, .ref 54), (1, .int t)], []), yhp w G sz)) 6 rfl ?_
        refine zeS [(0, .ref 54), (1, .int t), (2, .int (c + 1)), (3, .int (q + Int32.ofInt 1))] (zsub_pick [2, 3, 1, 0] rfl rfl) ?_
        exact ih w (c + 1) (q + Int32.ofInt 1) (by omega) (by omega) (by omega) k
def e_Mo_size (t : Int32) (w : yW) : yW × Int32 := ((g_Mo_size_7 t 17 w 0 (16 * t)).1, (g_Mo_size_7 t 17 w 0 (16 * t)).2)
set_option maxRecDepth 100000 in
theorem r_Mo_size {fr lo sz : Nat} {G : List zC} (t : Int32) (w : yW) (ht0 : 0 ≤ t.toInt) (ht1 : t.toInt ≤ 1) (hlo : 23 ≤ lo) : zAns (fr + 1) lo 110 [.ref 54, .int t] (yhp w G sz) (some (.int (e_Mo_size t w).2), yhp (e_Mo_size t w).1 G sz) := by
  unfold e_Mo_size
  refine zeb (fr := fr + 0) (M := M_Mo_size) rfl (Nat.le_trans (by decide) hlo) rfl ?_
  have e0 : mL M_Mo_size = 4 := rfl
  refine zeN (q := ((7, [(3, .int (16 * t)), (2, .int 0), (0, .ref 54), (1, .int t)], []), yhp w G sz)) 6 rfl ?_
  refine zeS [(0, .ref 54), (1, .int t), (2, .int 0), (3, .int (16 * t))] (zsub_pick [2, 3, 1, 0] rfl rfl) ?_
  refine t_Mo_size_7 t ht0 ht1 (by omega) 17 w 0 (16 * t) (by rw [z_16 ht0 ht1]; omega) (by rw [z_16 ht0 ht1]; omega) (by rw [z_16 ht0 ht1]; omega) ?_
  refine zeN (q := ((42, [(0, .ref 54), (1, .int t), (2, .int ((g_Mo_size_7 t 17 w 0 (16 * t)).2))], [.int ((g_Mo_size_7 t 17 w 0 (16 * t)).2)]), yhp ((g_Mo_size_7 t 17 w 0 (16 * t)).1) G sz)) 1 rfl ?_
  exact zer rfl rfl
