theorem zIx_six6 {s i : Int32} (h0 : 0 ≤ s.toInt) (h1 : s.toInt < 65) (h2 : 0 ≤ i.toInt) (h3 : i.toInt < 6) : zIx (6 * s + i) 390 := by
  have e : (6 * s).toInt = 6 * s.toInt := z_mul (by show _ ≤ (6 : Int) * s.toInt; omega) (by show (6 : Int) * s.toInt < _; omega)
  have e2 : (6 * s + i).toInt = 6 * s.toInt + i.toInt := by rw [z_add (by rw [e]; omega) (by rw [e]; omega), e]
  unfold zIx
  rw [e2]
  omega
theorem z_six {s : Int32} (h0 : 0 ≤ s.toInt) (h1 : s.toInt < 65) {k : Int32} (k0 : 0 ≤ k.toInt) (k1 : k.toInt ≤ 6) : (6 * s + k).toInt = 6 * s.toInt + k.toInt := by
  have e : (6 * s).toInt = 6 * s.toInt := z_mul (by show _ ≤ (6 : Int) * s.toInt; omega) (by show (6 : Int) * s.toInt < _; omega)
  rw [z_add (by rw [e]; omega) (by rw [e]; omega), e]
def g_Mo_copyShape_26 (a b : Int32) : Nat → yW → Int32 → yW
  | 0, w, i => w
  | n + 1, w, i => (bif zc .ge i 6 then w else g_Mo_copyShape_26 a b n (wI (wI w 59 ((6 * b) + i).toNatClampNeg (w.1 59 ((6 * a) + i).toNatClampNeg)) 60 ((6 * b) + i).toNatClampNeg ((wI w 59 ((6 * b) + i).toNatClampNeg (w.1 59 ((6 * a) + i).toNatClampNeg)).1 60 ((6 * a) + i).toNatClampNeg)) (i + Int32.ofInt 1))
set_option maxRecDepth 100000 in
theorem t_Mo_copyShape_26 {fr lo sz : Nat} {G : List zC} {r : Option Value × zH} (a b : Int32) (ha : zIx a 65) (hb : zIx b 65) (hlo : 22 ≤ lo) : ∀ (n : Nat) (w : yW) (i : Int32) (h0 : 0 ≤ i.toInt) (h1 : i.toInt ≤ 6) (hn : 6 < i.toInt + n) (k : zRun (fr + 1) lo none M_Mo_copyShape (82, [(0, .ref 54), (1, .int a), (2, .int b)], []) (yhp (g_Mo_copyShape_26 a b n w i) G sz) r), zRun (fr + 1) lo none M_Mo_copyShape (26, [(0, .ref 54), (1, .int a), (2, .int b), (3, .int i)], []) (yhp w G sz) r := by
  intro n
  induction n with
  | zero => intro w i h0 h1 hn k; exfalso; omega
  | succ n ih =>
    intro w i h0 h1 hn k
    rw [g_Mo_copyShape_26] at k
    refine zeN (q := ((29, [(0, .ref 54), (1, .int a), (2, .int b), (3, .int i)], [.int 6, .int i]), yhp w G sz)) 2 rfl ?_
    refine zbc (q1 := (82, [(0, .ref 54), (1, .int a), (2, .int b), (3, .int i)], [])) (q2 := (32, [(0, .ref 54), (1, .int a), (2, .int b), (3, .int i)], [])) (cB := zc .ge i 6) (off := 53) (lv := [(0, .ref 54), (1, .int a), (2, .int b), (3, .int i)]) (st := []) rfl rfl rfl rfl rfl (fun c29 => ?_) (fun c29 => ?_)
    · rw [c29] at k
      refine zeS [(0, .ref 54), (1, .int a), (2, .int b)] (zsub_pick [0, 1, 2] rfl rfl) ?_
      exact k
    · rw [c29] at k
      have hcc : ¬ (6 : Int) ≤ i.toInt := of_decide_eq_false (z_ge c29).symm
      have hA : zIx (6 * a + i) 390 := zIx_six6 ha.1 ha.2 h0 (by omega)
      have hB : zIx (6 * b + i) 390 := zIx_six6 hb.1 hb.2 h0 (by omega)
      have hi1 := z_inc (a := i) (by omega) (by omega)
      refine zeN (q := ((33, [(0, .ref 54), (1, .int a), (2, .int b), (3, .int i)], [.ref 54]), yhp w G sz)) 1 rfl ?_
      refine ygf (kk := .inl (.ref 59)) (v := .ref 59) rfl rfl rfl rfl rfl rfl rfl ?_
      refine zeN (q := ((43, [(0, .ref 54), (1, .int a), (2, .int b), (3, .int i)], [.ref 54, .int ((6 * b) + i), .ref 59]), yhp w G sz)) 6 rfl ?_
      refine ygf (kk := .inl (.ref 59)) (v := .ref 59) rfl rfl rfl rfl rfl rfl rfl ?_
      refine zeN (q := ((52, [(0, .ref 54), (1, .int a), (2, .int b), (3, .int i)], [.int ((6 * a) + i), .ref 59, .int ((6 * b) + i), .ref 59]), yhp w G sz)) 5 rfl ?_
      refine yia (N := 390) rfl rfl rfl (by assumption) ?_
      refine yis (N := 390) rfl rfl rfl (by assumption) ?_
      refine zeN (q := ((55, [(0, .ref 54), (1, .int a), (2, .int b), (3, .int i)], [.ref 54]), yhp (wI w 59 ((6 * b) + i).toNatClampNeg (w.1 59 ((6 * a) + i).toNatClampNeg)) G sz)) 1 rfl ?_
      refine ygf (kk := .inl (.ref 60)) (v := .ref 60) rfl rfl rfl rfl rfl rfl rfl ?_
      refine zeN (q := ((65, [(0, .ref 54), (1, .int a), (2, .int b), (3, .int i)], [.ref 54, .int ((6 * b) + i), .ref 60]), yhp (wI w 59 ((6 * b) + i).toNatClampNeg (w.1 59 ((6 * a) + i).toNatClampNeg)) G sz)) 6 rfl ?_
      refine ygf (kk := .inl (.ref 60)) (v := .ref 60) rfl rfl rfl rfl rfl rfl rfl ?_
      refine zeN (q := ((74, [(0, .ref 54), (1, .int a), (2, .int b), (3, .int i)], [.int ((6 * a) + i), .ref 60, .int ((6 * b) + i), .ref 60]), yhp (wI w 59 ((6 * b) + i).toNatClampNeg (w.1 59 ((6 * a) + i).toNatClampNeg)) G sz)) 5 rfl ?_
      refine yia (N := 390) rfl rfl rfl (by assumption) ?_
      refine yis (N := 390) rfl rfl rfl (by assumption) ?_
      refine zeN (q := ((26, [(3, .int (i + Int32.ofInt 1)), (0, .ref 54), (1, .int a), (2, .int b)], []), yhp (wI (wI w 59 ((6 * b) + i).toNatClampNeg (w.1 59 ((6 * a) + i).toNatClampNeg)) 60 ((6 * b) + i).toNatClampNeg ((wI w 59 ((6 * b) + i).toNatClampNeg (w.1 59 ((6 * a) + i).toNatClampNeg)).1 60 ((6 * a) + i).toNatClampNeg)) G sz)) 2 rfl ?_
      refine zeS [(0, .ref 54), (1, .int a), (2, .int b), (3, .int (i + Int32.ofInt 1))] (zsub_pick [1, 2, 3, 0] rfl rfl) ?_
      exact ih (wI (wI w 59 ((6 * b) + i).toNatClampNeg (w.1 59 ((6 * a) + i).toNatClampNeg)) 60 ((6 * b) + i).toNatClampNeg ((wI w 59 ((6 * b) + i).toNatClampNeg (w.1 59 ((6 * a) + i).toNatClampNeg)).1 60 ((6 * a) + i).toNatClampNeg)) (i + Int32.ofInt 1) (by omega) (by omega) (by omega) k
theorem u_Mo_copyShape_26 (a b : Int32) (c j : Nat) (h1 : c ≠ 59) (h2 : c ≠ 60) : ∀ (n : Nat) (w : yW) (i : Int32), (g_Mo_copyShape_26 a b n w i).1 c j = w.1 c j
  | 0, w, i => rfl
  | n + 1, w, i => by
    rw [g_Mo_copyShape_26, yc1, u_Mo_copyShape_26 a b c j h1 h2 n, wI_ne h2, wI_ne h1, Bool.cond_self]
def e_Mo_copyShape (a b mv : Int32) (w : yW) : yW := e_Mo_bind b mv ((g_Mo_copyShape_26 a b 7 (wI (wI w 57 b.toNatClampNeg (w.1 57 a.toNatClampNeg)) 58 b.toNatClampNeg ((wI w 57 b.toNatClampNeg (w.1 57 a.toNatClampNeg)).1 58 a.toNatClampNeg)) 0))
set_option maxRecDepth 100000 in
theorem r_Mo_copyShape {fr lo sz : Nat} {G : List zC} (a b mv : Int32) (w : yW) (ha : zIx a 65) (hb : zIx b 65) (hmv : w.1 58 a.toNatClampNeg = mv) (hv0 : 0 ≤ mv.toInt) (hv1 : mv.toInt ≤ 6) (hlo : 45 ≤ lo) : zAns (fr + 2) lo 111 [.ref 54, .int a, .int b] (yhp w G sz) (none, yhp (e_Mo_copyShape a b mv w) G sz) := by
  unfold e_Mo_copyShape
  refine zeb (fr := fr + 1) (M := M_Mo_copyShape) rfl (Nat.le_trans (by decide) hlo) rfl ?_
  have e0 : mL M_Mo_copyShape = 4 := rfl
  refine zeN (q := ((1, [(0, .ref 54), (1, .int a), (2, .int b)], [.ref 54]), yhp w G sz)) 1 rfl ?_
  refine ygf (kk := .inl (.ref 57)) (v := .ref 57) rfl rfl rfl rfl rfl rfl rfl ?_
  refine zeN (q := ((6, [(0, .ref 54), (1, .int a), (2, .int b)], [.ref 54, .int b, .ref 57]), yhp w G sz)) 2 rfl ?_
  refine ygf (kk := .inl (.ref 57)) (v := .ref 57) rfl rfl rfl rfl rfl rfl rfl ?_
  refine zeN (q := ((10, [(0, .ref 54), (1, .int a), (2, .int b)], [.int a, .ref 57, .int b, .ref 57]), yhp w G sz)) 1 rfl ?_
  refine yia (N := 65) rfl rfl rfl (by assumption) ?_
  refine yis (N := 65) rfl rfl rfl (by assumption) ?_
  refine zeN (q := ((13, [(0, .ref 54), (1, .int a), (2, .int b)], [.ref 54]), yhp (wI w 57 b.toNatClampNeg (w.1 57 a.toNatClampNeg)) G sz)) 1 rfl ?_
  refine ygf (kk := .inl (.ref 58)) (v := .ref 58) rfl rfl rfl rfl rfl rfl rfl ?_
  refine zeN (q := ((18, [(0, .ref 54), (1, .int a), (2, .int b)], [.ref 54, .int b, .ref 58]), yhp (wI w 57 b.toNatClampNeg (w.1 57 a.toNatClampNeg)) G sz)) 2 rfl ?_
  refine ygf (kk := .inl (.ref 58)) (v := .ref 58) rfl rfl rfl rfl rfl rfl rfl ?_
  refine zeN (q := ((22, [(0, .ref 54), (1, .int a), (2, .int b)], [.int a, .ref 58, .int b, .ref 58]), yhp (wI w 57 b.toNatClampNeg (w.1 57 a.toNatClampNeg)) G sz)) 1 rfl ?_
  refine yia (N := 65) rfl rfl rfl (by assumption) ?_
  refine yis (N := 65) rfl rfl rfl (by assumption) ?_
  refine zeN (q := ((26, [(3, .int 0), (0, .ref 54), (1, .int a), (2, .int b)], []), yhp (wI (wI w 57 b.toNatClampNeg (w.1 57 a.toNatClampNeg)) 58 b.toNatClampNeg ((wI w 57 b.toNatClampNeg (w.1 57 a.toNatClampNeg)).1 58 a.toNatClampNeg)) G sz)) 2 rfl ?_
  refine zeS [(0, .ref 54), (1, .int a), (2, .int b), (3, .int 0)] (zsub_pick [1, 2, 3, 0] rfl rfl) ?_
  refine t_Mo_copyShape_26 a b ha hb (by omega) 7 (wI (wI w 57 b.toNatClampNeg (w.1 57 a.toNatClampNeg)) 58 b.toNatClampNeg ((wI w 57 b.toNatClampNeg (w.1 57 a.toNatClampNeg)).1 58 a.toNatClampNeg)) 0 (by decide) (by decide) (by decide) ?_
  have hm : (6 * b + mv).toInt ≤ 390 := by rw [z_six hb.1 hb.2 hv0 hv1]; have := hb.2; omega
  have hmv2 := (u_Mo_copyShape_26 a b 58 b.toNatClampNeg (by decide) (by decide) 7 (wI (wI w 57 b.toNatClampNeg (w.1 57 a.toNatClampNeg)) 58 b.toNatClampNeg ((wI w 57 b.toNatClampNeg (w.1 57 a.toNatClampNeg)).1 58 a.toNatClampNeg)) 0).trans ((wI_self _ _ _ _).trans hmv)
  refine zeN (q := ((84, [(0, .ref 54), (1, .int a), (2, .int b)], [.int b, .ref 54]), yhp ((g_Mo_copyShape_26 a b 7 (wI (wI w 57 b.toNatClampNeg (w.1 57 a.toNatClampNeg)) 58 b.toNatClampNeg ((wI w 57 b.toNatClampNeg (w.1 57 a.toNatClampNeg)).1 58 a.toNatClampNeg)) 0)) G sz)) 2 rfl ?_
  refine zec 1 (M' := M_Mo_bind) (qq := ([.ref 54, .int b], [])) (s' := (87, [(0, .ref 54), (1, .int a), (2, .int b)], [])) rfl rfl (fun _ => rfl) rfl rfl (zhk rfl (zrc_ok (yhp_o rfl)) rfl) (r_Mo_bind b mv _ hb hmv2 hm (by omega)) rfl ?_
  exact zer rfl rfl
