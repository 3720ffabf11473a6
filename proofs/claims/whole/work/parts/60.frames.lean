def e_Fr_frameOf (x : Int32) (w : yW) : Int32 := (bif zc .lt x 0 then (-1) else (bif zc .gt x 8 then (-1) else w.1 5 x.toNatClampNeg))
set_option maxRecDepth 100000 in
theorem r_Fr_frameOf {fr lo sz : Nat} {G : List zC} (x : Int32) (w : yW)  (hlo : 21 ≤ lo) : zAns (fr + 1) lo 96 [.ref 4, .int x] (yhp w G sz) (some (.int ((e_Fr_frameOf x w))), yhp w G sz) := by
  unfold e_Fr_frameOf
  refine zeb (fr := fr + 0) (M := M_Fr_frameOf) rfl (Nat.le_trans (by decide) hlo) rfl ?_
  have e0 : mL M_Fr_frameOf = 2 := rfl
  refine zeN (q := ((1, [(0, .ref 4), (1, .int x)], [.int x]), yhp w G sz)) 1 rfl ?_
  refine zbc (q1 := (19, [(0, .ref 4), (1, .int x)], [])) (q2 := (4, [(0, .ref 4), (1, .int x)], [])) (cB := zc .lt x 0) (off := 18) (lv := [(0, .ref 4), (1, .int x)]) (st := []) rfl rfl rfl rfl rfl (fun c1 => ?_) (fun c1 => ?_)
  · rw [c1]
    refine zeN (q := ((20, [(0, .ref 4), (1, .int x)], [.int ((-1))]), yhp w G sz)) 1 rfl ?_
    exact zer rfl rfl
  · rw [c1]
    refine zeN (q := ((7, [(0, .ref 4), (1, .int x)], [.int 8, .int x]), yhp w G sz)) 2 rfl ?_
    refine zbc (q1 := (19, [(0, .ref 4), (1, .int x)], [])) (q2 := (10, [(0, .ref 4), (1, .int x)], [])) (cB := zc .gt x 8) (off := 12) (lv := [(0, .ref 4), (1, .int x)]) (st := []) rfl rfl rfl rfl rfl (fun c7 => ?_) (fun c7 => ?_)
    · rw [c7]
      refine zeN (q := ((20, [(0, .ref 4), (1, .int x)], [.int ((-1))]), yhp w G sz)) 1 rfl ?_
      exact zer rfl rfl
    · rw [c7]
      have a1 := of_decide_eq_false ((zc_lt x 0).symm.trans c1)
      have a2 := of_decide_eq_false ((zc_gt x 8).symm.trans c7)
      have hx : zIx x 9 := ⟨by have := z_i0; omega, by have : (8 : Int32).toInt = 8 := rfl; omega⟩
      refine zeN (q := ((11, [(0, .ref 4), (1, .int x)], [.ref 4]), yhp w G sz)) 1 rfl ?_
      refine ygf (kk := .inl (.ref 5)) (v := .ref 5) rfl rfl rfl rfl rfl rfl rfl ?_
      refine zeN (q := ((15, [(0, .ref 4), (1, .int x)], [.int x, .ref 5]), yhp w G sz)) 1 rfl ?_
      refine yia (N := 9) rfl rfl rfl (by assumption) ?_
      refine zeN (q := ((20, [(0, .ref 4), (1, .int x)], [.int (w.1 5 x.toNatClampNeg)]), yhp w G sz)) 1 rfl ?_
      exact zer rfl rfl
def g_Fr_takenFrames_13  (w : yW) : Nat → Int32 → Int32 → Int32
  | 0, tk, p => tk
  | n + 1, tk, p => (bif zc .ge p (Int32.ofNat 9) then tk else (bif zc .eq (w.1 5 p.toNatClampNeg) ((-1)) then g_Fr_takenFrames_13  w n  (tk ||| 0) (p + Int32.ofInt 1) else g_Fr_takenFrames_13  w n  (tk ||| (1 <<< ((w.1 5 p.toNatClampNeg) &&& 31))) (p + Int32.ofInt 1)))
set_option maxRecDepth 100000 in
theorem t_Fr_takenFrames_13 {fr lo sz : Nat} {r : Option Value × zH} {G : List zC}  (w : yW)  (hlo : 0 ≤ lo) : ∀ (n : Nat) (tk : Int32) (p : Int32) (h0 : 0 ≤ p.toInt) (h1 : p.toInt ≤ 9) (hn : 9 < p.toInt + n) (k : zRun (fr + 0) lo none M_Fr_takenFrames (48, [(0, .ref 4), (2, .ref 5), (3, .int (Int32.ofNat 9)), (1, .int ((g_Fr_takenFrames_13  w n tk p)))], []) (yhp w G sz) r), zRun (fr + 0) lo none M_Fr_takenFrames (13, [(0, .ref 4), (2, .ref 5), (3, .int (Int32.ofNat 9)), (1, .int tk), (4, .int p)], []) (yhp w G sz) r := by
  intro n
  induction n with
  | zero => intro tk p h0 h1 hn k; exfalso; omega
  | succ n ih =>
    intro tk p h0 h1 hn k
    rw [g_Fr_takenFrames_13] at k
    refine zeN (q := ((16, [(0, .ref 4), (2, .ref 5), (3, .int (Int32.ofNat 9)), (1, .int tk), (4, .int p)], [.int (Int32.ofNat 9), .int p]), yhp w G sz)) 2 rfl ?_
    refine zbc (q1 := (48, [(0, .ref 4), (2, .ref 5), (3, .int (Int32.ofNat 9)), (1, .int tk), (4, .int p)], [])) (q2 := (19, [(0, .ref 4), (2, .ref 5), (3, .int (Int32.ofNat 9)), (1, .int tk), (4, .int p)], [])) (cB := zc .ge p (Int32.ofNat 9)) (off := 32) (lv := [(0, .ref 4), (2, .ref 5), (3, .int (Int32.ofNat 9)), (1, .int tk), (4, .int p)]) (st := []) rfl rfl rfl rfl rfl (fun c16 => ?_) (fun c16 => ?_)
    · rw [c16] at k
      refine zeS [(0, .ref 4), (2, .ref 5), (3, .int (Int32.ofNat 9)), (1, .int tk)] (zsub_pick [0, 1, 2, 3] rfl rfl) ?_
      exact k
    · rw [c16] at k
      have hcc : ¬ (9 : Int) ≤ p.toInt := of_decide_eq_false (z_ge c16).symm
      have hp : zIx p 9 := ⟨h0, by omega⟩
      have hi1 := z_inc (a := p) (by omega) (by omega)
      refine zeN (q := ((22, [(0, .ref 4), (2, .ref 5), (3, .int (Int32.ofNat 9)), (1, .int tk), (4, .int p)], [.int p, .ref 5]), yhp w G sz)) 2 rfl ?_
      refine yia (N := 9) rfl rfl rfl (by assumption) ?_
      refine zeN (q := ((29, [(5, .int (w.1 5 p.toNatClampNeg)), (0, .ref 4), (2, .ref 5), (3, .int (Int32.ofNat 9)), (1, .int tk), (4, .int p)], [.int ((-1)), .int (w.1 5 p.toNatClampNeg), .int tk]), yhp w G sz)) 4 rfl ?_
      refine zbc (q1 := (39, [(5, .int (w.1 5 p.toNatClampNeg)), (0, .ref 4), (2, .ref 5), (3, .int (Int32.ofNat 9)), (1, .int tk), (4, .int p)], [.int tk])) (q2 := (32, [(5, .int (w.1 5 p.toNatClampNeg)), (0, .ref 4), (2, .ref 5), (3, .int (Int32.ofNat 9)), (1, .int tk), (4, .int p)], [.int tk])) (cB := zc .eq (w.1 5 p.toNatClampNeg) ((-1))) (off := 10) (lv := [(5, .int (w.1 5 p.toNatClampNeg)), (0, .ref 4), (2, .ref 5), (3, .int (Int32.ofNat 9)), (1, .int tk), (4, .int p)]) (st := [.int tk]) rfl rfl rfl rfl rfl (fun c29 => ?_) (fun c29 => ?_)
      · rw [c29] at k
        refine zeN (q := ((13, [(4, .int (p + Int32.ofInt 1)), (1, .int (tk ||| 0)), (5, .int (w.1 5 p.toNatClampNeg)), (0, .ref 4), (2, .ref 5), (3, .int (Int32.ofNat 9))], []), yhp w G sz)) 5 rfl ?_
        refine zeS [(0, .ref 4), (2, .ref 5), (3, .int (Int32.ofNat 9)), (1, .int (tk ||| 0)), (4, .int (p + Int32.ofInt 1))] (zsub_pick [3, 4, 5, 1, 0] rfl rfl) ?_
        exact ih  (tk ||| 0) (p + Int32.ofInt 1) (by omega) (by omega) (by omega) k
      · rw [c29] at k
        refine zeN (q := ((13, [(4, .int (p + Int32.ofInt 1)), (1, .int (tk ||| (1 <<< ((w.1 5 p.toNatClampNeg) &&& 31)))), (5, .int (w.1 5 p.toNatClampNeg)), (0, .ref 4), (2, .ref 5), (3, .int (Int32.ofNat 9))], []), yhp w G sz)) 8 rfl ?_
        refine zeS [(0, .ref 4), (2, .ref 5), (3, .int (Int32.ofNat 9)), (1, .int (tk ||| (1 <<< ((w.1 5 p.toNatClampNeg) &&& 31)))), (4, .int (p + Int32.ofInt 1))] (zsub_pick [3, 4, 5, 1, 0] rfl rfl) ?_
        exact ih  (tk ||| (1 <<< ((w.1 5 p.toNatClampNeg) &&& 31))) (p + Int32.ofInt 1) (by omega) (by omega) (by omega) k
def e_Fr_takenFrames  (w : yW) : Int32 := (g_Fr_takenFrames_13  w 10 0 0)
set_option maxRecDepth 100000 in
theorem r_Fr_takenFrames {fr lo sz : Nat} {G : List zC}  (w : yW)  (hlo : 25 ≤ lo) : zAns (fr + 1) lo 88 [.ref 4] (yhp w G sz) (some (.int ((e_Fr_takenFrames  w))), yhp w G sz) := by
  unfold e_Fr_takenFrames
  refine zeb (fr := fr + 0) (M := M_Fr_takenFrames) rfl (Nat.le_trans (by decide) hlo) rfl ?_
  have e0 : mL M_Fr_takenFrames = 6 := rfl
  refine zeN (q := ((3, [(1, .int 0), (0, .ref 4)], [.ref 4]), yhp w G sz)) 3 rfl ?_
  refine ygf (kk := .inl (.ref 5)) (v := .ref 5) rfl rfl rfl rfl rfl rfl rfl ?_
  refine zeN (q := ((8, [(2, .ref 5), (1, .int 0), (0, .ref 4)], [.ref 5]), yhp w G sz)) 2 rfl ?_
  refine yln (N := 9) rfl rfl rfl rfl ?_
  refine zeN (q := ((13, [(4, .int 0), (3, .int (Int32.ofNat 9)), (2, .ref 5), (1, .int 0), (0, .ref 4)], []), yhp w G sz)) 3 rfl ?_
  refine zeS [(0, .ref 4), (2, .ref 5), (3, .int (Int32.ofNat 9)), (1, .int 0), (4, .int 0)] (zsub_pick [4, 2, 1, 3, 0] rfl rfl) ?_
  refine t_Fr_takenFrames_13  w  (by omega) 10  0 0 (by decide) (by decide) (by decide) ?_
  refine zeN (q := ((49, [(0, .ref 4), (2, .ref 5), (3, .int (Int32.ofNat 9)), (1, .int ((g_Fr_takenFrames_13  w 10 0 0)))], [.int ((g_Fr_takenFrames_13  w 10 0 0))]), yhp w G sz)) 1 rfl ?_
  exact zer rfl rfl
def e_Fr_countFree  (w : yW) : Int32 := 16 - (e_Ig_bitCount (e_Fr_takenFrames w))
set_option maxRecDepth 100000 in
theorem r_Fr_countFree {fr lo sz : Nat} {G : List zC}  (w : yW)  (hlo : 45 ≤ lo) : zAns (fr + 2) lo 87 [.ref 4] (yhp w G sz) (some (.int ((e_Fr_countFree  w))), yhp w G sz) := by
  unfold e_Fr_countFree
  refine zeb (fr := fr + 1) (M := M_Fr_countFree) rfl (Nat.le_trans (by decide) hlo) rfl ?_
  have e0 : mL M_Fr_countFree = 1 := rfl
  refine zeN (q := ((3, [(0, .ref 4)], [.ref 4, .int 16]), yhp w G sz)) 2 rfl ?_
  refine zec 1 (M' := M_Fr_takenFrames) (qq := ([.ref 4], [.int 16])) (s' := (6, [(0, .ref 4)], [.int (e_Fr_takenFrames w), .int 16])) rfl rfl (fun _ => rfl) rfl rfl (zhk rfl (zrc_ok (yhp_o rfl)) rfl) (r_Fr_takenFrames _ (by omega)) rfl ?_
  refine zec 0 (M' := M_Ig_bitCount) (qq := ([.int (e_Fr_takenFrames w)], [.int 16])) (s' := (9, [(0, .ref 4)], [.int (e_Ig_bitCount (e_Fr_takenFrames w)), .int 16])) rfl rfl (fun _ => rfl) rfl rfl rfl (r_Ig_bitCount (e_Fr_takenFrames w) (by omega)) rfl ?_
  refine zeN (q := ((10, [(0, .ref 4)], [.int (16 - (e_Ig_bitCount (e_Fr_takenFrames w)))]), yhp w G sz)) 1 rfl ?_
  exact zer rfl rfl
def g_Fr_leastFree_2 (tk : Int32) : Nat → Int32 → Int32
  | 0, f => 0
  | n + 1, f => (bif zc .ge f 15 then f else (bif zc .eq (e_ST_hasBit tk f) 0 then f else g_Fr_leastFree_2 tk  n  (f + Int32.ofInt 1)))
set_option maxRecDepth 100000 in
theorem t_Fr_leastFree_2 {fr lo sz : Nat} {G : List zC} (tk : Int32) {w : yW}  (hlo : 21 ≤ lo) : ∀ (n : Nat) (f : Int32) (h0 : 0 ≤ f.toInt) (h1 : f.toInt ≤ 15) (hn : 15 < f.toInt + n), zRun (fr + 1) lo none M_Fr_leastFree (2, [(0, .int tk), (1, .int f)], []) (yhp w G sz) (some (.int ((g_Fr_leastFree_2 tk n f))), yhp w G sz) := by
  intro n
  induction n with
  | zero => intro f h0 h1 hn; exfalso; omega
  | succ n ih =>
    intro f h0 h1 hn
    rw [g_Fr_leastFree_2]
    refine zeN (q := ((5, [(0, .int tk), (1, .int f)], [.int 15, .int f]), yhp w G sz)) 2 rfl ?_
    refine zbc (q1 := (22, [(0, .int tk), (1, .int f)], [])) (q2 := (8, [(0, .int tk), (1, .int f)], [])) (cB := zc .ge f 15) (off := 17) (lv := [(0, .int tk), (1, .int f)]) (st := []) rfl rfl rfl rfl rfl (fun c5 => ?_) (fun c5 => ?_)
    · rw [c5]
      refine zeN (q := ((23, [(0, .int tk), (1, .int f)], [.int f]), yhp w G sz)) 1 rfl ?_
      exact zer rfl rfl
    · rw [c5]
      have hcc : ¬ (15 : Int) ≤ f.toInt := of_decide_eq_false (z_ge c5).symm
      have hi1 := z_inc (a := f) (by omega) (by omega)
      refine zeN (q := ((10, [(0, .int tk), (1, .int f)], [.int f, .int tk]), yhp w G sz)) 2 rfl ?_
      refine zec 0 (M' := M_ST_hasBit) (qq := ([.int tk, .int f], [])) (s' := (13, [(0, .int tk), (1, .int f)], [.int (e_ST_hasBit tk f)])) rfl rfl (fun _ => rfl) rfl rfl rfl (r_ST_hasBit tk f (by omega)) rfl ?_
      refine zbc (q1 := (22, [(0, .int tk), (1, .int f)], [])) (q2 := (16, [(0, .int tk), (1, .int f)], [])) (cB := zc .eq (e_ST_hasBit tk f) 0) (off := 9) (lv := [(0, .int tk), (1, .int f)]) (st := []) rfl rfl rfl rfl rfl (fun c13 => ?_) (fun c13 => ?_)
      · rw [c13]
        refine zeN (q := ((23, [(0, .int tk), (1, .int f)], [.int f]), yhp w G sz)) 1 rfl ?_
        exact zer rfl rfl
      · rw [c13]
        refine zeN (q := ((2, [(1, .int (f + Int32.ofInt 1)), (0, .int tk)], []), yhp w G sz)) 2 rfl ?_
        refine zeS [(0, .int tk), (1, .int (f + Int32.ofInt 1))] (zsub_pick [1, 0] rfl rfl) ?_
        exact ih  (f + Int32.ofInt 1) (by omega) (by omega) (by omega)
def e_Fr_leastFree (tk : Int32) : Int32 := g_Fr_leastFree_2 tk  16 0
set_option maxRecDepth 100000 in
theorem r_Fr_leastFree {fr lo sz : Nat} {G : List zC} (tk : Int32) {w : yW}  (hlo : 42 ≤ lo) : zAns (fr + 2) lo 90 [.int tk] (yhp w G sz) (some (.int ((e_Fr_leastFree tk))), yhp w G sz) := by
  unfold e_Fr_leastFree
  refine zeb (fr := fr + 1) (M := M_Fr_leastFree) rfl (Nat.le_trans (by decide) hlo) rfl ?_
  have e0 : mL M_Fr_leastFree = 2 := rfl
  refine zeN (q := ((2, [(1, .int 0), (0, .int tk)], []), yhp w G sz)) 2 rfl ?_
  refine zeS [(0, .int tk), (1, .int 0)] (zsub_pick [1, 0] rfl rfl) ?_
  exact t_Fr_leastFree_2 tk  (by omega) 16  0 (by decide) (by decide) (by decide)
def g_Fr_switchTo_8 (ch wr : Int32) : Nat → yW → Int32 → Int32 → yW × Int32
  | 0, w, tk, p => (w, tk)
  | n + 1, w, tk, p => (bif zc .ge p 8 then (w, tk) else (bif zc .eq (e_ST_hasBit wr p) 0 then (bif zc .eq (e_ST_hasBit ch p) 0 then g_Fr_switchTo_8 ch wr  n w tk (p + Int32.ofInt 1) else g_Fr_switchTo_8 ch wr  n (wI w 5 p.toNatClampNeg ((-1))) tk (p + Int32.ofInt 1)) else g_Fr_switchTo_8 ch wr  n (wI w 5 p.toNatClampNeg (e_Fr_leastFree tk)) (tk ||| (1 <<< (((wI w 5 p.toNatClampNeg (e_Fr_leastFree tk)).1 5 p.toNatClampNeg) &&& 31))) (p + Int32.ofInt 1)))
set_option maxRecDepth 100000 in
theorem t_Fr_switchTo_8 {fr lo sz : Nat} {r : Option Value × zH} {G : List zC} (ch wr : Int32)  (hlo : 45 ≤ lo) : ∀ (n : Nat) (w : yW) (tk : Int32) (p : Int32) (h0 : 0 ≤ p.toInt) (h1 : p.toInt ≤ 8) (hn : 8 < p.toInt + n) (k : zRun (fr + 2) lo none M_Fr_switchTo (73, [(0, .ref 4), (1, .int ch), (2, .int wr), (3, .int ((g_Fr_switchTo_8 ch wr n w tk p).2))], []) (yhp (g_Fr_switchTo_8 ch wr n w tk p).1 G sz) r), zRun (fr + 2) lo none M_Fr_switchTo (8, [(0, .ref 4), (1, .int ch), (2, .int wr), (3, .int tk), (4, .int p)], []) (yhp w G sz) r := by
  intro n
  induction n with
  | zero => intro w tk p h0 h1 hn k; exfalso; omega
  | succ n ih =>
    intro w tk p h0 h1 hn k
    rw [g_Fr_switchTo_8] at k
    refine zeN (q := ((12, [(0, .ref 4), (1, .int ch), (2, .int wr), (3, .int tk), (4, .int p)], [.int 8, .int p]), yhp w G sz)) 2 rfl ?_
    refine zbc (q1 := (73, [(0, .ref 4), (1, .int ch), (2, .int wr), (3, .int tk), (4, .int p)], [])) (q2 := (15, [(0, .ref 4), (1, .int ch), (2, .int wr), (3, .int tk), (4, .int p)], [])) (cB := zc .ge p 8) (off := 61) (lv := [(0, .ref 4), (1, .int ch), (2, .int wr), (3, .int tk), (4, .int p)]) (st := []) rfl rfl rfl rfl rfl (fun c12 => ?_) (fun c12 => ?_)
    · rw [c12] at k
      refine zeS [(0, .ref 4), (1, .int ch), (2, .int wr), (3, .int tk)] (zsub_pick [0, 1, 2, 3] rfl rfl) ?_
      exact k
    · rw [c12] at k
      have hcc : ¬ (8 : Int) ≤ p.toInt := of_decide_eq_false (z_ge c12).symm
      have hp : zIx p 9 := ⟨h0, by omega⟩
      have hi1 := z_inc (a := p) (by omega) (by omega)
      refine zeN (q := ((18, [(0, .ref 4), (1, .int ch), (2, .int wr), (3, .int tk), (4, .int p)], [.int p, .int wr]), yhp w G sz)) 2 rfl ?_
      refine zec 0 (M' := M_ST_hasBit) (qq := ([.int wr, .int p], [])) (s' := (21, [(0, .ref 4), (1, .int ch), (2, .int wr), (3, .int tk), (4, .int p)], [.int (e_ST_hasBit wr p)])) rfl rfl (fun _ => rfl) rfl rfl rfl (r_ST_hasBit wr p (by omega)) rfl ?_
      refine zbc (q1 := (50, [(0, .ref 4), (1, .int ch), (2, .int wr), (3, .int tk), (4, .int p)], [])) (q2 := (24, [(0, .ref 4), (1, .int ch), (2, .int wr), (3, .int tk), (4, .int p)], [])) (cB := zc .eq (e_ST_hasBit wr p) 0) (off := 29) (lv := [(0, .ref 4), (1, .int ch), (2, .int wr), (3, .int tk), (4, .int p)]) (st := []) rfl rfl rfl rfl rfl (fun c21 => ?_) (fun c21 => ?_)
      · rw [c21] at k
        refine zeN (q := ((53, [(0, .ref 4), (1, .int ch), (2, .int wr), (3, .int tk), (4, .int p)], [.int p, .int ch]), yhp w G sz)) 2 rfl ?_
        refine zec 0 (M' := M_ST_hasBit) (qq := ([.int ch, .int p], [])) (s' := (56, [(0, .ref 4), (1, .int ch), (2, .int wr), (3, .int tk), (4, .int p)], [.int (e_ST_hasBit ch p)])) rfl rfl (fun _ => rfl) rfl rfl rfl (r_ST_hasBit ch p (by omega)) rfl ?_
        refine zbc (q1 := (67, [(0, .ref 4), (1, .int ch), (2, .int wr), (3, .int tk), (4, .int p)], [])) (q2 := (59, [(0, .ref 4), (1, .int ch), (2, .int wr), (3, .int tk), (4, .int p)], [])) (cB := zc .eq (e_ST_hasBit ch p) 0) (off := 11) (lv := [(0, .ref 4), (1, .int ch), (2, .int wr), (3, .int tk), (4, .int p)]) (st := []) rfl rfl rfl rfl rfl (fun c56 => ?_) (fun c56 => ?_)
        · rw [c56] at k
          refine zeN (q := ((8, [(4, .int (p + Int32.ofInt 1)), (0, .ref 4), (1, .int ch), (2, .int wr), (3, .int tk)], []), yhp w G sz)) 2 rfl ?_
          refine zeS [(0, .ref 4), (1, .int ch), (2, .int wr), (3, .int tk), (4, .int (p + Int32.ofInt 1))] (zsub_pick [1, 2, 3, 4, 0] rfl rfl) ?_
          exact ih w tk (p + Int32.ofInt 1) (by omega) (by omega) (by omega) k
        · rw [c56] at k
          refine zeN (q := ((60, [(0, .ref 4), (1, .int ch), (2, .int wr), (3, .int tk), (4, .int p)], [.ref 4]), yhp w G sz)) 1 rfl ?_
          refine ygf (kk := .inl (.ref 5)) (v := .ref 5) rfl rfl rfl rfl rfl rfl rfl ?_
          refine zeN (q := ((66, [(0, .ref 4), (1, .int ch), (2, .int wr), (3, .int tk), (4, .int p)], [.int ((-1)), .int p, .ref 5]), yhp w G sz)) 2 rfl ?_
          refine yis (N := 9) rfl rfl rfl (by assumption) ?_
          refine zeN (q := ((8, [(4, .int (p + Int32.ofInt 1)), (0, .ref 4), (1, .int ch), (2, .int wr), (3, .int tk)], []), yhp (wI w 5 p.toNatClampNeg ((-1))) G sz)) 2 rfl ?_
          refine zeS [(0, .ref 4), (1, .int ch), (2, .int wr), (3, .int tk), (4, .int (p + Int32.ofInt 1))] (zsub_pick [1, 2, 3, 4, 0] rfl rfl) ?_
          exact ih (wI w 5 p.toNatClampNeg ((-1))) tk (p + Int32.ofInt 1) (by omega) (by omega) (by omega) k
      · rw [c21] at k
        refine zeN (q := ((25, [(0, .ref 4), (1, .int ch), (2, .int wr), (3, .int tk), (4, .int p)], [.ref 4]), yhp w G sz)) 1 rfl ?_
        refine ygf (kk := .inl (.ref 5)) (v := .ref 5) rfl rfl rfl rfl rfl rfl rfl ?_
        refine zeN (q := ((31, [(0, .ref 4), (1, .int ch), (2, .int wr), (3, .int tk), (4, .int p)], [.int tk, .int p, .ref 5]), yhp w G sz)) 2 rfl ?_
        refine zec 0 (M' := M_Fr_leastFree) (qq := ([.int tk], [.int p, .ref 5])) (s' := (34, [(0, .ref 4), (1, .int ch), (2, .int wr), (3, .int tk), (4, .int p)], [.int (e_Fr_leastFree tk), .int p, .ref 5])) rfl rfl (fun _ => rfl) rfl rfl rfl (r_Fr_leastFree tk (by omega)) rfl ?_
        refine yis (N := 9) rfl rfl rfl (by assumption) ?_
        refine zeN (q := ((38, [(0, .ref 4), (1, .int ch), (2, .int wr), (3, .int tk), (4, .int p)], [.ref 4, .int 1, .int tk]), yhp (wI w 5 p.toNatClampNeg (e_Fr_leastFree tk)) G sz)) 3 rfl ?_
        refine ygf (kk := .inl (.ref 5)) (v := .ref 5) rfl rfl rfl rfl rfl rfl rfl ?_
        refine zeN (q := ((43, [(0, .ref 4), (1, .int ch), (2, .int wr), (3, .int tk), (4, .int p)], [.int p, .ref 5, .int 1, .int tk]), yhp (wI w 5 p.toNatClampNeg (e_Fr_leastFree tk)) G sz)) 1 rfl ?_
        refine yia (N := 9) rfl rfl rfl (by assumption) ?_
        refine zeN (q := ((8, [(4, .int (p + Int32.ofInt 1)), (3, .int (tk ||| (1 <<< (((wI w 5 p.toNatClampNeg (e_Fr_leastFree tk)).1 5 p.toNatClampNeg) &&& 31)))), (0, .ref 4), (1, .int ch), (2, .int wr)], []), yhp (wI w 5 p.toNatClampNeg (e_Fr_leastFree tk)) G sz)) 6 rfl ?_
        refine zeS [(0, .ref 4), (1, .int ch), (2, .int wr), (3, .int (tk ||| (1 <<< (((wI w 5 p.toNatClampNeg (e_Fr_leastFree tk)).1 5 p.toNatClampNeg) &&& 31)))), (4, .int (p + Int32.ofInt 1))] (zsub_pick [2, 3, 4, 1, 0] rfl rfl) ?_
        exact ih (wI w 5 p.toNatClampNeg (e_Fr_leastFree tk)) (tk ||| (1 <<< (((wI w 5 p.toNatClampNeg (e_Fr_leastFree tk)).1 5 p.toNatClampNeg) &&& 31))) (p + Int32.ofInt 1) (by omega) (by omega) (by omega) k
set_option maxRecDepth 100000 in
theorem kf_Fr_switchTo_8 (ch wr : Int32) : ∀ (n : Nat) (w : yW) (tk : Int32) (p : Int32), yK [(5, none)] w (g_Fr_switchTo_8 ch wr n w tk p).1 := by
  intro n
  induction n with
  | zero => intros; exact yK_rfl
  | succ n ih => intro w tk p; rw [g_Fr_switchTo_8]; exact (yK_if1 (yK_p yK_rfl) (yK_if1 (yK_if1 (yK_tr yK_rfl (ih _ _ _)) (yK_tr (yK_wI rfl yK_rfl) (ih _ _ _))) (yK_tr (yK_wI rfl yK_rfl) (ih _ _ _))))
theorem jf_Fr_switchTo_8 (ch wr : Int32) : ∀ (n : Nat) (w : yW) (tk : Int32) (p : Int32), (g_Fr_switchTo_8 ch wr n w tk p).1.2 = w.2 := by
  intro n
  induction n with
  | zero => intros; rfl
  | succ n ih => intro w tk p; rw [g_Fr_switchTo_8]; exact (yJ_if1 (yJ_p rfl) (yJ_if1 (yJ_if1 ((ih _ _ _).trans rfl) ((ih _ _ _).trans (yJ_wI rfl))) ((ih _ _ _).trans (yJ_wI rfl))))
def e_Fr_switchTo (ch wr : Int32) (w : yW) : yW := wI ((g_Fr_switchTo_8 ch wr 9 w (e_Fr_takenFrames w) 0).1) 5 (8 : Int32).toNatClampNeg (e_Fr_leastFree ((g_Fr_switchTo_8 ch wr 9 w (e_Fr_takenFrames w) 0).2))
set_option maxRecDepth 100000 in
theorem r_Fr_switchTo {fr lo sz : Nat} {G : List zC} (ch wr : Int32) (w : yW)  (hlo : 69 ≤ lo) : zAns (fr + 3) lo 89 [.ref 4, .int ch, .int wr] (yhp w G sz) (none, yhp ((e_Fr_switchTo ch wr w)) G sz) := by
  unfold e_Fr_switchTo
  refine zeb (fr := fr + 2) (M := M_Fr_switchTo) rfl (Nat.le_trans (by decide) hlo) rfl ?_
  have e0 : mL M_Fr_switchTo = 5 := rfl
  refine zeN (q := ((1, [(0, .ref 4), (1, .int ch), (2, .int wr)], [.ref 4]), yhp w G sz)) 1 rfl ?_
  refine zec 1 (M' := M_Fr_takenFrames) (qq := ([.ref 4], [])) (s' := (4, [(0, .ref 4), (1, .int ch), (2, .int wr)], [.int (e_Fr_takenFrames w)])) rfl rfl (fun _ => rfl) rfl rfl (zhk rfl (zrc_ok (yhp_o rfl)) rfl) (r_Fr_takenFrames _ (by omega)) rfl ?_
  refine zeN (q := ((8, [(4, .int 0), (3, .int (e_Fr_takenFrames w)), (0, .ref 4), (1, .int ch), (2, .int wr)], []), yhp w G sz)) 3 rfl ?_
  refine zeS [(0, .ref 4), (1, .int ch), (2, .int wr), (3, .int (e_Fr_takenFrames w)), (4, .int 0)] (zsub_pick [2, 3, 4, 1, 0] rfl rfl) ?_
  refine t_Fr_switchTo_8 ch wr  (by omega) 9 w (e_Fr_takenFrames w) 0 (by decide) (by decide) (by decide) ?_
  refine zeN (q := ((74, [(0, .ref 4), (1, .int ch), (2, .int wr), (3, .int ((g_Fr_switchTo_8 ch wr 9 w (e_Fr_takenFrames w) 0).2))], [.ref 4]), yhp ((g_Fr_switchTo_8 ch wr 9 w (e_Fr_takenFrames w) 0).1) G sz)) 1 rfl ?_
  refine ygf (kk := .inl (.ref 5)) (v := .ref 5) rfl rfl rfl rfl rfl rfl rfl ?_
  refine zeN (q := ((80, [(0, .ref 4), (1, .int ch), (2, .int wr), (3, .int ((g_Fr_switchTo_8 ch wr 9 w (e_Fr_takenFrames w) 0).2))], [.int ((g_Fr_switchTo_8 ch wr 9 w (e_Fr_takenFrames w) 0).2), .int 8, .ref 5]), yhp ((g_Fr_switchTo_8 ch wr 9 w (e_Fr_takenFrames w) 0).1) G sz)) 2 rfl ?_
  refine zec 0 (M' := M_Fr_leastFree) (qq := ([.int ((g_Fr_switchTo_8 ch wr 9 w (e_Fr_takenFrames w) 0).2)], [.int 8, .ref 5])) (s' := (83, [(0, .ref 4), (1, .int ch), (2, .int wr), (3, .int ((g_Fr_switchTo_8 ch wr 9 w (e_Fr_takenFrames w) 0).2))], [.int (e_Fr_leastFree ((g_Fr_switchTo_8 ch wr 9 w (e_Fr_takenFrames w) 0).2)), .int 8, .ref 5])) rfl rfl (fun _ => rfl) rfl rfl rfl (r_Fr_leastFree ((g_Fr_switchTo_8 ch wr 9 w (e_Fr_takenFrames w) 0).2) (by omega)) rfl ?_
  refine yis (N := 9) rfl rfl rfl (show zIx 8 9 from ⟨by decide, by decide⟩) ?_
  exact zer rfl rfl
set_option maxRecDepth 100000 in
theorem kf_Fr_switchTo (ch wr : Int32) (w : yW)  : yK [(5, none)] w (e_Fr_switchTo ch wr w ) := by unfold e_Fr_switchTo; exact (yK_wI rfl (yK_tr yK_rfl (yK_mono rfl (kf_Fr_switchTo_8 ..))))
theorem jf_Fr_switchTo (ch wr : Int32) (w : yW)  : (e_Fr_switchTo ch wr w ).2 = w.2 := by unfold e_Fr_switchTo; exact (yJ_wI ((jf_Fr_switchTo_8 ..).trans rfl))
def e_Dr_append (x y : Int32) (w : yW) : yW × Int32 := (bif zc .ge (w.1 6 2) 6 then (w, (-1)) else (bif zc .eq (e_Dr_isCoordinate x) 0 then (w, (-1)) else (bif zc .ne (e_Dr_isCoordinate y) 0 then (wI (wI (wI w 7 (w.1 6 2).toNatClampNeg x) 8 ((wI w 7 (w.1 6 2).toNatClampNeg x).1 6 2).toNatClampNeg y) 6 2 (((wI (wI w 7 (w.1 6 2).toNatClampNeg x) 8 ((wI w 7 (w.1 6 2).toNatClampNeg x).1 6 2).toNatClampNeg y).1 6 2) + 1), (wI (wI (wI w 7 (w.1 6 2).toNatClampNeg x) 8 ((wI w 7 (w.1 6 2).toNatClampNeg x).1 6 2).toNatClampNeg y) 6 2 (((wI (wI w 7 (w.1 6 2).toNatClampNeg x) 8 ((wI w 7 (w.1 6 2).toNatClampNeg x).1 6 2).toNatClampNeg y).1 6 2) + 1)).1 6 2) else (w, (-1)))))
set_option maxRecDepth 100000 in
theorem r_Dr_append {fr lo sz : Nat} {G : List zC} (x y : Int32) (w : yW) (hs0 : 0 ≤ (w.1 6 2).toInt) (hlo : 42 ≤ lo) : zAns (fr + 2) lo 8 [.ref 6, .int x, .int y] (yhp w G sz) (some (.int ((e_Dr_append x y w).2)), yhp ((e_Dr_append x y w).1) G sz) := by
  unfold e_Dr_append
  refine zeb (fr := fr + 1) (M := M_Dr_append) rfl (Nat.le_trans (by decide) hlo) rfl ?_
  have e0 : mL M_Dr_append = 3 := rfl
  refine zeN (q := ((1, [(0, .ref 6), (1, .int x), (2, .int y)], [.ref 6]), yhp w G sz)) 1 rfl ?_
  refine ygf (kk := .inr 0) (v := .int (w.1 6 2)) rfl rfl rfl rfl rfl rfl rfl ?_
  refine zeN (q := ((6, [(0, .ref 6), (1, .int x), (2, .int y)], [.int 6, .int (w.1 6 2)]), yhp w G sz)) 1 rfl ?_
  refine zbc (q1 := (23, [(0, .ref 6), (1, .int x), (2, .int y)], [])) (q2 := (9, [(0, .ref 6), (1, .int x), (2, .int y)], [])) (cB := zc .ge (w.1 6 2) 6) (off := 17) (lv := [(0, .ref 6), (1, .int x), (2, .int y)]) (st := []) rfl rfl rfl rfl rfl (fun c6 => ?_) (fun c6 => ?_)
  · rw [c6]
    refine zeN (q := ((24, [(0, .ref 6), (1, .int x), (2, .int y)], [.int ((-1))]), yhp w G sz)) 1 rfl ?_
    exact zer rfl rfl
  · rw [c6]
    have a1 : ¬ (6 : Int) ≤ (w.1 6 2).toInt := of_decide_eq_false (z_ge c6).symm
    have hz : zIx (w.1 6 2) 6 := ⟨hs0, by omega⟩
    refine zeN (q := ((10, [(0, .ref 6), (1, .int x), (2, .int y)], [.int x]), yhp w G sz)) 1 rfl ?_
    refine zec 0 (M' := M_Dr_isCoordinate) (qq := ([.int x], [])) (s' := (13, [(0, .ref 6), (1, .int x), (2, .int y)], [.int (e_Dr_isCoordinate x)])) rfl rfl (fun _ => rfl) rfl rfl rfl (r_Dr_isCoordinate x (by omega)) rfl ?_
    refine zbc (q1 := (23, [(0, .ref 6), (1, .int x), (2, .int y)], [])) (q2 := (16, [(0, .ref 6), (1, .int x), (2, .int y)], [])) (cB := zc .eq (e_Dr_isCoordinate x) 0) (off := 10) (lv := [(0, .ref 6), (1, .int x), (2, .int y)]) (st := []) rfl rfl rfl rfl rfl (fun c13 => ?_) (fun c13 => ?_)
    · rw [c13]
      refine zeN (q := ((24, [(0, .ref 6), (1, .int x), (2, .int y)], [.int ((-1))]), yhp w G sz)) 1 rfl ?_
      exact zer rfl rfl
    · rw [c13]
      refine zeN (q := ((17, [(0, .ref 6), (1, .int x), (2, .int y)], [.int y]), yhp w G sz)) 1 rfl ?_
      refine zec 0 (M' := M_Dr_isCoordinate) (qq := ([.int y], [])) (s' := (20, [(0, .ref 6), (1, .int x), (2, .int y)], [.int (e_Dr_isCoordinate y)])) rfl rfl (fun _ => rfl) rfl rfl rfl (r_Dr_isCoordinate y (by omega)) rfl ?_
      refine zbc (q1 := (25, [(0, .ref 6), (1, .int x), (2, .int y)], [])) (q2 := (23, [(0, .ref 6), (1, .int x), (2, .int y)], [])) (cB := zc .ne (e_Dr_isCoordinate y) 0) (off := 5) (lv := [(0, .ref 6), (1, .int x), (2, .int y)]) (st := []) rfl rfl rfl rfl rfl (fun c20 => ?_) (fun c20 => ?_)
      · rw [c20]
        have hz2 : zIx ((wI w 7 (w.1 6 2).toNatClampNeg x).1 6 2) 6 := by rw [wI_ne (by decide)]; exact hz
        refine zeN (q := ((26, [(0, .ref 6), (1, .int x), (2, .int y)], [.ref 6]), yhp w G sz)) 1 rfl ?_
        refine ygf (kk := .inl (.ref 7)) (v := .ref 7) rfl rfl rfl rfl rfl rfl rfl ?_
        refine zeN (q := ((30, [(0, .ref 6), (1, .int x), (2, .int y)], [.ref 6, .ref 7]), yhp w G sz)) 1 rfl ?_
        refine ygf (kk := .inr 0) (v := .int (w.1 6 2)) rfl rfl rfl rfl rfl rfl rfl ?_
        refine zeN (q := ((34, [(0, .ref 6), (1, .int x), (2, .int y)], [.int x, .int (w.1 6 2), .ref 7]), yhp w G sz)) 1 rfl ?_
        refine yis (N := 6) rfl rfl rfl hz ?_
        refine zeN (q := ((36, [(0, .ref 6), (1, .int x), (2, .int y)], [.ref 6]), yhp (wI w 7 (w.1 6 2).toNatClampNeg x) G sz)) 1 rfl ?_
        refine ygf (kk := .inl (.ref 8)) (v := .ref 8) rfl rfl rfl rfl rfl rfl rfl ?_
        refine zeN (q := ((40, [(0, .ref 6), (1, .int x), (2, .int y)], [.ref 6, .ref 8]), yhp (wI w 7 (w.1 6 2).toNatClampNeg x) G sz)) 1 rfl ?_
        refine ygf (kk := .inr 0) (v := .int ((wI w 7 (w.1 6 2).toNatClampNeg x).1 6 2)) rfl rfl rfl rfl rfl rfl rfl ?_
        refine zeN (q := ((44, [(0, .ref 6), (1, .int x), (2, .int y)], [.int y, .int ((wI w 7 (w.1 6 2).toNatClampNeg x).1 6 2), .ref 8]), yhp (wI w 7 (w.1 6 2).toNatClampNeg x) G sz)) 1 rfl ?_
        refine yis (N := 6) rfl rfl rfl hz2 ?_
        refine zeN (q := ((47, [(0, .ref 6), (1, .int x), (2, .int y)], [.ref 6, .ref 6]), yhp (wI (wI w 7 (w.1 6 2).toNatClampNeg x) 8 ((wI w 7 (w.1 6 2).toNatClampNeg x).1 6 2).toNatClampNeg y) G sz)) 2 rfl ?_
        refine ygf (kk := .inr 0) (v := .int ((wI (wI w 7 (w.1 6 2).toNatClampNeg x) 8 ((wI w 7 (w.1 6 2).toNatClampNeg x).1 6 2).toNatClampNeg y).1 6 2)) rfl rfl rfl rfl rfl rfl rfl ?_
        refine zeN (q := ((52, [(0, .ref 6), (1, .int x), (2, .int y)], [.int (((wI (wI w 7 (w.1 6 2).toNatClampNeg x) 8 ((wI w 7 (w.1 6 2).toNatClampNeg x).1 6 2).toNatClampNeg y).1 6 2) + 1), .ref 6]), yhp (wI (wI w 7 (w.1 6 2).toNatClampNeg x) 8 ((wI w 7 (w.1 6 2).toNatClampNeg x).1 6 2).toNatClampNeg y) G sz)) 2 rfl ?_
        refine ypI (v := ((wI (wI w 7 (w.1 6 2).toNatClampNeg x) 8 ((wI w 7 (w.1 6 2).toNatClampNeg x).1 6 2).toNatClampNeg y).1 6 2) + 1) rfl rfl rfl rfl rfl rfl rfl ?_
        refine zeN (q := ((56, [(0, .ref 6), (1, .int x), (2, .int y)], [.ref 6]), yhp (wI (wI (wI w 7 (w.1 6 2).toNatClampNeg x) 8 ((wI w 7 (w.1 6 2).toNatClampNeg x).1 6 2).toNatClampNeg y) 6 2 (((wI (wI w 7 (w.1 6 2).toNatClampNeg x) 8 ((wI w 7 (w.1 6 2).toNatClampNeg x).1 6 2).toNatClampNeg y).1 6 2) + 1)) G sz)) 1 rfl ?_
        refine ygf (kk := .inr 0) (v := .int ((wI (wI (wI w 7 (w.1 6 2).toNatClampNeg x) 8 ((wI w 7 (w.1 6 2).toNatClampNeg x).1 6 2).toNatClampNeg y) 6 2 (((wI (wI w 7 (w.1 6 2).toNatClampNeg x) 8 ((wI w 7 (w.1 6 2).toNatClampNeg x).1 6 2).toNatClampNeg y).1 6 2) + 1)).1 6 2)) rfl rfl rfl rfl rfl rfl rfl ?_
        exact zer rfl rfl
      · rw [c20]
        refine zeN (q := ((24, [(0, .ref 6), (1, .int x), (2, .int y)], [.int ((-1))]), yhp w G sz)) 1 rfl ?_
        exact zer rfl rfl
set_option maxRecDepth 100000 in
theorem kf_Dr_append (x y : Int32) (w : yW)  : yK [(6, some 2), (7, none), (8, none)] w (e_Dr_append x y w ).1 := by unfold e_Dr_append; exact (yK_if1 (yK_p yK_rfl) (yK_if1 (yK_p yK_rfl) (yK_if1 (yK_p (yK_wI rfl (yK_wI rfl (yK_wI rfl yK_rfl)))) (yK_p yK_rfl))))
theorem jf_Dr_append (x y : Int32) (w : yW)  : (e_Dr_append x y w ).1.2 = w.2 := by unfold e_Dr_append; exact (yJ_if1 (yJ_p rfl) (yJ_if1 (yJ_p rfl) (yJ_if1 (yJ_p (yJ_wI (yJ_wI (yJ_wI rfl)))) (yJ_p rfl))))
def e_Dr_clear  (w : yW) : yW := wI w 6 2 0
set_option maxRecDepth 100000 in
theorem r_Dr_clear {fr lo sz : Nat} {G : List zC}  (w : yW)  (hlo : 20 ≤ lo) : zAns (fr + 1) lo 12 [.ref 6] (yhp w G sz) (none, yhp ((e_Dr_clear  w)) G sz) := by
  unfold e_Dr_clear
  refine zeb (fr := fr + 0) (M := M_Dr_clear) rfl (Nat.le_trans (by decide) hlo) rfl ?_
  have e0 : mL M_Dr_clear = 1 := rfl
  refine zeN (q := ((2, [(0, .ref 6)], [.int 0, .ref 6]), yhp w G sz)) 2 rfl ?_
  refine ypI (v := 0) rfl rfl rfl rfl rfl rfl rfl ?_
  exact zer rfl rfl
set_option maxRecDepth 100000 in
theorem kf_Dr_clear  (w : yW)  : yK [(6, some 2)] w (e_Dr_clear  w ) := by unfold e_Dr_clear; exact (yK_wI rfl yK_rfl)
theorem jf_Dr_clear  (w : yW)  : (e_Dr_clear  w ).2 = w.2 := by unfold e_Dr_clear; exact (yJ_wI rfl)
def e_Dr_hasCountFor (kd : Int32) (w : yW) : Int32 := (bif zc .ne kd 0 then (bif zc .ne kd 1 then (bif zc .lt (w.1 6 2) 3 then 0 else 1) else (bif zc .lt (w.1 6 2) 2 then 0 else 1)) else (bif zc .ne (w.1 6 2) 1 then 0 else 1))
set_option maxRecDepth 100000 in
theorem r_Dr_hasCountFor {fr lo sz : Nat} {G : List zC} (kd : Int32) (w : yW)  (hlo : 21 ≤ lo) : zAns (fr + 1) lo 11 [.ref 6, .int kd] (yhp w G sz) (some (.int ((e_Dr_hasCountFor kd w))), yhp w G sz) := by
  unfold e_Dr_hasCountFor
  refine zeb (fr := fr + 0) (M := M_Dr_hasCountFor) rfl (Nat.le_trans (by decide) hlo) rfl ?_
  have e0 : mL M_Dr_hasCountFor = 2 := rfl
  refine zeN (q := ((1, [(0, .ref 6), (1, .int kd)], [.int kd]), yhp w G sz)) 1 rfl ?_
  refine zbc (q1 := (18, [(0, .ref 6), (1, .int kd)], [])) (q2 := (4, [(0, .ref 6), (1, .int kd)], [])) (cB := zc .ne kd 0) (off := 17) (lv := [(0, .ref 6), (1, .int kd)]) (st := []) rfl rfl rfl rfl rfl (fun c1 => ?_) (fun c1 => ?_)
  · rw [c1]
    refine zeN (q := ((19, [(0, .ref 6), (1, .int kd)], [.ref 6]), yhp w G sz)) 1 rfl ?_
    refine ygf (kk := .inr 0) (v := .int (w.1 6 2)) rfl rfl rfl rfl rfl rfl rfl ?_
    refine zeN (q := ((24, [(0, .ref 6), (1, .int kd)], [.int 1, .int kd, .int (w.1 6 2)]), yhp w G sz)) 2 rfl ?_
    refine zbc (q1 := (31, [(0, .ref 6), (1, .int kd)], [.int (w.1 6 2)])) (q2 := (27, [(0, .ref 6), (1, .int kd)], [.int (w.1 6 2)])) (cB := zc .ne kd 1) (off := 7) (lv := [(0, .ref 6), (1, .int kd)]) (st := [.int (w.1 6 2)]) rfl rfl rfl rfl rfl (fun c24 => ?_) (fun c24 => ?_)
    · rw [c24]
      refine zeN (q := ((32, [(0, .ref 6), (1, .int kd)], [.int 3, .int (w.1 6 2)]), yhp w G sz)) 1 rfl ?_
      refine zbc (q1 := (39, [(0, .ref 6), (1, .int kd)], [])) (q2 := (35, [(0, .ref 6), (1, .int kd)], [])) (cB := zc .lt (w.1 6 2) 3) (off := 7) (lv := [(0, .ref 6), (1, .int kd)]) (st := []) rfl rfl rfl rfl rfl (fun c32 => ?_) (fun c32 => ?_)
      · rw [c32]
        refine zeN (q := ((40, [(0, .ref 6), (1, .int kd)], [.int 0]), yhp w G sz)) 1 rfl ?_
        exact zer rfl rfl
      · rw [c32]
        refine zeN (q := ((40, [(0, .ref 6), (1, .int kd)], [.int 1]), yhp w G sz)) 2 rfl ?_
        exact zer rfl rfl
    · rw [c24]
      refine zeN (q := ((32, [(0, .ref 6), (1, .int kd)], [.int 2, .int (w.1 6 2)]), yhp w G sz)) 2 rfl ?_
      refine zbc (q1 := (39, [(0, .ref 6), (1, .int kd)], [])) (q2 := (35, [(0, .ref 6), (1, .int kd)], [])) (cB := zc .lt (w.1 6 2) 2) (off := 7) (lv := [(0, .ref 6), (1, .int kd)]) (st := []) rfl rfl rfl rfl rfl (fun c32 => ?_) (fun c32 => ?_)
      · rw [c32]
        refine zeN (q := ((40, [(0, .ref 6), (1, .int kd)], [.int 0]), yhp w G sz)) 1 rfl ?_
        exact zer rfl rfl
      · rw [c32]
        refine zeN (q := ((40, [(0, .ref 6), (1, .int kd)], [.int 1]), yhp w G sz)) 2 rfl ?_
        exact zer rfl rfl
  · rw [c1]
    refine zeN (q := ((5, [(0, .ref 6), (1, .int kd)], [.ref 6]), yhp w G sz)) 1 rfl ?_
    refine ygf (kk := .inr 0) (v := .int (w.1 6 2)) rfl rfl rfl rfl rfl rfl rfl ?_
    refine zeN (q := ((9, [(0, .ref 6), (1, .int kd)], [.int 1, .int (w.1 6 2)]), yhp w G sz)) 1 rfl ?_
    refine zbc (q1 := (16, [(0, .ref 6), (1, .int kd)], [])) (q2 := (12, [(0, .ref 6), (1, .int kd)], [])) (cB := zc .ne (w.1 6 2) 1) (off := 7) (lv := [(0, .ref 6), (1, .int kd)]) (st := []) rfl rfl rfl rfl rfl (fun c9 => ?_) (fun c9 => ?_)
    · rw [c9]
      refine zeN (q := ((17, [(0, .ref 6), (1, .int kd)], [.int 0]), yhp w G sz)) 1 rfl ?_
      exact zer rfl rfl
    · rw [c9]
      refine zeN (q := ((17, [(0, .ref 6), (1, .int kd)], [.int 1]), yhp w G sz)) 2 rfl ?_
      exact zer rfl rfl
