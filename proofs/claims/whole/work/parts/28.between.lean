theorem zIx_0 {n : Nat} (h : 1 ≤ n) : zIx 0 n := ⟨Int.le_refl _, by show (0 : Int) < _; omega⟩
def f_Di_between_L66 (X Y X2 Y2 : List Int32) (kd kd2 : Int32) (p0 : Int64 × Int64) (i : Int32) (K : Int64 × Int64 → Int64 × Int64) : Nat → Int32 → Int64 × Int64 → Int64 × Int64
  | 0, _, p => p
  | n + 1, j, p => (bif zc .ge j (f_Ge_sides X2 kd2) then (K p) else (bif zc .le (lg_cmp p.1 0) 0 then (K p) else (f_Di_between_L66 X Y X2 Y2 kd kd2 p0 i K n (j + Int32.ofInt 1) (f_Di_lessenBySides X Y X2 Y2 i j p))))
set_option maxRecDepth 100000 in
theorem s_Di_between_L66 {fr lo : Nat} {h : zH} (X Y X2 Y2 : List Int32) (kd kd2 : Int32) (p0 : Int64 × Int64) (i : Int32) (d : Nat) (hd : h.1[d]? = some (.inr (3, [.long p0.1, .long p0.2]))) (g px py pb : Nat) (hg : h.1[g]? = some (.inr (6, [.int kd, .ref px, .ref py, .ref pb]))) (hX : h.1[px]? = some (.inl (0, X.map Value.int))) (hY : h.1[py]? = some (.inl (0, Y.map Value.int))) (hXY : Y.length = X.length) (hn : X.length ≤ 1000) (g2 px2 py2 pb2 : Nat) (hg2 : h.1[g2]? = some (.inr (6, [.int kd2, .ref px2, .ref py2, .ref pb2]))) (hX2 : h.1[px2]? = some (.inl (0, X2.map Value.int))) (hY2 : h.1[py2]? = some (.inl (0, Y2.map Value.int))) (hXY2 : Y2.length = X2.length) (hn2 : X2.length ≤ 1000) (n_hg : g ≠ d) (n_hX : px ≠ d) (n_hY : py ≠ d) (n_hg2 : g2 ≠ d) (n_hX2 : px2 ≠ d) (n_hY2 : py2 ≠ d) (hne : 1 ≤ X.length) (hne2 : 1 ≤ X2.length) (hi : zIx i X.length) (K : Int64 × Int64 → Int64 × Int64) (hK : ∀ p, zRun (fr + 4) lo none M_Di_between (99, [(0, .ref d), (1, .ref g), (2, .ref g2), (3, .int i)], []) (zD h d p) (none, zD h d (K p))) (hlo : 136 ≤ lo) : ∀ (n : Nat) (j : Int32) (p : Int64 × Int64) (k0 : 0 ≤ j.toInt) (k1 : j.toInt ≤ X2.length) (km : (X2.length : Int) < j.toInt + n), zRun (fr + 4) lo none M_Di_between (66, [(0, .ref d), (1, .ref g), (2, .ref g2), (3, .int i), (4, .int j)], []) (zD h d p) (none, zD h d (f_Di_between_L66 X Y X2 Y2 kd kd2 p0 i K n j p)) := by
  intro n
  induction n with
  | zero => intro j p k0 k1 km; exfalso; omega
  | succ n ih =>
    intro j p k0 k1 km
    rw [f_Di_between_L66]
    refine zeN (q := ((69, [(0, .ref d), (1, .ref g), (2, .ref g2), (3, .int i), (4, .int j)], [.ref g2, .int j]), (zD h d p))) 2 rfl ?_
    refine zec 1 (M' := M_Ge_sides) (qq := ([.ref g2], [.int j])) (s' := (72, [(0, .ref d), (1, .ref g), (2, .ref g2), (3, .int i), (4, .int j)], [.int (f_Ge_sides X2 kd2), .int j])) rfl rfl (fun _ => rfl) rfl rfl (zhk rfl (zrc_ok (zD_ne hg2 n_hg2)) rfl) (s_Ge_sides X2 kd2 g2 px2 py2 pb2 (zD_ne hg2 n_hg2) (zD_ne hX2 n_hX2) (by omega)) rfl ?_
    refine zbc (q1 := (99, [(0, .ref d), (1, .ref g), (2, .ref g2), (3, .int i), (4, .int j)], [])) (q2 := (75, [(0, .ref d), (1, .ref g), (2, .ref g2), (3, .int i), (4, .int j)], [])) (cB := zc .ge j (f_Ge_sides X2 kd2)) (off := 27) (lv := [(0, .ref d), (1, .ref g), (2, .ref g2), (3, .int i), (4, .int j)]) (st := []) rfl rfl rfl rfl rfl (fun c72 => ?_) (fun c72 => ?_)
    · rw [c72]
      refine zeS [(0, .ref d), (1, .ref g), (2, .ref g2), (3, .int i)] (zsub_pick [0, 1, 2, 3] rfl rfl) ?_
      exact hK p
    · rw [c72]
      have hs := z_sides (kd := kd2) hn2 hne2
      have hcc := of_decide_eq_false (z_ge c72).symm
      have hj : zIx j X2.length := ⟨k0, by omega⟩
      have hj1 := z_inc (a := j) (by omega) (by omega)
      refine zeN (q := ((76, [(0, .ref d), (1, .ref g), (2, .ref g2), (3, .int i), (4, .int j)], [.ref d]), (zD h d p))) 1 rfl ?_
      refine zegf (fs := [.long p.1, .long p.2]) (v := .long p.1) rfl rfl rfl rfl (zD_self hd) rfl ?_
      refine zeN (q := ((81, [(0, .ref d), (1, .ref g), (2, .ref g2), (3, .int i), (4, .int j)], [.int (lg_cmp p.1 0)]), (zD h d p))) 2 rfl ?_
      refine zbc (q1 := (99, [(0, .ref d), (1, .ref g), (2, .ref g2), (3, .int i), (4, .int j)], [])) (q2 := (84, [(0, .ref d), (1, .ref g), (2, .ref g2), (3, .int i), (4, .int j)], [])) (cB := zc .le (lg_cmp p.1 0) 0) (off := 18) (lv := [(0, .ref d), (1, .ref g), (2, .ref g2), (3, .int i), (4, .int j)]) (st := []) rfl rfl rfl rfl rfl (fun c81 => ?_) (fun c81 => ?_)
      · rw [c81]
        refine zeS [(0, .ref d), (1, .ref g), (2, .ref g2), (3, .int i)] (zsub_pick [0, 1, 2, 3] rfl rfl) ?_
        exact hK p
      · rw [c81]
        refine zeN (q := ((90, [(0, .ref d), (1, .ref g), (2, .ref g2), (3, .int i), (4, .int j)], [.int j, .ref g2, .int i, .ref g, .ref d]), (zD h d p))) 5 rfl ?_
        refine zec 1 (M' := M_Di_lessenBySides) (qq := ([.ref d, .ref g, .int i, .ref g2, .int j], [])) (s' := (93, [(0, .ref d), (1, .ref g), (2, .ref g2), (3, .int i), (4, .int j)], [])) rfl rfl (fun _ => rfl) rfl rfl (zhk rfl (zrc_ok (zD_self hd)) rfl) (zAns_D (s_Di_lessenBySides X Y X2 Y2 i j p d (zD_self hd) g px py pb kd (zD_ne hg n_hg) (zD_ne hX n_hX) (zD_ne hY n_hY) hXY hn g2 px2 py2 pb2 kd2 (zD_ne hg2 n_hg2) (zD_ne hX2 n_hX2) (zD_ne hY2 n_hY2) hXY2 hn2 n_hg n_hX n_hY n_hg2 n_hX2 n_hY2 hi hj (by omega))) rfl ?_
        refine zeN (q := ((66, [(4, .int (j + Int32.ofInt 1)), (0, .ref d), (1, .ref g), (2, .ref g2), (3, .int i)], []), (zD h d (f_Di_lessenBySides X Y X2 Y2 i j p)))) 2 rfl ?_
        refine zeS [(0, .ref d), (1, .ref g), (2, .ref g2), (3, .int i), (4, .int (j + Int32.ofInt 1))] (zsub_pick [1, 2, 3, 4, 0] rfl rfl) ?_
        exact ih (j + Int32.ofInt 1) (f_Di_lessenBySides X Y X2 Y2 i j p) (by omega) (by omega) (by omega)
def f_Di_between_L55 (X Y X2 Y2 : List Int32) (kd kd2 : Int32) (p0 : Int64 × Int64)  : Nat → Int32 → Int64 × Int64 → Int64 × Int64
  | 0, _, p => p
  | n + 1, i, p => (bif zc .ge i (f_Ge_sides X kd) then p else (f_Di_between_L66 X Y X2 Y2 kd kd2 p0 i (fun p => (f_Di_between_L55 X Y X2 Y2 kd kd2 p0 n (i + Int32.ofInt 1) p)) (X2.length + 1) 0 p))
set_option maxRecDepth 100000 in
theorem s_Di_between_L55 {fr lo : Nat} {h : zH} (X Y X2 Y2 : List Int32) (kd kd2 : Int32) (p0 : Int64 × Int64)  (d : Nat) (hd : h.1[d]? = some (.inr (3, [.long p0.1, .long p0.2]))) (g px py pb : Nat) (hg : h.1[g]? = some (.inr (6, [.int kd, .ref px, .ref py, .ref pb]))) (hX : h.1[px]? = some (.inl (0, X.map Value.int))) (hY : h.1[py]? = some (.inl (0, Y.map Value.int))) (hXY : Y.length = X.length) (hn : X.length ≤ 1000) (g2 px2 py2 pb2 : Nat) (hg2 : h.1[g2]? = some (.inr (6, [.int kd2, .ref px2, .ref py2, .ref pb2]))) (hX2 : h.1[px2]? = some (.inl (0, X2.map Value.int))) (hY2 : h.1[py2]? = some (.inl (0, Y2.map Value.int))) (hXY2 : Y2.length = X2.length) (hn2 : X2.length ≤ 1000) (n_hg : g ≠ d) (n_hX : px ≠ d) (n_hY : py ≠ d) (n_hg2 : g2 ≠ d) (n_hX2 : px2 ≠ d) (n_hY2 : py2 ≠ d) (hne : 1 ≤ X.length) (hne2 : 1 ≤ X2.length)  (hlo : 136 ≤ lo) : ∀ (n : Nat) (i : Int32) (p : Int64 × Int64) (h0 : 0 ≤ i.toInt) (h1 : i.toInt ≤ X.length) (hm : (X.length : Int) < i.toInt + n), zRun (fr + 4) lo none M_Di_between (55, [(0, .ref d), (1, .ref g), (2, .ref g2), (3, .int i)], []) (zD h d p) (none, zD h d (f_Di_between_L55 X Y X2 Y2 kd kd2 p0 n i p)) := by
  intro n
  induction n with
  | zero => intro i p h0 h1 hm; exfalso; omega
  | succ n ih =>
    intro i p h0 h1 hm
    rw [f_Di_between_L55]
    refine zeN (q := ((57, [(0, .ref d), (1, .ref g), (2, .ref g2), (3, .int i)], [.ref g, .int i]), (zD h d p))) 2 rfl ?_
    refine zec 1 (M' := M_Ge_sides) (qq := ([.ref g], [.int i])) (s' := (60, [(0, .ref d), (1, .ref g), (2, .ref g2), (3, .int i)], [.int (f_Ge_sides X kd), .int i])) rfl rfl (fun _ => rfl) rfl rfl (zhk rfl (zrc_ok (zD_ne hg n_hg)) rfl) (s_Ge_sides X kd g px py pb (zD_ne hg n_hg) (zD_ne hX n_hX) (by omega)) rfl ?_
    refine zbc (q1 := (105, [(0, .ref d), (1, .ref g), (2, .ref g2), (3, .int i)], [])) (q2 := (63, [(0, .ref d), (1, .ref g), (2, .ref g2), (3, .int i)], [])) (cB := zc .ge i (f_Ge_sides X kd)) (off := 45) (lv := [(0, .ref d), (1, .ref g), (2, .ref g2), (3, .int i)]) (st := []) rfl rfl rfl rfl rfl (fun c60 => ?_) (fun c60 => ?_)
    · rw [c60]
      exact zer rfl rfl
    · rw [c60]
      have hs := z_sides (kd := kd) hn hne
      have hcc := of_decide_eq_false (z_ge c60).symm
      have hi : zIx i X.length := ⟨h0, by omega⟩
      have hi1 := z_inc (a := i) (by omega) (by omega)
      refine zeN (q := ((66, [(4, .int 0), (0, .ref d), (1, .ref g), (2, .ref g2), (3, .int i)], []), (zD h d p))) 2 rfl ?_
      have hK : ∀ p, zRun (fr + 4) lo none M_Di_between (99, [(0, .ref d), (1, .ref g), (2, .ref g2), (3, .int i)], []) (zD h d p) (none, zD h d ((fun p => (f_Di_between_L55 X Y X2 Y2 kd kd2 p0 n (i + Int32.ofInt 1) p)) p)) := by
        intro p
        refine zeN (q := ((55, [(3, .int (i + Int32.ofInt 1)), (0, .ref d), (1, .ref g), (2, .ref g2)], []), (zD h d p))) 2 rfl ?_
        refine zeS [(0, .ref d), (1, .ref g), (2, .ref g2), (3, .int (i + Int32.ofInt 1))] (zsub_pick [1, 2, 3, 0] rfl rfl) ?_
        exact ih (i + Int32.ofInt 1) p (by omega) (by omega) (by omega)
      refine zeS [(0, .ref d), (1, .ref g), (2, .ref g2), (3, .int i), (4, .int 0)] (zsub_pick [1, 2, 3, 4, 0] rfl rfl) ?_
      exact s_Di_between_L66 X Y X2 Y2 kd kd2 p0 i d hd g px py pb hg hX hY hXY hn g2 px2 py2 pb2 hg2 hX2 hY2 hXY2 hn2 n_hg n_hX n_hY n_hg2 n_hX2 n_hY2 hne hne2 hi (fun p => (f_Di_between_L55 X Y X2 Y2 kd kd2 p0 n (i + Int32.ofInt 1) p)) hK (by omega) (X2.length + 1) 0 p (Int.le_refl _) (by show (0 : Int) ≤ _; omega) (by show (X2.length : Int) < 0 + _; omega)
def f_Di_between (X Y X2 Y2 : List Int32) (kd kd2 : Int32) (p0 : Int64 × Int64) : Int64 × Int64 := (bif zc .ne (f_Ge_encloses X Y kd (gI X2 (0 : Int32)) (gI Y2 (0 : Int32))) 0 then (0, 1) else (bif zc .eq (f_Ge_encloses X2 Y2 kd2 (gI X (0 : Int32)) (gI Y (0 : Int32))) 0 then (f_Di_between_L55 X Y X2 Y2 kd kd2 p0 (X.length + 1) 0 ((1048576, 1))) else (0, 1)))
set_option maxRecDepth 100000 in
theorem s_Di_between {fr lo : Nat} {h : zH} (X Y X2 Y2 : List Int32) (kd kd2 : Int32) (p0 : Int64 × Int64) (d : Nat) (hd : h.1[d]? = some (.inr (3, [.long p0.1, .long p0.2]))) (g px py pb : Nat) (hg : h.1[g]? = some (.inr (6, [.int kd, .ref px, .ref py, .ref pb]))) (hX : h.1[px]? = some (.inl (0, X.map Value.int))) (hY : h.1[py]? = some (.inl (0, Y.map Value.int))) (hXY : Y.length = X.length) (hn : X.length ≤ 1000) (g2 px2 py2 pb2 : Nat) (hg2 : h.1[g2]? = some (.inr (6, [.int kd2, .ref px2, .ref py2, .ref pb2]))) (hX2 : h.1[px2]? = some (.inl (0, X2.map Value.int))) (hY2 : h.1[py2]? = some (.inl (0, Y2.map Value.int))) (hXY2 : Y2.length = X2.length) (hn2 : X2.length ≤ 1000) (n_hg : g ≠ d) (n_hX : px ≠ d) (n_hY : py ≠ d) (n_hg2 : g2 ≠ d) (n_hX2 : px2 ≠ d) (n_hY2 : py2 ≠ d) (hne : 1 ≤ X.length) (hne2 : 1 ≤ X2.length) (hlo : 160 ≤ lo) : zAns (fr + 5) lo 58 [.ref d, .ref g, .ref g2] h (none, zD h d (f_Di_between X Y X2 Y2 kd kd2 p0)) := by
  unfold f_Di_between
  refine zeb (fr := fr + 4) (M := M_Di_between) rfl (Nat.le_trans (by decide) hlo) rfl ?_
  have e0 : mL M_Di_between = 5 := rfl
  refine zeN (q := ((2, [(0, .ref d), (1, .ref g), (2, .ref g2)], [.ref g2, .ref g]), h)) 2 rfl ?_
  refine zegf (fs := [.int kd2, .ref px2, .ref py2, .ref pb2]) (v := .ref px2) rfl rfl rfl rfl hg2 rfl ?_
  refine zeN (q := ((6, [(0, .ref d), (1, .ref g), (2, .ref g2)], [.int 0, .ref px2, .ref g]), h)) 1 rfl ?_
  refine zeia (l := X2.map Value.int) (k := (0 : Int32).toNatClampNeg) (v := .int (gI X2 (0 : Int32))) rfl rfl hX2 (zIx_a (zIx_0 hne2)) (zIx_b (zIx_0 hne2)) ?_
  refine zeN (q := ((8, [(0, .ref d), (1, .ref g), (2, .ref g2)], [.ref g2, .int (gI X2 (0 : Int32)), .ref g]), h)) 1 rfl ?_
  refine zegf (fs := [.int kd2, .ref px2, .ref py2, .ref pb2]) (v := .ref py2) rfl rfl rfl rfl hg2 rfl ?_
  refine zeN (q := ((12, [(0, .ref d), (1, .ref g), (2, .ref g2)], [.int 0, .ref py2, .int (gI X2 (0 : Int32)), .ref g]), h)) 1 rfl ?_
  refine zeia (l := Y2.map Value.int) (k := (0 : Int32).toNatClampNeg) (v := .int (gI Y2 (0 : Int32))) rfl rfl hY2 (zIx_a (zIx_s (zIx_0 hne2) hXY2)) (zIx_b (zIx_s (zIx_0 hne2) hXY2)) ?_
  refine zec 1 (M' := M_Ge_encloses) (qq := ([.ref g, .int (gI X2 (0 : Int32)), .int (gI Y2 (0 : Int32))], [])) (s' := (16, [(0, .ref d), (1, .ref g), (2, .ref g2)], [.int (f_Ge_encloses X Y kd (gI X2 (0 : Int32)) (gI Y2 (0 : Int32)))])) rfl rfl (fun _ => rfl) rfl rfl (zhk rfl (zrc_ok hg) rfl) (s_Ge_encloses X Y kd (gI X2 (0 : Int32)) (gI Y2 (0 : Int32)) g px py pb hg hX hY hXY hn hne (by omega)) rfl ?_
  refine zbc (q1 := (38, [(0, .ref d), (1, .ref g), (2, .ref g2)], [])) (q2 := (19, [(0, .ref d), (1, .ref g), (2, .ref g2)], [])) (cB := zc .ne (f_Ge_encloses X Y kd (gI X2 (0 : Int32)) (gI Y2 (0 : Int32))) 0) (off := 22) (lv := [(0, .ref d), (1, .ref g), (2, .ref g2)]) (st := []) rfl rfl rfl rfl rfl (fun c16 => ?_) (fun c16 => ?_)
  · rw [c16]
    refine zeN (q := ((41, [(0, .ref d), (1, .ref g), (2, .ref g2)], [.long 1, .long 0, .ref d]), h)) 3 rfl ?_
    refine zec 1 (M' := M_Di_become) (qq := ([.ref d, .long 0, .long 1], [])) (s' := (44, [(0, .ref d), (1, .ref g), (2, .ref g2)], [])) rfl rfl (fun _ => rfl) rfl rfl (zhk rfl (zrc_ok hd) rfl) (s_Di_become p0.1 p0.2 0 1 d hd (by omega)) rfl ?_
    exact zer rfl rfl
  · rw [c16]
    refine zeN (q := ((21, [(0, .ref d), (1, .ref g), (2, .ref g2)], [.ref g, .ref g2]), h)) 2 rfl ?_
    refine zegf (fs := [.int kd, .ref px, .ref py, .ref pb]) (v := .ref px) rfl rfl rfl rfl hg rfl ?_
    refine zeN (q := ((25, [(0, .ref d), (1, .ref g), (2, .ref g2)], [.int 0, .ref px, .ref g2]), h)) 1 rfl ?_
    refine zeia (l := X.map Value.int) (k := (0 : Int32).toNatClampNeg) (v := .int (gI X (0 : Int32))) rfl rfl hX (zIx_a (zIx_0 hne)) (zIx_b (zIx_0 hne)) ?_
    refine zeN (q := ((27, [(0, .ref d), (1, .ref g), (2, .ref g2)], [.ref g, .int (gI X (0 : Int32)), .ref g2]), h)) 1 rfl ?_
    refine zegf (fs := [.int kd, .ref px, .ref py, .ref pb]) (v := .ref py) rfl rfl rfl rfl hg rfl ?_
    refine zeN (q := ((31, [(0, .ref d), (1, .ref g), (2, .ref g2)], [.int 0, .ref py, .int (gI X (0 : Int32)), .ref g2]), h)) 1 rfl ?_
    refine zeia (l := Y.map Value.int) (k := (0 : Int32).toNatClampNeg) (v := .int (gI Y (0 : Int32))) rfl rfl hY (zIx_a (zIx_s (zIx_0 hne) hXY)) (zIx_b (zIx_s (zIx_0 hne) hXY)) ?_
    refine zec 1 (M' := M_Ge_encloses) (qq := ([.ref g2, .int (gI X (0 : Int32)), .int (gI Y (0 : Int32))], [])) (s' := (35, [(0, .ref d), (1, .ref g), (2, .ref g2)], [.int (f_Ge_encloses X2 Y2 kd2 (gI X (0 : Int32)) (gI Y (0 : Int32)))])) rfl rfl (fun _ => rfl) rfl rfl (zhk rfl (zrc_ok hg2) rfl) (s_Ge_encloses X2 Y2 kd2 (gI X (0 : Int32)) (gI Y (0 : Int32)) g2 px2 py2 pb2 hg2 hX2 hY2 hXY2 hn2 hne2 (by omega)) rfl ?_
    refine zbc (q1 := (45, [(0, .ref d), (1, .ref g), (2, .ref g2)], [])) (q2 := (38, [(0, .ref d), (1, .ref g), (2, .ref g2)], [])) (cB := zc .eq (f_Ge_encloses X2 Y2 kd2 (gI X (0 : Int32)) (gI Y (0 : Int32))) 0) (off := 10) (lv := [(0, .ref d), (1, .ref g), (2, .ref g2)]) (st := []) rfl rfl rfl rfl rfl (fun c35 => ?_) (fun c35 => ?_)
    · rw [c35]
      refine zeN (q := ((50, [(0, .ref d), (1, .ref g), (2, .ref g2)], [.long 1, .long 1048576, .ref d]), h)) 3 rfl ?_
      refine zec 1 (M' := M_Di_become) (qq := ([.ref d, .long 1048576, .long 1], [])) (s' := (53, [(0, .ref d), (1, .ref g), (2, .ref g2)], [])) rfl rfl (fun _ => rfl) rfl rfl (zhk rfl (zrc_ok hd) rfl) (s_Di_become p0.1 p0.2 1048576 1 d hd (by omega)) rfl ?_
      refine zeN (q := ((55, [(3, .int 0), (0, .ref d), (1, .ref g), (2, .ref g2)], []), (zD h d (1048576, 1)))) 2 rfl ?_
      refine zeS [(0, .ref d), (1, .ref g), (2, .ref g2), (3, .int 0)] (zsub_pick [1, 2, 3, 0] rfl rfl) ?_
      exact s_Di_between_L55 X Y X2 Y2 kd kd2 p0 d hd g px py pb hg hX hY hXY hn g2 px2 py2 pb2 hg2 hX2 hY2 hXY2 hn2 n_hg n_hX n_hY n_hg2 n_hX2 n_hY2 hne hne2 (by omega) (X.length + 1) 0 ((1048576, 1)) (Int.le_refl _) (by show (0 : Int) ≤ _; omega) (by show (X.length : Int) < 0 + _; omega)
    · rw [c35]
      refine zeN (q := ((41, [(0, .ref d), (1, .ref g), (2, .ref g2)], [.long 1, .long 0, .ref d]), h)) 3 rfl ?_
      refine zec 1 (M' := M_Di_become) (qq := ([.ref d, .long 0, .long 1], [])) (s' := (44, [(0, .ref d), (1, .ref g), (2, .ref g2)], [])) rfl rfl (fun _ => rfl) rfl rfl (zhk rfl (zrc_ok hd) rfl) (s_Di_become p0.1 p0.2 0 1 d hd (by omega)) rfl ?_
      exact zer rfl rfl
