theorem z_len {X : List Int32} (hn : X.length ≤ 1000) : (Int32.ofNat (X.map Value.int).length).toInt = (X.length : Int) := by rw [List.length_map]; exact z_nat (by omega)
theorem z_le {a b : Int32} {v : Bool} (h : zc .le a b = v) : v = decide (a.toInt ≤ b.toInt) := by
  rw [← h]
  exact decide_eq_decide.mpr Int32.le_iff_toInt_le
theorem z_eqI {a b : Int32} (h : zc .eq a b = true) : a.toInt = b.toInt := congrArg Int32.toInt (of_decide_eq_true h : a = b)
theorem z_eq {a b : Int32} {v : Bool} (h : zc .eq a b = v) : v = decide (a = b) := h.symm
def f_Ge_fault_35 (X Y : List Int32) (kd : Int32) : Int32 := 0
theorem s_Ge_fault_35 {fr lo : Nat} {h : zH} (X Y : List Int32) (kd : Int32) (g px py pb : Nat) (hg : h.1[g]? = some (.inr (6, [.int kd, .ref px, .ref py, .ref pb]))) (hX : h.1[px]? = some (.inl (0, X.map Value.int))) (hY : h.1[py]? = some (.inl (0, Y.map Value.int))) (hXY : Y.length = X.length) (hn : X.length ≤ 1000) (hne : 1 ≤ X.length) (hlo : 156 ≤ lo) : zRun (fr + 5) lo none M_Ge_fault (35, [(0, .ref g)], []) h (some (.int (f_Ge_fault_35 X Y kd)), h) := by
  unfold f_Ge_fault_35
  refine zeN (q := ((36, [(0, .ref g)], [.int 0]), h)) 1 rfl ?_
  exact zer rfl rfl
def f_Ge_fault_16 (X Y : List Int32) (kd : Int32) : Int32 := (bif zc .ne kd 2 then (f_Ge_fault_35 X Y kd) else bif zc .eq (f_Ge_touchesItself X Y kd) 0 then 0 else 3)
theorem s_Ge_fault_16 {fr lo : Nat} {h : zH} (X Y : List Int32) (kd : Int32) (g px py pb : Nat) (hg : h.1[g]? = some (.inr (6, [.int kd, .ref px, .ref py, .ref pb]))) (hX : h.1[px]? = some (.inl (0, X.map Value.int))) (hY : h.1[py]? = some (.inl (0, Y.map Value.int))) (hXY : Y.length = X.length) (hn : X.length ≤ 1000) (hne : 1 ≤ X.length) (hlo : 156 ≤ lo) : zRun (fr + 5) lo none M_Ge_fault (16, [(0, .ref g)], []) h (some (.int (f_Ge_fault_16 X Y kd)), h) := by
  unfold f_Ge_fault_16
  refine zeN (q := ((17, [(0, .ref g)], [.ref g]), h)) 1 rfl ?_
  refine zegf (fs := [.int kd, .ref px, .ref py, .ref pb]) (v := .int kd) rfl rfl rfl rfl hg rfl ?_
  refine zeN (q := ((21, [(0, .ref g)], [.int 2, .int kd]), h)) 1 rfl ?_
  refine zbc (q1 := (35, [(0, .ref g)], [])) (q2 := (24, [(0, .ref g)], [])) (cB := zc .ne kd 2) (off := 14) (lv := [(0, .ref g)]) (st := []) rfl rfl rfl rfl rfl (fun c21 => ?_) (fun c21 => ?_)
  · rw [c21]
    exact s_Ge_fault_35 X Y kd g px py pb hg hX hY hXY hn hne (by omega)
  · rw [c21]
    refine zeN (q := ((25, [(0, .ref g)], [.ref g]), h)) 1 rfl ?_
    refine zec 1 (M' := M_Ge_touchesItself) (qq := ([.ref g], [])) (s' := (28, [(0, .ref g)], [.int (f_Ge_touchesItself X Y kd)])) rfl rfl (fun _ => rfl) rfl rfl (zhk rfl (zrc_ok hg) rfl) (s_Ge_touchesItself X Y kd g px py pb hg hX hY hXY hn hne (by omega)) rfl ?_
    refine zdia (q1 := (35, [(0, .ref g)], [])) (q2 := (31, [(0, .ref g)], [])) (cB := zc .eq (f_Ge_touchesItself X Y kd) 0) (off := 7) (lv := [(0, .ref g)]) (st := []) (lv2 := [(0, .ref g)]) (st2 := []) (J := 36) (vA := 0) (vB := 3) 1 2 rfl rfl rfl rfl rfl rfl rfl ?_
    exact zer rfl rfl
def f_Ge_fault (X Y : List Int32) (kd : Int32) : Int32 := (bif zc .eq kd 0 then (f_Ge_fault_16 X Y kd) else (bif zc .eq (f_Ge_hasEqualNeighbours X Y kd) 0 then (f_Ge_fault_16 X Y kd) else 2))
theorem s_Ge_fault {fr lo : Nat} {h : zH} (X Y : List Int32) (kd : Int32) (g px py pb : Nat) (hg : h.1[g]? = some (.inr (6, [.int kd, .ref px, .ref py, .ref pb]))) (hX : h.1[px]? = some (.inl (0, X.map Value.int))) (hY : h.1[py]? = some (.inl (0, Y.map Value.int))) (hXY : Y.length = X.length) (hn : X.length ≤ 1000) (hne : 1 ≤ X.length) (hlo : 176 ≤ lo) : zAns (fr + 6) lo 17 [.ref g] h (some (.int (f_Ge_fault X Y kd)), h) := by
  unfold f_Ge_fault
  refine zeb (fr := fr + 5) (M := M_Ge_fault) rfl (Nat.le_trans (by decide) hlo) rfl ?_
  have e0 : mL M_Ge_fault = 1 := rfl
  refine zeN (q := ((1, [(0, .ref g)], [.ref g]), h)) 1 rfl ?_
  refine zegf (fs := [.int kd, .ref px, .ref py, .ref pb]) (v := .int kd) rfl rfl rfl rfl hg rfl ?_
  refine zbc (q1 := (16, [(0, .ref g)], [])) (q2 := (7, [(0, .ref g)], [])) (cB := zc .eq kd 0) (off := 12) (lv := [(0, .ref g)]) (st := []) rfl rfl rfl rfl rfl (fun c4 => ?_) (fun c4 => ?_)
  · rw [c4]
    exact s_Ge_fault_16 X Y kd g px py pb hg hX hY hXY hn hne (by omega)
  · rw [c4]
    refine zeN (q := ((8, [(0, .ref g)], [.ref g]), h)) 1 rfl ?_
    refine zec 1 (M' := M_Ge_hasEqualNeighbours) (qq := ([.ref g], [])) (s' := (11, [(0, .ref g)], [.int (f_Ge_hasEqualNeighbours X Y kd)])) rfl rfl (fun _ => rfl) rfl rfl (zhk rfl (zrc_ok hg) rfl) (s_Ge_hasEqualNeighbours X Y kd g px py pb hg hX hY hXY hn hne (by omega)) rfl ?_
    refine zbc (q1 := (16, [(0, .ref g)], [])) (q2 := (14, [(0, .ref g)], [])) (cB := zc .eq (f_Ge_hasEqualNeighbours X Y kd) 0) (off := 5) (lv := [(0, .ref g)]) (st := []) rfl rfl rfl rfl rfl (fun c11 => ?_) (fun c11 => ?_)
    · rw [c11]
      exact s_Ge_fault_16 X Y kd g px py pb hg hX hY hXY hn hne (by omega)
    · rw [c11]
      refine zeN (q := ((15, [(0, .ref g)], [.int 2]), h)) 1 rfl ?_
      exact zer rfl rfl
def f_Ge_isSameAs_24 (X Y X2 Y2 : List Int32) (kd kd2 : Int32) : Int32 := 0
theorem b_Ge_isSameAs_24 (X Y X2 Y2 : List Int32) (kd kd2 : Int32) : zB (f_Ge_isSameAs_24 X Y X2 Y2 kd kd2) := by unfold f_Ge_isSameAs_24; exact (zB0)
theorem s_Ge_isSameAs_24 {fr lo : Nat} {h : zH} (X Y X2 Y2 : List Int32) (kd kd2 : Int32) (g px py pb : Nat) (hg : h.1[g]? = some (.inr (6, [.int kd, .ref px, .ref py, .ref pb]))) (hX : h.1[px]? = some (.inl (0, X.map Value.int))) (hY : h.1[py]? = some (.inl (0, Y.map Value.int))) (hXY : Y.length = X.length) (hn : X.length ≤ 1000) (g2 px2 py2 pb2 : Nat) (hg2 : h.1[g2]? = some (.inr (6, [.int kd2, .ref px2, .ref py2, .ref pb2]))) (hX2 : h.1[px2]? = some (.inl (0, X2.map Value.int))) (hY2 : h.1[py2]? = some (.inl (0, Y2.map Value.int))) (hXY2 : Y2.length = X2.length) (hn2 : X2.length ≤ 1000) (hlo : 0 ≤ lo) : zRun (fr + 0) lo none M_Ge_isSameAs (24, [(0, .ref g), (1, .ref g2)], []) h (some (.int (f_Ge_isSameAs_24 X Y X2 Y2 kd kd2)), h) := by
  unfold f_Ge_isSameAs_24
  refine zeN (q := ((25, [(0, .ref g), (1, .ref g2)], [.int 0]), h)) 1 rfl ?_
  exact zer rfl rfl
def f_Ge_isSameAs_L28 (X Y X2 Y2 : List Int32) (kd kd2 : Int32)  : Nat → Int32 → Int32
  | 0, _ => 0
  | n + 1, i => (bif zc .ge i (Int32.ofNat (X.map Value.int).length) then 1 else (bif zc .ne (gI X i) (gI X2 i) then 0 else (bif zc .eq (gI Y i) (gI Y2 i) then (f_Ge_isSameAs_L28 X Y X2 Y2 kd kd2 n (i + Int32.ofInt 1)) else 0)))
theorem b_Ge_isSameAs_L28 (X Y X2 Y2 : List Int32) (kd kd2 : Int32)  : ∀ (n : Nat) (i : Int32) , zB (f_Ge_isSameAs_L28 X Y X2 Y2 kd kd2 n i) := by
  intro n
  induction n with
  | zero => intro i; exact zB0
  | succ n ih => intro i; rw [f_Ge_isSameAs_L28]; exact (zbi (zB1) (zbi (zB0) (zbi (ih (i + Int32.ofInt 1) ) (zB0))))
theorem s_Ge_isSameAs_L28 {fr lo : Nat} {h : zH} (X Y X2 Y2 : List Int32) (kd kd2 : Int32)  (g px py pb : Nat) (hg : h.1[g]? = some (.inr (6, [.int kd, .ref px, .ref py, .ref pb]))) (hX : h.1[px]? = some (.inl (0, X.map Value.int))) (hY : h.1[py]? = some (.inl (0, Y.map Value.int))) (hXY : Y.length = X.length) (hn : X.length ≤ 1000) (g2 px2 py2 pb2 : Nat) (hg2 : h.1[g2]? = some (.inr (6, [.int kd2, .ref px2, .ref py2, .ref pb2]))) (hX2 : h.1[px2]? = some (.inl (0, X2.map Value.int))) (hY2 : h.1[py2]? = some (.inl (0, Y2.map Value.int))) (hXY2 : Y2.length = X2.length) (hn2 : X2.length ≤ 1000) (hL : X2.length = X.length) (hlo : 0 ≤ lo) : ∀ (n : Nat) (i : Int32) (h0 : 0 ≤ i.toInt) (h1 : i.toInt ≤ X.length) (hm : (X.length : Int) < i.toInt + n), zRun (fr + 0) lo none M_Ge_isSameAs (28, [(0, .ref g), (1, .ref g2), (2, .int i)], []) h (some (.int (f_Ge_isSameAs_L28 X Y X2 Y2 kd kd2 n i)), h) := by
  intro n
  induction n with
  | zero => intro i h0 h1 hm; exfalso; omega
  | succ n ih =>
    intro i h0 h1 hm
    rw [f_Ge_isSameAs_L28]
    refine zeN (q := ((30, [(0, .ref g), (1, .ref g2), (2, .int i)], [.ref g, .int i]), h)) 2 rfl ?_
    refine zegf (fs := [.int kd, .ref px, .ref py, .ref pb]) (v := .ref px) rfl rfl rfl rfl hg rfl ?_
    refine zeln (l := X.map Value.int) rfl rfl hX rfl ?_
    refine zbc (q1 := (75, [(0, .ref g), (1, .ref g2), (2, .int i)], [])) (q2 := (37, [(0, .ref g), (1, .ref g2), (2, .int i)], [])) (cB := zc .ge i (Int32.ofNat (X.map Value.int).length)) (off := 41) (lv := [(0, .ref g), (1, .ref g2), (2, .int i)]) (st := []) rfl rfl rfl rfl rfl (fun c34 => ?_) (fun c34 => ?_)
    · rw [c34]
      refine zeN (q := ((76, [(0, .ref g), (1, .ref g2), (2, .int i)], [.int 1]), h)) 1 rfl ?_
      exact zer rfl rfl
    · rw [c34]
      have hcc := of_decide_eq_false (z_ge c34).symm
      rw [z_len hn] at hcc
      have hi : zIx i X.length := ⟨h0, by omega⟩
      have hi2 : zIx i X2.length := zIx_s hi hL
      have hi1 := z_inc (a := i) (by omega) (by omega)
      refine zeN (q := ((38, [(0, .ref g), (1, .ref g2), (2, .int i)], [.ref g]), h)) 1 rfl ?_
      refine zegf (fs := [.int kd, .ref px, .ref py, .ref pb]) (v := .ref px) rfl rfl rfl rfl hg rfl ?_
      refine zeN (q := ((42, [(0, .ref g), (1, .ref g2), (2, .int i)], [.int i, .ref px]), h)) 1 rfl ?_
      refine zeia (l := X.map Value.int) (k := i.toNatClampNeg) (v := .int (gI X i)) rfl rfl hX (zIx_a hi) (zIx_b hi) ?_
      refine zeN (q := ((44, [(0, .ref g), (1, .ref g2), (2, .int i)], [.ref g2, .int (gI X i)]), h)) 1 rfl ?_
      refine zegf (fs := [.int kd2, .ref px2, .ref py2, .ref pb2]) (v := .ref px2) rfl rfl rfl rfl hg2 rfl ?_
      refine zeN (q := ((48, [(0, .ref g), (1, .ref g2), (2, .int i)], [.int i, .ref px2, .int (gI X i)]), h)) 1 rfl ?_
      refine zeia (l := X2.map Value.int) (k := i.toNatClampNeg) (v := .int (gI X2 i)) rfl rfl hX2 (zIx_a hi2) (zIx_b hi2) ?_
      refine zbc (q1 := (67, [(0, .ref g), (1, .ref g2), (2, .int i)], [])) (q2 := (52, [(0, .ref g), (1, .ref g2), (2, .int i)], [])) (cB := zc .ne (gI X i) (gI X2 i)) (off := 18) (lv := [(0, .ref g), (1, .ref g2), (2, .int i)]) (st := []) rfl rfl rfl rfl rfl (fun c49 => ?_) (fun c49 => ?_)
      · rw [c49]
        refine zeN (q := ((68, [(0, .ref g), (1, .ref g2), (2, .int i)], [.int 0]), h)) 1 rfl ?_
        exact zer rfl rfl
      · rw [c49]
        refine zeN (q := ((53, [(0, .ref g), (1, .ref g2), (2, .int i)], [.ref g]), h)) 1 rfl ?_
        refine zegf (fs := [.int kd, .ref px, .ref py, .ref pb]) (v := .ref py) rfl rfl rfl rfl hg rfl ?_
        refine zeN (q := ((57, [(0, .ref g), (1, .ref g2), (2, .int i)], [.int i, .ref py]), h)) 1 rfl ?_
        refine zeia (l := Y.map Value.int) (k := i.toNatClampNeg) (v := .int (gI Y i)) rfl rfl hY (zIx_a (zIx_s hi hXY)) (zIx_b (zIx_s hi hXY)) ?_
        refine zeN (q := ((59, [(0, .ref g), (1, .ref g2), (2, .int i)], [.ref g2, .int (gI Y i)]), h)) 1 rfl ?_
        refine zegf (fs := [.int kd2, .ref px2, .ref py2, .ref pb2]) (v := .ref py2) rfl rfl rfl rfl hg2 rfl ?_
        refine zeN (q := ((63, [(0, .ref g), (1, .ref g2), (2, .int i)], [.int i, .ref py2, .int (gI Y i)]), h)) 1 rfl ?_
        refine zeia (l := Y2.map Value.int) (k := i.toNatClampNeg) (v := .int (gI Y2 i)) rfl rfl hY2 (zIx_a (zIx_s hi2 hXY2)) (zIx_b (zIx_s hi2 hXY2)) ?_
        refine zbc (q1 := (69, [(0, .ref g), (1, .ref g2), (2, .int i)], [])) (q2 := (67, [(0, .ref g), (1, .ref g2), (2, .int i)], [])) (cB := zc .eq (gI Y i) (gI Y2 i)) (off := 5) (lv := [(0, .ref g), (1, .ref g2), (2, .int i)]) (st := []) rfl rfl rfl rfl rfl (fun c64 => ?_) (fun c64 => ?_)
        · rw [c64]
          refine zeN (q := ((28, [(2, .int (i + Int32.ofInt 1)), (0, .ref g), (1, .ref g2)], []), h)) 2 rfl ?_
          refine zeS [(0, .ref g), (1, .ref g2), (2, .int (i + Int32.ofInt 1))] (zsub_pick [1, 2, 0] rfl rfl) ?_
          exact ih (i + Int32.ofInt 1) (by omega) (by omega) (by omega)
        · rw [c64]
          refine zeN (q := ((68, [(0, .ref g), (1, .ref g2), (2, .int i)], [.int 0]), h)) 1 rfl ?_
          exact zer rfl rfl
def f_Ge_isSameAs (X Y X2 Y2 : List Int32) (kd kd2 : Int32) : Int32 := (bif zc .ne kd kd2 then (f_Ge_isSameAs_24 X Y X2 Y2 kd kd2) else (bif zc .eq (Int32.ofNat (X.map Value.int).length) (Int32.ofNat (X2.map Value.int).length) then (f_Ge_isSameAs_L28 X Y X2 Y2 kd kd2 (X.length + 1) 0) else (f_Ge_isSameAs_24 X Y X2 Y2 kd kd2)))
theorem b_Ge_isSameAs (X Y X2 Y2 : List Int32) (kd kd2 : Int32) : zB (f_Ge_isSameAs X Y X2 Y2 kd kd2) := by unfold f_Ge_isSameAs; exact (zbi (b_Ge_isSameAs_24 X Y X2 Y2 kd kd2) (zbi (b_Ge_isSameAs_L28 X Y X2 Y2 kd kd2 (X.length + 1) 0 ) (b_Ge_isSameAs_24 X Y X2 Y2 kd kd2)))
theorem s_Ge_isSameAs {fr lo : Nat} {h : zH} (X Y X2 Y2 : List Int32) (kd kd2 : Int32) (g px py pb : Nat) (hg : h.1[g]? = some (.inr (6, [.int kd, .ref px, .ref py, .ref pb]))) (hX : h.1[px]? = some (.inl (0, X.map Value.int))) (hY : h.1[py]? = some (.inl (0, Y.map Value.int))) (hXY : Y.length = X.length) (hn : X.length ≤ 1000) (g2 px2 py2 pb2 : Nat) (hg2 : h.1[g2]? = some (.inr (6, [.int kd2, .ref px2, .ref py2, .ref pb2]))) (hX2 : h.1[px2]? = some (.inl (0, X2.map Value.int))) (hY2 : h.1[py2]? = some (.inl (0, Y2.map Value.int))) (hXY2 : Y2.length = X2.length) (hn2 : X2.length ≤ 1000) (hlo : 22 ≤ lo) : zAns (fr + 1) lo 84 [.ref g, .ref g2] h (some (.int (f_Ge_isSameAs X Y X2 Y2 kd kd2)), h) := by
  unfold f_Ge_isSameAs
  refine zeb (fr := fr + 0) (M := M_Ge_isSameAs) rfl (Nat.le_trans (by decide) hlo) rfl ?_
  have e0 : mL M_Ge_isSameAs = 3 := rfl
  refine zeN (q := ((1, [(0, .ref g), (1, .ref g2)], [.ref g]), h)) 1 rfl ?_
  refine zegf (fs := [.int kd, .ref px, .ref py, .ref pb]) (v := .int kd) rfl rfl rfl rfl hg rfl ?_
  refine zeN (q := ((5, [(0, .ref g), (1, .ref g2)], [.ref g2, .int kd]), h)) 1 rfl ?_
  refine zegf (fs := [.int kd2, .ref px2, .ref py2, .ref pb2]) (v := .int kd2) rfl rfl rfl rfl hg2 rfl ?_
  refine zbc (q1 := (24, [(0, .ref g), (1, .ref g2)], [])) (q2 := (11, [(0, .ref g), (1, .ref g2)], [])) (cB := zc .ne kd kd2) (off := 16) (lv := [(0, .ref g), (1, .ref g2)]) (st := []) rfl rfl rfl rfl rfl (fun c8 => ?_) (fun c8 => ?_)
  · rw [c8]
    exact s_Ge_isSameAs_24 X Y X2 Y2 kd kd2 g px py pb hg hX hY hXY hn g2 px2 py2 pb2 hg2 hX2 hY2 hXY2 hn2 (by omega)
  · rw [c8]
    refine zeN (q := ((12, [(0, .ref g), (1, .ref g2)], [.ref g]), h)) 1 rfl ?_
    refine zegf (fs := [.int kd, .ref px, .ref py, .ref pb]) (v := .ref px) rfl rfl rfl rfl hg rfl ?_
    refine zeln (l := X.map Value.int) rfl rfl hX rfl ?_
    refine zeN (q := ((17, [(0, .ref g), (1, .ref g2)], [.ref g2, .int (Int32.ofNat (X.map Value.int).length)]), h)) 1 rfl ?_
    refine zegf (fs := [.int kd2, .ref px2, .ref py2, .ref pb2]) (v := .ref px2) rfl rfl rfl rfl hg2 rfl ?_
    refine zeln (l := X2.map Value.int) rfl rfl hX2 rfl ?_
    refine zbc (q1 := (26, [(0, .ref g), (1, .ref g2)], [])) (q2 := (24, [(0, .ref g), (1, .ref g2)], [])) (cB := zc .eq (Int32.ofNat (X.map Value.int).length) (Int32.ofNat (X2.map Value.int).length)) (off := 5) (lv := [(0, .ref g), (1, .ref g2)]) (st := []) rfl rfl rfl rfl rfl (fun c21 => ?_) (fun c21 => ?_)
    · rw [c21]
      have hL : X2.length = X.length := by
        have e := z_eqI c21
        rw [z_len hn, z_len hn2] at e
        omega
      refine zeN (q := ((28, [(2, .int 0), (0, .ref g), (1, .ref g2)], []), h)) 2 rfl ?_
      refine zeS [(0, .ref g), (1, .ref g2), (2, .int 0)] (zsub_pick [1, 2, 0] rfl rfl) ?_
      exact s_Ge_isSameAs_L28 X Y X2 Y2 kd kd2 g px py pb hg hX hY hXY hn g2 px2 py2 pb2 hg2 hX2 hY2 hXY2 hn2 hL (by omega) (X.length + 1) 0 (Int.le_refl _) (by show (0 : Int) ≤ _; omega) (by show (X.length : Int) < 0 + _; omega)
    · rw [c21]
      exact s_Ge_isSameAs_24 X Y X2 Y2 kd kd2 g px py pb hg hX hY hXY hn g2 px2 py2 pb2 hg2 hX2 hY2 hXY2 hn2 (by omega)
def f_Bo_gapToRectangle (x0 y0 x1 y1 p q r s : Int32) : Int32 := ((f_Bo_apart x0 x1 p r) * (f_Bo_apart x0 x1 p r)) + ((f_Bo_apart y0 y1 q s) * (f_Bo_apart y0 y1 q s))
theorem s_Bo_gapToRectangle {fr lo : Nat} {h : zH} (x0 y0 x1 y1 p q r s : Int32) (b : Nat) (hb : h.1[b]? = some (.inr (7, [.int x0, .int y0, .int x1, .int y1]))) (hlo : 86 ≤ lo) : zAns (fr + 2) lo 52 [.ref b, .int p, .int q, .int r, .int s] h (some (.int (f_Bo_gapToRectangle x0 y0 x1 y1 p q r s)), h) := by
  unfold f_Bo_gapToRectangle
  refine zeb (fr := fr + 1) (M := M_Bo_gapToRectangle) rfl (Nat.le_trans (by decide) hlo) rfl ?_
  have e0 : mL M_Bo_gapToRectangle = 7 := rfl
  refine zeN (q := ((1, [(0, .ref b), (1, .int p), (2, .int q), (3, .int r), (4, .int s)], [.ref b]), h)) 1 rfl ?_
  refine zegf (fs := [.int x0, .int y0, .int x1, .int y1]) (v := .int x0) rfl rfl rfl rfl hb rfl ?_
  refine zeN (q := ((5, [(0, .ref b), (1, .int p), (2, .int q), (3, .int r), (4, .int s)], [.ref b, .int x0]), h)) 1 rfl ?_
  refine zegf (fs := [.int x0, .int y0, .int x1, .int y1]) (v := .int x1) rfl rfl rfl rfl hb rfl ?_
  refine zeN (q := ((10, [(0, .ref b), (1, .int p), (2, .int q), (3, .int r), (4, .int s)], [.int r, .int p, .int x1, .int x0]), h)) 2 rfl ?_
  refine zec 0 (M' := M_Bo_apart) (qq := ([.int x0, .int x1, .int p, .int r], [])) (s' := (13, [(0, .ref b), (1, .int p), (2, .int q), (3, .int r), (4, .int s)], [.int (f_Bo_apart x0 x1 p r)])) rfl rfl (fun _ => rfl) rfl rfl rfl (s_Bo_apart x0 x1 p r  (by omega)) rfl ?_
  refine zeN (q := ((16, [(5, .int (f_Bo_apart x0 x1 p r)), (0, .ref b), (1, .int p), (2, .int q), (3, .int r), (4, .int s)], [.ref b]), h)) 2 rfl ?_
  refine zegf (fs := [.int x0, .int y0, .int x1, .int y1]) (v := .int y0) rfl rfl rfl rfl hb rfl ?_
  refine zeN (q := ((20, [(5, .int (f_Bo_apart x0 x1 p r)), (0, .ref b), (1, .int p), (2, .int q), (3, .int r), (4, .int s)], [.ref b, .int y0]), h)) 1 rfl ?_
  refine zegf (fs := [.int x0, .int y0, .int x1, .int y1]) (v := .int y1) rfl rfl rfl rfl hb rfl ?_
  refine zeN (q := ((26, [(5, .int (f_Bo_apart x0 x1 p r)), (0, .ref b), (1, .int p), (2, .int q), (3, .int r), (4, .int s)], [.int s, .int q, .int y1, .int y0]), h)) 2 rfl ?_
  refine zec 0 (M' := M_Bo_apart) (qq := ([.int y0, .int y1, .int q, .int s], [])) (s' := (29, [(5, .int (f_Bo_apart x0 x1 p r)), (0, .ref b), (1, .int p), (2, .int q), (3, .int r), (4, .int s)], [.int (f_Bo_apart y0 y1 q s)])) rfl rfl (fun _ => rfl) rfl rfl rfl (s_Bo_apart y0 y1 q s  (by omega)) rfl ?_
  refine zeN (q := ((42, [(6, .int (f_Bo_apart y0 y1 q s)), (5, .int (f_Bo_apart x0 x1 p r)), (0, .ref b), (1, .int p), (2, .int q), (3, .int r), (4, .int s)], [.int (((f_Bo_apart x0 x1 p r) * (f_Bo_apart x0 x1 p r)) + ((f_Bo_apart y0 y1 q s) * (f_Bo_apart y0 y1 q s)))]), h)) 8 rfl ?_
  exact zer rfl rfl
def f_Bo_gapTo (x0 y0 x1 y1 u0 v0 u1 v1 : Int32) : Int32 := f_Bo_gapToRectangle x0 y0 x1 y1 u0 v0 u1 v1
theorem s_Bo_gapTo {fr lo : Nat} {h : zH} (x0 y0 x1 y1 u0 v0 u1 v1 : Int32) (b : Nat) (hb : h.1[b]? = some (.inr (7, [.int x0, .int y0, .int x1, .int y1]))) (b2 : Nat) (hb2 : h.1[b2]? = some (.inr (7, [.int u0, .int v0, .int u1, .int v1]))) (hlo : 107 ≤ lo) : zAns (fr + 3) lo 56 [.ref b, .ref b2] h (some (.int (f_Bo_gapTo x0 y0 x1 y1 u0 v0 u1 v1)), h) := by
  unfold f_Bo_gapTo
  refine zeb (fr := fr + 2) (M := M_Bo_gapTo) rfl (Nat.le_trans (by decide) hlo) rfl ?_
  have e0 : mL M_Bo_gapTo = 2 := rfl
  refine zeN (q := ((2, [(0, .ref b), (1, .ref b2)], [.ref b2, .ref b]), h)) 2 rfl ?_
  refine zegf (fs := [.int u0, .int v0, .int u1, .int v1]) (v := .int u0) rfl rfl rfl rfl hb2 rfl ?_
  refine zeN (q := ((6, [(0, .ref b), (1, .ref b2)], [.ref b2, .int u0, .ref b]), h)) 1 rfl ?_
  refine zegf (fs := [.int u0, .int v0, .int u1, .int v1]) (v := .int v0) rfl rfl rfl rfl hb2 rfl ?_
  refine zeN (q := ((10, [(0, .ref b), (1, .ref b2)], [.ref b2, .int v0, .int u0, .ref b]), h)) 1 rfl ?_
  refine zegf (fs := [.int u0, .int v0, .int u1, .int v1]) (v := .int u1) rfl rfl rfl rfl hb2 rfl ?_
  refine zeN (q := ((14, [(0, .ref b), (1, .ref b2)], [.ref b2, .int u1, .int v0, .int u0, .ref b]), h)) 1 rfl ?_
  refine zegf (fs := [.int u0, .int v0, .int u1, .int v1]) (v := .int v1) rfl rfl rfl rfl hb2 rfl ?_
  refine zec 1 (M' := M_Bo_gapToRectangle) (qq := ([.ref b, .int u0, .int v0, .int u1, .int v1], [])) (s' := (20, [(0, .ref b), (1, .ref b2)], [.int (f_Bo_gapToRectangle x0 y0 x1 y1 u0 v0 u1 v1)])) rfl rfl (fun _ => rfl) rfl rfl (zhk rfl (zrc_ok hb) rfl) (s_Bo_gapToRectangle x0 y0 x1 y1 u0 v0 u1 v1 b hb (by omega)) rfl ?_
  exact zer rfl rfl
def f_Bo_quarter (x0 y0 x1 y1 l : Int32) : Int32 := (((y0 >>> ((8 - l) &&& 31)) &&& 1) * 2) + ((x0 >>> ((8 - l) &&& 31)) &&& 1)
theorem s_Bo_quarter {fr lo : Nat} {h : zH} (x0 y0 x1 y1 l : Int32) (b : Nat) (hb : h.1[b]? = some (.inr (7, [.int x0, .int y0, .int x1, .int y1]))) (hlo : 22 ≤ lo) : zAns (fr + 1) lo 37 [.ref b, .int l] h (some (.int (f_Bo_quarter x0 y0 x1 y1 l)), h) := by
  unfold f_Bo_quarter
  refine zeb (fr := fr + 0) (M := M_Bo_quarter) rfl (Nat.le_trans (by decide) hlo) rfl ?_
  have e0 : mL M_Bo_quarter = 3 := rfl
  refine zeN (q := ((6, [(2, .int (8 - l)), (0, .ref b), (1, .int l)], [.ref b]), h)) 5 rfl ?_
  refine zegf (fs := [.int x0, .int y0, .int x1, .int y1]) (v := .int y0) rfl rfl rfl rfl hb rfl ?_
  refine zeN (q := ((16, [(2, .int (8 - l)), (0, .ref b), (1, .int l)], [.ref b, .int (((y0 >>> ((8 - l) &&& 31)) &&& 1) * 2)]), h)) 7 rfl ?_
  refine zegf (fs := [.int x0, .int y0, .int x1, .int y1]) (v := .int x0) rfl rfl rfl rfl hb rfl ?_
  refine zeN (q := ((24, [(2, .int (8 - l)), (0, .ref b), (1, .int l)], [.int ((((y0 >>> ((8 - l) &&& 31)) &&& 1) * 2) + ((x0 >>> ((8 - l) &&& 31)) &&& 1))]), h)) 5 rfl ?_
  exact zer rfl rfl
def f_Bo_homeLevel_L23 (x0 y0 x1 y1 : Int32)  : Nat → Int32 → Int32
  | 0, _ => 0
  | n + 1, l => (bif zc .le l 0 then l else (bif zc .eq ((x0 ^^^ x1 ||| (y0 ^^^ y1)) >>> ((8 - l) &&& 31)) 0 then l else (f_Bo_homeLevel_L23 x0 y0 x1 y1 n (l + Int32.ofInt (-1)))))
theorem s_Bo_homeLevel_L23 {fr lo : Nat} {h : zH} (x0 y0 x1 y1 : Int32)  (b : Nat) (hb : h.1[b]? = some (.inr (7, [.int x0, .int y0, .int x1, .int y1])))  (hlo : 0 ≤ lo) : ∀ (n : Nat) (l : Int32) (h0 : 0 ≤ l.toInt) (h1 : l.toInt ≤ 8) (hm : l.toInt < n), zRun (fr + 0) lo none M_Bo_homeLevel (23, [(1, .int (x0 ^^^ x1 ||| (y0 ^^^ y1))), (2, .int l)], []) h (some (.int (f_Bo_homeLevel_L23 x0 y0 x1 y1 n l)), h) := by
  intro n
  induction n with
  | zero => intro l h0 h1 hm; exfalso; omega
  | succ n ih =>
    intro l h0 h1 hm
    rw [f_Bo_homeLevel_L23]
    refine zeN (q := ((24, [(1, .int (x0 ^^^ x1 ||| (y0 ^^^ y1))), (2, .int l)], [.int l]), h)) 1 rfl ?_
    refine zbc (q1 := (42, [(1, .int (x0 ^^^ x1 ||| (y0 ^^^ y1))), (2, .int l)], [])) (q2 := (27, [(1, .int (x0 ^^^ x1 ||| (y0 ^^^ y1))), (2, .int l)], [])) (cB := zc .le l 0) (off := 18) (lv := [(1, .int (x0 ^^^ x1 ||| (y0 ^^^ y1))), (2, .int l)]) (st := []) rfl rfl rfl rfl rfl (fun c24 => ?_) (fun c24 => ?_)
    · rw [c24]
      refine zeN (q := ((43, [(1, .int (x0 ^^^ x1 ||| (y0 ^^^ y1))), (2, .int l)], [.int l]), h)) 1 rfl ?_
      exact zer rfl rfl
    · rw [c24]
      have hcc := of_decide_eq_false (z_le c24).symm
      have hl1 : (l + Int32.ofInt (-1)).toInt = l.toInt - 1 := z_add (by show _ ≤ l.toInt + (-1); omega) (by show l.toInt + (-1) < _; omega)
      have hz : (0 : Int32).toInt = 0 := rfl
      refine zeN (q := ((33, [(1, .int (x0 ^^^ x1 ||| (y0 ^^^ y1))), (2, .int l)], [.int ((x0 ^^^ x1 ||| (y0 ^^^ y1)) >>> ((8 - l) &&& 31))]), h)) 5 rfl ?_
      refine zbc (q1 := (42, [(1, .int (x0 ^^^ x1 ||| (y0 ^^^ y1))), (2, .int l)], [])) (q2 := (36, [(1, .int (x0 ^^^ x1 ||| (y0 ^^^ y1))), (2, .int l)], [])) (cB := zc .eq ((x0 ^^^ x1 ||| (y0 ^^^ y1)) >>> ((8 - l) &&& 31)) 0) (off := 9) (lv := [(1, .int (x0 ^^^ x1 ||| (y0 ^^^ y1))), (2, .int l)]) (st := []) rfl rfl rfl rfl rfl (fun c33 => ?_) (fun c33 => ?_)
      · rw [c33]
        refine zeN (q := ((43, [(1, .int (x0 ^^^ x1 ||| (y0 ^^^ y1))), (2, .int l)], [.int l]), h)) 1 rfl ?_
        exact zer rfl rfl
      · rw [c33]
        refine zeN (q := ((23, [(2, .int (l + Int32.ofInt (-1))), (1, .int (x0 ^^^ x1 ||| (y0 ^^^ y1)))], []), h)) 2 rfl ?_
        refine zeS [(1, .int (x0 ^^^ x1 ||| (y0 ^^^ y1))), (2, .int (l + Int32.ofInt (-1)))] (zsub_pick [1, 0] rfl rfl) ?_
        exact ih (l + Int32.ofInt (-1)) (by omega) (by omega) (by omega)
def f_Bo_homeLevel (x0 y0 x1 y1 : Int32) : Int32 := (f_Bo_homeLevel_L23 x0 y0 x1 y1 9 8)
theorem s_Bo_homeLevel {fr lo : Nat} {h : zH} (x0 y0 x1 y1 : Int32) (b : Nat) (hb : h.1[b]? = some (.inr (7, [.int x0, .int y0, .int x1, .int y1]))) (hlo : 22 ≤ lo) : zAns (fr + 1) lo 36 [.ref b] h (some (.int (f_Bo_homeLevel x0 y0 x1 y1)), h) := by
  unfold f_Bo_homeLevel
  refine zeb (fr := fr + 0) (M := M_Bo_homeLevel) rfl (Nat.le_trans (by decide) hlo) rfl ?_
  have e0 : mL M_Bo_homeLevel = 3 := rfl
  refine zeN (q := ((1, [(0, .ref b)], [.ref b]), h)) 1 rfl ?_
  refine zegf (fs := [.int x0, .int y0, .int x1, .int y1]) (v := .int x0) rfl rfl rfl rfl hb rfl ?_
  refine zeN (q := ((5, [(0, .ref b)], [.ref b, .int x0]), h)) 1 rfl ?_
  refine zegf (fs := [.int x0, .int y0, .int x1, .int y1]) (v := .int x1) rfl rfl rfl rfl hb rfl ?_
  refine zeN (q := ((10, [(0, .ref b)], [.ref b, .int (x0 ^^^ x1)]), h)) 2 rfl ?_
  refine zegf (fs := [.int x0, .int y0, .int x1, .int y1]) (v := .int y0) rfl rfl rfl rfl hb rfl ?_
  refine zeN (q := ((14, [(0, .ref b)], [.ref b, .int y0, .int (x0 ^^^ x1)]), h)) 1 rfl ?_
  refine zegf (fs := [.int x0, .int y0, .int x1, .int y1]) (v := .int y1) rfl rfl rfl rfl hb rfl ?_
  refine zeN (q := ((23, [(2, .int 8), (1, .int ((x0 ^^^ x1) ||| (y0 ^^^ y1))), (0, .ref b)], []), h)) 5 rfl ?_
  refine zeS [(1, .int (x0 ^^^ x1 ||| (y0 ^^^ y1))), (2, .int 8)] (zsub_pick [1, 0] rfl rfl) ?_
  exact s_Bo_homeLevel_L23 x0 y0 x1 y1 b hb (by omega) 9 8 (by decide) (by decide) (by decide)
