theorem z_sides {X : List Int32} {kd : Int32} (hn : X.length ≤ 1000) (h1 : 1 ≤ X.length) : (f_Ge_sides X kd).toInt ≤ (X.length : Int) ∧ 0 ≤ (f_Ge_sides X kd).toInt := by
  have e2 : (Int32.ofNat (X.map Value.int).length).toInt = (X.length : Int) := by rw [List.length_map]; exact z_nat (by omega)
  unfold f_Ge_sides
  cases hc : zc .ne kd 1 with
  | true => show (Int32.ofNat (X.map Value.int).length).toInt ≤ _ ∧ 0 ≤ (Int32.ofNat (X.map Value.int).length).toInt; rw [e2]; omega
  | false =>
    have e3 : (Int32.ofNat (X.map Value.int).length - 1).toInt = (X.length : Int) - 1 := by rw [z_sub (by rw [e2]; show _ ≤ _ - (1 : Int); omega) (by rw [e2]; show _ - (1 : Int) < _; omega), e2]; rfl
    show (Int32.ofNat (X.map Value.int).length - 1).toInt ≤ _ ∧ 0 ≤ (Int32.ofNat (X.map Value.int).length - 1).toInt
    rw [e3]
    omega
theorem z_ge {a b : Int32} {v : Bool} (h : zc .ge a b = v) : v = decide (b.toInt ≤ a.toInt) := by
  rw [← h]
  exact decide_eq_decide.mpr Int32.le_iff_toInt_le
theorem z_inc {a : Int32} (h : a.toInt < 2147483647) (h2 : -2147483648 ≤ a.toInt) : (a + Int32.ofInt 1).toInt = a.toInt + 1 := z_add (by show _ ≤ a.toInt + 1; omega) (by show a.toInt + 1 < _; omega)
def f_Ge_hasEqualNeighbours_L2 (X Y : List Int32) (kd : Int32)  : Nat → Int32 → Int32
  | 0, _ => 0
  | n + 1, i => (bif zc .ge i (f_Ge_sides X kd) then 0 else (bif zc .ne (gI X i) (gI X ((f_Ge_end X i))) then (f_Ge_hasEqualNeighbours_L2 X Y kd n (i + Int32.ofInt 1)) else (bif zc .ne (gI Y i) (gI Y ((f_Ge_end X i))) then (f_Ge_hasEqualNeighbours_L2 X Y kd n (i + Int32.ofInt 1)) else 1)))
theorem b_Ge_hasEqualNeighbours_L2 (X Y : List Int32) (kd : Int32)  : ∀ (n : Nat) (i : Int32) , zB (f_Ge_hasEqualNeighbours_L2 X Y kd n i) := by
  intro n
  induction n with
  | zero => intro i; exact zB0
  | succ n ih => intro i; rw [f_Ge_hasEqualNeighbours_L2]; exact (zbi (zB0) (zbi (ih (i + Int32.ofInt 1) ) (zbi (ih (i + Int32.ofInt 1) ) (zB1))))
theorem s_Ge_hasEqualNeighbours_L2 {fr lo : Nat} {h : zH} (X Y : List Int32) (kd : Int32)  (g px py pb : Nat) (hg : h.1[g]? = some (.inr (6, [.int kd, .ref px, .ref py, .ref pb]))) (hX : h.1[px]? = some (.inl (0, X.map Value.int))) (hY : h.1[py]? = some (.inl (0, Y.map Value.int))) (hXY : Y.length = X.length) (hn : X.length ≤ 1000) (hne : 1 ≤ X.length)  (hlo : 21 ≤ lo) : ∀ (n : Nat) (i : Int32) (h0 : 0 ≤ i.toInt) (h1 : i.toInt ≤ X.length) (hm : (X.length : Int) < i.toInt + n), zRun (fr + 1) lo none M_Ge_hasEqualNeighbours (2, [(0, .ref g), (1, .int i)], []) h (some (.int (f_Ge_hasEqualNeighbours_L2 X Y kd n i)), h) := by
  intro n
  induction n with
  | zero => intro i h0 h1 hm; exfalso; omega
  | succ n ih =>
    intro i h0 h1 hm
    rw [f_Ge_hasEqualNeighbours_L2]
    refine zeN (q := ((4, [(0, .ref g), (1, .int i)], [.ref g, .int i]), h)) 2 rfl ?_
    refine zec 1 (M' := M_Ge_sides) (qq := ([.ref g], [.int i])) (s' := (7, [(0, .ref g), (1, .int i)], [.int (f_Ge_sides X kd), .int i])) rfl rfl (fun _ => rfl) rfl rfl (zhk rfl (zrc_ok hg) rfl) (s_Ge_sides X kd g px py pb hg hX (by omega)) rfl ?_
    refine zbc (q1 := (56, [(0, .ref g), (1, .int i)], [])) (q2 := (10, [(0, .ref g), (1, .int i)], [])) (cB := zc .ge i (f_Ge_sides X kd)) (off := 49) (lv := [(0, .ref g), (1, .int i)]) (st := []) rfl rfl rfl rfl rfl (fun c7 => ?_) (fun c7 => ?_)
    · rw [c7]
      refine zeN (q := ((57, [(0, .ref g), (1, .int i)], [.int 0]), h)) 1 rfl ?_
      exact zer rfl rfl
    · rw [c7]
      have hs := z_sides (kd := kd) hn hne
      have hcc := of_decide_eq_false (z_ge c7).symm
      have hi : zIx i X.length := ⟨h0, by omega⟩
      have hi1 := z_inc (a := i) (by omega) (by omega)
      refine zeN (q := ((11, [(0, .ref g), (1, .int i)], [.ref g]), h)) 1 rfl ?_
      refine zegf (fs := [.int kd, .ref px, .ref py, .ref pb]) (v := .ref px) rfl rfl rfl rfl hg rfl ?_
      refine zeN (q := ((15, [(0, .ref g), (1, .int i)], [.int i, .ref px]), h)) 1 rfl ?_
      refine zeia (l := X.map Value.int) (k := i.toNatClampNeg) (v := .int (gI X i)) rfl rfl hX (zIx_a hi) (zIx_b hi) ?_
      refine zeN (q := ((17, [(0, .ref g), (1, .int i)], [.ref g, .int (gI X i)]), h)) 1 rfl ?_
      refine zegf (fs := [.int kd, .ref px, .ref py, .ref pb]) (v := .ref px) rfl rfl rfl rfl hg rfl ?_
      refine zeN (q := ((22, [(0, .ref g), (1, .int i)], [.int i, .ref g, .ref px, .int (gI X i)]), h)) 2 rfl ?_
      refine zec 1 (M' := M_Ge_end) (qq := ([.ref g, .int i], [.ref px, .int (gI X i)])) (s' := (25, [(0, .ref g), (1, .int i)], [.int (f_Ge_end X i), .ref px, .int (gI X i)])) rfl rfl (fun _ => rfl) rfl rfl (zhk rfl (zrc_ok hg) rfl) (s_Ge_end X i g px py pb kd hg hX (by omega)) rfl ?_
      refine zeia (l := X.map Value.int) (k := (f_Ge_end X i).toNatClampNeg) (v := .int (gI X ((f_Ge_end X i)))) rfl rfl hX (zIx_a (zIx_end hn hi)) (zIx_b (zIx_end hn hi)) ?_
      refine zbc (q1 := (50, [(0, .ref g), (1, .int i)], [])) (q2 := (29, [(0, .ref g), (1, .int i)], [])) (cB := zc .ne (gI X i) (gI X ((f_Ge_end X i)))) (off := 24) (lv := [(0, .ref g), (1, .int i)]) (st := []) rfl rfl rfl rfl rfl (fun c26 => ?_) (fun c26 => ?_)
      · rw [c26]
        refine zeN (q := ((2, [(1, .int (i + Int32.ofInt 1)), (0, .ref g)], []), h)) 2 rfl ?_
        refine zeS [(0, .ref g), (1, .int (i + Int32.ofInt 1))] (zsub_pick [1, 0] rfl rfl) ?_
        exact ih (i + Int32.ofInt 1) (by omega) (by omega) (by omega)
      · rw [c26]
        refine zeN (q := ((30, [(0, .ref g), (1, .int i)], [.ref g]), h)) 1 rfl ?_
        refine zegf (fs := [.int kd, .ref px, .ref py, .ref pb]) (v := .ref py) rfl rfl rfl rfl hg rfl ?_
        refine zeN (q := ((34, [(0, .ref g), (1, .int i)], [.int i, .ref py]), h)) 1 rfl ?_
        refine zeia (l := Y.map Value.int) (k := i.toNatClampNeg) (v := .int (gI Y i)) rfl rfl hY (zIx_a (zIx_s hi hXY)) (zIx_b (zIx_s hi hXY)) ?_
        refine zeN (q := ((36, [(0, .ref g), (1, .int i)], [.ref g, .int (gI Y i)]), h)) 1 rfl ?_
        refine zegf (fs := [.int kd, .ref px, .ref py, .ref pb]) (v := .ref py) rfl rfl rfl rfl hg rfl ?_
        refine zeN (q := ((41, [(0, .ref g), (1, .int i)], [.int i, .ref g, .ref py, .int (gI Y i)]), h)) 2 rfl ?_
        refine zec 1 (M' := M_Ge_end) (qq := ([.ref g, .int i], [.ref py, .int (gI Y i)])) (s' := (44, [(0, .ref g), (1, .int i)], [.int (f_Ge_end X i), .ref py, .int (gI Y i)])) rfl rfl (fun _ => rfl) rfl rfl (zhk rfl (zrc_ok hg) rfl) (s_Ge_end X i g px py pb kd hg hX (by omega)) rfl ?_
        refine zeia (l := Y.map Value.int) (k := (f_Ge_end X i).toNatClampNeg) (v := .int (gI Y ((f_Ge_end X i)))) rfl rfl hY (zIx_a (zIx_s (zIx_end hn hi) hXY)) (zIx_b (zIx_s (zIx_end hn hi) hXY)) ?_
        refine zbc (q1 := (50, [(0, .ref g), (1, .int i)], [])) (q2 := (48, [(0, .ref g), (1, .int i)], [])) (cB := zc .ne (gI Y i) (gI Y ((f_Ge_end X i)))) (off := 5) (lv := [(0, .ref g), (1, .int i)]) (st := []) rfl rfl rfl rfl rfl (fun c45 => ?_) (fun c45 => ?_)
        · rw [c45]
          refine zeN (q := ((2, [(1, .int (i + Int32.ofInt 1)), (0, .ref g)], []), h)) 2 rfl ?_
          refine zeS [(0, .ref g), (1, .int (i + Int32.ofInt 1))] (zsub_pick [1, 0] rfl rfl) ?_
          exact ih (i + Int32.ofInt 1) (by omega) (by omega) (by omega)
        · rw [c45]
          refine zeN (q := ((49, [(0, .ref g), (1, .int i)], [.int 1]), h)) 1 rfl ?_
          exact zer rfl rfl
def f_Ge_hasEqualNeighbours (X Y : List Int32) (kd : Int32) : Int32 := (f_Ge_hasEqualNeighbours_L2 X Y kd (X.length + 1) 0)
theorem b_Ge_hasEqualNeighbours (X Y : List Int32) (kd : Int32) : zB (f_Ge_hasEqualNeighbours X Y kd) := by unfold f_Ge_hasEqualNeighbours; exact (b_Ge_hasEqualNeighbours_L2 X Y kd (X.length + 1) 0 )
theorem s_Ge_hasEqualNeighbours {fr lo : Nat} {h : zH} (X Y : List Int32) (kd : Int32) (g px py pb : Nat) (hg : h.1[g]? = some (.inr (6, [.int kd, .ref px, .ref py, .ref pb]))) (hX : h.1[px]? = some (.inl (0, X.map Value.int))) (hY : h.1[py]? = some (.inl (0, Y.map Value.int))) (hXY : Y.length = X.length) (hn : X.length ≤ 1000) (hne : 1 ≤ X.length) (hlo : 42 ≤ lo) : zAns (fr + 2) lo 18 [.ref g] h (some (.int (f_Ge_hasEqualNeighbours X Y kd)), h) := by
  unfold f_Ge_hasEqualNeighbours
  refine zeb (fr := fr + 1) (M := M_Ge_hasEqualNeighbours) rfl (Nat.le_trans (by decide) hlo) rfl ?_
  have e0 : mL M_Ge_hasEqualNeighbours = 2 := rfl
  refine zeN (q := ((2, [(1, .int 0), (0, .ref g)], []), h)) 2 rfl ?_
  refine zeS [(0, .ref g), (1, .int 0)] (zsub_pick [1, 0] rfl rfl) ?_
  exact s_Ge_hasEqualNeighbours_L2 X Y kd g px py pb hg hX hY hXY hn hne (by omega) (X.length + 1) 0 (Int.le_refl _) (by show (0 : Int) ≤ _; omega) (by show (X.length : Int) < 0 + _; omega)
def f_Ge_mayNotMeetAsTheyDo (X Y : List Int32) (j k : Int32) : Int32 := (bif zc .ne (f_Ge_end X j) k then (bif zc .ne (f_Ge_end X k) j then f_Ge_sideMeets X Y X Y j k else f_Ge_foldsBack X Y k j) else f_Ge_foldsBack X Y j k)
theorem b_Ge_mayNotMeetAsTheyDo (X Y : List Int32) (j k : Int32) : zB (f_Ge_mayNotMeetAsTheyDo X Y j k) := by unfold f_Ge_mayNotMeetAsTheyDo; exact (zbi (zbi (b_Ge_sideMeets X Y X Y j k) (b_Ge_foldsBack X Y k j)) (b_Ge_foldsBack X Y j k))
theorem s_Ge_mayNotMeetAsTheyDo {fr lo : Nat} {h : zH} (X Y : List Int32) (j k : Int32) (kd : Int32) (g px py pb : Nat) (hg : h.1[g]? = some (.inr (6, [.int kd, .ref px, .ref py, .ref pb]))) (hX : h.1[px]? = some (.inl (0, X.map Value.int))) (hY : h.1[py]? = some (.inl (0, Y.map Value.int))) (hXY : Y.length = X.length) (hn : X.length ≤ 1000) (hj : zIx j X.length) (hk : zIx k X.length) (hlo : 134 ≤ lo) : zAns (fr + 4) lo 22 [.ref g, .int j, .int k] h (some (.int (f_Ge_mayNotMeetAsTheyDo X Y j k)), h) := by
  unfold f_Ge_mayNotMeetAsTheyDo
  refine zeb (fr := fr + 3) (M := M_Ge_mayNotMeetAsTheyDo) rfl (Nat.le_trans (by decide) hlo) rfl ?_
  have e0 : mL M_Ge_mayNotMeetAsTheyDo = 3 := rfl
  refine zeN (q := ((2, [(0, .ref g), (1, .int j), (2, .int k)], [.int j, .ref g]), h)) 2 rfl ?_
  refine zec 1 (M' := M_Ge_end) (qq := ([.ref g, .int j], [])) (s' := (5, [(0, .ref g), (1, .int j), (2, .int k)], [.int (f_Ge_end X j)])) rfl rfl (fun _ => rfl) rfl rfl (zhk rfl (zrc_ok hg) rfl) (s_Ge_end X j g px py pb kd hg hX (by omega)) rfl ?_
  refine zeN (q := ((6, [(0, .ref g), (1, .int j), (2, .int k)], [.int k, .int (f_Ge_end X j)]), h)) 1 rfl ?_
  refine zbc (q1 := (16, [(0, .ref g), (1, .int j), (2, .int k)], [])) (q2 := (9, [(0, .ref g), (1, .int j), (2, .int k)], [])) (cB := zc .ne (f_Ge_end X j) k) (off := 10) (lv := [(0, .ref g), (1, .int j), (2, .int k)]) (st := []) rfl rfl rfl rfl rfl (fun c6 => ?_) (fun c6 => ?_)
  · rw [c6]
    refine zeN (q := ((18, [(0, .ref g), (1, .int j), (2, .int k)], [.int k, .ref g]), h)) 2 rfl ?_
    refine zec 1 (M' := M_Ge_end) (qq := ([.ref g, .int k], [])) (s' := (21, [(0, .ref g), (1, .int j), (2, .int k)], [.int (f_Ge_end X k)])) rfl rfl (fun _ => rfl) rfl rfl (zhk rfl (zrc_ok hg) rfl) (s_Ge_end X k g px py pb kd hg hX (by omega)) rfl ?_
    refine zeN (q := ((22, [(0, .ref g), (1, .int j), (2, .int k)], [.int j, .int (f_Ge_end X k)]), h)) 1 rfl ?_
    refine zbc (q1 := (32, [(0, .ref g), (1, .int j), (2, .int k)], [])) (q2 := (25, [(0, .ref g), (1, .int j), (2, .int k)], [])) (cB := zc .ne (f_Ge_end X k) j) (off := 10) (lv := [(0, .ref g), (1, .int j), (2, .int k)]) (st := []) rfl rfl rfl rfl rfl (fun c22 => ?_) (fun c22 => ?_)
    · rw [c22]
      refine zeN (q := ((36, [(0, .ref g), (1, .int j), (2, .int k)], [.int k, .ref g, .int j, .ref g]), h)) 4 rfl ?_
      refine zec 1 (M' := M_Ge_sideMeets) (qq := ([.ref g, .int j, .ref g, .int k], [])) (s' := (39, [(0, .ref g), (1, .int j), (2, .int k)], [.int (f_Ge_sideMeets X Y X Y j k)])) rfl rfl (fun _ => rfl) rfl rfl (zhk rfl (zrc_ok hg) rfl) (s_Ge_sideMeets X Y X Y j k g px py pb kd hg hX hY hXY hn g px py pb kd hg hX hY hXY hn hj hk (by omega)) rfl ?_
      exact zer rfl (zreb (b_Ge_sideMeets X Y X Y j k))
    · rw [c22]
      refine zeN (q := ((28, [(0, .ref g), (1, .int j), (2, .int k)], [.int j, .int k, .ref g]), h)) 3 rfl ?_
      refine zec 1 (M' := M_Ge_foldsBack) (qq := ([.ref g, .int k, .int j], [])) (s' := (31, [(0, .ref g), (1, .int j), (2, .int k)], [.int (f_Ge_foldsBack X Y k j)])) rfl rfl (fun _ => rfl) rfl rfl (zhk rfl (zrc_ok hg) rfl) (s_Ge_foldsBack X Y k j g px py pb kd hg hX hY hXY hn hk hj (by omega)) rfl ?_
      exact zer rfl (zreb (b_Ge_foldsBack X Y k j))
  · rw [c6]
    refine zeN (q := ((12, [(0, .ref g), (1, .int j), (2, .int k)], [.int k, .int j, .ref g]), h)) 3 rfl ?_
    refine zec 1 (M' := M_Ge_foldsBack) (qq := ([.ref g, .int j, .int k], [])) (s' := (15, [(0, .ref g), (1, .int j), (2, .int k)], [.int (f_Ge_foldsBack X Y j k)])) rfl rfl (fun _ => rfl) rfl rfl (zhk rfl (zrc_ok hg) rfl) (s_Ge_foldsBack X Y j k g px py pb kd hg hX hY hXY hn hj hk (by omega)) rfl ?_
    exact zer rfl (zreb (b_Ge_foldsBack X Y j k))
def f_Ge_touchesItself_L14 (X Y : List Int32) (kd : Int32) (i : Int32) (K : Int32) : Nat → Int32 → Int32
  | 0, _ => 0
  | n + 1, j => (bif zc .ge j (f_Ge_sides X kd) then (K) else (bif zc .eq (f_Ge_mayNotMeetAsTheyDo X Y i j) 0 then (f_Ge_touchesItself_L14 X Y kd i K n (j + Int32.ofInt 1)) else 1))
theorem b_Ge_touchesItself_L14 (X Y : List Int32) (kd : Int32) (i : Int32) (K : Int32) (hK : zB K) : ∀ (n : Nat) (j : Int32) , zB (f_Ge_touchesItself_L14 X Y kd i K n j) := by
  intro n
  induction n with
  | zero => intro j; exact zB0
  | succ n ih => intro j; rw [f_Ge_touchesItself_L14]; exact (zbi hK (zbi (ih (j + Int32.ofInt 1) ) (zB1)))
theorem s_Ge_touchesItself_L14 {fr lo : Nat} {h : zH} (X Y : List Int32) (kd : Int32) (i : Int32) (g px py pb : Nat) (hg : h.1[g]? = some (.inr (6, [.int kd, .ref px, .ref py, .ref pb]))) (hX : h.1[px]? = some (.inl (0, X.map Value.int))) (hY : h.1[py]? = some (.inl (0, Y.map Value.int))) (hXY : Y.length = X.length) (hn : X.length ≤ 1000) (hne : 1 ≤ X.length) (hi : zIx i X.length) (K : Int32) (hK : zRun (fr + 4) lo none M_Ge_touchesItself (39, [(0, .ref g), (1, .int i)], []) h (some (.int K), h)) (hlo : 134 ≤ lo) : ∀ (n : Nat) (j : Int32) (k0 : 0 ≤ j.toInt) (k1 : j.toInt ≤ X.length) (km : (X.length : Int) < j.toInt + n), zRun (fr + 4) lo none M_Ge_touchesItself (14, [(0, .ref g), (1, .int i), (2, .int j)], []) h (some (.int (f_Ge_touchesItself_L14 X Y kd i K n j)), h) := by
  intro n
  induction n with
  | zero => intro j k0 k1 km; exfalso; omega
  | succ n ih =>
    intro j k0 k1 km
    rw [f_Ge_touchesItself_L14]
    refine zeN (q := ((16, [(0, .ref g), (1, .int i), (2, .int j)], [.ref g, .int j]), h)) 2 rfl ?_
    refine zec 1 (M' := M_Ge_sides) (qq := ([.ref g], [.int j])) (s' := (19, [(0, .ref g), (1, .int i), (2, .int j)], [.int (f_Ge_sides X kd), .int j])) rfl rfl (fun _ => rfl) rfl rfl (zhk rfl (zrc_ok hg) rfl) (s_Ge_sides X kd g px py pb hg hX (by omega)) rfl ?_
    refine zbc (q1 := (39, [(0, .ref g), (1, .int i), (2, .int j)], [])) (q2 := (22, [(0, .ref g), (1, .int i), (2, .int j)], [])) (cB := zc .ge j (f_Ge_sides X kd)) (off := 20) (lv := [(0, .ref g), (1, .int i), (2, .int j)]) (st := []) rfl rfl rfl rfl rfl (fun c19 => ?_) (fun c19 => ?_)
    · rw [c19]
      refine zeS [(0, .ref g), (1, .int i)] (zsub_pick [0, 1] rfl rfl) ?_
      exact hK
    · rw [c19]
      have hs := z_sides (kd := kd) hn hne
      have hcc := of_decide_eq_false (z_ge c19).symm
      have hj : zIx j X.length := ⟨k0, by omega⟩
      have hj1 := z_inc (a := j) (by omega) (by omega)
      refine zeN (q := ((25, [(0, .ref g), (1, .int i), (2, .int j)], [.int j, .int i, .ref g]), h)) 3 rfl ?_
      refine zec 1 (M' := M_Ge_mayNotMeetAsTheyDo) (qq := ([.ref g, .int i, .int j], [])) (s' := (28, [(0, .ref g), (1, .int i), (2, .int j)], [.int (f_Ge_mayNotMeetAsTheyDo X Y i j)])) rfl rfl (fun _ => rfl) rfl rfl (zhk rfl (zrc_ok hg) rfl) (s_Ge_mayNotMeetAsTheyDo X Y i j kd g px py pb hg hX hY hXY hn hi hj (by omega)) rfl ?_
      refine zbc (q1 := (33, [(0, .ref g), (1, .int i), (2, .int j)], [])) (q2 := (31, [(0, .ref g), (1, .int i), (2, .int j)], [])) (cB := zc .eq (f_Ge_mayNotMeetAsTheyDo X Y i j) 0) (off := 5) (lv := [(0, .ref g), (1, .int i), (2, .int j)]) (st := []) rfl rfl rfl rfl rfl (fun c28 => ?_) (fun c28 => ?_)
      · rw [c28]
        refine zeN (q := ((14, [(2, .int (j + Int32.ofInt 1)), (0, .ref g), (1, .int i)], []), h)) 2 rfl ?_
        refine zeS [(0, .ref g), (1, .int i), (2, .int (j + Int32.ofInt 1))] (zsub_pick [1, 2, 0] rfl rfl) ?_
        exact ih (j + Int32.ofInt 1) (by omega) (by omega) (by omega)
      · rw [c28]
        refine zeN (q := ((32, [(0, .ref g), (1, .int i), (2, .int j)], [.int 1]), h)) 1 rfl ?_
        exact zer rfl rfl
def f_Ge_touchesItself_L2 (X Y : List Int32) (kd : Int32)  : Nat → Int32 → Int32
  | 0, _ => 0
  | n + 1, i => (bif zc .ge i (f_Ge_sides X kd) then 0 else (f_Ge_touchesItself_L14 X Y kd i ((f_Ge_touchesItself_L2 X Y kd n (i + Int32.ofInt 1))) (X.length + 1) (i + 1)))
theorem b_Ge_touchesItself_L2 (X Y : List Int32) (kd : Int32)  : ∀ (n : Nat) (i : Int32) , zB (f_Ge_touchesItself_L2 X Y kd n i) := by
  intro n
  induction n with
  | zero => intro i; exact zB0
  | succ n ih => intro i; rw [f_Ge_touchesItself_L2]; exact (zbi (zB0) (b_Ge_touchesItself_L14 X Y kd i ((f_Ge_touchesItself_L2 X Y kd n (i + Int32.ofInt 1))) (ih (i + Int32.ofInt 1) ) (X.length + 1) (i + 1)))
theorem s_Ge_touchesItself_L2 {fr lo : Nat} {h : zH} (X Y : List Int32) (kd : Int32)  (g px py pb : Nat) (hg : h.1[g]? = some (.inr (6, [.int kd, .ref px, .ref py, .ref pb]))) (hX : h.1[px]? = some (.inl (0, X.map Value.int))) (hY : h.1[py]? = some (.inl (0, Y.map Value.int))) (hXY : Y.length = X.length) (hn : X.length ≤ 1000) (hne : 1 ≤ X.length)  (hlo : 134 ≤ lo) : ∀ (n : Nat) (i : Int32) (h0 : 0 ≤ i.toInt) (h1 : i.toInt ≤ X.length) (hm : (X.length : Int) < i.toInt + n), zRun (fr + 4) lo none M_Ge_touchesItself (2, [(0, .ref g), (1, .int i)], []) h (some (.int (f_Ge_touchesItself_L2 X Y kd n i)), h) := by
  intro n
  induction n with
  | zero => intro i h0 h1 hm; exfalso; omega
  | succ n ih =>
    intro i h0 h1 hm
    rw [f_Ge_touchesItself_L2]
    refine zeN (q := ((4, [(0, .ref g), (1, .int i)], [.ref g, .int i]), h)) 2 rfl ?_
    refine zec 1 (M' := M_Ge_sides) (qq := ([.ref g], [.int i])) (s' := (7, [(0, .ref g), (1, .int i)], [.int (f_Ge_sides X kd), .int i])) rfl rfl (fun _ => rfl) rfl rfl (zhk rfl (zrc_ok hg) rfl) (s_Ge_sides X kd g px py pb hg hX (by omega)) rfl ?_
    refine zbc (q1 := (45, [(0, .ref g), (1, .int i)], [])) (q2 := (10, [(0, .ref g), (1, .int i)], [])) (cB := zc .ge i (f_Ge_sides X kd)) (off := 38) (lv := [(0, .ref g), (1, .int i)]) (st := []) rfl rfl rfl rfl rfl (fun c7 => ?_) (fun c7 => ?_)
    · rw [c7]
      refine zeN (q := ((46, [(0, .ref g), (1, .int i)], [.int 0]), h)) 1 rfl ?_
      exact zer rfl rfl
    · rw [c7]
      have hs := z_sides (kd := kd) hn hne
      have hcc := of_decide_eq_false (z_ge c7).symm
      have hi : zIx i X.length := ⟨h0, by omega⟩
      have hi1 := z_inc (a := i) (by omega) (by omega)
      have hi2 : (i + 1).toInt = i.toInt + 1 := hi1
      refine zeN (q := ((14, [(2, .int (i + 1)), (0, .ref g), (1, .int i)], []), h)) 4 rfl ?_
      have hK : zRun (fr + 4) lo none M_Ge_touchesItself (39, [(0, .ref g), (1, .int i)], []) h (some (.int ((f_Ge_touchesItself_L2 X Y kd n (i + Int32.ofInt 1)))), h) := by
        refine zeN (q := ((2, [(1, .int (i + Int32.ofInt 1)), (0, .ref g)], []), h)) 2 rfl ?_
        refine zeS [(0, .ref g), (1, .int (i + Int32.ofInt 1))] (zsub_pick [1, 0] rfl rfl) ?_
        exact ih (i + Int32.ofInt 1) (by omega) (by omega) (by omega)
      refine zeS [(0, .ref g), (1, .int i), (2, .int (i + 1))] (zsub_pick [1, 2, 0] rfl rfl) ?_
      exact s_Ge_touchesItself_L14 X Y kd i g px py pb hg hX hY hXY hn hne hi ((f_Ge_touchesItself_L2 X Y kd n (i + Int32.ofInt 1))) hK (by omega) (X.length + 1) (i + 1) (by omega) (by omega) (by omega)
def f_Ge_touchesItself (X Y : List Int32) (kd : Int32) : Int32 := (f_Ge_touchesItself_L2 X Y kd (X.length + 1) 0)
theorem b_Ge_touchesItself (X Y : List Int32) (kd : Int32) : zB (f_Ge_touchesItself X Y kd) := by unfold f_Ge_touchesItself; exact (b_Ge_touchesItself_L2 X Y kd (X.length + 1) 0 )
theorem s_Ge_touchesItself {fr lo : Nat} {h : zH} (X Y : List Int32) (kd : Int32) (g px py pb : Nat) (hg : h.1[g]? = some (.inr (6, [.int kd, .ref px, .ref py, .ref pb]))) (hX : h.1[px]? = some (.inl (0, X.map Value.int))) (hY : h.1[py]? = some (.inl (0, Y.map Value.int))) (hXY : Y.length = X.length) (hn : X.length ≤ 1000) (hne : 1 ≤ X.length) (hlo : 156 ≤ lo) : zAns (fr + 5) lo 21 [.ref g] h (some (.int (f_Ge_touchesItself X Y kd)), h) := by
  unfold f_Ge_touchesItself
  refine zeb (fr := fr + 4) (M := M_Ge_touchesItself) rfl (Nat.le_trans (by decide) hlo) rfl ?_
  have e0 : mL M_Ge_touchesItself = 3 := rfl
  refine zeN (q := ((2, [(1, .int 0), (0, .ref g)], []), h)) 2 rfl ?_
  refine zeS [(0, .ref g), (1, .int 0)] (zsub_pick [1, 0] rfl rfl) ?_
  exact s_Ge_touchesItself_L2 X Y kd g px py pb hg hX hY hXY hn hne (by omega) (X.length + 1) 0 (Int.le_refl _) (by show (0 : Int) ≤ _; omega) (by show (X.length : Int) < 0 + _; omega)
def f_Ge_encloses_L15 (X Y : List Int32) (kd x y : Int32)  : Nat → Int32 → Int32 → Int32
  | 0, _, _ => 0
  | n + 1, w, i => (bif zc .ge i (f_Ge_sides X kd) then w else (bif zc .eq (bif zc .le (gI Y ((f_Ge_end X i))) y then 0 else 1) (bif zc .le (gI Y i) y then 0 else 1) then (f_Ge_encloses_L15 X Y kd x y n w (i + Int32.ofInt 1)) else (bif zc .ne (bif zc .le (gI Y ((f_Ge_end X i))) y then 0 else 1) (bif zc .le (f_Ge_turn X Y i x y) 0 then 0 else 1) then (f_Ge_encloses_L15 X Y kd x y n w (i + Int32.ofInt 1)) else (f_Ge_encloses_L15 X Y kd x y n (bif zc .ne w 0 then 0 else 1) (i + Int32.ofInt 1)))))
theorem b_Ge_encloses_L15 (X Y : List Int32) (kd x y : Int32)  : ∀ (n : Nat) (w : Int32) (i : Int32) (hb_w : zB w), zB (f_Ge_encloses_L15 X Y kd x y n w i) := by
  intro n
  induction n with
  | zero => intro w i hb_w; exact zB0
  | succ n ih => intro w i hb_w; rw [f_Ge_encloses_L15]; exact (zbi (hb_w) (zbi (ih w (i + Int32.ofInt 1) (hb_w)) (zbi (ih w (i + Int32.ofInt 1) (hb_w)) (ih (bif zc .ne w 0 then 0 else 1) (i + Int32.ofInt 1) (zbb _)))))
theorem s_Ge_encloses_L15 {fr lo : Nat} {h : zH} (X Y : List Int32) (kd x y : Int32)  (g px py pb : Nat) (hg : h.1[g]? = some (.inr (6, [.int kd, .ref px, .ref py, .ref pb]))) (hX : h.1[px]? = some (.inl (0, X.map Value.int))) (hY : h.1[py]? = some (.inl (0, Y.map Value.int))) (hXY : Y.length = X.length) (hn : X.length ≤ 1000) (hne : 1 ≤ X.length)  (hlo : 46 ≤ lo) : ∀ (n : Nat) (w : Int32) (i : Int32) (hb_w : zB w) (h0 : 0 ≤ i.toInt) (h1 : i.toInt ≤ X.length) (hm : (X.length : Int) < i.toInt + n), zRun (fr + 2) lo none M_Ge_encloses (15, [(0, .ref g), (1, .int x), (2, .int y), (3, .int w), (4, .int i)], []) h (some (.int (f_Ge_encloses_L15 X Y kd x y n w i)), h) := by
  intro n
  induction n with
  | zero => intro w i hb_w h0 h1 hm; exfalso; omega
  | succ n ih =>
    intro w i hb_w h0 h1 hm
    rw [f_Ge_encloses_L15]
    refine zeN (q := ((18, [(0, .ref g), (1, .int x), (2, .int y), (3, .int w), (4, .int i)], [.ref g, .int i]), h)) 2 rfl ?_
    refine zec 1 (M' := M_Ge_sides) (qq := ([.ref g], [.int i])) (s' := (21, [(0, .ref g), (1, .int x), (2, .int y), (3, .int w), (4, .int i)], [.int (f_Ge_sides X kd), .int i])) rfl rfl (fun _ => rfl) rfl rfl (zhk rfl (zrc_ok hg) rfl) (s_Ge_sides X kd g px py pb hg hX (by omega)) rfl ?_
    refine zbc (q1 := (104, [(0, .ref g), (1, .int x), (2, .int y), (3, .int w), (4, .int i)], [])) (q2 := (24, [(0, .ref g), (1, .int x), (2, .int y), (3, .int w), (4, .int i)], [])) (cB := zc .ge i (f_Ge_sides X kd)) (off := 83) (lv := [(0, .ref g), (1, .int x), (2, .int y), (3, .int w), (4, .int i)]) (st := []) rfl rfl rfl rfl rfl (fun c21 => ?_) (fun c21 => ?_)
    · rw [c21]
      refine zeN (q := ((105, [(0, .ref g), (1, .int x), (2, .int y), (3, .int w), (4, .int i)], [.int w]), h)) 1 rfl ?_
      exact zer rfl (zreb (hb_w))
    · rw [c21]
      have hs := z_sides (kd := kd) hn hne
      have hcc := of_decide_eq_false (z_ge c21).symm
      have hi : zIx i X.length := ⟨h0, by omega⟩
      have hi1 := z_inc (a := i) (by omega) (by omega)
      refine zeN (q := ((25, [(0, .ref g), (1, .int x), (2, .int y), (3, .int w), (4, .int i)], [.ref g]), h)) 1 rfl ?_
      refine zegf (fs := [.int kd, .ref px, .ref py, .ref pb]) (v := .ref py) rfl rfl rfl rfl hg rfl ?_
      refine zeN (q := ((31, [(0, .ref g), (1, .int x), (2, .int y), (3, .int w), (4, .int i)], [.int i, .ref g, .ref py]), h)) 2 rfl ?_
      refine zec 1 (M' := M_Ge_end) (qq := ([.ref g, .int i], [.ref py])) (s' := (34, [(0, .ref g), (1, .int x), (2, .int y), (3, .int w), (4, .int i)], [.int (f_Ge_end X i), .ref py])) rfl rfl (fun _ => rfl) rfl rfl (zhk rfl (zrc_ok hg) rfl) (s_Ge_end X i g px py pb kd hg hX (by omega)) rfl ?_
      refine zeia (l := Y.map Value.int) (k := (f_Ge_end X i).toNatClampNeg) (v := .int (gI Y ((f_Ge_end X i)))) rfl rfl hY (zIx_a (zIx_s (zIx_end hn hi) hXY)) (zIx_b (zIx_s (zIx_end hn hi) hXY)) ?_
      refine zeN (q := ((36, [(0, .ref g), (1, .int x), (2, .int y), (3, .int w), (4, .int i)], [.int y, .int (gI Y ((f_Ge_end X i)))]), h)) 1 rfl ?_
      refine zdia (q1 := (43, [(0, .ref g), (1, .int x), (2, .int y), (3, .int w), (4, .int i)], [])) (q2 := (39, [(0, .ref g), (1, .int x), (2, .int y), (3, .int w), (4, .int i)], [])) (cB := zc .le (gI Y ((f_Ge_end X i))) y) (off := 7) (lv := [(0, .ref g), (1, .int x), (2, .int y), (3, .int w), (4, .int i)]) (st := []) (lv2 := [(0, .ref g), (1, .int x), (2, .int y), (3, .int w), (4, .int i)]) (st2 := []) (J := 44) (vA := 0) (vB := 1) 1 2 rfl rfl rfl rfl rfl rfl rfl ?_
      refine zeN (q := ((49, [(5, .int (bif zc .le (gI Y ((f_Ge_end X i))) y then 0 else 1)), (0, .ref g), (1, .int x), (2, .int y), (3, .int w), (4, .int i)], [.ref g, .int (bif zc .le (gI Y ((f_Ge_end X i))) y then 0 else 1)]), h)) 3 rfl ?_
      refine zegf (fs := [.int kd, .ref px, .ref py, .ref pb]) (v := .ref py) rfl rfl rfl rfl hg rfl ?_
      refine zeN (q := ((54, [(5, .int (bif zc .le (gI Y ((f_Ge_end X i))) y then 0 else 1)), (0, .ref g), (1, .int x), (2, .int y), (3, .int w), (4, .int i)], [.int i, .ref py, .int (bif zc .le (gI Y ((f_Ge_end X i))) y then 0 else 1)]), h)) 1 rfl ?_
      refine zeia (l := Y.map Value.int) (k := i.toNatClampNeg) (v := .int (gI Y i)) rfl rfl hY (zIx_a (zIx_s hi hXY)) (zIx_b (zIx_s hi hXY)) ?_
      refine zeN (q := ((56, [(5, .int (bif zc .le (gI Y ((f_Ge_end X i))) y then 0 else 1)), (0, .ref g), (1, .int x), (2, .int y), (3, .int w), (4, .int i)], [.int y, .int (gI Y i), .int (bif zc .le (gI Y ((f_Ge_end X i))) y then 0 else 1)]), h)) 1 rfl ?_
      refine zdia (q1 := (63, [(5, .int (bif zc .le (gI Y ((f_Ge_end X i))) y then 0 else 1)), (0, .ref g), (1, .int x), (2, .int y), (3, .int w), (4, .int i)], [.int (bif zc .le (gI Y ((f_Ge_end X i))) y then 0 else 1)])) (q2 := (59, [(5, .int (bif zc .le (gI Y ((f_Ge_end X i))) y then 0 else 1)), (0, .ref g), (1, .int x), (2, .int y), (3, .int w), (4, .int i)], [.int (bif zc .le (gI Y ((f_Ge_end X i))) y then 0 else 1)])) (cB := zc .le (gI Y i) y) (off := 7) (lv := [(5, .int (bif zc .le (gI Y ((f_Ge_end X i))) y then 0 else 1)), (0, .ref g), (1, .int x), (2, .int y), (3, .int w), (4, .int i)]) (st := [.int (bif zc .le (gI Y ((f_Ge_end X i))) y then 0 else 1)]) (lv2 := [(5, .int (bif zc .le (gI Y ((f_Ge_end X i))) y then 0 else 1)), (0, .ref g), (1, .int x), (2, .int y), (3, .int w), (4, .int i)]) (st2 := [.int (bif zc .le (gI Y ((f_Ge_end X i))) y then 0 else 1)]) (J := 64) (vA := 0) (vB := 1) 1 2 rfl rfl rfl rfl rfl rfl rfl ?_
      refine zbc (q1 := (98, [(5, .int (bif zc .le (gI Y ((f_Ge_end X i))) y then 0 else 1)), (0, .ref g), (1, .int x), (2, .int y), (3, .int w), (4, .int i)], [])) (q2 := (67, [(5, .int (bif zc .le (gI Y ((f_Ge_end X i))) y then 0 else 1)), (0, .ref g), (1, .int x), (2, .int y), (3, .int w), (4, .int i)], [])) (cB := zc .eq (bif zc .le (gI Y ((f_Ge_end X i))) y then 0 else 1) (bif zc .le (gI Y i) y then 0 else 1)) (off := 34) (lv := [(5, .int (bif zc .le (gI Y ((f_Ge_end X i))) y then 0 else 1)), (0, .ref g), (1, .int x), (2, .int y), (3, .int w), (4, .int i)]) (st := []) rfl rfl rfl rfl rfl (fun c64 => ?_) (fun c64 => ?_)
      · rw [c64]
        refine zeN (q := ((15, [(4, .int (i + Int32.ofInt 1)), (5, .int (bif zc .le (gI Y ((f_Ge_end X i))) y then 0 else 1)), (0, .ref g), (1, .int x), (2, .int y), (3, .int w)], []), h)) 2 rfl ?_
        refine zeS [(0, .ref g), (1, .int x), (2, .int y), (3, .int w), (4, .int (i + Int32.ofInt 1))] (zsub_pick [2, 3, 4, 5, 0] rfl rfl) ?_
        exact ih w (i + Int32.ofInt 1) (hb_w) (by omega) (by omega) (by omega)
      · rw [c64]
        refine zeN (q := ((74, [(5, .int (bif zc .le (gI Y ((f_Ge_end X i))) y then 0 else 1)), (0, .ref g), (1, .int x), (2, .int y), (3, .int w), (4, .int i)], [.int y, .int x, .int i, .ref g, .int (bif zc .le (gI Y ((f_Ge_end X i))) y then 0 else 1)]), h)) 5 rfl ?_
        refine zec 1 (M' := M_Ge_turn) (qq := ([.ref g, .int i, .int x, .int y], [.int (bif zc .le (gI Y ((f_Ge_end X i))) y then 0 else 1)])) (s' := (77, [(5, .int (bif zc .le (gI Y ((f_Ge_end X i))) y then 0 else 1)), (0, .ref g), (1, .int x), (2, .int y), (3, .int w), (4, .int i)], [.int (f_Ge_turn X Y i x y), .int (bif zc .le (gI Y ((f_Ge_end X i))) y then 0 else 1)])) rfl rfl (fun _ => rfl) rfl rfl (zhk rfl (zrc_ok hg) rfl) (s_Ge_turn X Y i x y g px py pb kd hg hX hY hXY hn hi (by omega)) rfl ?_
        refine zdia (q1 := (84, [(5, .int (bif zc .le (gI Y ((f_Ge_end X i))) y then 0 else 1)), (0, .ref g), (1, .int x), (2, .int y), (3, .int w), (4, .int i)], [.int (bif zc .le (gI Y ((f_Ge_end X i))) y then 0 else 1)])) (q2 := (80, [(5, .int (bif zc .le (gI Y ((f_Ge_end X i))) y then 0 else 1)), (0, .ref g), (1, .int x), (2, .int y), (3, .int w), (4, .int i)], [.int (bif zc .le (gI Y ((f_Ge_end X i))) y then 0 else 1)])) (cB := zc .le (f_Ge_turn X Y i x y) 0) (off := 7) (lv := [(5, .int (bif zc .le (gI Y ((f_Ge_end X i))) y then 0 else 1)), (0, .ref g), (1, .int x), (2, .int y), (3, .int w), (4, .int i)]) (st := [.int (bif zc .le (gI Y ((f_Ge_end X i))) y then 0 else 1)]) (lv2 := [(5, .int (bif zc .le (gI Y ((f_Ge_end X i))) y then 0 else 1)), (0, .ref g), (1, .int x), (2, .int y), (3, .int w), (4, .int i)]) (st2 := [.int (bif zc .le (gI Y ((f_Ge_end X i))) y then 0 else 1)]) (J := 85) (vA := 0) (vB := 1) 1 2 rfl rfl rfl rfl rfl rfl rfl ?_
        refine zbc (q1 := (98, [(5, .int (bif zc .le (gI Y ((f_Ge_end X i))) y then 0 else 1)), (0, .ref g), (1, .int x), (2, .int y), (3, .int w), (4, .int i)], [])) (q2 := (88, [(5, .int (bif zc .le (gI Y ((f_Ge_end X i))) y then 0 else 1)), (0, .ref g), (1, .int x), (2, .int y), (3, .int w), (4, .int i)], [])) (cB := zc .ne (bif zc .le (gI Y ((f_Ge_end X i))) y then 0 else 1) (bif zc .le (f_Ge_turn X Y i x y) 0 then 0 else 1)) (off := 13) (lv := [(5, .int (bif zc .le (gI Y ((f_Ge_end X i))) y then 0 else 1)), (0, .ref g), (1, .int x), (2, .int y), (3, .int w), (4, .int i)]) (st := []) rfl rfl rfl rfl rfl (fun c85 => ?_) (fun c85 => ?_)
        · rw [c85]
          refine zeN (q := ((15, [(4, .int (i + Int32.ofInt 1)), (5, .int (bif zc .le (gI Y ((f_Ge_end X i))) y then 0 else 1)), (0, .ref g), (1, .int x), (2, .int y), (3, .int w)], []), h)) 2 rfl ?_
          refine zeS [(0, .ref g), (1, .int x), (2, .int y), (3, .int w), (4, .int (i + Int32.ofInt 1))] (zsub_pick [2, 3, 4, 5, 0] rfl rfl) ?_
          exact ih w (i + Int32.ofInt 1) (hb_w) (by omega) (by omega) (by omega)
        · rw [c85]
          refine zeN (q := ((89, [(5, .int (bif zc .le (gI Y ((f_Ge_end X i))) y then 0 else 1)), (0, .ref g), (1, .int x), (2, .int y), (3, .int w), (4, .int i)], [.int w]), h)) 1 rfl ?_
          refine zdia (q1 := (96, [(5, .int (bif zc .le (gI Y ((f_Ge_end X i))) y then 0 else 1)), (0, .ref g), (1, .int x), (2, .int y), (3, .int w), (4, .int i)], [])) (q2 := (92, [(5, .int (bif zc .le (gI Y ((f_Ge_end X i))) y then 0 else 1)), (0, .ref g), (1, .int x), (2, .int y), (3, .int w), (4, .int i)], [])) (cB := zc .ne w 0) (off := 7) (lv := [(5, .int (bif zc .le (gI Y ((f_Ge_end X i))) y then 0 else 1)), (0, .ref g), (1, .int x), (2, .int y), (3, .int w), (4, .int i)]) (st := []) (lv2 := [(5, .int (bif zc .le (gI Y ((f_Ge_end X i))) y then 0 else 1)), (0, .ref g), (1, .int x), (2, .int y), (3, .int w), (4, .int i)]) (st2 := []) (J := 97) (vA := 0) (vB := 1) 1 2 rfl rfl rfl rfl rfl rfl rfl ?_
          refine zeN (q := ((15, [(4, .int (i + Int32.ofInt 1)), (3, .int (bif zc .ne w 0 then 0 else 1)), (5, .int (bif zc .le (gI Y ((f_Ge_end X i))) y then 0 else 1)), (0, .ref g), (1, .int x), (2, .int y)], []), h)) 3 rfl ?_
          refine zeS [(0, .ref g), (1, .int x), (2, .int y), (3, .int (bif zc .ne w 0 then 0 else 1)), (4, .int (i + Int32.ofInt 1))] (zsub_pick [3, 4, 5, 1, 0] rfl rfl) ?_
          exact ih (bif zc .ne w 0 then 0 else 1) (i + Int32.ofInt 1) (zbb _) (by omega) (by omega) (by omega)
def f_Ge_encloses (X Y : List Int32) (kd x y : Int32) : Int32 := (bif zc .eq kd 2 then (f_Ge_encloses_L15 X Y kd x y (X.length + 1) 0 0) else 0)
theorem b_Ge_encloses (X Y : List Int32) (kd x y : Int32) : zB (f_Ge_encloses X Y kd x y) := by unfold f_Ge_encloses; exact (zbi (b_Ge_encloses_L15 X Y kd x y (X.length + 1) 0 0 (zB0)) (zB0))
theorem s_Ge_encloses {fr lo : Nat} {h : zH} (X Y : List Int32) (kd x y : Int32) (g px py pb : Nat) (hg : h.1[g]? = some (.inr (6, [.int kd, .ref px, .ref py, .ref pb]))) (hX : h.1[px]? = some (.inl (0, X.map Value.int))) (hY : h.1[py]? = some (.inl (0, Y.map Value.int))) (hXY : Y.length = X.length) (hn : X.length ≤ 1000) (hne : 1 ≤ X.length) (hlo : 71 ≤ lo) : zAns (fr + 3) lo 59 [.ref g, .int x, .int y] h (some (.int (f_Ge_encloses X Y kd x y)), h) := by
  unfold f_Ge_encloses
  refine zeb (fr := fr + 2) (M := M_Ge_encloses) rfl (Nat.le_trans (by decide) hlo) rfl ?_
  have e0 : mL M_Ge_encloses = 6 := rfl
  refine zeN (q := ((3, [(3, .int 0), (0, .ref g), (1, .int x), (2, .int y)], [.ref g]), h)) 3 rfl ?_
  refine zegf (fs := [.int kd, .ref px, .ref py, .ref pb]) (v := .int kd) rfl rfl rfl rfl hg rfl ?_
  refine zeN (q := ((7, [(3, .int 0), (0, .ref g), (1, .int x), (2, .int y)], [.int 2, .int kd]), h)) 1 rfl ?_
  refine zbc (q1 := (12, [(3, .int 0), (0, .ref g), (1, .int x), (2, .int y)], [])) (q2 := (10, [(3, .int 0), (0, .ref g), (1, .int x), (2, .int y)], [])) (cB := zc .eq kd 2) (off := 5) (lv := [(3, .int 0), (0, .ref g), (1, .int x), (2, .int y)]) (st := []) rfl rfl rfl rfl rfl (fun c7 => ?_) (fun c7 => ?_)
  · rw [c7]
    refine zeN (q := ((15, [(4, .int 0), (3, .int 0), (0, .ref g), (1, .int x), (2, .int y)], []), h)) 2 rfl ?_
    refine zeS [(0, .ref g), (1, .int x), (2, .int y), (3, .int 0), (4, .int 0)] (zsub_pick [2, 3, 4, 1, 0] rfl rfl) ?_
    exact s_Ge_encloses_L15 X Y kd x y g px py pb hg hX hY hXY hn hne (by omega) (X.length + 1) 0 0 zB0 (Int.le_refl _) (by show (0 : Int) ≤ _; omega) (by show (X.length : Int) < 0 + _; omega)
  · rw [c7]
    refine zeN (q := ((11, [(3, .int 0), (0, .ref g), (1, .int x), (2, .int y)], [.int 0]), h)) 1 rfl ?_
    exact zer rfl rfl
