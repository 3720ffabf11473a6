theorem z_sides {X : List Int32} {kd : Int32} (hn : X.length ≤ 1000) (h1 : 1 ≤ X.length) : (f_Ge_sides X kd).toInt ≤ (X.length : Int) ∧ 0 ≤ (f_Ge_sides X kd).toInt := by
  have e2 : (Int32.ofNat (X.map Value.int).length).toInt = (X.length : Int) := by rw [List.length_map]; exact z_nat (by omega)
  unfold f_Ge_sides
  cases hc : zc .ne kd 1 with
  | true => show (Int32.ofNat (X.map Value.int).length).toInt ≤ _ ∧ 0 ≤ (Int32.ofNat (X.map Value.int).length).toInt; rw [e2]; omega
  | false =>
    have e3 : (Int32.ofNat (X.map Value.int).length - 1).toInt = (X.length : Int) - 1 := by rw [z_sub (by rw [e2]; show _ ≤ _ - (1 : Int); omega) (by rw [e2]; show _ - (1 : Int) < _; omega), e2]; rfl
    show (Int32.ofNat (X.map Value.int).length - 1).toInt ≤ _ ∧ 0 ≤ (Int32.ofNat (X.map Value.int).length - 1).toInt
    rw [e3]
    omega
theorem z_ge {a b : Int32} {v : Bool} (h : zc .ge a b = v) : v = decide (b.toInt ≤ a.toInt) := by
  rw [← h]
  exact decide_eq_decide.mpr Int32.le_iff_toInt_le
theorem z_inc {a : Int32} (h : a.toInt < 2147483647) (h2 : -2147483648 ≤ a.toInt) : (a + Int32.ofInt 1).toInt = a.toInt + 1 := z_add (by show _ ≤ a.toInt + 1; omega) (by show a.toInt + 1 < _; omega)
def f_Ge_hasEqualNeighbours_L2 (X Y : List Int32) (kd : Int32)  : Nat → Int32 → Int32
  | 0, _ => 0
  | n + 1, i => (bif zc .ge i (f_Ge_sides X kd) then 0 else (bif zc .ne (gI X i) (gI X ((f_Ge_end X i))) then (f_Ge_hasEqualNeighbours_L2 X Y kd n (i + Int32.ofInt 1)) else (bif zc .ne (gI Y i) (gI Y ((f_Ge_end X i))) then (f_Ge_hasEqualNeighbours_L2 X Y kd n (i + Int32.ofInt 1)) else 1)))
theorem s_Ge_hasEqualNeighbours_L2 {fr lo : Nat} {h : zH} (X Y : List Int32) (kd : Int32)  (g px py pb : Nat) (hg : h.1[g]? = some (.inr (6, [.int kd, .ref px, .ref py, .ref pb]))) (hX : h.1[px]? = some (.inl (0, X.map Value.int))) (hY : h.1[py]? = some (.inl (0, Y.map Value.int))) (hXY : Y.length = X.length) (hn : X.length ≤ 1000) (hne : 1 ≤ X.length)  (hlo : 21 ≤ lo) : ∀ (n : Nat) (i : Int32) (h0 : 0 ≤ i.toInt) (h1 : i.toInt ≤ X.length) (hm : (X.length : Int) < i.toInt + n), zRun (fr + 1) lo none M_Ge_hasEqualNeighbours (2, [(0, .ref g), (1, .int i)], []) h (some (.int (f_Ge_hasEqualNeighbours_L2 X Y kd n i)), h) := by
  intro n
  induction n with
  | zero => intro i h0 h1 hm; exfalso; omega
  | succ n ih =>
    intro i h0 h1 hm
    rw [f_Ge_hasEqualNeighbours_L2]
    refine zeN (q := ((4, [(0, .ref g), (1, .int i)], [.ref g, .int i]), h)) 2 rfl ?_
    refine zec 1 (M' := M_Ge_sides) (qq := ([.ref g], [.int i])) (s' := (7, [(0, .ref g), (1, .int i)], [.int (f_Ge_sides X kd), .int i])) rfl rfl (fun _ => rfl) rfl rfl (zhk rfl (zrc_ok hg) rfl) (s_Ge_sides X kd g px py pb hg hX (by omega)) rfl ?_
    refine zbc (q1 := (56, [(0, .ref g), (1, .int i)], [])) (q2 := (10, [(0, .ref g), (1, .int i)], [])) (cB := zc .ge i (f_Ge_sides X kd)) (off := 49) (lv := [(0, .ref g), (1, .int i)]) (st := []) rfl rfl rfl rfl rfl (fun c7 => ?_) (fun c7 => ?_)
    · rw [c7]
      refine zeN (q := ((57, [(0, .ref g), (1, .int i)], [.int 0]), h)) 1 rfl ?_
      exact zer rfl rfl
    · rw [c7]
      have hs := z_sides (kd := kd) hn hne
      have hcc := of_decide_eq_false (z_ge c7).symm
      have hi : zIx i X.length := ⟨h0, by omega⟩
      have hi1 := z_inc (a := i) (by omega) (by omega)
      refine zeN (q := ((11, [(0, .ref g), (1, .int i)], [.ref g]), h)) 1 rfl ?_
      refine zegf (fs := [.int kd, .ref px, .ref py, .ref pb]) (v := .ref px) rfl rfl rfl rfl hg rfl ?_
      refine zeN (q := ((15, [(0, .ref g), (1, .int i)], [.int i, .ref px]), h)) 1 rfl ?_
      refine zeia (l := X.map Value.int) (k := i.toNatClampNeg) (v := .int (gI X i)) rfl rfl hX (zIx_a hi) (zIx_b hi) ?_
      refine zeN (q := ((17, [(0, .ref g), (1, .int i)], [.ref g, .int (gI X i)]), h)) 1 rfl ?_
      refine zegf (fs := [.int kd, .ref px, .ref py, .ref pb]) (v := .ref px) rfl rfl rfl rfl hg rfl ?_
      refine zeN (q := ((22, [(0, .ref g), (1, .int i)], [.int i, .ref g, .ref px, .int (gI X i)]), h)) 2 rfl ?_
      refine zec 1 (M' := M_Ge_end) (qq := ([.ref g, .int i], [.ref px, .int (gI X i)])) (s' := (25, [(0, .ref g), (1, .int i)], [.int (f_Ge_end X i), .ref px, .int (gI X i)])) rfl rfl (fun _ => rfl) rfl rfl (zhk rfl (zrc_ok hg) rfl) (s_Ge_end X i g px py pb kd hg hX (by omega)) rfl ?_
      refine zeia (l := X.map Value.int) (k := (f_Ge_end X i).toNatClampNeg) (v := .int (gI X ((f_Ge_end X i)))) rfl rfl hX (zIx_a (zIx_end hn hi)) (zIx_b (zIx_end hn hi)) ?_
      refine zbc (q1 := (50, [(0, .ref g), (1, .int i)], [])) (q2 := (29, [(0, .ref g), (1, .int i)], [])) (cB := zc .ne (gI X i) (gI X ((f_Ge_end X i)))) (off := 24) (lv := [(0, .ref g), (1, .int i)]) (st := []) rfl rfl rfl rfl rfl (fun c26 => ?_) (fun c26 => ?_)
      · rw [c26]
        refine zeN (q := ((2, [(1, .int (i + Int32.ofInt 1)), (0, .ref g)], []), h)) 2 rfl ?_
        refine zeS [(0, .ref g), (1, .int (i + Int32.ofInt 1))] (zsub_pick [1, 0] rfl rfl) ?_
        exact ih (i + Int32.ofInt 1) (by omega) (by omega) (by omega)
      · rw [c26]
        refine zeN (q := ((30, [(0, .ref g), (1, .int i)], [.ref g]), h)) 1 rfl ?_
        refine zegf (fs := [.int kd, .ref px, .ref py, .ref pb]) (v := .ref py) rfl rfl rfl rfl hg rfl ?_
        refine zeN (q := ((34, [(0, .ref g), (1, .int i)], [.int i, .ref py]), h)) 1 rfl ?_
        refine zeia (l := Y.map Value.int) (k := i.toNatClampNeg) (v := .int (gI Y i)) rfl rfl hY (zIx_a (zIx_s hi hXY)) (zIx_b (zIx_s hi hXY)) ?_
        refine zeN (q := ((36, [(0, .ref g), (1, .int i)], [.ref g, .int (gI Y i)]), h)) 1 rfl ?_
        refine zegf (fs := [.int kd, .ref px, .ref py, .ref pb]) (v := .ref py) rfl rfl rfl rfl hg rfl ?_
        refine zeN (q := ((41, [(0, .ref g), (1, .int i)], [.int i, .ref g, .ref py, .int (gI Y i)]), h)) 2 rfl ?_
        refine zec 1 (M' := M_Ge_end) (qq := ([.ref g, .int i], [.ref py, .int (gI Y i)])) (s' := (44, [(0, .ref g), (1, .int i)], [.int (f_Ge_end X i), .ref py, .int (gI Y i)])) rfl rfl (fun _ => rfl) rfl rfl (zhk rfl (zrc_ok hg) rfl) (s_Ge_end X i g px py pb kd hg hX (by omega)) rfl ?_
        refine zeia (l := Y.map Value.int) (k := (f_Ge_end X i).toNatClampNeg) (v := .int (gI Y ((f_Ge_end X i)))) rfl rfl hY (zIx_a (zIx_s (zIx_end hn hi) hXY)) (zIx_b (zIx_s (zIx_end hn hi) hXY)) ?_
        refine zbc (q1 := (50, [(0, .ref g), (1, .int i)], [])) (q2 := (48, [(0, .ref g), (1, .int i)], [])) (cB := zc .ne (gI Y i) (gI Y ((f_Ge_end X i)))) (off := 5) (lv := [(0, .ref g), (1, .int i)]) (st := []) rfl rfl rfl rfl rfl (fun c45 => ?_) (fun c45 => ?_)
        · rw [c45]
          refine zeN (q := ((2, [(1, .int (i + Int32.ofInt 1)), (0, .ref g)], []), h)) 2 rfl ?_
          refine zeS [(0, .ref g), (1, .int (i + Int32.ofInt 1))] (zsub_pick [1, 0] rfl rfl) ?_
          exact ih (i + Int32.ofInt 1) (by omega) (by omega) (by omega)
        · rw [c45]
          refine zeN (q := ((49, [(0, .ref g), (1, .int i)], [.int 1]), h)) 1 rfl ?_
          exact zer rfl rfl
def f_Ge_hasEqualNeighbours (X Y : List Int32) (kd : Int32) : Int32 := (f_Ge_hasEqualNeighbours_L2 X Y kd (X.length + 1) 0)
theorem s_Ge_hasEqualNeighbours {fr lo : Nat} {h : zH} (X Y : List Int32) (kd : Int32) (g px py pb : Nat) (hg : h.1[g]? = some (.inr (6, [.int kd, .ref px, .ref py, .ref pb]))) (hX : h.1[px]? = some (.inl (0, X.map Value.int))) (hY : h.1[py]? = some (.inl (0, Y.map Value.int))) (hXY : Y.length = X.length) (hn : X.length ≤ 1000) (hne : 1 ≤ X.length) (hlo : 42 ≤ lo) : zAns (fr + 2) lo 18 [.ref g] h (some (.int (f_Ge_hasEqualNeighbours X Y kd)), h) := by
  unfold f_Ge_hasEqualNeighbours
  refine zeb (fr := fr + 1) (M := M_Ge_hasEqualNeighbours) rfl (Nat.le_trans (by decide) hlo) rfl ?_
  have e0 : mL M_Ge_hasEqualNeighbours = 2 := rfl
  refine zeN (q := ((2, [(1, .int 0), (0, .ref g)], []), h)) 2 rfl ?_
  refine zeS [(0, .ref g), (1, .int 0)] (zsub_pick [1, 0] rfl rfl) ?_
  exact s_Ge_hasEqualNeighbours_L2 X Y kd g px py pb hg hX hY hXY hn hne (by omega) (X.length + 1) 0 (Int.le_refl _) (by show (0 : Int) ≤ _; omega) (by show (X.length : Int) < 0 + _; omega)
