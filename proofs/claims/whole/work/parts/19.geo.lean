def f_Mo_cross (ax ay bx bz cx cy : Int32) : Int64 := (((bx - ax).toInt64) * ((cy - ay).toInt64)) - (((bz - ay).toInt64) * ((cx - ax).toInt64))
theorem s_Mo_cross {fr lo : Nat} {h : zH} (ax ay bx bz cx cy : Int32)  (hlo : 25 ≤ lo) : zAns (fr + 1) lo 103 [.int ax, .int ay, .int bx, .int bz, .int cx, .int cy] h (some (.long (f_Mo_cross ax ay bx bz cx cy)), h) := by
  unfold f_Mo_cross
  refine zeb (fr := fr + 0) (M := M_Mo_cross) rfl (Nat.le_trans (by decide) hlo) rfl ?_
  have e0 : mL M_Mo_cross = 6 := rfl
  refine zeN (q := ((21, [(0, .int ax), (1, .int ay), (2, .int bx), (3, .int bz), (4, .int cx), (5, .int cy)], [.long ((((bx - ax).toInt64) * ((cy - ay).toInt64)) - (((bz - ay).toInt64) * ((cx - ax).toInt64)))]), h)) 19 rfl ?_
  exact zer rfl rfl
def f_Mo_between (a v b : Int32) : Int32 := (bif zc .gt a v then (bif zc .gt b v then 0 else (bif zc .gt v a then 0 else 1)) else (bif zc .le v b then 1 else (bif zc .gt b v then 0 else (bif zc .gt v a then 0 else 1))))
theorem s_Mo_between {fr lo : Nat} {h : zH} (a v b : Int32)  (hlo : 22 ≤ lo) : zAns (fr + 1) lo 105 [.int a, .int v, .int b] h (some (.int (f_Mo_between a v b)), h) := by
  unfold f_Mo_between
  refine zeb (fr := fr + 0) (M := M_Mo_between) rfl (Nat.le_trans (by decide) hlo) rfl ?_
  have e0 : mL M_Mo_between = 3 := rfl
  refine zeN (q := ((2, [(0, .int a), (1, .int v), (2, .int b)], [.int v, .int a]), h)) 2 rfl ?_
  refine zbc (q1 := (10, [(0, .int a), (1, .int v), (2, .int b)], [])) (q2 := (5, [(0, .int a), (1, .int v), (2, .int b)], [])) (cB := zc .gt a v) (off := 8) (lv := [(0, .int a), (1, .int v), (2, .int b)]) (st := []) rfl rfl rfl rfl rfl (fun c2 => ?_) (fun c2 => ?_)
  · rw [c2]
    refine zeN (q := ((12, [(0, .int a), (1, .int v), (2, .int b)], [.int v, .int b]), h)) 2 rfl ?_
    refine zbc (q1 := (24, [(0, .int a), (1, .int v), (2, .int b)], [])) (q2 := (15, [(0, .int a), (1, .int v), (2, .int b)], [])) (cB := zc .gt b v) (off := 12) (lv := [(0, .int a), (1, .int v), (2, .int b)]) (st := []) rfl rfl rfl rfl rfl (fun c12 => ?_) (fun c12 => ?_)
    · rw [c12]
      refine zeN (q := ((25, [(0, .int a), (1, .int v), (2, .int b)], [.int 0]), h)) 1 rfl ?_
      exact zer rfl rfl
    · rw [c12]
      refine zeN (q := ((17, [(0, .int a), (1, .int v), (2, .int b)], [.int a, .int v]), h)) 2 rfl ?_
      refine zbc (q1 := (24, [(0, .int a), (1, .int v), (2, .int b)], [])) (q2 := (20, [(0, .int a), (1, .int v), (2, .int b)], [])) (cB := zc .gt v a) (off := 7) (lv := [(0, .int a), (1, .int v), (2, .int b)]) (st := []) rfl rfl rfl rfl rfl (fun c17 => ?_) (fun c17 => ?_)
      · rw [c17]
        refine zeN (q := ((25, [(0, .int a), (1, .int v), (2, .int b)], [.int 0]), h)) 1 rfl ?_
        exact zer rfl rfl
      · rw [c17]
        refine zeN (q := ((25, [(0, .int a), (1, .int v), (2, .int b)], [.int 1]), h)) 2 rfl ?_
        exact zer rfl rfl
  · rw [c2]
    refine zeN (q := ((7, [(0, .int a), (1, .int v), (2, .int b)], [.int b, .int v]), h)) 2 rfl ?_
    refine zbc (q1 := (20, [(0, .int a), (1, .int v), (2, .int b)], [])) (q2 := (10, [(0, .int a), (1, .int v), (2, .int b)], [])) (cB := zc .le v b) (off := 13) (lv := [(0, .int a), (1, .int v), (2, .int b)]) (st := []) rfl rfl rfl rfl rfl (fun c7 => ?_) (fun c7 => ?_)
    · rw [c7]
      refine zeN (q := ((25, [(0, .int a), (1, .int v), (2, .int b)], [.int 1]), h)) 2 rfl ?_
      exact zer rfl rfl
    · rw [c7]
      refine zeN (q := ((12, [(0, .int a), (1, .int v), (2, .int b)], [.int v, .int b]), h)) 2 rfl ?_
      refine zbc (q1 := (24, [(0, .int a), (1, .int v), (2, .int b)], [])) (q2 := (15, [(0, .int a), (1, .int v), (2, .int b)], [])) (cB := zc .gt b v) (off := 12) (lv := [(0, .int a), (1, .int v), (2, .int b)]) (st := []) rfl rfl rfl rfl rfl (fun c12 => ?_) (fun c12 => ?_)
      · rw [c12]
        refine zeN (q := ((25, [(0, .int a), (1, .int v), (2, .int b)], [.int 0]), h)) 1 rfl ?_
        exact zer rfl rfl
      · rw [c12]
        refine zeN (q := ((17, [(0, .int a), (1, .int v), (2, .int b)], [.int a, .int v]), h)) 2 rfl ?_
        refine zbc (q1 := (24, [(0, .int a), (1, .int v), (2, .int b)], [])) (q2 := (20, [(0, .int a), (1, .int v), (2, .int b)], [])) (cB := zc .gt v a) (off := 7) (lv := [(0, .int a), (1, .int v), (2, .int b)]) (st := []) rfl rfl rfl rfl rfl (fun c17 => ?_) (fun c17 => ?_)
        · rw [c17]
          refine zeN (q := ((25, [(0, .int a), (1, .int v), (2, .int b)], [.int 0]), h)) 1 rfl ?_
          exact zer rfl rfl
        · rw [c17]
          refine zeN (q := ((25, [(0, .int a), (1, .int v), (2, .int b)], [.int 1]), h)) 2 rfl ?_
          exact zer rfl rfl
def f_Mo_on (ax ay bx bz cx cy : Int32) : Int32 := (bif zc .ne (lg_cmp (f_Mo_cross ax ay bx bz cx cy) 0) 0 then 0 else (bif zc .eq (f_Mo_between ax cx bx) 0 then 0 else (bif zc .eq (f_Mo_between ay cy bz) 0 then 0 else 1)))
theorem s_Mo_on {fr lo : Nat} {h : zH} (ax ay bx bz cx cy : Int32)  (hlo : 50 ≤ lo) : zAns (fr + 2) lo 104 [.int ax, .int ay, .int bx, .int bz, .int cx, .int cy] h (some (.int (f_Mo_on ax ay bx bz cx cy)), h) := by
  unfold f_Mo_on
  refine zeb (fr := fr + 1) (M := M_Mo_on) rfl (Nat.le_trans (by decide) hlo) rfl ?_
  have e0 : mL M_Mo_on = 6 := rfl
  refine zeN (q := ((8, [(0, .int ax), (1, .int ay), (2, .int bx), (3, .int bz), (4, .int cx), (5, .int cy)], [.int cy, .int cx, .int bz, .int bx, .int ay, .int ax]), h)) 6 rfl ?_
  refine zec 0 (M' := M_Mo_cross) (qq := ([.int ax, .int ay, .int bx, .int bz, .int cx, .int cy], [])) (s' := (11, [(0, .int ax), (1, .int ay), (2, .int bx), (3, .int bz), (4, .int cx), (5, .int cy)], [.long (f_Mo_cross ax ay bx bz cx cy)])) rfl rfl (fun _ => rfl) rfl rfl rfl (s_Mo_cross ax ay bx bz cx cy  (by omega)) rfl ?_
  refine zeN (q := ((13, [(0, .int ax), (1, .int ay), (2, .int bx), (3, .int bz), (4, .int cx), (5, .int cy)], [.int (lg_cmp (f_Mo_cross ax ay bx bz cx cy) 0)]), h)) 2 rfl ?_
  refine zbc (q1 := (40, [(0, .int ax), (1, .int ay), (2, .int bx), (3, .int bz), (4, .int cx), (5, .int cy)], [])) (q2 := (16, [(0, .int ax), (1, .int ay), (2, .int bx), (3, .int bz), (4, .int cx), (5, .int cy)], [])) (cB := zc .ne (lg_cmp (f_Mo_cross ax ay bx bz cx cy) 0) 0) (off := 27) (lv := [(0, .int ax), (1, .int ay), (2, .int bx), (3, .int bz), (4, .int cx), (5, .int cy)]) (st := []) rfl rfl rfl rfl rfl (fun c13 => ?_) (fun c13 => ?_)
  · rw [c13]
    refine zeN (q := ((41, [(0, .int ax), (1, .int ay), (2, .int bx), (3, .int bz), (4, .int cx), (5, .int cy)], [.int 0]), h)) 1 rfl ?_
    exact zer rfl rfl
  · rw [c13]
    refine zeN (q := ((20, [(0, .int ax), (1, .int ay), (2, .int bx), (3, .int bz), (4, .int cx), (5, .int cy)], [.int bx, .int cx, .int ax]), h)) 3 rfl ?_
    refine zec 0 (M' := M_Mo_between) (qq := ([.int ax, .int cx, .int bx], [])) (s' := (23, [(0, .int ax), (1, .int ay), (2, .int bx), (3, .int bz), (4, .int cx), (5, .int cy)], [.int (f_Mo_between ax cx bx)])) rfl rfl (fun _ => rfl) rfl rfl rfl (s_Mo_between ax cx bx  (by omega)) rfl ?_
    refine zbc (q1 := (40, [(0, .int ax), (1, .int ay), (2, .int bx), (3, .int bz), (4, .int cx), (5, .int cy)], [])) (q2 := (26, [(0, .int ax), (1, .int ay), (2, .int bx), (3, .int bz), (4, .int cx), (5, .int cy)], [])) (cB := zc .eq (f_Mo_between ax cx bx) 0) (off := 17) (lv := [(0, .int ax), (1, .int ay), (2, .int bx), (3, .int bz), (4, .int cx), (5, .int cy)]) (st := []) rfl rfl rfl rfl rfl (fun c23 => ?_) (fun c23 => ?_)
    · rw [c23]
      refine zeN (q := ((41, [(0, .int ax), (1, .int ay), (2, .int bx), (3, .int bz), (4, .int cx), (5, .int cy)], [.int 0]), h)) 1 rfl ?_
      exact zer rfl rfl
    · rw [c23]
      refine zeN (q := ((30, [(0, .int ax), (1, .int ay), (2, .int bx), (3, .int bz), (4, .int cx), (5, .int cy)], [.int bz, .int cy, .int ay]), h)) 3 rfl ?_
      refine zec 0 (M' := M_Mo_between) (qq := ([.int ay, .int cy, .int bz], [])) (s' := (33, [(0, .int ax), (1, .int ay), (2, .int bx), (3, .int bz), (4, .int cx), (5, .int cy)], [.int (f_Mo_between ay cy bz)])) rfl rfl (fun _ => rfl) rfl rfl rfl (s_Mo_between ay cy bz  (by omega)) rfl ?_
      refine zbc (q1 := (40, [(0, .int ax), (1, .int ay), (2, .int bx), (3, .int bz), (4, .int cx), (5, .int cy)], [])) (q2 := (36, [(0, .int ax), (1, .int ay), (2, .int bx), (3, .int bz), (4, .int cx), (5, .int cy)], [])) (cB := zc .eq (f_Mo_between ay cy bz) 0) (off := 7) (lv := [(0, .int ax), (1, .int ay), (2, .int bx), (3, .int bz), (4, .int cx), (5, .int cy)]) (st := []) rfl rfl rfl rfl rfl (fun c33 => ?_) (fun c33 => ?_)
      · rw [c33]
        refine zeN (q := ((41, [(0, .int ax), (1, .int ay), (2, .int bx), (3, .int bz), (4, .int cx), (5, .int cy)], [.int 0]), h)) 1 rfl ?_
        exact zer rfl rfl
      · rw [c33]
        refine zeN (q := ((41, [(0, .int ax), (1, .int ay), (2, .int bx), (3, .int bz), (4, .int cx), (5, .int cy)], [.int 1]), h)) 2 rfl ?_
        exact zer rfl rfl
def f_Ge_areOpposite (a b : Int32) : Int32 := (bif zc .ge a 0 then (bif zc .le a 0 then 0 else (bif zc .ge b 0 then 0 else 1)) else (bif zc .gt b 0 then 1 else (bif zc .le a 0 then 0 else (bif zc .ge b 0 then 0 else 1))))
theorem s_Ge_areOpposite {fr lo : Nat} {h : zH} (a b : Int32)  (hlo : 21 ≤ lo) : zAns (fr + 1) lo 26 [.int a, .int b] h (some (.int (f_Ge_areOpposite a b)), h) := by
  unfold f_Ge_areOpposite
  refine zeb (fr := fr + 0) (M := M_Ge_areOpposite) rfl (Nat.le_trans (by decide) hlo) rfl ?_
  have e0 : mL M_Ge_areOpposite = 2 := rfl
  refine zeN (q := ((1, [(0, .int a), (1, .int b)], [.int a]), h)) 1 rfl ?_
  refine zbc (q1 := (8, [(0, .int a), (1, .int b)], [])) (q2 := (4, [(0, .int a), (1, .int b)], [])) (cB := zc .ge a 0) (off := 7) (lv := [(0, .int a), (1, .int b)]) (st := []) rfl rfl rfl rfl rfl (fun c1 => ?_) (fun c1 => ?_)
  · rw [c1]
    refine zeN (q := ((9, [(0, .int a), (1, .int b)], [.int a]), h)) 1 rfl ?_
    refine zbc (q1 := (20, [(0, .int a), (1, .int b)], [])) (q2 := (12, [(0, .int a), (1, .int b)], [])) (cB := zc .le a 0) (off := 11) (lv := [(0, .int a), (1, .int b)]) (st := []) rfl rfl rfl rfl rfl (fun c9 => ?_) (fun c9 => ?_)
    · rw [c9]
      refine zeN (q := ((21, [(0, .int a), (1, .int b)], [.int 0]), h)) 1 rfl ?_
      exact zer rfl rfl
    · rw [c9]
      refine zeN (q := ((13, [(0, .int a), (1, .int b)], [.int b]), h)) 1 rfl ?_
      refine zbc (q1 := (20, [(0, .int a), (1, .int b)], [])) (q2 := (16, [(0, .int a), (1, .int b)], [])) (cB := zc .ge b 0) (off := 7) (lv := [(0, .int a), (1, .int b)]) (st := []) rfl rfl rfl rfl rfl (fun c13 => ?_) (fun c13 => ?_)
      · rw [c13]
        refine zeN (q := ((21, [(0, .int a), (1, .int b)], [.int 0]), h)) 1 rfl ?_
        exact zer rfl rfl
      · rw [c13]
        refine zeN (q := ((21, [(0, .int a), (1, .int b)], [.int 1]), h)) 2 rfl ?_
        exact zer rfl rfl
  · rw [c1]
    refine zeN (q := ((5, [(0, .int a), (1, .int b)], [.int b]), h)) 1 rfl ?_
    refine zbc (q1 := (16, [(0, .int a), (1, .int b)], [])) (q2 := (8, [(0, .int a), (1, .int b)], [])) (cB := zc .gt b 0) (off := 11) (lv := [(0, .int a), (1, .int b)]) (st := []) rfl rfl rfl rfl rfl (fun c5 => ?_) (fun c5 => ?_)
    · rw [c5]
      refine zeN (q := ((21, [(0, .int a), (1, .int b)], [.int 1]), h)) 2 rfl ?_
      exact zer rfl rfl
    · rw [c5]
      refine zeN (q := ((9, [(0, .int a), (1, .int b)], [.int a]), h)) 1 rfl ?_
      refine zbc (q1 := (20, [(0, .int a), (1, .int b)], [])) (q2 := (12, [(0, .int a), (1, .int b)], [])) (cB := zc .le a 0) (off := 11) (lv := [(0, .int a), (1, .int b)]) (st := []) rfl rfl rfl rfl rfl (fun c9 => ?_) (fun c9 => ?_)
      · rw [c9]
        refine zeN (q := ((21, [(0, .int a), (1, .int b)], [.int 0]), h)) 1 rfl ?_
        exact zer rfl rfl
      · rw [c9]
        refine zeN (q := ((13, [(0, .int a), (1, .int b)], [.int b]), h)) 1 rfl ?_
        refine zbc (q1 := (20, [(0, .int a), (1, .int b)], [])) (q2 := (16, [(0, .int a), (1, .int b)], [])) (cB := zc .ge b 0) (off := 7) (lv := [(0, .int a), (1, .int b)]) (st := []) rfl rfl rfl rfl rfl (fun c13 => ?_) (fun c13 => ?_)
        · rw [c13]
          refine zeN (q := ((21, [(0, .int a), (1, .int b)], [.int 0]), h)) 1 rfl ?_
          exact zer rfl rfl
        · rw [c13]
          refine zeN (q := ((21, [(0, .int a), (1, .int b)], [.int 1]), h)) 2 rfl ?_
          exact zer rfl rfl
def f_Ge_isBetween (c a b : Int32) : Int32 := (bif zc .gt (if b < a then b else a) c then 0 else (bif zc .gt c (if a < b then b else a) then 0 else 1))
theorem s_Ge_isBetween {fr lo : Nat} {h : zH} (c a b : Int32)  (hlo : 60 ≤ lo) : zAns (fr + 1) lo 28 [.int c, .int a, .int b] h (some (.int (f_Ge_isBetween c a b)), h) := by
  unfold f_Ge_isBetween
  refine zeb (fr := fr + 0) (M := M_Ge_isBetween) rfl (Nat.le_trans (by decide) hlo) rfl ?_
  have e0 : mL M_Ge_isBetween = 3 := rfl
  refine zeN (q := ((2, [(0, .int c), (1, .int a), (2, .int b)], [.int b, .int a]), h)) 2 rfl ?_
  refine zemn rfl rfl rfl (Nat.le_trans (Nat.le_of_eq (rfl : _ = 13)) (by omega)) ?_
  refine zeN (q := ((6, [(0, .int c), (1, .int a), (2, .int b)], [.int c, .int (if b < a then b else a)]), h)) 1 rfl ?_
  refine zbc (q1 := (22, [(0, .int c), (1, .int a), (2, .int b)], [])) (q2 := (9, [(0, .int c), (1, .int a), (2, .int b)], [])) (cB := zc .gt (if b < a then b else a) c) (off := 16) (lv := [(0, .int c), (1, .int a), (2, .int b)]) (st := []) rfl rfl rfl rfl rfl (fun c6 => ?_) (fun c6 => ?_)
  · rw [c6]
    refine zeN (q := ((23, [(0, .int c), (1, .int a), (2, .int b)], [.int 0]), h)) 1 rfl ?_
    exact zer rfl rfl
  · rw [c6]
    refine zeN (q := ((12, [(0, .int c), (1, .int a), (2, .int b)], [.int b, .int a, .int c]), h)) 3 rfl ?_
    refine zemx rfl rfl rfl (Nat.le_trans (Nat.le_of_eq (rfl : _ = 14)) (by omega)) ?_
    refine zbc (q1 := (22, [(0, .int c), (1, .int a), (2, .int b)], [])) (q2 := (18, [(0, .int c), (1, .int a), (2, .int b)], [])) (cB := zc .gt c (if a < b then b else a)) (off := 7) (lv := [(0, .int c), (1, .int a), (2, .int b)]) (st := []) rfl rfl rfl rfl rfl (fun c15 => ?_) (fun c15 => ?_)
    · rw [c15]
      refine zeN (q := ((23, [(0, .int c), (1, .int a), (2, .int b)], [.int 0]), h)) 1 rfl ?_
      exact zer rfl rfl
    · rw [c15]
      refine zeN (q := ((23, [(0, .int c), (1, .int a), (2, .int b)], [.int 1]), h)) 2 rfl ?_
      exact zer rfl rfl
def f_Ge_end (X : List Int32) (j : Int32) : Int32 := (bif zc .ge (j + 1) (Int32.ofNat (X.map Value.int).length) then 0 else j + 1)
theorem s_Ge_end {fr lo : Nat} {h : zH} (X : List Int32) (j : Int32) (g px py pb : Nat) (kd : Int32) (hg : h.1[g]? = some (.inr (6, [.int kd, .ref px, .ref py, .ref pb]))) (hX : h.1[px]? = some (.inl (0, X.map Value.int))) (hlo : 21 ≤ lo) : zAns (fr + 1) lo 20 [.ref g, .int j] h (some (.int (f_Ge_end X j)), h) := by
  unfold f_Ge_end
  refine zeb (fr := fr + 0) (M := M_Ge_end) rfl (Nat.le_trans (by decide) hlo) rfl ?_
  have e0 : mL M_Ge_end = 2 := rfl
  refine zeN (q := ((4, [(0, .ref g), (1, .int j)], [.ref g, .int (j + 1)]), h)) 4 rfl ?_
  refine zegf (fs := [.int kd, .ref px, .ref py, .ref pb]) (v := .ref px) rfl rfl rfl rfl hg rfl ?_
  refine zeln (l := X.map Value.int) rfl rfl hX rfl ?_
  refine zbc (q1 := (17, [(0, .ref g), (1, .int j)], [])) (q2 := (11, [(0, .ref g), (1, .int j)], [])) (cB := zc .ge (j + 1) (Int32.ofNat (X.map Value.int).length)) (off := 9) (lv := [(0, .ref g), (1, .int j)]) (st := []) rfl rfl rfl rfl rfl (fun c8 => ?_) (fun c8 => ?_)
  · rw [c8]
    refine zeN (q := ((18, [(0, .ref g), (1, .int j)], [.int 0]), h)) 1 rfl ?_
    exact zer rfl rfl
  · rw [c8]
    refine zeN (q := ((18, [(0, .ref g), (1, .int j)], [.int (j + 1)]), h)) 4 rfl ?_
    exact zer rfl rfl
theorem zIx_end {X : List Int32} {j : Int32} (hn : X.length ≤ 1000) (h : zIx j X.length) : zIx (f_Ge_end X j) X.length := by
  have e1 : (j + 1).toInt = j.toInt + 1 := z_add (by have := h.1; show _ ≤ j.toInt + 1; omega) (by have := h.2; show j.toInt + 1 < _; omega)
  have e2 : (Int32.ofNat (X.map Value.int).length).toInt = (X.length : Int) := by rw [List.length_map]; exact z_nat (by omega)
  unfold f_Ge_end
  have h1 := h.1
  have h2 := h.2
  cases hc : zc .ge (j + 1) (Int32.ofNat (X.map Value.int).length) with
  | true => exact ⟨Int.le_refl _, by show (0 : Int) < _; omega⟩
  | false =>
    have h3 : ¬ Int32.ofNat (X.map Value.int).length ≤ j + 1 := of_decide_eq_false hc
    rw [Int32.le_iff_toInt_le, e1, e2] at h3
    show 0 ≤ (j + 1).toInt ∧ (j + 1).toInt < _
    rw [e1]
    omega
def f_Ge_turn (X Y : List Int32) (j x y : Int32) : Int32 := (((gI X ((f_Ge_end X j))) - (gI X j)) * (y - (gI Y j))) - (((gI Y ((f_Ge_end X j))) - (gI Y j)) * (x - (gI X j)))
theorem s_Ge_turn {fr lo : Nat} {h : zH} (X Y : List Int32) (j x y : Int32) (g px py pb : Nat) (kd : Int32) (hg : h.1[g]? = some (.inr (6, [.int kd, .ref px, .ref py, .ref pb]))) (hX : h.1[px]? = some (.inl (0, X.map Value.int))) (hY : h.1[py]? = some (.inl (0, Y.map Value.int))) (hXY : Y.length = X.length) (hn : X.length ≤ 1000) (hj : zIx j X.length) (hlo : 46 ≤ lo) : zAns (fr + 2) lo 25 [.ref g, .int j, .int x, .int y] h (some (.int (f_Ge_turn X Y j x y)), h) := by
  unfold f_Ge_turn
  refine zeb (fr := fr + 1) (M := M_Ge_turn) rfl (Nat.le_trans (by decide) hlo) rfl ?_
  have e0 : mL M_Ge_turn = 6 := rfl
  refine zeN (q := ((1, [(0, .ref g), (1, .int j), (2, .int x), (3, .int y)], [.ref g]), h)) 1 rfl ?_
  refine zegf (fs := [.int kd, .ref px, .ref py, .ref pb]) (v := .ref px) rfl rfl rfl rfl hg rfl ?_
  refine zeN (q := ((6, [(0, .ref g), (1, .int j), (2, .int x), (3, .int y)], [.int j, .ref g, .ref px]), h)) 2 rfl ?_
  refine zec 1 (M' := M_Ge_end) (qq := ([.ref g, .int j], [.ref px])) (s' := (9, [(0, .ref g), (1, .int j), (2, .int x), (3, .int y)], [.int (f_Ge_end X j), .ref px])) rfl rfl (fun _ => rfl) rfl rfl (zhk rfl (zrc_ok hg) rfl) (s_Ge_end X j g px py pb kd hg hX (by omega)) rfl ?_
  refine zeia (l := X.map Value.int) (k := (f_Ge_end X j).toNatClampNeg) (v := .int (gI X ((f_Ge_end X j)))) rfl rfl hX (zIx_a (zIx_end hn hj)) (zIx_b (zIx_end hn hj)) ?_
  refine zeN (q := ((11, [(0, .ref g), (1, .int j), (2, .int x), (3, .int y)], [.ref g, .int (gI X ((f_Ge_end X j)))]), h)) 1 rfl ?_
  refine zegf (fs := [.int kd, .ref px, .ref py, .ref pb]) (v := .ref px) rfl rfl rfl rfl hg rfl ?_
  refine zeN (q := ((15, [(0, .ref g), (1, .int j), (2, .int x), (3, .int y)], [.int j, .ref px, .int (gI X ((f_Ge_end X j)))]), h)) 1 rfl ?_
  refine zeia (l := X.map Value.int) (k := j.toNatClampNeg) (v := .int (gI X j)) rfl rfl hX (zIx_a hj) (zIx_b hj) ?_
  refine zeN (q := ((20, [(4, .int ((gI X ((f_Ge_end X j))) - (gI X j))), (0, .ref g), (1, .int j), (2, .int x), (3, .int y)], [.ref g]), h)) 3 rfl ?_
  refine zegf (fs := [.int kd, .ref px, .ref py, .ref pb]) (v := .ref py) rfl rfl rfl rfl hg rfl ?_
  refine zeN (q := ((25, [(4, .int ((gI X ((f_Ge_end X j))) - (gI X j))), (0, .ref g), (1, .int j), (2, .int x), (3, .int y)], [.int j, .ref g, .ref py]), h)) 2 rfl ?_
  refine zec 1 (M' := M_Ge_end) (qq := ([.ref g, .int j], [.ref py])) (s' := (28, [(4, .int ((gI X ((f_Ge_end X j))) - (gI X j))), (0, .ref g), (1, .int j), (2, .int x), (3, .int y)], [.int (f_Ge_end X j), .ref py])) rfl rfl (fun _ => rfl) rfl rfl (zhk rfl (zrc_ok hg) rfl) (s_Ge_end X j g px py pb kd hg hX (by omega)) rfl ?_
  refine zeia (l := Y.map Value.int) (k := (f_Ge_end X j).toNatClampNeg) (v := .int (gI Y ((f_Ge_end X j)))) rfl rfl hY (zIx_a (zIx_s (zIx_end hn hj) hXY)) (zIx_b (zIx_s (zIx_end hn hj) hXY)) ?_
  refine zeN (q := ((30, [(4, .int ((gI X ((f_Ge_end X j))) - (gI X j))), (0, .ref g), (1, .int j), (2, .int x), (3, .int y)], [.ref g, .int (gI Y ((f_Ge_end X j)))]), h)) 1 rfl ?_
  refine zegf (fs := [.int kd, .ref px, .ref py, .ref pb]) (v := .ref py) rfl rfl rfl rfl hg rfl ?_
  refine zeN (q := ((34, [(4, .int ((gI X ((f_Ge_end X j))) - (gI X j))), (0, .ref g), (1, .int j), (2, .int x), (3, .int y)], [.int j, .ref py, .int (gI Y ((f_Ge_end X j)))]), h)) 1 rfl ?_
  refine zeia (l := Y.map Value.int) (k := j.toNatClampNeg) (v := .int (gI Y j)) rfl rfl hY (zIx_a (zIx_s hj hXY)) (zIx_b (zIx_s hj hXY)) ?_
  refine zeN (q := ((42, [(5, .int ((gI Y ((f_Ge_end X j))) - (gI Y j))), (4, .int ((gI X ((f_Ge_end X j))) - (gI X j))), (0, .ref g), (1, .int j), (2, .int x), (3, .int y)], [.ref g, .int y, .int ((gI X ((f_Ge_end X j))) - (gI X j))]), h)) 5 rfl ?_
  refine zegf (fs := [.int kd, .ref px, .ref py, .ref pb]) (v := .ref py) rfl rfl rfl rfl hg rfl ?_
  refine zeN (q := ((46, [(5, .int ((gI Y ((f_Ge_end X j))) - (gI Y j))), (4, .int ((gI X ((f_Ge_end X j))) - (gI X j))), (0, .ref g), (1, .int j), (2, .int x), (3, .int y)], [.int j, .ref py, .int y, .int ((gI X ((f_Ge_end X j))) - (gI X j))]), h)) 1 rfl ?_
  refine zeia (l := Y.map Value.int) (k := j.toNatClampNeg) (v := .int (gI Y j)) rfl rfl hY (zIx_a (zIx_s hj hXY)) (zIx_b (zIx_s hj hXY)) ?_
  refine zeN (q := ((53, [(5, .int ((gI Y ((f_Ge_end X j))) - (gI Y j))), (4, .int ((gI X ((f_Ge_end X j))) - (gI X j))), (0, .ref g), (1, .int j), (2, .int x), (3, .int y)], [.ref g, .int x, .int ((gI Y ((f_Ge_end X j))) - (gI Y j)), .int (((gI X ((f_Ge_end X j))) - (gI X j)) * (y - (gI Y j)))]), h)) 5 rfl ?_
  refine zegf (fs := [.int kd, .ref px, .ref py, .ref pb]) (v := .ref px) rfl rfl rfl rfl hg rfl ?_
  refine zeN (q := ((57, [(5, .int ((gI Y ((f_Ge_end X j))) - (gI Y j))), (4, .int ((gI X ((f_Ge_end X j))) - (gI X j))), (0, .ref g), (1, .int j), (2, .int x), (3, .int y)], [.int j, .ref px, .int x, .int ((gI Y ((f_Ge_end X j))) - (gI Y j)), .int (((gI X ((f_Ge_end X j))) - (gI X j)) * (y - (gI Y j)))]), h)) 1 rfl ?_
  refine zeia (l := X.map Value.int) (k := j.toNatClampNeg) (v := .int (gI X j)) rfl rfl hX (zIx_a hj) (zIx_b hj) ?_
  refine zeN (q := ((61, [(5, .int ((gI Y ((f_Ge_end X j))) - (gI Y j))), (4, .int ((gI X ((f_Ge_end X j))) - (gI X j))), (0, .ref g), (1, .int j), (2, .int x), (3, .int y)], [.int ((((gI X ((f_Ge_end X j))) - (gI X j)) * (y - (gI Y j))) - (((gI Y ((f_Ge_end X j))) - (gI Y j)) * (x - (gI X j))))]), h)) 3 rfl ?_
  exact zer rfl rfl
