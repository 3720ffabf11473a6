def f_Mo_cross (ax ay bx bz cx cy : Int32) : Int64 := (((bx - ax).toInt64) * ((cy - ay).toInt64)) - (((bz - ay).toInt64) * ((cx - ax).toInt64))
theorem s_Mo_cross {fr lo : Nat} {h : zH} (ax ay bx bz cx cy : Int32)  (hlo : 25 ≤ lo) : zAns (fr + 1) lo 103 [.int ax, .int ay, .int bx, .int bz, .int cx, .int cy] h (some (.long (f_Mo_cross ax ay bx bz cx cy)), h) := by
  unfold f_Mo_cross
  refine zeb (fr := fr + 0) (M := M_Mo_cross) rfl (Nat.le_trans (by decide) hlo) rfl ?_
  have e0 : mL M_Mo_cross = 6 := rfl
  refine zeN (q := ((21, [(0, .int ax), (1, .int ay), (2, .int bx), (3, .int bz), (4, .int cx), (5, .int cy)], [.long ((((bx - ax).toInt64) * ((cy - ay).toInt64)) - (((bz - ay).toInt64) * ((cx - ax).toInt64)))]), h)) 19 rfl ?_
  exact zer rfl rfl
def f_Mo_between_24 (a v b : Int32) : Int32 := 0
theorem b_Mo_between_24 (a v b : Int32) : zB (f_Mo_between_24 a v b) := by unfold f_Mo_between_24; exact (zB0)
theorem s_Mo_between_24 {fr lo : Nat} {h : zH} (a v b : Int32)  (hlo : 0 ≤ lo) : zRun (fr + 0) lo none M_Mo_between (24, [(0, .int a), (1, .int v), (2, .int b)], []) h (some (.int (f_Mo_between_24 a v b)), h) := by
  unfold f_Mo_between_24
  refine zeN (q := ((25, [(0, .int a), (1, .int v), (2, .int b)], [.int 0]), h)) 1 rfl ?_
  exact zer rfl rfl
def f_Mo_between_10 (a v b : Int32) : Int32 := (bif zc .gt b v then (f_Mo_between_24 a v b) else bif zc .gt v a then 0 else 1)
theorem b_Mo_between_10 (a v b : Int32) : zB (f_Mo_between_10 a v b) := by unfold f_Mo_between_10; exact (zbi (b_Mo_between_24 a v b) (zbb _))
theorem s_Mo_between_10 {fr lo : Nat} {h : zH} (a v b : Int32)  (hlo : 0 ≤ lo) : zRun (fr + 0) lo none M_Mo_between (10, [(0, .int a), (1, .int v), (2, .int b)], []) h (some (.int (f_Mo_between_10 a v b)), h) := by
  unfold f_Mo_between_10
  refine zeN (q := ((12, [(0, .int a), (1, .int v), (2, .int b)], [.int v, .int b]), h)) 2 rfl ?_
  refine zbc (q1 := (24, [(0, .int a), (1, .int v), (2, .int b)], [])) (q2 := (15, [(0, .int a), (1, .int v), (2, .int b)], [])) (cB := zc .gt b v) (off := 12) (lv := [(0, .int a), (1, .int v), (2, .int b)]) (st := []) rfl rfl rfl rfl rfl (fun c12 => ?_) (fun c12 => ?_)
  · rw [c12]
    exact s_Mo_between_24 a v b  (by omega)
  · rw [c12]
    refine zeN (q := ((17, [(0, .int a), (1, .int v), (2, .int b)], [.int a, .int v]), h)) 2 rfl ?_
    refine zdia (q1 := (24, [(0, .int a), (1, .int v), (2, .int b)], [])) (q2 := (20, [(0, .int a), (1, .int v), (2, .int b)], [])) (cB := zc .gt v a) (off := 7) (lv := [(0, .int a), (1, .int v), (2, .int b)]) (st := []) (lv2 := [(0, .int a), (1, .int v), (2, .int b)]) (st2 := []) (J := 25) (vA := 0) (vB := 1) 1 2 rfl rfl rfl rfl rfl rfl rfl ?_
    exact zer rfl (zreb (zbb _))
def f_Mo_between_20 (a v b : Int32) : Int32 := 1
theorem b_Mo_between_20 (a v b : Int32) : zB (f_Mo_between_20 a v b) := by unfold f_Mo_between_20; exact (zB1)
theorem s_Mo_between_20 {fr lo : Nat} {h : zH} (a v b : Int32)  (hlo : 0 ≤ lo) : zRun (fr + 0) lo none M_Mo_between (20, [(0, .int a), (1, .int v), (2, .int b)], []) h (some (.int (f_Mo_between_20 a v b)), h) := by
  unfold f_Mo_between_20
  refine zeN (q := ((25, [(0, .int a), (1, .int v), (2, .int b)], [.int 1]), h)) 2 rfl ?_
  exact zer rfl rfl
def f_Mo_between (a v b : Int32) : Int32 := (bif zc .gt a v then (f_Mo_between_10 a v b) else (bif zc .le v b then (f_Mo_between_20 a v b) else (f_Mo_between_10 a v b)))
theorem b_Mo_between (a v b : Int32) : zB (f_Mo_between a v b) := by unfold f_Mo_between; exact (zbi (b_Mo_between_10 a v b) (zbi (b_Mo_between_20 a v b) (b_Mo_between_10 a v b)))
theorem s_Mo_between {fr lo : Nat} {h : zH} (a v b : Int32)  (hlo : 22 ≤ lo) : zAns (fr + 1) lo 105 [.int a, .int v, .int b] h (some (.int (f_Mo_between a v b)), h) := by
  unfold f_Mo_between
  refine zeb (fr := fr + 0) (M := M_Mo_between) rfl (Nat.le_trans (by decide) hlo) rfl ?_
  have e0 : mL M_Mo_between = 3 := rfl
  refine zeN (q := ((2, [(0, .int a), (1, .int v), (2, .int b)], [.int v, .int a]), h)) 2 rfl ?_
  refine zbc (q1 := (10, [(0, .int a), (1, .int v), (2, .int b)], [])) (q2 := (5, [(0, .int a), (1, .int v), (2, .int b)], [])) (cB := zc .gt a v) (off := 8) (lv := [(0, .int a), (1, .int v), (2, .int b)]) (st := []) rfl rfl rfl rfl rfl (fun c2 => ?_) (fun c2 => ?_)
  · rw [c2]
    exact s_Mo_between_10 a v b  (by omega)
  · rw [c2]
    refine zeN (q := ((7, [(0, .int a), (1, .int v), (2, .int b)], [.int b, .int v]), h)) 2 rfl ?_
    refine zbc (q1 := (20, [(0, .int a), (1, .int v), (2, .int b)], [])) (q2 := (10, [(0, .int a), (1, .int v), (2, .int b)], [])) (cB := zc .le v b) (off := 13) (lv := [(0, .int a), (1, .int v), (2, .int b)]) (st := []) rfl rfl rfl rfl rfl (fun c7 => ?_) (fun c7 => ?_)
    · rw [c7]
      exact s_Mo_between_20 a v b  (by omega)
    · rw [c7]
      exact s_Mo_between_10 a v b  (by omega)
def f_Mo_on_40 (ax ay bx bz cx cy : Int32) : Int32 := 0
theorem b_Mo_on_40 (ax ay bx bz cx cy : Int32) : zB (f_Mo_on_40 ax ay bx bz cx cy) := by unfold f_Mo_on_40; exact (zB0)
theorem s_Mo_on_40 {fr lo : Nat} {h : zH} (ax ay bx bz cx cy : Int32)  (hlo : 25 ≤ lo) : zRun (fr + 1) lo none M_Mo_on (40, [(0, .int ax), (1, .int ay), (2, .int bx), (3, .int bz), (4, .int cx), (5, .int cy)], []) h (some (.int (f_Mo_on_40 ax ay bx bz cx cy)), h) := by
  unfold f_Mo_on_40
  refine zeN (q := ((41, [(0, .int ax), (1, .int ay), (2, .int bx), (3, .int bz), (4, .int cx), (5, .int cy)], [.int 0]), h)) 1 rfl ?_
  exact zer rfl rfl
def f_Mo_on (ax ay bx bz cx cy : Int32) : Int32 := (bif zc .ne (lg_cmp (f_Mo_cross ax ay bx bz cx cy) 0) 0 then (f_Mo_on_40 ax ay bx bz cx cy) else (bif zc .eq (f_Mo_between ax cx bx) 0 then (f_Mo_on_40 ax ay bx bz cx cy) else bif zc .eq (f_Mo_between ay cy bz) 0 then 0 else 1))
theorem b_Mo_on (ax ay bx bz cx cy : Int32) : zB (f_Mo_on ax ay bx bz cx cy) := by unfold f_Mo_on; exact (zbi (b_Mo_on_40 ax ay bx bz cx cy) (zbi (b_Mo_on_40 ax ay bx bz cx cy) (zbb _)))
theorem s_Mo_on {fr lo : Nat} {h : zH} (ax ay bx bz cx cy : Int32)  (hlo : 50 ≤ lo) : zAns (fr + 2) lo 104 [.int ax, .int ay, .int bx, .int bz, .int cx, .int cy] h (some (.int (f_Mo_on ax ay bx bz cx cy)), h) := by
  unfold f_Mo_on
  refine zeb (fr := fr + 1) (M := M_Mo_on) rfl (Nat.le_trans (by decide) hlo) rfl ?_
  have e0 : mL M_Mo_on = 6 := rfl
  refine zeN (q := ((8, [(0, .int ax), (1, .int ay), (2, .int bx), (3, .int bz), (4, .int cx), (5, .int cy)], [.int cy, .int cx, .int bz, .int bx, .int ay, .int ax]), h)) 6 rfl ?_
  refine zec 0 (M' := M_Mo_cross) (qq := ([.int ax, .int ay, .int bx, .int bz, .int cx, .int cy], [])) (s' := (11, [(0, .int ax), (1, .int ay), (2, .int bx), (3, .int bz), (4, .int cx), (5, .int cy)], [.long (f_Mo_cross ax ay bx bz cx cy)])) rfl rfl (fun _ => rfl) rfl rfl rfl (s_Mo_cross ax ay bx bz cx cy  (by omega)) rfl ?_
  refine zeN (q := ((13, [(0, .int ax), (1, .int ay), (2, .int bx), (3, .int bz), (4, .int cx), (5, .int cy)], [.int (lg_cmp (f_Mo_cross ax ay bx bz cx cy) 0)]), h)) 2 rfl ?_
  refine zbc (q1 := (40, [(0, .int ax), (1, .int ay), (2, .int bx), (3, .int bz), (4, .int cx), (5, .int cy)], [])) (q2 := (16, [(0, .int ax), (1, .int ay), (2, .int bx), (3, .int bz), (4, .int cx), (5, .int cy)], [])) (cB := zc .ne (lg_cmp (f_Mo_cross ax ay bx bz cx cy) 0) 0) (off := 27) (lv := [(0, .int ax), (1, .int ay), (2, .int bx), (3, .int bz), (4, .int cx), (5, .int cy)]) (st := []) rfl rfl rfl rfl rfl (fun c13 => ?_) (fun c13 => ?_)
  · rw [c13]
    exact s_Mo_on_40 ax ay bx bz cx cy  (by omega)
  · rw [c13]
    refine zeN (q := ((20, [(0, .int ax), (1, .int ay), (2, .int bx), (3, .int bz), (4, .int cx), (5, .int cy)], [.int bx, .int cx, .int ax]), h)) 3 rfl ?_
    refine zec 0 (M' := M_Mo_between) (qq := ([.int ax, .int cx, .int bx], [])) (s' := (23, [(0, .int ax), (1, .int ay), (2, .int bx), (3, .int bz), (4, .int cx), (5, .int cy)], [.int (f_Mo_between ax cx bx)])) rfl rfl (fun _ => rfl) rfl rfl rfl (s_Mo_between ax cx bx  (by omega)) rfl ?_
    refine zbc (q1 := (40, [(0, .int ax), (1, .int ay), (2, .int bx), (3, .int bz), (4, .int cx), (5, .int cy)], [])) (q2 := (26, [(0, .int ax), (1, .int ay), (2, .int bx), (3, .int bz), (4, .int cx), (5, .int cy)], [])) (cB := zc .eq (f_Mo_between ax cx bx) 0) (off := 17) (lv := [(0, .int ax), (1, .int ay), (2, .int bx), (3, .int bz), (4, .int cx), (5, .int cy)]) (st := []) rfl rfl rfl rfl rfl (fun c23 => ?_) (fun c23 => ?_)
    · rw [c23]
      exact s_Mo_on_40 ax ay bx bz cx cy  (by omega)
    · rw [c23]
      refine zeN (q := ((30, [(0, .int ax), (1, .int ay), (2, .int bx), (3, .int bz), (4, .int cx), (5, .int cy)], [.int bz, .int cy, .int ay]), h)) 3 rfl ?_
      refine zec 0 (M' := M_Mo_between) (qq := ([.int ay, .int cy, .int bz], [])) (s' := (33, [(0, .int ax), (1, .int ay), (2, .int bx), (3, .int bz), (4, .int cx), (5, .int cy)], [.int (f_Mo_between ay cy bz)])) rfl rfl (fun _ => rfl) rfl rfl rfl (s_Mo_between ay cy bz  (by omega)) rfl ?_
      refine zdia (q1 := (40, [(0, .int ax), (1, .int ay), (2, .int bx), (3, .int bz), (4, .int cx), (5, .int cy)], [])) (q2 := (36, [(0, .int ax), (1, .int ay), (2, .int bx), (3, .int bz), (4, .int cx), (5, .int cy)], [])) (cB := zc .eq (f_Mo_between ay cy bz) 0) (off := 7) (lv := [(0, .int ax), (1, .int ay), (2, .int bx), (3, .int bz), (4, .int cx), (5, .int cy)]) (st := []) (lv2 := [(0, .int ax), (1, .int ay), (2, .int bx), (3, .int bz), (4, .int cx), (5, .int cy)]) (st2 := []) (J := 41) (vA := 0) (vB := 1) 1 2 rfl rfl rfl rfl rfl rfl rfl ?_
      exact zer rfl (zreb (zbb _))
def f_Ge_areOpposite_20 (a b : Int32) : Int32 := 0
theorem b_Ge_areOpposite_20 (a b : Int32) : zB (f_Ge_areOpposite_20 a b) := by unfold f_Ge_areOpposite_20; exact (zB0)
theorem s_Ge_areOpposite_20 {fr lo : Nat} {h : zH} (a b : Int32)  (hlo : 0 ≤ lo) : zRun (fr + 0) lo none M_Ge_areOpposite (20, [(0, .int a), (1, .int b)], []) h (some (.int (f_Ge_areOpposite_20 a b)), h) := by
  unfold f_Ge_areOpposite_20
  refine zeN (q := ((21, [(0, .int a), (1, .int b)], [.int 0]), h)) 1 rfl ?_
  exact zer rfl rfl
def f_Ge_areOpposite_8 (a b : Int32) : Int32 := (bif zc .le a 0 then (f_Ge_areOpposite_20 a b) else bif zc .ge b 0 then 0 else 1)
theorem b_Ge_areOpposite_8 (a b : Int32) : zB (f_Ge_areOpposite_8 a b) := by unfold f_Ge_areOpposite_8; exact (zbi (b_Ge_areOpposite_20 a b) (zbb _))
theorem s_Ge_areOpposite_8 {fr lo : Nat} {h : zH} (a b : Int32)  (hlo : 0 ≤ lo) : zRun (fr + 0) lo none M_Ge_areOpposite (8, [(0, .int a), (1, .int b)], []) h (some (.int (f_Ge_areOpposite_8 a b)), h) := by
  unfold f_Ge_areOpposite_8
  refine zeN (q := ((9, [(0, .int a), (1, .int b)], [.int a]), h)) 1 rfl ?_
  refine zbc (q1 := (20, [(0, .int a), (1, .int b)], [])) (q2 := (12, [(0, .int a), (1, .int b)], [])) (cB := zc .le a 0) (off := 11) (lv := [(0, .int a), (1, .int b)]) (st := []) rfl rfl rfl rfl rfl (fun c9 => ?_) (fun c9 => ?_)
  · rw [c9]
    exact s_Ge_areOpposite_20 a b  (by omega)
  · rw [c9]
    refine zeN (q := ((13, [(0, .int a), (1, .int b)], [.int b]), h)) 1 rfl ?_
    refine zdia (q1 := (20, [(0, .int a), (1, .int b)], [])) (q2 := (16, [(0, .int a), (1, .int b)], [])) (cB := zc .ge b 0) (off := 7) (lv := [(0, .int a), (1, .int b)]) (st := []) (lv2 := [(0, .int a), (1, .int b)]) (st2 := []) (J := 21) (vA := 0) (vB := 1) 1 2 rfl rfl rfl rfl rfl rfl rfl ?_
    exact zer rfl (zreb (zbb _))
def f_Ge_areOpposite_16 (a b : Int32) : Int32 := 1
theorem b_Ge_areOpposite_16 (a b : Int32) : zB (f_Ge_areOpposite_16 a b) := by unfold f_Ge_areOpposite_16; exact (zB1)
theorem s_Ge_areOpposite_16 {fr lo : Nat} {h : zH} (a b : Int32)  (hlo : 0 ≤ lo) : zRun (fr + 0) lo none M_Ge_areOpposite (16, [(0, .int a), (1, .int b)], []) h (some (.int (f_Ge_areOpposite_16 a b)), h) := by
  unfold f_Ge_areOpposite_16
  refine zeN (q := ((21, [(0, .int a), (1, .int b)], [.int 1]), h)) 2 rfl ?_
  exact zer rfl rfl
def f_Ge_areOpposite (a b : Int32) : Int32 := (bif zc .ge a 0 then (f_Ge_areOpposite_8 a b) else (bif zc .gt b 0 then (f_Ge_areOpposite_16 a b) else (f_Ge_areOpposite_8 a b)))
theorem b_Ge_areOpposite (a b : Int32) : zB (f_Ge_areOpposite a b) := by unfold f_Ge_areOpposite; exact (zbi (b_Ge_areOpposite_8 a b) (zbi (b_Ge_areOpposite_16 a b) (b_Ge_areOpposite_8 a b)))
theorem s_Ge_areOpposite {fr lo : Nat} {h : zH} (a b : Int32)  (hlo : 21 ≤ lo) : zAns (fr + 1) lo 26 [.int a, .int b] h (some (.int (f_Ge_areOpposite a b)), h) := by
  unfold f_Ge_areOpposite
  refine zeb (fr := fr + 0) (M := M_Ge_areOpposite) rfl (Nat.le_trans (by decide) hlo) rfl ?_
  have e0 : mL M_Ge_areOpposite = 2 := rfl
  refine zeN (q := ((1, [(0, .int a), (1, .int b)], [.int a]), h)) 1 rfl ?_
  refine zbc (q1 := (8, [(0, .int a), (1, .int b)], [])) (q2 := (4, [(0, .int a), (1, .int b)], [])) (cB := zc .ge a 0) (off := 7) (lv := [(0, .int a), (1, .int b)]) (st := []) rfl rfl rfl rfl rfl (fun c1 => ?_) (fun c1 => ?_)
  · rw [c1]
    exact s_Ge_areOpposite_8 a b  (by omega)
  · rw [c1]
    refine zeN (q := ((5, [(0, .int a), (1, .int b)], [.int b]), h)) 1 rfl ?_
    refine zbc (q1 := (16, [(0, .int a), (1, .int b)], [])) (q2 := (8, [(0, .int a), (1, .int b)], [])) (cB := zc .gt b 0) (off := 11) (lv := [(0, .int a), (1, .int b)]) (st := []) rfl rfl rfl rfl rfl (fun c5 => ?_) (fun c5 => ?_)
    · rw [c5]
      exact s_Ge_areOpposite_16 a b  (by omega)
    · rw [c5]
      exact s_Ge_areOpposite_8 a b  (by omega)
def f_Ge_isBetween_22 (c a b : Int32) : Int32 := 0
theorem b_Ge_isBetween_22 (c a b : Int32) : zB (f_Ge_isBetween_22 c a b) := by unfold f_Ge_isBetween_22; exact (zB0)
theorem s_Ge_isBetween_22 {fr lo : Nat} {h : zH} (c a b : Int32)  (hlo : 38 ≤ lo) : zRun (fr + 0) lo none M_Ge_isBetween (22, [(0, .int c), (1, .int a), (2, .int b)], []) h (some (.int (f_Ge_isBetween_22 c a b)), h) := by
  unfold f_Ge_isBetween_22
  refine zeN (q := ((23, [(0, .int c), (1, .int a), (2, .int b)], [.int 0]), h)) 1 rfl ?_
  exact zer rfl rfl
def f_Ge_isBetween (c a b : Int32) : Int32 := (bif zc .gt (if b < a then b else a) c then (f_Ge_isBetween_22 c a b) else bif zc .gt c (if a < b then b else a) then 0 else 1)
theorem b_Ge_isBetween (c a b : Int32) : zB (f_Ge_isBetween c a b) := by unfold f_Ge_isBetween; exact (zbi (b_Ge_isBetween_22 c a b) (zbb _))
theorem s_Ge_isBetween {fr lo : Nat} {h : zH} (c a b : Int32)  (hlo : 60 ≤ lo) : zAns (fr + 1) lo 28 [.int c, .int a, .int b] h (some (.int (f_Ge_isBetween c a b)), h) := by
  unfold f_Ge_isBetween
  refine zeb (fr := fr + 0) (M := M_Ge_isBetween) rfl (Nat.le_trans (by decide) hlo) rfl ?_
  have e0 : mL M_Ge_isBetween = 3 := rfl
  refine zeN (q := ((2, [(0, .int c), (1, .int a), (2, .int b)], [.int b, .int a]), h)) 2 rfl ?_
  refine zemn rfl rfl rfl (Nat.le_trans (Nat.le_of_eq (rfl : _ = 13)) (by omega)) ?_
  refine zeN (q := ((6, [(0, .int c), (1, .int a), (2, .int b)], [.int c, .int (if b < a then b else a)]), h)) 1 rfl ?_
  refine zbc (q1 := (22, [(0, .int c), (1, .int a), (2, .int b)], [])) (q2 := (9, [(0, .int c), (1, .int a), (2, .int b)], [])) (cB := zc .gt (if b < a then b else a) c) (off := 16) (lv := [(0, .int c), (1, .int a), (2, .int b)]) (st := []) rfl rfl rfl rfl rfl (fun c6 => ?_) (fun c6 => ?_)
  · rw [c6]
    exact s_Ge_isBetween_22 c a b  (by omega)
  · rw [c6]
    refine zeN (q := ((12, [(0, .int c), (1, .int a), (2, .int b)], [.int b, .int a, .int c]), h)) 3 rfl ?_
    refine zemx rfl rfl rfl (Nat.le_trans (Nat.le_of_eq (rfl : _ = 14)) (by omega)) ?_
    refine zdia (q1 := (22, [(0, .int c), (1, .int a), (2, .int b)], [])) (q2 := (18, [(0, .int c), (1, .int a), (2, .int b)], [])) (cB := zc .gt c (if a < b then b else a)) (off := 7) (lv := [(0, .int c), (1, .int a), (2, .int b)]) (st := []) (lv2 := [(0, .int c), (1, .int a), (2, .int b)]) (st2 := []) (J := 23) (vA := 0) (vB := 1) 1 2 rfl rfl rfl rfl rfl rfl rfl ?_
    exact zer rfl (zreb (zbb _))
def f_Ge_end (X : List Int32) (j : Int32) : Int32 := (bif zc .ge (j + 1) (Int32.ofNat (X.map Value.int).length) then 0 else j + 1)
theorem s_Ge_end {fr lo : Nat} {h : zH} (X : List Int32) (j : Int32) (g px py pb : Nat) (kd : Int32) (hg : h.1[g]? = some (.inr (6, [.int kd, .ref px, .ref py, .ref pb]))) (hX : h.1[px]? = some (.inl (0, X.map Value.int))) (hlo : 21 ≤ lo) : zAns (fr + 1) lo 20 [.ref g, .int j] h (some (.int (f_Ge_end X j)), h) := by
  unfold f_Ge_end
  refine zeb (fr := fr + 0) (M := M_Ge_end) rfl (Nat.le_trans (by decide) hlo) rfl ?_
  have e0 : mL M_Ge_end = 2 := rfl
  refine zeN (q := ((4, [(0, .ref g), (1, .int j)], [.ref g, .int (j + 1)]), h)) 4 rfl ?_
  refine zegf (fs := [.int kd, .ref px, .ref py, .ref pb]) (v := .ref px) rfl rfl rfl rfl hg rfl ?_
  refine zeln (l := X.map Value.int) rfl rfl hX rfl ?_
  refine zbc (q1 := (17, [(0, .ref g), (1, .int j)], [])) (q2 := (11, [(0, .ref g), (1, .int j)], [])) (cB := zc .ge (j + 1) (Int32.ofNat (X.map Value.int).length)) (off := 9) (lv := [(0, .ref g), (1, .int j)]) (st := []) rfl rfl rfl rfl rfl (fun c8 => ?_) (fun c8 => ?_)
  · rw [c8]
    refine zeN (q := ((18, [(0, .ref g), (1, .int j)], [.int 0]), h)) 1 rfl ?_
    exact zer rfl rfl
  · rw [c8]
    refine zeN (q := ((18, [(0, .ref g), (1, .int j)], [.int (j + 1)]), h)) 4 rfl ?_
    exact zer rfl rfl
theorem zIx_end {X : List Int32} {j : Int32} (hn : X.length ≤ 1000) (h : zIx j X.length) : zIx (f_Ge_end X j) X.length := by
  have e1 : (j + 1).toInt = j.toInt + 1 := z_add (by have := h.1; show _ ≤ j.toInt + 1; omega) (by have := h.2; show j.toInt + 1 < _; omega)
  have e2 : (Int32.ofNat (X.map Value.int).length).toInt = (X.length : Int) := by rw [List.length_map]; exact z_nat (by omega)
  unfold f_Ge_end
  have h1 := h.1
  have h2 := h.2
  cases hc : zc .ge (j + 1) (Int32.ofNat (X.map Value.int).length) with
  | true => exact ⟨Int.le_refl _, by show (0 : Int) < _; omega⟩
  | false =>
    have h3 : ¬ Int32.ofNat (X.map Value.int).length ≤ j + 1 := of_decide_eq_false hc
    rw [Int32.le_iff_toInt_le, e1, e2] at h3
    show 0 ≤ (j + 1).toInt ∧ (j + 1).toInt < _
    rw [e1]
    omega
def f_Ge_turn (X Y : List Int32) (j x y : Int32) : Int32 := (((gI X ((f_Ge_end X j))) - (gI X j)) * (y - (gI Y j))) - (((gI Y ((f_Ge_end X j))) - (gI Y j)) * (x - (gI X j)))
theorem s_Ge_turn {fr lo : Nat} {h : zH} (X Y : List Int32) (j x y : Int32) (g px py pb : Nat) (kd : Int32) (hg : h.1[g]? = some (.inr (6, [.int kd, .ref px, .ref py, .ref pb]))) (hX : h.1[px]? = some (.inl (0, X.map Value.int))) (hY : h.1[py]? = some (.inl (0, Y.map Value.int))) (hXY : Y.length = X.length) (hn : X.length ≤ 1000) (hj : zIx j X.length) (hlo : 46 ≤ lo) : zAns (fr + 2) lo 25 [.ref g, .int j, .int x, .int y] h (some (.int (f_Ge_turn X Y j x y)), h) := by
  unfold f_Ge_turn
  refine zeb (fr := fr + 1) (M := M_Ge_turn) rfl (Nat.le_trans (by decide) hlo) rfl ?_
  have e0 : mL M_Ge_turn = 6 := rfl
  refine zeN (q := ((1, [(0, .ref g), (1, .int j), (2, .int x), (3, .int y)], [.ref g]), h)) 1 rfl ?_
  refine zegf (fs := [.int kd, .ref px, .ref py, .ref pb]) (v := .ref px) rfl rfl rfl rfl hg rfl ?_
  refine zeN (q := ((6, [(0, .ref g), (1, .int j), (2, .int x), (3, .int y)], [.int j, .ref g, .ref px]), h)) 2 rfl ?_
  refine zec 1 (M' := M_Ge_end) (qq := ([.ref g, .int j], [.ref px])) (s' := (9, [(0, .ref g), (1, .int j), (2, .int x), (3, .int y)], [.int (f_Ge_end X j), .ref px])) rfl rfl (fun _ => rfl) rfl rfl (zhk rfl (zrc_ok hg) rfl) (s_Ge_end X j g px py pb kd hg hX (by omega)) rfl ?_
  refine zeia (l := X.map Value.int) (k := (f_Ge_end X j).toNatClampNeg) (v := .int (gI X ((f_Ge_end X j)))) rfl rfl hX (zIx_a (zIx_end hn hj)) (zIx_b (zIx_end hn hj)) ?_
  refine zeN (q := ((11, [(0, .ref g), (1, .int j), (2, .int x), (3, .int y)], [.ref g, .int (gI X ((f_Ge_end X j)))]), h)) 1 rfl ?_
  refine zegf (fs := [.int kd, .ref px, .ref py, .ref pb]) (v := .ref px) rfl rfl rfl rfl hg rfl ?_
  refine zeN (q := ((15, [(0, .ref g), (1, .int j), (2, .int x), (3, .int y)], [.int j, .ref px, .int (gI X ((f_Ge_end X j)))]), h)) 1 rfl ?_
  refine zeia (l := X.map Value.int) (k := j.toNatClampNeg) (v := .int (gI X j)) rfl rfl hX (zIx_a hj) (zIx_b hj) ?_
  refine zeN (q := ((20, [(4, .int ((gI X ((f_Ge_end X j))) - (gI X j))), (0, .ref g), (1, .int j), (2, .int x), (3, .int y)], [.ref g]), h)) 3 rfl ?_
  refine zegf (fs := [.int kd, .ref px, .ref py, .ref pb]) (v := .ref py) rfl rfl rfl rfl hg rfl ?_
  refine zeN (q := ((25, [(4, .int ((gI X ((f_Ge_end X j))) - (gI X j))), (0, .ref g), (1, .int j), (2, .int x), (3, .int y)], [.int j, .ref g, .ref py]), h)) 2 rfl ?_
  refine zec 1 (M' := M_Ge_end) (qq := ([.ref g, .int j], [.ref py])) (s' := (28, [(4, .int ((gI X ((f_Ge_end X j))) - (gI X j))), (0, .ref g), (1, .int j), (2, .int x), (3, .int y)], [.int (f_Ge_end X j), .ref py])) rfl rfl (fun _ => rfl) rfl rfl (zhk rfl (zrc_ok hg) rfl) (s_Ge_end X j g px py pb kd hg hX (by omega)) rfl ?_
  refine zeia (l := Y.map Value.int) (k := (f_Ge_end X j).toNatClampNeg) (v := .int (gI Y ((f_Ge_end X j)))) rfl rfl hY (zIx_a (zIx_s (zIx_end hn hj) hXY)) (zIx_b (zIx_s (zIx_end hn hj) hXY)) ?_
  refine zeN (q := ((30, [(4, .int ((gI X ((f_Ge_end X j))) - (gI X j))), (0, .ref g), (1, .int j), (2, .int x), (3, .int y)], [.ref g, .int (gI Y ((f_Ge_end X j)))]), h)) 1 rfl ?_
  refine zegf (fs := [.int kd, .ref px, .ref py, .ref pb]) (v := .ref py) rfl rfl rfl rfl hg rfl ?_
  refine zeN (q := ((34, [(4, .int ((gI X ((f_Ge_end X j))) - (gI X j))), (0, .ref g), (1, .int j), (2, .int x), (3, .int y)], [.int j, .ref py, .int (gI Y ((f_Ge_end X j)))]), h)) 1 rfl ?_
  refine zeia (l := Y.map Value.int) (k := j.toNatClampNeg) (v := .int (gI Y j)) rfl rfl hY (zIx_a (zIx_s hj hXY)) (zIx_b (zIx_s hj hXY)) ?_
  refine zeN (q := ((42, [(5, .int ((gI Y ((f_Ge_end X j))) - (gI Y j))), (4, .int ((gI X ((f_Ge_end X j))) - (gI X j))), (0, .ref g), (1, .int j), (2, .int x), (3, .int y)], [.ref g, .int y, .int ((gI X ((f_Ge_end X j))) - (gI X j))]), h)) 5 rfl ?_
  refine zegf (fs := [.int kd, .ref px, .ref py, .ref pb]) (v := .ref py) rfl rfl rfl rfl hg rfl ?_
  refine zeN (q := ((46, [(5, .int ((gI Y ((f_Ge_end X j))) - (gI Y j))), (4, .int ((gI X ((f_Ge_end X j))) - (gI X j))), (0, .ref g), (1, .int j), (2, .int x), (3, .int y)], [.int j, .ref py, .int y, .int ((gI X ((f_Ge_end X j))) - (gI X j))]), h)) 1 rfl ?_
  refine zeia (l := Y.map Value.int) (k := j.toNatClampNeg) (v := .int (gI Y j)) rfl rfl hY (zIx_a (zIx_s hj hXY)) (zIx_b (zIx_s hj hXY)) ?_
  refine zeN (q := ((53, [(5, .int ((gI Y ((f_Ge_end X j))) - (gI Y j))), (4, .int ((gI X ((f_Ge_end X j))) - (gI X j))), (0, .ref g), (1, .int j), (2, .int x), (3, .int y)], [.ref g, .int x, .int ((gI Y ((f_Ge_end X j))) - (gI Y j)), .int (((gI X ((f_Ge_end X j))) - (gI X j)) * (y - (gI Y j)))]), h)) 5 rfl ?_
  refine zegf (fs := [.int kd, .ref px, .ref py, .ref pb]) (v := .ref px) rfl rfl rfl rfl hg rfl ?_
  refine zeN (q := ((57, [(5, .int ((gI Y ((f_Ge_end X j))) - (gI Y j))), (4, .int ((gI X ((f_Ge_end X j))) - (gI X j))), (0, .ref g), (1, .int j), (2, .int x), (3, .int y)], [.int j, .ref px, .int x, .int ((gI Y ((f_Ge_end X j))) - (gI Y j)), .int (((gI X ((f_Ge_end X j))) - (gI X j)) * (y - (gI Y j)))]), h)) 1 rfl ?_
  refine zeia (l := X.map Value.int) (k := j.toNatClampNeg) (v := .int (gI X j)) rfl rfl hX (zIx_a hj) (zIx_b hj) ?_
  refine zeN (q := ((61, [(5, .int ((gI Y ((f_Ge_end X j))) - (gI Y j))), (4, .int ((gI X ((f_Ge_end X j))) - (gI X j))), (0, .ref g), (1, .int j), (2, .int x), (3, .int y)], [.int ((((gI X ((f_Ge_end X j))) - (gI X j)) * (y - (gI Y j))) - (((gI Y ((f_Ge_end X j))) - (gI Y j)) * (x - (gI X j))))]), h)) 3 rfl ?_
  exact zer rfl rfl
def f_Ge_isBeside_60 (X Y X2 Y2 : List Int32) (j c : Int32) : Int32 := 0
theorem b_Ge_isBeside_60 (X Y X2 Y2 : List Int32) (j c : Int32) : zB (f_Ge_isBeside_60 X Y X2 Y2 j c) := by unfold f_Ge_isBeside_60; exact (zB0)
theorem s_Ge_isBeside_60 {fr lo : Nat} {h : zH} (X Y X2 Y2 : List Int32) (j c : Int32) (g px py pb : Nat) (kd : Int32) (hg : h.1[g]? = some (.inr (6, [.int kd, .ref px, .ref py, .ref pb]))) (hX : h.1[px]? = some (.inl (0, X.map Value.int))) (hY : h.1[py]? = some (.inl (0, Y.map Value.int))) (hXY : Y.length = X.length) (hn : X.length ≤ 1000) (g2 px2 py2 pb2 : Nat) (kd2 : Int32) (hg2 : h.1[g2]? = some (.inr (6, [.int kd2, .ref px2, .ref py2, .ref pb2]))) (hX2 : h.1[px2]? = some (.inl (0, X2.map Value.int))) (hY2 : h.1[py2]? = some (.inl (0, Y2.map Value.int))) (hXY2 : Y2.length = X2.length) (hn2 : X2.length ≤ 1000) (hj : zIx j X.length) (hc : zIx c X2.length) (hlo : 60 ≤ lo) : zRun (fr + 1) lo none M_Ge_isBeside (60, [(0, .ref g), (1, .int j), (2, .ref g2), (3, .int c)], []) h (some (.int (f_Ge_isBeside_60 X Y X2 Y2 j c)), h) := by
  unfold f_Ge_isBeside_60
  refine zeN (q := ((61, [(0, .ref g), (1, .int j), (2, .ref g2), (3, .int c)], [.int 0]), h)) 1 rfl ?_
  exact zer rfl rfl
def f_Ge_isBeside (X Y X2 Y2 : List Int32) (j c : Int32) : Int32 := (bif zc .eq (f_Ge_isBetween (gI X2 c) (gI X j) (gI X (f_Ge_end X j))) 0 then (f_Ge_isBeside_60 X Y X2 Y2 j c) else bif zc .eq (f_Ge_isBetween (gI Y2 c) (gI Y j) (gI Y (f_Ge_end X j))) 0 then 0 else 1)
theorem b_Ge_isBeside (X Y X2 Y2 : List Int32) (j c : Int32) : zB (f_Ge_isBeside X Y X2 Y2 j c) := by unfold f_Ge_isBeside; exact (zbi (b_Ge_isBeside_60 X Y X2 Y2 j c) (zbb _))
theorem s_Ge_isBeside {fr lo : Nat} {h : zH} (X Y X2 Y2 : List Int32) (j c : Int32) (g px py pb : Nat) (kd : Int32) (hg : h.1[g]? = some (.inr (6, [.int kd, .ref px, .ref py, .ref pb]))) (hX : h.1[px]? = some (.inl (0, X.map Value.int))) (hY : h.1[py]? = some (.inl (0, Y.map Value.int))) (hXY : Y.length = X.length) (hn : X.length ≤ 1000) (g2 px2 py2 pb2 : Nat) (kd2 : Int32) (hg2 : h.1[g2]? = some (.inr (6, [.int kd2, .ref px2, .ref py2, .ref pb2]))) (hX2 : h.1[px2]? = some (.inl (0, X2.map Value.int))) (hY2 : h.1[py2]? = some (.inl (0, Y2.map Value.int))) (hXY2 : Y2.length = X2.length) (hn2 : X2.length ≤ 1000) (hj : zIx j X.length) (hc : zIx c X2.length) (hlo : 83 ≤ lo) : zAns (fr + 2) lo 27 [.ref g, .int j, .ref g2, .int c] h (some (.int (f_Ge_isBeside X Y X2 Y2 j c)), h) := by
  unfold f_Ge_isBeside
  refine zeb (fr := fr + 1) (M := M_Ge_isBeside) rfl (Nat.le_trans (by decide) hlo) rfl ?_
  have e0 : mL M_Ge_isBeside = 4 := rfl
  refine zeN (q := ((1, [(0, .ref g), (1, .int j), (2, .ref g2), (3, .int c)], [.ref g2]), h)) 1 rfl ?_
  refine zegf (fs := [.int kd2, .ref px2, .ref py2, .ref pb2]) (v := .ref px2) rfl rfl rfl rfl hg2 rfl ?_
  refine zeN (q := ((5, [(0, .ref g), (1, .int j), (2, .ref g2), (3, .int c)], [.int c, .ref px2]), h)) 1 rfl ?_
  refine zeia (l := X2.map Value.int) (k := c.toNatClampNeg) (v := .int (gI X2 c)) rfl rfl hX2 (zIx_a hc) (zIx_b hc) ?_
  refine zeN (q := ((7, [(0, .ref g), (1, .int j), (2, .ref g2), (3, .int c)], [.ref g, .int (gI X2 c)]), h)) 1 rfl ?_
  refine zegf (fs := [.int kd, .ref px, .ref py, .ref pb]) (v := .ref px) rfl rfl rfl rfl hg rfl ?_
  refine zeN (q := ((11, [(0, .ref g), (1, .int j), (2, .ref g2), (3, .int c)], [.int j, .ref px, .int (gI X2 c)]), h)) 1 rfl ?_
  refine zeia (l := X.map Value.int) (k := j.toNatClampNeg) (v := .int (gI X j)) rfl rfl hX (zIx_a hj) (zIx_b hj) ?_
  refine zeN (q := ((13, [(0, .ref g), (1, .int j), (2, .ref g2), (3, .int c)], [.ref g, .int (gI X j), .int (gI X2 c)]), h)) 1 rfl ?_
  refine zegf (fs := [.int kd, .ref px, .ref py, .ref pb]) (v := .ref px) rfl rfl rfl rfl hg rfl ?_
  refine zeN (q := ((18, [(0, .ref g), (1, .int j), (2, .ref g2), (3, .int c)], [.int j, .ref g, .ref px, .int (gI X j), .int (gI X2 c)]), h)) 2 rfl ?_
  refine zec 1 (M' := M_Ge_end) (qq := ([.ref g, .int j], [.ref px, .int (gI X j), .int (gI X2 c)])) (s' := (21, [(0, .ref g), (1, .int j), (2, .ref g2), (3, .int c)], [.int (f_Ge_end X j), .ref px, .int (gI X j), .int (gI X2 c)])) rfl rfl (fun _ => rfl) rfl rfl (zhk rfl (zrc_ok hg) rfl) (s_Ge_end X j g px py pb kd hg hX  (by omega)) rfl ?_
  refine zeia (l := X.map Value.int) (k := (f_Ge_end X j).toNatClampNeg) (v := .int (gI X (f_Ge_end X j))) rfl rfl hX (zIx_a (zIx_end hn hj)) (zIx_b (zIx_end hn hj)) ?_
  refine zec 0 (M' := M_Ge_isBetween) (qq := ([.int (gI X2 c), .int (gI X j), .int (gI X (f_Ge_end X j))], [])) (s' := (25, [(0, .ref g), (1, .int j), (2, .ref g2), (3, .int c)], [.int (f_Ge_isBetween (gI X2 c) (gI X j) (gI X (f_Ge_end X j)))])) rfl rfl (fun _ => rfl) rfl rfl rfl (s_Ge_isBetween (gI X2 c) (gI X j) (gI X (f_Ge_end X j))  (by omega)) rfl ?_
  refine zbc (q1 := (60, [(0, .ref g), (1, .int j), (2, .ref g2), (3, .int c)], [])) (q2 := (28, [(0, .ref g), (1, .int j), (2, .ref g2), (3, .int c)], [])) (cB := zc .eq (f_Ge_isBetween (gI X2 c) (gI X j) (gI X (f_Ge_end X j))) 0) (off := 35) (lv := [(0, .ref g), (1, .int j), (2, .ref g2), (3, .int c)]) (st := []) rfl rfl rfl rfl rfl (fun c25 => ?_) (fun c25 => ?_)
  · rw [c25]
    exact s_Ge_isBeside_60 X Y X2 Y2 j c g px py pb kd hg hX hY hXY hn g2 px2 py2 pb2 kd2 hg2 hX2 hY2 hXY2 hn2 hj hc (by omega)
  · rw [c25]
    refine zeN (q := ((29, [(0, .ref g), (1, .int j), (2, .ref g2), (3, .int c)], [.ref g2]), h)) 1 rfl ?_
    refine zegf (fs := [.int kd2, .ref px2, .ref py2, .ref pb2]) (v := .ref py2) rfl rfl rfl rfl hg2 rfl ?_
    refine zeN (q := ((33, [(0, .ref g), (1, .int j), (2, .ref g2), (3, .int c)], [.int c, .ref py2]), h)) 1 rfl ?_
    refine zeia (l := Y2.map Value.int) (k := c.toNatClampNeg) (v := .int (gI Y2 c)) rfl rfl hY2 (zIx_a (zIx_s hc hXY2)) (zIx_b (zIx_s hc hXY2)) ?_
    refine zeN (q := ((35, [(0, .ref g), (1, .int j), (2, .ref g2), (3, .int c)], [.ref g, .int (gI Y2 c)]), h)) 1 rfl ?_
    refine zegf (fs := [.int kd, .ref px, .ref py, .ref pb]) (v := .ref py) rfl rfl rfl rfl hg rfl ?_
    refine zeN (q := ((39, [(0, .ref g), (1, .int j), (2, .ref g2), (3, .int c)], [.int j, .ref py, .int (gI Y2 c)]), h)) 1 rfl ?_
    refine zeia (l := Y.map Value.int) (k := j.toNatClampNeg) (v := .int (gI Y j)) rfl rfl hY (zIx_a (zIx_s hj hXY)) (zIx_b (zIx_s hj hXY)) ?_
    refine zeN (q := ((41, [(0, .ref g), (1, .int j), (2, .ref g2), (3, .int c)], [.ref g, .int (gI Y j), .int (gI Y2 c)]), h)) 1 rfl ?_
    refine zegf (fs := [.int kd, .ref px, .ref py, .ref pb]) (v := .ref py) rfl rfl rfl rfl hg rfl ?_
    refine zeN (q := ((46, [(0, .ref g), (1, .int j), (2, .ref g2), (3, .int c)], [.int j, .ref g, .ref py, .int (gI Y j), .int (gI Y2 c)]), h)) 2 rfl ?_
    refine zec 1 (M' := M_Ge_end) (qq := ([.ref g, .int j], [.ref py, .int (gI Y j), .int (gI Y2 c)])) (s' := (49, [(0, .ref g), (1, .int j), (2, .ref g2), (3, .int c)], [.int (f_Ge_end X j), .ref py, .int (gI Y j), .int (gI Y2 c)])) rfl rfl (fun _ => rfl) rfl rfl (zhk rfl (zrc_ok hg) rfl) (s_Ge_end X j g px py pb kd hg hX  (by omega)) rfl ?_
    refine zeia (l := Y.map Value.int) (k := (f_Ge_end X j).toNatClampNeg) (v := .int (gI Y (f_Ge_end X j))) rfl rfl hY (zIx_a (zIx_s (zIx_end hn hj) hXY)) (zIx_b (zIx_s (zIx_end hn hj) hXY)) ?_
    refine zec 0 (M' := M_Ge_isBetween) (qq := ([.int (gI Y2 c), .int (gI Y j), .int (gI Y (f_Ge_end X j))], [])) (s' := (53, [(0, .ref g), (1, .int j), (2, .ref g2), (3, .int c)], [.int (f_Ge_isBetween (gI Y2 c) (gI Y j) (gI Y (f_Ge_end X j)))])) rfl rfl (fun _ => rfl) rfl rfl rfl (s_Ge_isBetween (gI Y2 c) (gI Y j) (gI Y (f_Ge_end X j))  (by omega)) rfl ?_
    refine zdia (q1 := (60, [(0, .ref g), (1, .int j), (2, .ref g2), (3, .int c)], [])) (q2 := (56, [(0, .ref g), (1, .int j), (2, .ref g2), (3, .int c)], [])) (cB := zc .eq (f_Ge_isBetween (gI Y2 c) (gI Y j) (gI Y (f_Ge_end X j))) 0) (off := 7) (lv := [(0, .ref g), (1, .int j), (2, .ref g2), (3, .int c)]) (st := []) (lv2 := [(0, .ref g), (1, .int j), (2, .ref g2), (3, .int c)]) (st2 := []) (J := 61) (vA := 0) (vB := 1) 1 2 rfl rfl rfl rfl rfl rfl rfl ?_
    exact zer rfl (zreb (zbb _))
def f_Ge_foldsBack_96 (X Y : List Int32) (j k : Int32) : Int32 := 0
theorem b_Ge_foldsBack_96 (X Y : List Int32) (j k : Int32) : zB (f_Ge_foldsBack_96 X Y j k) := by unfold f_Ge_foldsBack_96; exact (zB0)
theorem s_Ge_foldsBack_96 {fr lo : Nat} {h : zH} (X Y : List Int32) (j k : Int32) (g px py pb : Nat) (kd : Int32) (hg : h.1[g]? = some (.inr (6, [.int kd, .ref px, .ref py, .ref pb]))) (hX : h.1[px]? = some (.inl (0, X.map Value.int))) (hY : h.1[py]? = some (.inl (0, Y.map Value.int))) (hXY : Y.length = X.length) (hn : X.length ≤ 1000) (hj : zIx j X.length) (hk : zIx k X.length) (hlo : 21 ≤ lo) : zRun (fr + 1) lo none M_Ge_foldsBack (96, [(6, .int ((gI Y (f_Ge_end X k)) - (gI Y k))), (5, .int ((gI X (f_Ge_end X k)) - (gI X k))), (4, .int ((gI Y k) - (gI Y j))), (3, .int ((gI X k) - (gI X j))), (0, .ref g), (1, .int j), (2, .int k)], []) h (some (.int (f_Ge_foldsBack_96 X Y j k)), h) := by
  unfold f_Ge_foldsBack_96
  refine zeN (q := ((97, [(6, .int ((gI Y (f_Ge_end X k)) - (gI Y k))), (5, .int ((gI X (f_Ge_end X k)) - (gI X k))), (4, .int ((gI Y k) - (gI Y j))), (3, .int ((gI X k) - (gI X j))), (0, .ref g), (1, .int j), (2, .int k)], [.int 0]), h)) 1 rfl ?_
  exact zer rfl rfl
def f_Ge_foldsBack (X Y : List Int32) (j k : Int32) : Int32 := (bif zc .ne (((gI X k) - (gI X j)) * ((gI Y (f_Ge_end X k)) - (gI Y k))) (((gI Y k) - (gI Y j)) * ((gI X (f_Ge_end X k)) - (gI X k))) then (f_Ge_foldsBack_96 X Y j k) else bif zc .ge ((((gI X k) - (gI X j)) * ((gI X (f_Ge_end X k)) - (gI X k))) + (((gI Y k) - (gI Y j)) * ((gI Y (f_Ge_end X k)) - (gI Y k)))) 0 then 0 else 1)
theorem b_Ge_foldsBack (X Y : List Int32) (j k : Int32) : zB (f_Ge_foldsBack X Y j k) := by unfold f_Ge_foldsBack; exact (zbi (b_Ge_foldsBack_96 X Y j k) (zbb _))
theorem s_Ge_foldsBack {fr lo : Nat} {h : zH} (X Y : List Int32) (j k : Int32) (g px py pb : Nat) (kd : Int32) (hg : h.1[g]? = some (.inr (6, [.int kd, .ref px, .ref py, .ref pb]))) (hX : h.1[px]? = some (.inl (0, X.map Value.int))) (hY : h.1[py]? = some (.inl (0, Y.map Value.int))) (hXY : Y.length = X.length) (hn : X.length ≤ 1000) (hj : zIx j X.length) (hk : zIx k X.length) (hlo : 47 ≤ lo) : zAns (fr + 2) lo 23 [.ref g, .int j, .int k] h (some (.int (f_Ge_foldsBack X Y j k)), h) := by
  unfold f_Ge_foldsBack
  refine zeb (fr := fr + 1) (M := M_Ge_foldsBack) rfl (Nat.le_trans (by decide) hlo) rfl ?_
  have e0 : mL M_Ge_foldsBack = 7 := rfl
  refine zeN (q := ((1, [(0, .ref g), (1, .int j), (2, .int k)], [.ref g]), h)) 1 rfl ?_
  refine zegf (fs := [.int kd, .ref px, .ref py, .ref pb]) (v := .ref px) rfl rfl rfl rfl hg rfl ?_
  refine zeN (q := ((5, [(0, .ref g), (1, .int j), (2, .int k)], [.int k, .ref px]), h)) 1 rfl ?_
  refine zeia (l := X.map Value.int) (k := k.toNatClampNeg) (v := .int (gI X k)) rfl rfl hX (zIx_a hk) (zIx_b hk) ?_
  refine zeN (q := ((7, [(0, .ref g), (1, .int j), (2, .int k)], [.ref g, .int (gI X k)]), h)) 1 rfl ?_
  refine zegf (fs := [.int kd, .ref px, .ref py, .ref pb]) (v := .ref px) rfl rfl rfl rfl hg rfl ?_
  refine zeN (q := ((11, [(0, .ref g), (1, .int j), (2, .int k)], [.int j, .ref px, .int (gI X k)]), h)) 1 rfl ?_
  refine zeia (l := X.map Value.int) (k := j.toNatClampNeg) (v := .int (gI X j)) rfl rfl hX (zIx_a hj) (zIx_b hj) ?_
  refine zeN (q := ((15, [(3, .int ((gI X k) - (gI X j))), (0, .ref g), (1, .int j), (2, .int k)], [.ref g]), h)) 3 rfl ?_
  refine zegf (fs := [.int kd, .ref px, .ref py, .ref pb]) (v := .ref py) rfl rfl rfl rfl hg rfl ?_
  refine zeN (q := ((19, [(3, .int ((gI X k) - (gI X j))), (0, .ref g), (1, .int j), (2, .int k)], [.int k, .ref py]), h)) 1 rfl ?_
  refine zeia (l := Y.map Value.int) (k := k.toNatClampNeg) (v := .int (gI Y k)) rfl rfl hY (zIx_a (zIx_s hk hXY)) (zIx_b (zIx_s hk hXY)) ?_
  refine zeN (q := ((21, [(3, .int ((gI X k) - (gI X j))), (0, .ref g), (1, .int j), (2, .int k)], [.ref g, .int (gI Y k)]), h)) 1 rfl ?_
  refine zegf (fs := [.int kd, .ref px, .ref py, .ref pb]) (v := .ref py) rfl rfl rfl rfl hg rfl ?_
  refine zeN (q := ((25, [(3, .int ((gI X k) - (gI X j))), (0, .ref g), (1, .int j), (2, .int k)], [.int j, .ref py, .int (gI Y k)]), h)) 1 rfl ?_
  refine zeia (l := Y.map Value.int) (k := j.toNatClampNeg) (v := .int (gI Y j)) rfl rfl hY (zIx_a (zIx_s hj hXY)) (zIx_b (zIx_s hj hXY)) ?_
  refine zeN (q := ((30, [(4, .int ((gI Y k) - (gI Y j))), (3, .int ((gI X k) - (gI X j))), (0, .ref g), (1, .int j), (2, .int k)], [.ref g]), h)) 3 rfl ?_
  refine zegf (fs := [.int kd, .ref px, .ref py, .ref pb]) (v := .ref px) rfl rfl rfl rfl hg rfl ?_
  refine zeN (q := ((35, [(4, .int ((gI Y k) - (gI Y j))), (3, .int ((gI X k) - (gI X j))), (0, .ref g), (1, .int j), (2, .int k)], [.int k, .ref g, .ref px]), h)) 2 rfl ?_
  refine zec 1 (M' := M_Ge_end) (qq := ([.ref g, .int k], [.ref px])) (s' := (38, [(4, .int ((gI Y k) - (gI Y j))), (3, .int ((gI X k) - (gI X j))), (0, .ref g), (1, .int j), (2, .int k)], [.int (f_Ge_end X k), .ref px])) rfl rfl (fun _ => rfl) rfl rfl (zhk rfl (zrc_ok hg) rfl) (s_Ge_end X k g px py pb kd hg hX  (by omega)) rfl ?_
  refine zeia (l := X.map Value.int) (k := (f_Ge_end X k).toNatClampNeg) (v := .int (gI X (f_Ge_end X k))) rfl rfl hX (zIx_a (zIx_end hn hk)) (zIx_b (zIx_end hn hk)) ?_
  refine zeN (q := ((40, [(4, .int ((gI Y k) - (gI Y j))), (3, .int ((gI X k) - (gI X j))), (0, .ref g), (1, .int j), (2, .int k)], [.ref g, .int (gI X (f_Ge_end X k))]), h)) 1 rfl ?_
  refine zegf (fs := [.int kd, .ref px, .ref py, .ref pb]) (v := .ref px) rfl rfl rfl rfl hg rfl ?_
  refine zeN (q := ((44, [(4, .int ((gI Y k) - (gI Y j))), (3, .int ((gI X k) - (gI X j))), (0, .ref g), (1, .int j), (2, .int k)], [.int k, .ref px, .int (gI X (f_Ge_end X k))]), h)) 1 rfl ?_
  refine zeia (l := X.map Value.int) (k := k.toNatClampNeg) (v := .int (gI X k)) rfl rfl hX (zIx_a hk) (zIx_b hk) ?_
  refine zeN (q := ((49, [(5, .int ((gI X (f_Ge_end X k)) - (gI X k))), (4, .int ((gI Y k) - (gI Y j))), (3, .int ((gI X k) - (gI X j))), (0, .ref g), (1, .int j), (2, .int k)], [.ref g]), h)) 3 rfl ?_
  refine zegf (fs := [.int kd, .ref px, .ref py, .ref pb]) (v := .ref py) rfl rfl rfl rfl hg rfl ?_
  refine zeN (q := ((54, [(5, .int ((gI X (f_Ge_end X k)) - (gI X k))), (4, .int ((gI Y k) - (gI Y j))), (3, .int ((gI X k) - (gI X j))), (0, .ref g), (1, .int j), (2, .int k)], [.int k, .ref g, .ref py]), h)) 2 rfl ?_
  refine zec 1 (M' := M_Ge_end) (qq := ([.ref g, .int k], [.ref py])) (s' := (57, [(5, .int ((gI X (f_Ge_end X k)) - (gI X k))), (4, .int ((gI Y k) - (gI Y j))), (3, .int ((gI X k) - (gI X j))), (0, .ref g), (1, .int j), (2, .int k)], [.int (f_Ge_end X k), .ref py])) rfl rfl (fun _ => rfl) rfl rfl (zhk rfl (zrc_ok hg) rfl) (s_Ge_end X k g px py pb kd hg hX  (by omega)) rfl ?_
  refine zeia (l := Y.map Value.int) (k := (f_Ge_end X k).toNatClampNeg) (v := .int (gI Y (f_Ge_end X k))) rfl rfl hY (zIx_a (zIx_s (zIx_end hn hk) hXY)) (zIx_b (zIx_s (zIx_end hn hk) hXY)) ?_
  refine zeN (q := ((59, [(5, .int ((gI X (f_Ge_end X k)) - (gI X k))), (4, .int ((gI Y k) - (gI Y j))), (3, .int ((gI X k) - (gI X j))), (0, .ref g), (1, .int j), (2, .int k)], [.ref g, .int (gI Y (f_Ge_end X k))]), h)) 1 rfl ?_
  refine zegf (fs := [.int kd, .ref px, .ref py, .ref pb]) (v := .ref py) rfl rfl rfl rfl hg rfl ?_
  refine zeN (q := ((63, [(5, .int ((gI X (f_Ge_end X k)) - (gI X k))), (4, .int ((gI Y k) - (gI Y j))), (3, .int ((gI X k) - (gI X j))), (0, .ref g), (1, .int j), (2, .int k)], [.int k, .ref py, .int (gI Y (f_Ge_end X k))]), h)) 1 rfl ?_
  refine zeia (l := Y.map Value.int) (k := k.toNatClampNeg) (v := .int (gI Y k)) rfl rfl hY (zIx_a (zIx_s hk hXY)) (zIx_b (zIx_s hk hXY)) ?_
  refine zeN (q := ((76, [(6, .int ((gI Y (f_Ge_end X k)) - (gI Y k))), (5, .int ((gI X (f_Ge_end X k)) - (gI X k))), (4, .int ((gI Y k) - (gI Y j))), (3, .int ((gI X k) - (gI X j))), (0, .ref g), (1, .int j), (2, .int k)], [.int (((gI Y k) - (gI Y j)) * ((gI X (f_Ge_end X k)) - (gI X k))), .int (((gI X k) - (gI X j)) * ((gI Y (f_Ge_end X k)) - (gI Y k)))]), h)) 8 rfl ?_
  refine zbc (q1 := (96, [(6, .int ((gI Y (f_Ge_end X k)) - (gI Y k))), (5, .int ((gI X (f_Ge_end X k)) - (gI X k))), (4, .int ((gI Y k) - (gI Y j))), (3, .int ((gI X k) - (gI X j))), (0, .ref g), (1, .int j), (2, .int k)], [])) (q2 := (79, [(6, .int ((gI Y (f_Ge_end X k)) - (gI Y k))), (5, .int ((gI X (f_Ge_end X k)) - (gI X k))), (4, .int ((gI Y k) - (gI Y j))), (3, .int ((gI X k) - (gI X j))), (0, .ref g), (1, .int j), (2, .int k)], [])) (cB := zc .ne (((gI X k) - (gI X j)) * ((gI Y (f_Ge_end X k)) - (gI Y k))) (((gI Y k) - (gI Y j)) * ((gI X (f_Ge_end X k)) - (gI X k)))) (off := 20) (lv := [(6, .int ((gI Y (f_Ge_end X k)) - (gI Y k))), (5, .int ((gI X (f_Ge_end X k)) - (gI X k))), (4, .int ((gI Y k) - (gI Y j))), (3, .int ((gI X k) - (gI X j))), (0, .ref g), (1, .int j), (2, .int k)]) (st := []) rfl rfl rfl rfl rfl (fun c76 => ?_) (fun c76 => ?_)
  · rw [c76]
    exact s_Ge_foldsBack_96 X Y j k g px py pb kd hg hX hY hXY hn hj hk (by omega)
  · rw [c76]
    refine zeN (q := ((89, [(6, .int ((gI Y (f_Ge_end X k)) - (gI Y k))), (5, .int ((gI X (f_Ge_end X k)) - (gI X k))), (4, .int ((gI Y k) - (gI Y j))), (3, .int ((gI X k) - (gI X j))), (0, .ref g), (1, .int j), (2, .int k)], [.int ((((gI X k) - (gI X j)) * ((gI X (f_Ge_end X k)) - (gI X k))) + (((gI Y k) - (gI Y j)) * ((gI Y (f_Ge_end X k)) - (gI Y k))))]), h)) 7 rfl ?_
    refine zdia (q1 := (96, [(6, .int ((gI Y (f_Ge_end X k)) - (gI Y k))), (5, .int ((gI X (f_Ge_end X k)) - (gI X k))), (4, .int ((gI Y k) - (gI Y j))), (3, .int ((gI X k) - (gI X j))), (0, .ref g), (1, .int j), (2, .int k)], [])) (q2 := (92, [(6, .int ((gI Y (f_Ge_end X k)) - (gI Y k))), (5, .int ((gI X (f_Ge_end X k)) - (gI X k))), (4, .int ((gI Y k) - (gI Y j))), (3, .int ((gI X k) - (gI X j))), (0, .ref g), (1, .int j), (2, .int k)], [])) (cB := zc .ge ((((gI X k) - (gI X j)) * ((gI X (f_Ge_end X k)) - (gI X k))) + (((gI Y k) - (gI Y j)) * ((gI Y (f_Ge_end X k)) - (gI Y k)))) 0) (off := 7) (lv := [(6, .int ((gI Y (f_Ge_end X k)) - (gI Y k))), (5, .int ((gI X (f_Ge_end X k)) - (gI X k))), (4, .int ((gI Y k) - (gI Y j))), (3, .int ((gI X k) - (gI X j))), (0, .ref g), (1, .int j), (2, .int k)]) (st := []) (lv2 := [(6, .int ((gI Y (f_Ge_end X k)) - (gI Y k))), (5, .int ((gI X (f_Ge_end X k)) - (gI X k))), (4, .int ((gI Y k) - (gI Y j))), (3, .int ((gI X k) - (gI X j))), (0, .ref g), (1, .int j), (2, .int k)]) (st2 := []) (J := 97) (vA := 0) (vB := 1) 1 2 rfl rfl rfl rfl rfl rfl rfl ?_
    exact zer rfl (zreb (zbb _))
def f_Ge_sides (X : List Int32) (kd : Int32) : Int32 := (bif zc .ne kd 1 then Int32.ofNat (X.map Value.int).length else (Int32.ofNat (X.map Value.int).length) - 1)
theorem s_Ge_sides {fr lo : Nat} {h : zH} (X : List Int32) (kd : Int32) (g px py pb : Nat) (hg : h.1[g]? = some (.inr (6, [.int kd, .ref px, .ref py, .ref pb]))) (hX : h.1[px]? = some (.inl (0, X.map Value.int))) (hlo : 20 ≤ lo) : zAns (fr + 1) lo 19 [.ref g] h (some (.int (f_Ge_sides X kd)), h) := by
  unfold f_Ge_sides
  refine zeb (fr := fr + 0) (M := M_Ge_sides) rfl (Nat.le_trans (by decide) hlo) rfl ?_
  have e0 : mL M_Ge_sides = 1 := rfl
  refine zeN (q := ((1, [(0, .ref g)], [.ref g]), h)) 1 rfl ?_
  refine zegf (fs := [.int kd, .ref px, .ref py, .ref pb]) (v := .int kd) rfl rfl rfl rfl hg rfl ?_
  refine zeN (q := ((5, [(0, .ref g)], [.int 1, .int kd]), h)) 1 rfl ?_
  refine zbc (q1 := (18, [(0, .ref g)], [])) (q2 := (8, [(0, .ref g)], [])) (cB := zc .ne kd 1) (off := 13) (lv := [(0, .ref g)]) (st := []) rfl rfl rfl rfl rfl (fun c5 => ?_) (fun c5 => ?_)
  · rw [c5]
    refine zeN (q := ((19, [(0, .ref g)], [.ref g]), h)) 1 rfl ?_
    refine zegf (fs := [.int kd, .ref px, .ref py, .ref pb]) (v := .ref px) rfl rfl rfl rfl hg rfl ?_
    refine zeln (l := X.map Value.int) rfl rfl hX rfl ?_
    exact zer rfl rfl
  · rw [c5]
    refine zeN (q := ((9, [(0, .ref g)], [.ref g]), h)) 1 rfl ?_
    refine zegf (fs := [.int kd, .ref px, .ref py, .ref pb]) (v := .ref px) rfl rfl rfl rfl hg rfl ?_
    refine zeln (l := X.map Value.int) rfl rfl hX rfl ?_
    refine zeN (q := ((23, [(0, .ref g)], [.int ((Int32.ofNat (X.map Value.int).length) - 1)]), h)) 3 rfl ?_
    exact zer rfl rfl
def f_Ge_sideMeets_180 (X Y X2 Y2 : List Int32) (j k : Int32) : Int32 := 0
theorem b_Ge_sideMeets_180 (X Y X2 Y2 : List Int32) (j k : Int32) : zB (f_Ge_sideMeets_180 X Y X2 Y2 j k) := by unfold f_Ge_sideMeets_180; exact (zB0)
theorem s_Ge_sideMeets_180 {fr lo : Nat} {h : zH} (X Y X2 Y2 : List Int32) (j k : Int32) (g px py pb : Nat) (kd : Int32) (hg : h.1[g]? = some (.inr (6, [.int kd, .ref px, .ref py, .ref pb]))) (hX : h.1[px]? = some (.inl (0, X.map Value.int))) (hY : h.1[py]? = some (.inl (0, Y.map Value.int))) (hXY : Y.length = X.length) (hn : X.length ≤ 1000) (g2 px2 py2 pb2 : Nat) (kd2 : Int32) (hg2 : h.1[g2]? = some (.inr (6, [.int kd2, .ref px2, .ref py2, .ref pb2]))) (hX2 : h.1[px2]? = some (.inl (0, X2.map Value.int))) (hY2 : h.1[py2]? = some (.inl (0, Y2.map Value.int))) (hXY2 : Y2.length = X2.length) (hn2 : X2.length ≤ 1000) (hj : zIx j X.length) (hk : zIx k X2.length) (hlo : 83 ≤ lo) : zRun (fr + 2) lo none M_Ge_sideMeets (180, [(9, .int (f_Ge_turn X2 Y2 k (gI X (f_Ge_end X j)) (gI Y (f_Ge_end X j)))), (8, .int (f_Ge_turn X2 Y2 k (gI X j) (gI Y j))), (7, .int (f_Ge_turn X Y j (gI X2 (f_Ge_end X2 k)) (gI Y2 (f_Ge_end X2 k)))), (6, .int (f_Ge_turn X Y j (gI X2 k) (gI Y2 k))), (5, .int (f_Ge_end X2 k)), (4, .int (f_Ge_end X j)), (0, .ref g), (1, .int j), (2, .ref g2), (3, .int k)], []) h (some (.int (f_Ge_sideMeets_180 X Y X2 Y2 j k)), h) := by
  unfold f_Ge_sideMeets_180
  refine zeN (q := ((181, [(9, .int (f_Ge_turn X2 Y2 k (gI X (f_Ge_end X j)) (gI Y (f_Ge_end X j)))), (8, .int (f_Ge_turn X2 Y2 k (gI X j) (gI Y j))), (7, .int (f_Ge_turn X Y j (gI X2 (f_Ge_end X2 k)) (gI Y2 (f_Ge_end X2 k)))), (6, .int (f_Ge_turn X Y j (gI X2 k) (gI Y2 k))), (5, .int (f_Ge_end X2 k)), (4, .int (f_Ge_end X j)), (0, .ref g), (1, .int j), (2, .ref g2), (3, .int k)], [.int 0]), h)) 1 rfl ?_
  exact zer rfl rfl
def f_Ge_sideMeets_160 (X Y X2 Y2 : List Int32) (j k : Int32) : Int32 := (bif zc .ne (f_Ge_turn X2 Y2 k (gI X (f_Ge_end X j)) (gI Y (f_Ge_end X j))) 0 then (f_Ge_sideMeets_180 X Y X2 Y2 j k) else bif zc .eq (f_Ge_isBeside X2 Y2 X Y k (f_Ge_end X j)) 0 then 0 else 1)
theorem b_Ge_sideMeets_160 (X Y X2 Y2 : List Int32) (j k : Int32) : zB (f_Ge_sideMeets_160 X Y X2 Y2 j k) := by unfold f_Ge_sideMeets_160; exact (zbi (b_Ge_sideMeets_180 X Y X2 Y2 j k) (zbb _))
theorem s_Ge_sideMeets_160 {fr lo : Nat} {h : zH} (X Y X2 Y2 : List Int32) (j k : Int32) (g px py pb : Nat) (kd : Int32) (hg : h.1[g]? = some (.inr (6, [.int kd, .ref px, .ref py, .ref pb]))) (hX : h.1[px]? = some (.inl (0, X.map Value.int))) (hY : h.1[py]? = some (.inl (0, Y.map Value.int))) (hXY : Y.length = X.length) (hn : X.length ≤ 1000) (g2 px2 py2 pb2 : Nat) (kd2 : Int32) (hg2 : h.1[g2]? = some (.inr (6, [.int kd2, .ref px2, .ref py2, .ref pb2]))) (hX2 : h.1[px2]? = some (.inl (0, X2.map Value.int))) (hY2 : h.1[py2]? = some (.inl (0, Y2.map Value.int))) (hXY2 : Y2.length = X2.length) (hn2 : X2.length ≤ 1000) (hj : zIx j X.length) (hk : zIx k X2.length) (hlo : 83 ≤ lo) : zRun (fr + 2) lo none M_Ge_sideMeets (160, [(9, .int (f_Ge_turn X2 Y2 k (gI X (f_Ge_end X j)) (gI Y (f_Ge_end X j)))), (8, .int (f_Ge_turn X2 Y2 k (gI X j) (gI Y j))), (7, .int (f_Ge_turn X Y j (gI X2 (f_Ge_end X2 k)) (gI Y2 (f_Ge_end X2 k)))), (6, .int (f_Ge_turn X Y j (gI X2 k) (gI Y2 k))), (5, .int (f_Ge_end X2 k)), (4, .int (f_Ge_end X j)), (0, .ref g), (1, .int j), (2, .ref g2), (3, .int k)], []) h (some (.int (f_Ge_sideMeets_160 X Y X2 Y2 j k)), h) := by
  unfold f_Ge_sideMeets_160
  refine zeN (q := ((162, [(9, .int (f_Ge_turn X2 Y2 k (gI X (f_Ge_end X j)) (gI Y (f_Ge_end X j)))), (8, .int (f_Ge_turn X2 Y2 k (gI X j) (gI Y j))), (7, .int (f_Ge_turn X Y j (gI X2 (f_Ge_end X2 k)) (gI Y2 (f_Ge_end X2 k)))), (6, .int (f_Ge_turn X Y j (gI X2 k) (gI Y2 k))), (5, .int (f_Ge_end X2 k)), (4, .int (f_Ge_end X j)), (0, .ref g), (1, .int j), (2, .ref g2), (3, .int k)], [.int (f_Ge_turn X2 Y2 k (gI X (f_Ge_end X j)) (gI Y (f_Ge_end X j)))]), h)) 1 rfl ?_
  refine zbc (q1 := (180, [(9, .int (f_Ge_turn X2 Y2 k (gI X (f_Ge_end X j)) (gI Y (f_Ge_end X j)))), (8, .int (f_Ge_turn X2 Y2 k (gI X j) (gI Y j))), (7, .int (f_Ge_turn X Y j (gI X2 (f_Ge_end X2 k)) (gI Y2 (f_Ge_end X2 k)))), (6, .int (f_Ge_turn X Y j (gI X2 k) (gI Y2 k))), (5, .int (f_Ge_end X2 k)), (4, .int (f_Ge_end X j)), (0, .ref g), (1, .int j), (2, .ref g2), (3, .int k)], [])) (q2 := (165, [(9, .int (f_Ge_turn X2 Y2 k (gI X (f_Ge_end X j)) (gI Y (f_Ge_end X j)))), (8, .int (f_Ge_turn X2 Y2 k (gI X j) (gI Y j))), (7, .int (f_Ge_turn X Y j (gI X2 (f_Ge_end X2 k)) (gI Y2 (f_Ge_end X2 k)))), (6, .int (f_Ge_turn X Y j (gI X2 k) (gI Y2 k))), (5, .int (f_Ge_end X2 k)), (4, .int (f_Ge_end X j)), (0, .ref g), (1, .int j), (2, .ref g2), (3, .int k)], [])) (cB := zc .ne (f_Ge_turn X2 Y2 k (gI X (f_Ge_end X j)) (gI Y (f_Ge_end X j))) 0) (off := 18) (lv := [(9, .int (f_Ge_turn X2 Y2 k (gI X (f_Ge_end X j)) (gI Y (f_Ge_end X j)))), (8, .int (f_Ge_turn X2 Y2 k (gI X j) (gI Y j))), (7, .int (f_Ge_turn X Y j (gI X2 (f_Ge_end X2 k)) (gI Y2 (f_Ge_end X2 k)))), (6, .int (f_Ge_turn X Y j (gI X2 k) (gI Y2 k))), (5, .int (f_Ge_end X2 k)), (4, .int (f_Ge_end X j)), (0, .ref g), (1, .int j), (2, .ref g2), (3, .int k)]) (st := []) rfl rfl rfl rfl rfl (fun c162 => ?_) (fun c162 => ?_)
  · rw [c162]
    exact s_Ge_sideMeets_180 X Y X2 Y2 j k g px py pb kd hg hX hY hXY hn g2 px2 py2 pb2 kd2 hg2 hX2 hY2 hXY2 hn2 hj hk (by omega)
  · rw [c162]
    refine zeN (q := ((170, [(9, .int (f_Ge_turn X2 Y2 k (gI X (f_Ge_end X j)) (gI Y (f_Ge_end X j)))), (8, .int (f_Ge_turn X2 Y2 k (gI X j) (gI Y j))), (7, .int (f_Ge_turn X Y j (gI X2 (f_Ge_end X2 k)) (gI Y2 (f_Ge_end X2 k)))), (6, .int (f_Ge_turn X Y j (gI X2 k) (gI Y2 k))), (5, .int (f_Ge_end X2 k)), (4, .int (f_Ge_end X j)), (0, .ref g), (1, .int j), (2, .ref g2), (3, .int k)], [.int (f_Ge_end X j), .ref g, .int k, .ref g2]), h)) 4 rfl ?_
    refine zec 1 (M' := M_Ge_isBeside) (qq := ([.ref g2, .int k, .ref g, .int (f_Ge_end X j)], [])) (s' := (173, [(9, .int (f_Ge_turn X2 Y2 k (gI X (f_Ge_end X j)) (gI Y (f_Ge_end X j)))), (8, .int (f_Ge_turn X2 Y2 k (gI X j) (gI Y j))), (7, .int (f_Ge_turn X Y j (gI X2 (f_Ge_end X2 k)) (gI Y2 (f_Ge_end X2 k)))), (6, .int (f_Ge_turn X Y j (gI X2 k) (gI Y2 k))), (5, .int (f_Ge_end X2 k)), (4, .int (f_Ge_end X j)), (0, .ref g), (1, .int j), (2, .ref g2), (3, .int k)], [.int (f_Ge_isBeside X2 Y2 X Y k (f_Ge_end X j))])) rfl rfl (fun _ => rfl) rfl rfl (zhk rfl (zrc_ok hg2) rfl) (s_Ge_isBeside X2 Y2 X Y k (f_Ge_end X j) g2 px2 py2 pb2 kd2 hg2 hX2 hY2 hXY2 hn2 g px py pb kd hg hX hY hXY hn hk (zIx_end hn hj) (by omega)) rfl ?_
    refine zdia (q1 := (180, [(9, .int (f_Ge_turn X2 Y2 k (gI X (f_Ge_end X j)) (gI Y (f_Ge_end X j)))), (8, .int (f_Ge_turn X2 Y2 k (gI X j) (gI Y j))), (7, .int (f_Ge_turn X Y j (gI X2 (f_Ge_end X2 k)) (gI Y2 (f_Ge_end X2 k)))), (6, .int (f_Ge_turn X Y j (gI X2 k) (gI Y2 k))), (5, .int (f_Ge_end X2 k)), (4, .int (f_Ge_end X j)), (0, .ref g), (1, .int j), (2, .ref g2), (3, .int k)], [])) (q2 := (176, [(9, .int (f_Ge_turn X2 Y2 k (gI X (f_Ge_end X j)) (gI Y (f_Ge_end X j)))), (8, .int (f_Ge_turn X2 Y2 k (gI X j) (gI Y j))), (7, .int (f_Ge_turn X Y j (gI X2 (f_Ge_end X2 k)) (gI Y2 (f_Ge_end X2 k)))), (6, .int (f_Ge_turn X Y j (gI X2 k) (gI Y2 k))), (5, .int (f_Ge_end X2 k)), (4, .int (f_Ge_end X j)), (0, .ref g), (1, .int j), (2, .ref g2), (3, .int k)], [])) (cB := zc .eq (f_Ge_isBeside X2 Y2 X Y k (f_Ge_end X j)) 0) (off := 7) (lv := [(9, .int (f_Ge_turn X2 Y2 k (gI X (f_Ge_end X j)) (gI Y (f_Ge_end X j)))), (8, .int (f_Ge_turn X2 Y2 k (gI X j) (gI Y j))), (7, .int (f_Ge_turn X Y j (gI X2 (f_Ge_end X2 k)) (gI Y2 (f_Ge_end X2 k)))), (6, .int (f_Ge_turn X Y j (gI X2 k) (gI Y2 k))), (5, .int (f_Ge_end X2 k)), (4, .int (f_Ge_end X j)), (0, .ref g), (1, .int j), (2, .ref g2), (3, .int k)]) (st := []) (lv2 := [(9, .int (f_Ge_turn X2 Y2 k (gI X (f_Ge_end X j)) (gI Y (f_Ge_end X j)))), (8, .int (f_Ge_turn X2 Y2 k (gI X j) (gI Y j))), (7, .int (f_Ge_turn X Y j (gI X2 (f_Ge_end X2 k)) (gI Y2 (f_Ge_end X2 k)))), (6, .int (f_Ge_turn X Y j (gI X2 k) (gI Y2 k))), (5, .int (f_Ge_end X2 k)), (4, .int (f_Ge_end X j)), (0, .ref g), (1, .int j), (2, .ref g2), (3, .int k)]) (st2 := []) (J := 181) (vA := 0) (vB := 1) 1 2 rfl rfl rfl rfl rfl rfl rfl ?_
    exact zer rfl (zreb (zbb _))
def f_Ge_sideMeets_176 (X Y X2 Y2 : List Int32) (j k : Int32) : Int32 := 1
theorem b_Ge_sideMeets_176 (X Y X2 Y2 : List Int32) (j k : Int32) : zB (f_Ge_sideMeets_176 X Y X2 Y2 j k) := by unfold f_Ge_sideMeets_176; exact (zB1)
theorem s_Ge_sideMeets_176 {fr lo : Nat} {h : zH} (X Y X2 Y2 : List Int32) (j k : Int32) (g px py pb : Nat) (kd : Int32) (hg : h.1[g]? = some (.inr (6, [.int kd, .ref px, .ref py, .ref pb]))) (hX : h.1[px]? = some (.inl (0, X.map Value.int))) (hY : h.1[py]? = some (.inl (0, Y.map Value.int))) (hXY : Y.length = X.length) (hn : X.length ≤ 1000) (g2 px2 py2 pb2 : Nat) (kd2 : Int32) (hg2 : h.1[g2]? = some (.inr (6, [.int kd2, .ref px2, .ref py2, .ref pb2]))) (hX2 : h.1[px2]? = some (.inl (0, X2.map Value.int))) (hY2 : h.1[py2]? = some (.inl (0, Y2.map Value.int))) (hXY2 : Y2.length = X2.length) (hn2 : X2.length ≤ 1000) (hj : zIx j X.length) (hk : zIx k X2.length) (hlo : 83 ≤ lo) : zRun (fr + 2) lo none M_Ge_sideMeets (176, [(9, .int (f_Ge_turn X2 Y2 k (gI X (f_Ge_end X j)) (gI Y (f_Ge_end X j)))), (8, .int (f_Ge_turn X2 Y2 k (gI X j) (gI Y j))), (7, .int (f_Ge_turn X Y j (gI X2 (f_Ge_end X2 k)) (gI Y2 (f_Ge_end X2 k)))), (6, .int (f_Ge_turn X Y j (gI X2 k) (gI Y2 k))), (5, .int (f_Ge_end X2 k)), (4, .int (f_Ge_end X j)), (0, .ref g), (1, .int j), (2, .ref g2), (3, .int k)], []) h (some (.int (f_Ge_sideMeets_176 X Y X2 Y2 j k)), h) := by
  unfold f_Ge_sideMeets_176
  refine zeN (q := ((181, [(9, .int (f_Ge_turn X2 Y2 k (gI X (f_Ge_end X j)) (gI Y (f_Ge_end X j)))), (8, .int (f_Ge_turn X2 Y2 k (gI X j) (gI Y j))), (7, .int (f_Ge_turn X Y j (gI X2 (f_Ge_end X2 k)) (gI Y2 (f_Ge_end X2 k)))), (6, .int (f_Ge_turn X Y j (gI X2 k) (gI Y2 k))), (5, .int (f_Ge_end X2 k)), (4, .int (f_Ge_end X j)), (0, .ref g), (1, .int j), (2, .ref g2), (3, .int k)], [.int 1]), h)) 2 rfl ?_
  exact zer rfl rfl
def f_Ge_sideMeets_145 (X Y X2 Y2 : List Int32) (j k : Int32) : Int32 := (bif zc .ne (f_Ge_turn X2 Y2 k (gI X j) (gI Y j)) 0 then (f_Ge_sideMeets_160 X Y X2 Y2 j k) else (bif zc .ne (f_Ge_isBeside X2 Y2 X Y k j) 0 then (f_Ge_sideMeets_176 X Y X2 Y2 j k) else (f_Ge_sideMeets_160 X Y X2 Y2 j k)))
theorem b_Ge_sideMeets_145 (X Y X2 Y2 : List Int32) (j k : Int32) : zB (f_Ge_sideMeets_145 X Y X2 Y2 j k) := by unfold f_Ge_sideMeets_145; exact (zbi (b_Ge_sideMeets_160 X Y X2 Y2 j k) (zbi (b_Ge_sideMeets_176 X Y X2 Y2 j k) (b_Ge_sideMeets_160 X Y X2 Y2 j k)))
theorem s_Ge_sideMeets_145 {fr lo : Nat} {h : zH} (X Y X2 Y2 : List Int32) (j k : Int32) (g px py pb : Nat) (kd : Int32) (hg : h.1[g]? = some (.inr (6, [.int kd, .ref px, .ref py, .ref pb]))) (hX : h.1[px]? = some (.inl (0, X.map Value.int))) (hY : h.1[py]? = some (.inl (0, Y.map Value.int))) (hXY : Y.length = X.length) (hn : X.length ≤ 1000) (g2 px2 py2 pb2 : Nat) (kd2 : Int32) (hg2 : h.1[g2]? = some (.inr (6, [.int kd2, .ref px2, .ref py2, .ref pb2]))) (hX2 : h.1[px2]? = some (.inl (0, X2.map Value.int))) (hY2 : h.1[py2]? = some (.inl (0, Y2.map Value.int))) (hXY2 : Y2.length = X2.length) (hn2 : X2.length ≤ 1000) (hj : zIx j X.length) (hk : zIx k X2.length) (hlo : 83 ≤ lo) : zRun (fr + 2) lo none M_Ge_sideMeets (145, [(9, .int (f_Ge_turn X2 Y2 k (gI X (f_Ge_end X j)) (gI Y (f_Ge_end X j)))), (8, .int (f_Ge_turn X2 Y2 k (gI X j) (gI Y j))), (7, .int (f_Ge_turn X Y j (gI X2 (f_Ge_end X2 k)) (gI Y2 (f_Ge_end X2 k)))), (6, .int (f_Ge_turn X Y j (gI X2 k) (gI Y2 k))), (5, .int (f_Ge_end X2 k)), (4, .int (f_Ge_end X j)), (0, .ref g), (1, .int j), (2, .ref g2), (3, .int k)], []) h (some (.int (f_Ge_sideMeets_145 X Y X2 Y2 j k)), h) := by
  unfold f_Ge_sideMeets_145
  refine zeN (q := ((147, [(9, .int (f_Ge_turn X2 Y2 k (gI X (f_Ge_end X j)) (gI Y (f_Ge_end X j)))), (8, .int (f_Ge_turn X2 Y2 k (gI X j) (gI Y j))), (7, .int (f_Ge_turn X Y j (gI X2 (f_Ge_end X2 k)) (gI Y2 (f_Ge_end X2 k)))), (6, .int (f_Ge_turn X Y j (gI X2 k) (gI Y2 k))), (5, .int (f_Ge_end X2 k)), (4, .int (f_Ge_end X j)), (0, .ref g), (1, .int j), (2, .ref g2), (3, .int k)], [.int (f_Ge_turn X2 Y2 k (gI X j) (gI Y j))]), h)) 1 rfl ?_
  refine zbc (q1 := (160, [(9, .int (f_Ge_turn X2 Y2 k (gI X (f_Ge_end X j)) (gI Y (f_Ge_end X j)))), (8, .int (f_Ge_turn X2 Y2 k (gI X j) (gI Y j))), (7, .int (f_Ge_turn X Y j (gI X2 (f_Ge_end X2 k)) (gI Y2 (f_Ge_end X2 k)))), (6, .int (f_Ge_turn X Y j (gI X2 k) (gI Y2 k))), (5, .int (f_Ge_end X2 k)), (4, .int (f_Ge_end X j)), (0, .ref g), (1, .int j), (2, .ref g2), (3, .int k)], [])) (q2 := (150, [(9, .int (f_Ge_turn X2 Y2 k (gI X (f_Ge_end X j)) (gI Y (f_Ge_end X j)))), (8, .int (f_Ge_turn X2 Y2 k (gI X j) (gI Y j))), (7, .int (f_Ge_turn X Y j (gI X2 (f_Ge_end X2 k)) (gI Y2 (f_Ge_end X2 k)))), (6, .int (f_Ge_turn X Y j (gI X2 k) (gI Y2 k))), (5, .int (f_Ge_end X2 k)), (4, .int (f_Ge_end X j)), (0, .ref g), (1, .int j), (2, .ref g2), (3, .int k)], [])) (cB := zc .ne (f_Ge_turn X2 Y2 k (gI X j) (gI Y j)) 0) (off := 13) (lv := [(9, .int (f_Ge_turn X2 Y2 k (gI X (f_Ge_end X j)) (gI Y (f_Ge_end X j)))), (8, .int (f_Ge_turn X2 Y2 k (gI X j) (gI Y j))), (7, .int (f_Ge_turn X Y j (gI X2 (f_Ge_end X2 k)) (gI Y2 (f_Ge_end X2 k)))), (6, .int (f_Ge_turn X Y j (gI X2 k) (gI Y2 k))), (5, .int (f_Ge_end X2 k)), (4, .int (f_Ge_end X j)), (0, .ref g), (1, .int j), (2, .ref g2), (3, .int k)]) (st := []) rfl rfl rfl rfl rfl (fun c147 => ?_) (fun c147 => ?_)
  · rw [c147]
    exact s_Ge_sideMeets_160 X Y X2 Y2 j k g px py pb kd hg hX hY hXY hn g2 px2 py2 pb2 kd2 hg2 hX2 hY2 hXY2 hn2 hj hk (by omega)
  · rw [c147]
    refine zeN (q := ((154, [(9, .int (f_Ge_turn X2 Y2 k (gI X (f_Ge_end X j)) (gI Y (f_Ge_end X j)))), (8, .int (f_Ge_turn X2 Y2 k (gI X j) (gI Y j))), (7, .int (f_Ge_turn X Y j (gI X2 (f_Ge_end X2 k)) (gI Y2 (f_Ge_end X2 k)))), (6, .int (f_Ge_turn X Y j (gI X2 k) (gI Y2 k))), (5, .int (f_Ge_end X2 k)), (4, .int (f_Ge_end X j)), (0, .ref g), (1, .int j), (2, .ref g2), (3, .int k)], [.int j, .ref g, .int k, .ref g2]), h)) 4 rfl ?_
    refine zec 1 (M' := M_Ge_isBeside) (qq := ([.ref g2, .int k, .ref g, .int j], [])) (s' := (157, [(9, .int (f_Ge_turn X2 Y2 k (gI X (f_Ge_end X j)) (gI Y (f_Ge_end X j)))), (8, .int (f_Ge_turn X2 Y2 k (gI X j) (gI Y j))), (7, .int (f_Ge_turn X Y j (gI X2 (f_Ge_end X2 k)) (gI Y2 (f_Ge_end X2 k)))), (6, .int (f_Ge_turn X Y j (gI X2 k) (gI Y2 k))), (5, .int (f_Ge_end X2 k)), (4, .int (f_Ge_end X j)), (0, .ref g), (1, .int j), (2, .ref g2), (3, .int k)], [.int (f_Ge_isBeside X2 Y2 X Y k j)])) rfl rfl (fun _ => rfl) rfl rfl (zhk rfl (zrc_ok hg2) rfl) (s_Ge_isBeside X2 Y2 X Y k j g2 px2 py2 pb2 kd2 hg2 hX2 hY2 hXY2 hn2 g px py pb kd hg hX hY hXY hn hk hj (by omega)) rfl ?_
    refine zbc (q1 := (176, [(9, .int (f_Ge_turn X2 Y2 k (gI X (f_Ge_end X j)) (gI Y (f_Ge_end X j)))), (8, .int (f_Ge_turn X2 Y2 k (gI X j) (gI Y j))), (7, .int (f_Ge_turn X Y j (gI X2 (f_Ge_end X2 k)) (gI Y2 (f_Ge_end X2 k)))), (6, .int (f_Ge_turn X Y j (gI X2 k) (gI Y2 k))), (5, .int (f_Ge_end X2 k)), (4, .int (f_Ge_end X j)), (0, .ref g), (1, .int j), (2, .ref g2), (3, .int k)], [])) (q2 := (160, [(9, .int (f_Ge_turn X2 Y2 k (gI X (f_Ge_end X j)) (gI Y (f_Ge_end X j)))), (8, .int (f_Ge_turn X2 Y2 k (gI X j) (gI Y j))), (7, .int (f_Ge_turn X Y j (gI X2 (f_Ge_end X2 k)) (gI Y2 (f_Ge_end X2 k)))), (6, .int (f_Ge_turn X Y j (gI X2 k) (gI Y2 k))), (5, .int (f_Ge_end X2 k)), (4, .int (f_Ge_end X j)), (0, .ref g), (1, .int j), (2, .ref g2), (3, .int k)], [])) (cB := zc .ne (f_Ge_isBeside X2 Y2 X Y k j) 0) (off := 19) (lv := [(9, .int (f_Ge_turn X2 Y2 k (gI X (f_Ge_end X j)) (gI Y (f_Ge_end X j)))), (8, .int (f_Ge_turn X2 Y2 k (gI X j) (gI Y j))), (7, .int (f_Ge_turn X Y j (gI X2 (f_Ge_end X2 k)) (gI Y2 (f_Ge_end X2 k)))), (6, .int (f_Ge_turn X Y j (gI X2 k) (gI Y2 k))), (5, .int (f_Ge_end X2 k)), (4, .int (f_Ge_end X j)), (0, .ref g), (1, .int j), (2, .ref g2), (3, .int k)]) (st := []) rfl rfl rfl rfl rfl (fun c157 => ?_) (fun c157 => ?_)
    · rw [c157]
      exact s_Ge_sideMeets_176 X Y X2 Y2 j k g px py pb kd hg hX hY hXY hn g2 px2 py2 pb2 kd2 hg2 hX2 hY2 hXY2 hn2 hj hk (by omega)
    · rw [c157]
      exact s_Ge_sideMeets_160 X Y X2 Y2 j k g px py pb kd hg hX hY hXY hn g2 px2 py2 pb2 kd2 hg2 hX2 hY2 hXY2 hn2 hj hk (by omega)
def f_Ge_sideMeets_129 (X Y X2 Y2 : List Int32) (j k : Int32) : Int32 := (bif zc .ne (f_Ge_turn X Y j (gI X2 (f_Ge_end X2 k)) (gI Y2 (f_Ge_end X2 k))) 0 then (f_Ge_sideMeets_145 X Y X2 Y2 j k) else (bif zc .ne (f_Ge_isBeside X Y X2 Y2 j (f_Ge_end X2 k)) 0 then (f_Ge_sideMeets_176 X Y X2 Y2 j k) else (f_Ge_sideMeets_145 X Y X2 Y2 j k)))
theorem b_Ge_sideMeets_129 (X Y X2 Y2 : List Int32) (j k : Int32) : zB (f_Ge_sideMeets_129 X Y X2 Y2 j k) := by unfold f_Ge_sideMeets_129; exact (zbi (b_Ge_sideMeets_145 X Y X2 Y2 j k) (zbi (b_Ge_sideMeets_176 X Y X2 Y2 j k) (b_Ge_sideMeets_145 X Y X2 Y2 j k)))
theorem s_Ge_sideMeets_129 {fr lo : Nat} {h : zH} (X Y X2 Y2 : List Int32) (j k : Int32) (g px py pb : Nat) (kd : Int32) (hg : h.1[g]? = some (.inr (6, [.int kd, .ref px, .ref py, .ref pb]))) (hX : h.1[px]? = some (.inl (0, X.map Value.int))) (hY : h.1[py]? = some (.inl (0, Y.map Value.int))) (hXY : Y.length = X.length) (hn : X.length ≤ 1000) (g2 px2 py2 pb2 : Nat) (kd2 : Int32) (hg2 : h.1[g2]? = some (.inr (6, [.int kd2, .ref px2, .ref py2, .ref pb2]))) (hX2 : h.1[px2]? = some (.inl (0, X2.map Value.int))) (hY2 : h.1[py2]? = some (.inl (0, Y2.map Value.int))) (hXY2 : Y2.length = X2.length) (hn2 : X2.length ≤ 1000) (hj : zIx j X.length) (hk : zIx k X2.length) (hlo : 83 ≤ lo) : zRun (fr + 2) lo none M_Ge_sideMeets (129, [(9, .int (f_Ge_turn X2 Y2 k (gI X (f_Ge_end X j)) (gI Y (f_Ge_end X j)))), (8, .int (f_Ge_turn X2 Y2 k (gI X j) (gI Y j))), (7, .int (f_Ge_turn X Y j (gI X2 (f_Ge_end X2 k)) (gI Y2 (f_Ge_end X2 k)))), (6, .int (f_Ge_turn X Y j (gI X2 k) (gI Y2 k))), (5, .int (f_Ge_end X2 k)), (4, .int (f_Ge_end X j)), (0, .ref g), (1, .int j), (2, .ref g2), (3, .int k)], []) h (some (.int (f_Ge_sideMeets_129 X Y X2 Y2 j k)), h) := by
  unfold f_Ge_sideMeets_129
  refine zeN (q := ((131, [(9, .int (f_Ge_turn X2 Y2 k (gI X (f_Ge_end X j)) (gI Y (f_Ge_end X j)))), (8, .int (f_Ge_turn X2 Y2 k (gI X j) (gI Y j))), (7, .int (f_Ge_turn X Y j (gI X2 (f_Ge_end X2 k)) (gI Y2 (f_Ge_end X2 k)))), (6, .int (f_Ge_turn X Y j (gI X2 k) (gI Y2 k))), (5, .int (f_Ge_end X2 k)), (4, .int (f_Ge_end X j)), (0, .ref g), (1, .int j), (2, .ref g2), (3, .int k)], [.int (f_Ge_turn X Y j (gI X2 (f_Ge_end X2 k)) (gI Y2 (f_Ge_end X2 k)))]), h)) 1 rfl ?_
  refine zbc (q1 := (145, [(9, .int (f_Ge_turn X2 Y2 k (gI X (f_Ge_end X j)) (gI Y (f_Ge_end X j)))), (8, .int (f_Ge_turn X2 Y2 k (gI X j) (gI Y j))), (7, .int (f_Ge_turn X Y j (gI X2 (f_Ge_end X2 k)) (gI Y2 (f_Ge_end X2 k)))), (6, .int (f_Ge_turn X Y j (gI X2 k) (gI Y2 k))), (5, .int (f_Ge_end X2 k)), (4, .int (f_Ge_end X j)), (0, .ref g), (1, .int j), (2, .ref g2), (3, .int k)], [])) (q2 := (134, [(9, .int (f_Ge_turn X2 Y2 k (gI X (f_Ge_end X j)) (gI Y (f_Ge_end X j)))), (8, .int (f_Ge_turn X2 Y2 k (gI X j) (gI Y j))), (7, .int (f_Ge_turn X Y j (gI X2 (f_Ge_end X2 k)) (gI Y2 (f_Ge_end X2 k)))), (6, .int (f_Ge_turn X Y j (gI X2 k) (gI Y2 k))), (5, .int (f_Ge_end X2 k)), (4, .int (f_Ge_end X j)), (0, .ref g), (1, .int j), (2, .ref g2), (3, .int k)], [])) (cB := zc .ne (f_Ge_turn X Y j (gI X2 (f_Ge_end X2 k)) (gI Y2 (f_Ge_end X2 k))) 0) (off := 14) (lv := [(9, .int (f_Ge_turn X2 Y2 k (gI X (f_Ge_end X j)) (gI Y (f_Ge_end X j)))), (8, .int (f_Ge_turn X2 Y2 k (gI X j) (gI Y j))), (7, .int (f_Ge_turn X Y j (gI X2 (f_Ge_end X2 k)) (gI Y2 (f_Ge_end X2 k)))), (6, .int (f_Ge_turn X Y j (gI X2 k) (gI Y2 k))), (5, .int (f_Ge_end X2 k)), (4, .int (f_Ge_end X j)), (0, .ref g), (1, .int j), (2, .ref g2), (3, .int k)]) (st := []) rfl rfl rfl rfl rfl (fun c131 => ?_) (fun c131 => ?_)
  · rw [c131]
    exact s_Ge_sideMeets_145 X Y X2 Y2 j k g px py pb kd hg hX hY hXY hn g2 px2 py2 pb2 kd2 hg2 hX2 hY2 hXY2 hn2 hj hk (by omega)
  · rw [c131]
    refine zeN (q := ((139, [(9, .int (f_Ge_turn X2 Y2 k (gI X (f_Ge_end X j)) (gI Y (f_Ge_end X j)))), (8, .int (f_Ge_turn X2 Y2 k (gI X j) (gI Y j))), (7, .int (f_Ge_turn X Y j (gI X2 (f_Ge_end X2 k)) (gI Y2 (f_Ge_end X2 k)))), (6, .int (f_Ge_turn X Y j (gI X2 k) (gI Y2 k))), (5, .int (f_Ge_end X2 k)), (4, .int (f_Ge_end X j)), (0, .ref g), (1, .int j), (2, .ref g2), (3, .int k)], [.int (f_Ge_end X2 k), .ref g2, .int j, .ref g]), h)) 4 rfl ?_
    refine zec 1 (M' := M_Ge_isBeside) (qq := ([.ref g, .int j, .ref g2, .int (f_Ge_end X2 k)], [])) (s' := (142, [(9, .int (f_Ge_turn X2 Y2 k (gI X (f_Ge_end X j)) (gI Y (f_Ge_end X j)))), (8, .int (f_Ge_turn X2 Y2 k (gI X j) (gI Y j))), (7, .int (f_Ge_turn X Y j (gI X2 (f_Ge_end X2 k)) (gI Y2 (f_Ge_end X2 k)))), (6, .int (f_Ge_turn X Y j (gI X2 k) (gI Y2 k))), (5, .int (f_Ge_end X2 k)), (4, .int (f_Ge_end X j)), (0, .ref g), (1, .int j), (2, .ref g2), (3, .int k)], [.int (f_Ge_isBeside X Y X2 Y2 j (f_Ge_end X2 k))])) rfl rfl (fun _ => rfl) rfl rfl (zhk rfl (zrc_ok hg) rfl) (s_Ge_isBeside X Y X2 Y2 j (f_Ge_end X2 k) g px py pb kd hg hX hY hXY hn g2 px2 py2 pb2 kd2 hg2 hX2 hY2 hXY2 hn2 hj (zIx_end hn2 hk) (by omega)) rfl ?_
    refine zbc (q1 := (176, [(9, .int (f_Ge_turn X2 Y2 k (gI X (f_Ge_end X j)) (gI Y (f_Ge_end X j)))), (8, .int (f_Ge_turn X2 Y2 k (gI X j) (gI Y j))), (7, .int (f_Ge_turn X Y j (gI X2 (f_Ge_end X2 k)) (gI Y2 (f_Ge_end X2 k)))), (6, .int (f_Ge_turn X Y j (gI X2 k) (gI Y2 k))), (5, .int (f_Ge_end X2 k)), (4, .int (f_Ge_end X j)), (0, .ref g), (1, .int j), (2, .ref g2), (3, .int k)], [])) (q2 := (145, [(9, .int (f_Ge_turn X2 Y2 k (gI X (f_Ge_end X j)) (gI Y (f_Ge_end X j)))), (8, .int (f_Ge_turn X2 Y2 k (gI X j) (gI Y j))), (7, .int (f_Ge_turn X Y j (gI X2 (f_Ge_end X2 k)) (gI Y2 (f_Ge_end X2 k)))), (6, .int (f_Ge_turn X Y j (gI X2 k) (gI Y2 k))), (5, .int (f_Ge_end X2 k)), (4, .int (f_Ge_end X j)), (0, .ref g), (1, .int j), (2, .ref g2), (3, .int k)], [])) (cB := zc .ne (f_Ge_isBeside X Y X2 Y2 j (f_Ge_end X2 k)) 0) (off := 34) (lv := [(9, .int (f_Ge_turn X2 Y2 k (gI X (f_Ge_end X j)) (gI Y (f_Ge_end X j)))), (8, .int (f_Ge_turn X2 Y2 k (gI X j) (gI Y j))), (7, .int (f_Ge_turn X Y j (gI X2 (f_Ge_end X2 k)) (gI Y2 (f_Ge_end X2 k)))), (6, .int (f_Ge_turn X Y j (gI X2 k) (gI Y2 k))), (5, .int (f_Ge_end X2 k)), (4, .int (f_Ge_end X j)), (0, .ref g), (1, .int j), (2, .ref g2), (3, .int k)]) (st := []) rfl rfl rfl rfl rfl (fun c142 => ?_) (fun c142 => ?_)
    · rw [c142]
      exact s_Ge_sideMeets_176 X Y X2 Y2 j k g px py pb kd hg hX hY hXY hn g2 px2 py2 pb2 kd2 hg2 hX2 hY2 hXY2 hn2 hj hk (by omega)
    · rw [c142]
      exact s_Ge_sideMeets_145 X Y X2 Y2 j k g px py pb kd hg hX hY hXY hn g2 px2 py2 pb2 kd2 hg2 hX2 hY2 hXY2 hn2 hj hk (by omega)
def f_Ge_sideMeets_114 (X Y X2 Y2 : List Int32) (j k : Int32) : Int32 := (bif zc .ne (f_Ge_turn X Y j (gI X2 k) (gI Y2 k)) 0 then (f_Ge_sideMeets_129 X Y X2 Y2 j k) else (bif zc .ne (f_Ge_isBeside X Y X2 Y2 j k) 0 then (f_Ge_sideMeets_176 X Y X2 Y2 j k) else (f_Ge_sideMeets_129 X Y X2 Y2 j k)))
theorem b_Ge_sideMeets_114 (X Y X2 Y2 : List Int32) (j k : Int32) : zB (f_Ge_sideMeets_114 X Y X2 Y2 j k) := by unfold f_Ge_sideMeets_114; exact (zbi (b_Ge_sideMeets_129 X Y X2 Y2 j k) (zbi (b_Ge_sideMeets_176 X Y X2 Y2 j k) (b_Ge_sideMeets_129 X Y X2 Y2 j k)))
theorem s_Ge_sideMeets_114 {fr lo : Nat} {h : zH} (X Y X2 Y2 : List Int32) (j k : Int32) (g px py pb : Nat) (kd : Int32) (hg : h.1[g]? = some (.inr (6, [.int kd, .ref px, .ref py, .ref pb]))) (hX : h.1[px]? = some (.inl (0, X.map Value.int))) (hY : h.1[py]? = some (.inl (0, Y.map Value.int))) (hXY : Y.length = X.length) (hn : X.length ≤ 1000) (g2 px2 py2 pb2 : Nat) (kd2 : Int32) (hg2 : h.1[g2]? = some (.inr (6, [.int kd2, .ref px2, .ref py2, .ref pb2]))) (hX2 : h.1[px2]? = some (.inl (0, X2.map Value.int))) (hY2 : h.1[py2]? = some (.inl (0, Y2.map Value.int))) (hXY2 : Y2.length = X2.length) (hn2 : X2.length ≤ 1000) (hj : zIx j X.length) (hk : zIx k X2.length) (hlo : 83 ≤ lo) : zRun (fr + 2) lo none M_Ge_sideMeets (114, [(9, .int (f_Ge_turn X2 Y2 k (gI X (f_Ge_end X j)) (gI Y (f_Ge_end X j)))), (8, .int (f_Ge_turn X2 Y2 k (gI X j) (gI Y j))), (7, .int (f_Ge_turn X Y j (gI X2 (f_Ge_end X2 k)) (gI Y2 (f_Ge_end X2 k)))), (6, .int (f_Ge_turn X Y j (gI X2 k) (gI Y2 k))), (5, .int (f_Ge_end X2 k)), (4, .int (f_Ge_end X j)), (0, .ref g), (1, .int j), (2, .ref g2), (3, .int k)], []) h (some (.int (f_Ge_sideMeets_114 X Y X2 Y2 j k)), h) := by
  unfold f_Ge_sideMeets_114
  refine zeN (q := ((116, [(9, .int (f_Ge_turn X2 Y2 k (gI X (f_Ge_end X j)) (gI Y (f_Ge_end X j)))), (8, .int (f_Ge_turn X2 Y2 k (gI X j) (gI Y j))), (7, .int (f_Ge_turn X Y j (gI X2 (f_Ge_end X2 k)) (gI Y2 (f_Ge_end X2 k)))), (6, .int (f_Ge_turn X Y j (gI X2 k) (gI Y2 k))), (5, .int (f_Ge_end X2 k)), (4, .int (f_Ge_end X j)), (0, .ref g), (1, .int j), (2, .ref g2), (3, .int k)], [.int (f_Ge_turn X Y j (gI X2 k) (gI Y2 k))]), h)) 1 rfl ?_
  refine zbc (q1 := (129, [(9, .int (f_Ge_turn X2 Y2 k (gI X (f_Ge_end X j)) (gI Y (f_Ge_end X j)))), (8, .int (f_Ge_turn X2 Y2 k (gI X j) (gI Y j))), (7, .int (f_Ge_turn X Y j (gI X2 (f_Ge_end X2 k)) (gI Y2 (f_Ge_end X2 k)))), (6, .int (f_Ge_turn X Y j (gI X2 k) (gI Y2 k))), (5, .int (f_Ge_end X2 k)), (4, .int (f_Ge_end X j)), (0, .ref g), (1, .int j), (2, .ref g2), (3, .int k)], [])) (q2 := (119, [(9, .int (f_Ge_turn X2 Y2 k (gI X (f_Ge_end X j)) (gI Y (f_Ge_end X j)))), (8, .int (f_Ge_turn X2 Y2 k (gI X j) (gI Y j))), (7, .int (f_Ge_turn X Y j (gI X2 (f_Ge_end X2 k)) (gI Y2 (f_Ge_end X2 k)))), (6, .int (f_Ge_turn X Y j (gI X2 k) (gI Y2 k))), (5, .int (f_Ge_end X2 k)), (4, .int (f_Ge_end X j)), (0, .ref g), (1, .int j), (2, .ref g2), (3, .int k)], [])) (cB := zc .ne (f_Ge_turn X Y j (gI X2 k) (gI Y2 k)) 0) (off := 13) (lv := [(9, .int (f_Ge_turn X2 Y2 k (gI X (f_Ge_end X j)) (gI Y (f_Ge_end X j)))), (8, .int (f_Ge_turn X2 Y2 k (gI X j) (gI Y j))), (7, .int (f_Ge_turn X Y j (gI X2 (f_Ge_end X2 k)) (gI Y2 (f_Ge_end X2 k)))), (6, .int (f_Ge_turn X Y j (gI X2 k) (gI Y2 k))), (5, .int (f_Ge_end X2 k)), (4, .int (f_Ge_end X j)), (0, .ref g), (1, .int j), (2, .ref g2), (3, .int k)]) (st := []) rfl rfl rfl rfl rfl (fun c116 => ?_) (fun c116 => ?_)
  · rw [c116]
    exact s_Ge_sideMeets_129 X Y X2 Y2 j k g px py pb kd hg hX hY hXY hn g2 px2 py2 pb2 kd2 hg2 hX2 hY2 hXY2 hn2 hj hk (by omega)
  · rw [c116]
    refine zeN (q := ((123, [(9, .int (f_Ge_turn X2 Y2 k (gI X (f_Ge_end X j)) (gI Y (f_Ge_end X j)))), (8, .int (f_Ge_turn X2 Y2 k (gI X j) (gI Y j))), (7, .int (f_Ge_turn X Y j (gI X2 (f_Ge_end X2 k)) (gI Y2 (f_Ge_end X2 k)))), (6, .int (f_Ge_turn X Y j (gI X2 k) (gI Y2 k))), (5, .int (f_Ge_end X2 k)), (4, .int (f_Ge_end X j)), (0, .ref g), (1, .int j), (2, .ref g2), (3, .int k)], [.int k, .ref g2, .int j, .ref g]), h)) 4 rfl ?_
    refine zec 1 (M' := M_Ge_isBeside) (qq := ([.ref g, .int j, .ref g2, .int k], [])) (s' := (126, [(9, .int (f_Ge_turn X2 Y2 k (gI X (f_Ge_end X j)) (gI Y (f_Ge_end X j)))), (8, .int (f_Ge_turn X2 Y2 k (gI X j) (gI Y j))), (7, .int (f_Ge_turn X Y j (gI X2 (f_Ge_end X2 k)) (gI Y2 (f_Ge_end X2 k)))), (6, .int (f_Ge_turn X Y j (gI X2 k) (gI Y2 k))), (5, .int (f_Ge_end X2 k)), (4, .int (f_Ge_end X j)), (0, .ref g), (1, .int j), (2, .ref g2), (3, .int k)], [.int (f_Ge_isBeside X Y X2 Y2 j k)])) rfl rfl (fun _ => rfl) rfl rfl (zhk rfl (zrc_ok hg) rfl) (s_Ge_isBeside X Y X2 Y2 j k g px py pb kd hg hX hY hXY hn g2 px2 py2 pb2 kd2 hg2 hX2 hY2 hXY2 hn2 hj hk (by omega)) rfl ?_
    refine zbc (q1 := (176, [(9, .int (f_Ge_turn X2 Y2 k (gI X (f_Ge_end X j)) (gI Y (f_Ge_end X j)))), (8, .int (f_Ge_turn X2 Y2 k (gI X j) (gI Y j))), (7, .int (f_Ge_turn X Y j (gI X2 (f_Ge_end X2 k)) (gI Y2 (f_Ge_end X2 k)))), (6, .int (f_Ge_turn X Y j (gI X2 k) (gI Y2 k))), (5, .int (f_Ge_end X2 k)), (4, .int (f_Ge_end X j)), (0, .ref g), (1, .int j), (2, .ref g2), (3, .int k)], [])) (q2 := (129, [(9, .int (f_Ge_turn X2 Y2 k (gI X (f_Ge_end X j)) (gI Y (f_Ge_end X j)))), (8, .int (f_Ge_turn X2 Y2 k (gI X j) (gI Y j))), (7, .int (f_Ge_turn X Y j (gI X2 (f_Ge_end X2 k)) (gI Y2 (f_Ge_end X2 k)))), (6, .int (f_Ge_turn X Y j (gI X2 k) (gI Y2 k))), (5, .int (f_Ge_end X2 k)), (4, .int (f_Ge_end X j)), (0, .ref g), (1, .int j), (2, .ref g2), (3, .int k)], [])) (cB := zc .ne (f_Ge_isBeside X Y X2 Y2 j k) 0) (off := 50) (lv := [(9, .int (f_Ge_turn X2 Y2 k (gI X (f_Ge_end X j)) (gI Y (f_Ge_end X j)))), (8, .int (f_Ge_turn X2 Y2 k (gI X j) (gI Y j))), (7, .int (f_Ge_turn X Y j (gI X2 (f_Ge_end X2 k)) (gI Y2 (f_Ge_end X2 k)))), (6, .int (f_Ge_turn X Y j (gI X2 k) (gI Y2 k))), (5, .int (f_Ge_end X2 k)), (4, .int (f_Ge_end X j)), (0, .ref g), (1, .int j), (2, .ref g2), (3, .int k)]) (st := []) rfl rfl rfl rfl rfl (fun c126 => ?_) (fun c126 => ?_)
    · rw [c126]
      exact s_Ge_sideMeets_176 X Y X2 Y2 j k g px py pb kd hg hX hY hXY hn g2 px2 py2 pb2 kd2 hg2 hX2 hY2 hXY2 hn2 hj hk (by omega)
    · rw [c126]
      exact s_Ge_sideMeets_129 X Y X2 Y2 j k g px py pb kd hg hX hY hXY hn g2 px2 py2 pb2 kd2 hg2 hX2 hY2 hXY2 hn2 hj hk (by omega)
def f_Ge_sideMeets (X Y X2 Y2 : List Int32) (j k : Int32) : Int32 := (bif zc .eq (f_Ge_areOpposite (f_Ge_turn X Y j (gI X2 k) (gI Y2 k)) (f_Ge_turn X Y j (gI X2 (f_Ge_end X2 k)) (gI Y2 (f_Ge_end X2 k)))) 0 then (f_Ge_sideMeets_114 X Y X2 Y2 j k) else (bif zc .ne (f_Ge_areOpposite (f_Ge_turn X2 Y2 k (gI X j) (gI Y j)) (f_Ge_turn X2 Y2 k (gI X (f_Ge_end X j)) (gI Y (f_Ge_end X j)))) 0 then (f_Ge_sideMeets_176 X Y X2 Y2 j k) else (f_Ge_sideMeets_114 X Y X2 Y2 j k)))
theorem b_Ge_sideMeets (X Y X2 Y2 : List Int32) (j k : Int32) : zB (f_Ge_sideMeets X Y X2 Y2 j k) := by unfold f_Ge_sideMeets; exact (zbi (b_Ge_sideMeets_114 X Y X2 Y2 j k) (zbi (b_Ge_sideMeets_176 X Y X2 Y2 j k) (b_Ge_sideMeets_114 X Y X2 Y2 j k)))
theorem s_Ge_sideMeets {fr lo : Nat} {h : zH} (X Y X2 Y2 : List Int32) (j k : Int32) (g px py pb : Nat) (kd : Int32) (hg : h.1[g]? = some (.inr (6, [.int kd, .ref px, .ref py, .ref pb]))) (hX : h.1[px]? = some (.inl (0, X.map Value.int))) (hY : h.1[py]? = some (.inl (0, Y.map Value.int))) (hXY : Y.length = X.length) (hn : X.length ≤ 1000) (g2 px2 py2 pb2 : Nat) (kd2 : Int32) (hg2 : h.1[g2]? = some (.inr (6, [.int kd2, .ref px2, .ref py2, .ref pb2]))) (hX2 : h.1[px2]? = some (.inl (0, X2.map Value.int))) (hY2 : h.1[py2]? = some (.inl (0, Y2.map Value.int))) (hXY2 : Y2.length = X2.length) (hn2 : X2.length ≤ 1000) (hj : zIx j X.length) (hk : zIx k X2.length) (hlo : 112 ≤ lo) : zAns (fr + 3) lo 24 [.ref g, .int j, .ref g2, .int k] h (some (.int (f_Ge_sideMeets X Y X2 Y2 j k)), h) := by
  unfold f_Ge_sideMeets
  refine zeb (fr := fr + 2) (M := M_Ge_sideMeets) rfl (Nat.le_trans (by decide) hlo) rfl ?_
  have e0 : mL M_Ge_sideMeets = 10 := rfl
  refine zeN (q := ((2, [(0, .ref g), (1, .int j), (2, .ref g2), (3, .int k)], [.int j, .ref g]), h)) 2 rfl ?_
  refine zec 1 (M' := M_Ge_end) (qq := ([.ref g, .int j], [])) (s' := (5, [(0, .ref g), (1, .int j), (2, .ref g2), (3, .int k)], [.int (f_Ge_end X j)])) rfl rfl (fun _ => rfl) rfl rfl (zhk rfl (zrc_ok hg) rfl) (s_Ge_end X j g px py pb kd hg hX  (by omega)) rfl ?_
  refine zeN (q := ((9, [(4, .int (f_Ge_end X j)), (0, .ref g), (1, .int j), (2, .ref g2), (3, .int k)], [.int k, .ref g2]), h)) 3 rfl ?_
  refine zec 1 (M' := M_Ge_end) (qq := ([.ref g2, .int k], [])) (s' := (12, [(4, .int (f_Ge_end X j)), (0, .ref g), (1, .int j), (2, .ref g2), (3, .int k)], [.int (f_Ge_end X2 k)])) rfl rfl (fun _ => rfl) rfl rfl (zhk rfl (zrc_ok hg2) rfl) (s_Ge_end X2 k g2 px2 py2 pb2 kd2 hg2 hX2  (by omega)) rfl ?_
  refine zeN (q := ((17, [(5, .int (f_Ge_end X2 k)), (4, .int (f_Ge_end X j)), (0, .ref g), (1, .int j), (2, .ref g2), (3, .int k)], [.ref g2, .int j, .ref g]), h)) 4 rfl ?_
  refine zegf (fs := [.int kd2, .ref px2, .ref py2, .ref pb2]) (v := .ref px2) rfl rfl rfl rfl hg2 rfl ?_
  refine zeN (q := ((21, [(5, .int (f_Ge_end X2 k)), (4, .int (f_Ge_end X j)), (0, .ref g), (1, .int j), (2, .ref g2), (3, .int k)], [.int k, .ref px2, .int j, .ref g]), h)) 1 rfl ?_
  refine zeia (l := X2.map Value.int) (k := k.toNatClampNeg) (v := .int (gI X2 k)) rfl rfl hX2 (zIx_a hk) (zIx_b hk) ?_
  refine zeN (q := ((23, [(5, .int (f_Ge_end X2 k)), (4, .int (f_Ge_end X j)), (0, .ref g), (1, .int j), (2, .ref g2), (3, .int k)], [.ref g2, .int (gI X2 k), .int j, .ref g]), h)) 1 rfl ?_
  refine zegf (fs := [.int kd2, .ref px2, .ref py2, .ref pb2]) (v := .ref py2) rfl rfl rfl rfl hg2 rfl ?_
  refine zeN (q := ((27, [(5, .int (f_Ge_end X2 k)), (4, .int (f_Ge_end X j)), (0, .ref g), (1, .int j), (2, .ref g2), (3, .int k)], [.int k, .ref py2, .int (gI X2 k), .int j, .ref g]), h)) 1 rfl ?_
  refine zeia (l := Y2.map Value.int) (k := k.toNatClampNeg) (v := .int (gI Y2 k)) rfl rfl hY2 (zIx_a (zIx_s hk hXY2)) (zIx_b (zIx_s hk hXY2)) ?_
  refine zec 1 (M' := M_Ge_turn) (qq := ([.ref g, .int j, .int (gI X2 k), .int (gI Y2 k)], [])) (s' := (31, [(5, .int (f_Ge_end X2 k)), (4, .int (f_Ge_end X j)), (0, .ref g), (1, .int j), (2, .ref g2), (3, .int k)], [.int (f_Ge_turn X Y j (gI X2 k) (gI Y2 k))])) rfl rfl (fun _ => rfl) rfl rfl (zhk rfl (zrc_ok hg) rfl) (s_Ge_turn X Y j (gI X2 k) (gI Y2 k) g px py pb kd hg hX hY hXY hn hj (by omega)) rfl ?_
  refine zeN (q := ((36, [(6, .int (f_Ge_turn X Y j (gI X2 k) (gI Y2 k))), (5, .int (f_Ge_end X2 k)), (4, .int (f_Ge_end X j)), (0, .ref g), (1, .int j), (2, .ref g2), (3, .int k)], [.ref g2, .int j, .ref g]), h)) 4 rfl ?_
  refine zegf (fs := [.int kd2, .ref px2, .ref py2, .ref pb2]) (v := .ref px2) rfl rfl rfl rfl hg2 rfl ?_
  refine zeN (q := ((41, [(6, .int (f_Ge_turn X Y j (gI X2 k) (gI Y2 k))), (5, .int (f_Ge_end X2 k)), (4, .int (f_Ge_end X j)), (0, .ref g), (1, .int j), (2, .ref g2), (3, .int k)], [.int (f_Ge_end X2 k), .ref px2, .int j, .ref g]), h)) 1 rfl ?_
  refine zeia (l := X2.map Value.int) (k := (f_Ge_end X2 k).toNatClampNeg) (v := .int (gI X2 (f_Ge_end X2 k))) rfl rfl hX2 (zIx_a (zIx_end hn2 hk)) (zIx_b (zIx_end hn2 hk)) ?_
  refine zeN (q := ((43, [(6, .int (f_Ge_turn X Y j (gI X2 k) (gI Y2 k))), (5, .int (f_Ge_end X2 k)), (4, .int (f_Ge_end X j)), (0, .ref g), (1, .int j), (2, .ref g2), (3, .int k)], [.ref g2, .int (gI X2 (f_Ge_end X2 k)), .int j, .ref g]), h)) 1 rfl ?_
  refine zegf (fs := [.int kd2, .ref px2, .ref py2, .ref pb2]) (v := .ref py2) rfl rfl rfl rfl hg2 rfl ?_
  refine zeN (q := ((48, [(6, .int (f_Ge_turn X Y j (gI X2 k) (gI Y2 k))), (5, .int (f_Ge_end X2 k)), (4, .int (f_Ge_end X j)), (0, .ref g), (1, .int j), (2, .ref g2), (3, .int k)], [.int (f_Ge_end X2 k), .ref py2, .int (gI X2 (f_Ge_end X2 k)), .int j, .ref g]), h)) 1 rfl ?_
  refine zeia (l := Y2.map Value.int) (k := (f_Ge_end X2 k).toNatClampNeg) (v := .int (gI Y2 (f_Ge_end X2 k))) rfl rfl hY2 (zIx_a (zIx_s (zIx_end hn2 hk) hXY2)) (zIx_b (zIx_s (zIx_end hn2 hk) hXY2)) ?_
  refine zec 1 (M' := M_Ge_turn) (qq := ([.ref g, .int j, .int (gI X2 (f_Ge_end X2 k)), .int (gI Y2 (f_Ge_end X2 k))], [])) (s' := (52, [(6, .int (f_Ge_turn X Y j (gI X2 k) (gI Y2 k))), (5, .int (f_Ge_end X2 k)), (4, .int (f_Ge_end X j)), (0, .ref g), (1, .int j), (2, .ref g2), (3, .int k)], [.int (f_Ge_turn X Y j (gI X2 (f_Ge_end X2 k)) (gI Y2 (f_Ge_end X2 k)))])) rfl rfl (fun _ => rfl) rfl rfl (zhk rfl (zrc_ok hg) rfl) (s_Ge_turn X Y j (gI X2 (f_Ge_end X2 k)) (gI Y2 (f_Ge_end X2 k)) g px py pb kd hg hX hY hXY hn hj (by omega)) rfl ?_
  refine zeN (q := ((57, [(7, .int (f_Ge_turn X Y j (gI X2 (f_Ge_end X2 k)) (gI Y2 (f_Ge_end X2 k)))), (6, .int (f_Ge_turn X Y j (gI X2 k) (gI Y2 k))), (5, .int (f_Ge_end X2 k)), (4, .int (f_Ge_end X j)), (0, .ref g), (1, .int j), (2, .ref g2), (3, .int k)], [.ref g, .int k, .ref g2]), h)) 4 rfl ?_
  refine zegf (fs := [.int kd, .ref px, .ref py, .ref pb]) (v := .ref px) rfl rfl rfl rfl hg rfl ?_
  refine zeN (q := ((61, [(7, .int (f_Ge_turn X Y j (gI X2 (f_Ge_end X2 k)) (gI Y2 (f_Ge_end X2 k)))), (6, .int (f_Ge_turn X Y j (gI X2 k) (gI Y2 k))), (5, .int (f_Ge_end X2 k)), (4, .int (f_Ge_end X j)), (0, .ref g), (1, .int j), (2, .ref g2), (3, .int k)], [.int j, .ref px, .int k, .ref g2]), h)) 1 rfl ?_
  refine zeia (l := X.map Value.int) (k := j.toNatClampNeg) (v := .int (gI X j)) rfl rfl hX (zIx_a hj) (zIx_b hj) ?_
  refine zeN (q := ((63, [(7, .int (f_Ge_turn X Y j (gI X2 (f_Ge_end X2 k)) (gI Y2 (f_Ge_end X2 k)))), (6, .int (f_Ge_turn X Y j (gI X2 k) (gI Y2 k))), (5, .int (f_Ge_end X2 k)), (4, .int (f_Ge_end X j)), (0, .ref g), (1, .int j), (2, .ref g2), (3, .int k)], [.ref g, .int (gI X j), .int k, .ref g2]), h)) 1 rfl ?_
  refine zegf (fs := [.int kd, .ref px, .ref py, .ref pb]) (v := .ref py) rfl rfl rfl rfl hg rfl ?_
  refine zeN (q := ((67, [(7, .int (f_Ge_turn X Y j (gI X2 (f_Ge_end X2 k)) (gI Y2 (f_Ge_end X2 k)))), (6, .int (f_Ge_turn X Y j (gI X2 k) (gI Y2 k))), (5, .int (f_Ge_end X2 k)), (4, .int (f_Ge_end X j)), (0, .ref g), (1, .int j), (2, .ref g2), (3, .int k)], [.int j, .ref py, .int (gI X j), .int k, .ref g2]), h)) 1 rfl ?_
  refine zeia (l := Y.map Value.int) (k := j.toNatClampNeg) (v := .int (gI Y j)) rfl rfl hY (zIx_a (zIx_s hj hXY)) (zIx_b (zIx_s hj hXY)) ?_
  refine zec 1 (M' := M_Ge_turn) (qq := ([.ref g2, .int k, .int (gI X j), .int (gI Y j)], [])) (s' := (71, [(7, .int (f_Ge_turn X Y j (gI X2 (f_Ge_end X2 k)) (gI Y2 (f_Ge_end X2 k)))), (6, .int (f_Ge_turn X Y j (gI X2 k) (gI Y2 k))), (5, .int (f_Ge_end X2 k)), (4, .int (f_Ge_end X j)), (0, .ref g), (1, .int j), (2, .ref g2), (3, .int k)], [.int (f_Ge_turn X2 Y2 k (gI X j) (gI Y j))])) rfl rfl (fun _ => rfl) rfl rfl (zhk rfl (zrc_ok hg2) rfl) (s_Ge_turn X2 Y2 k (gI X j) (gI Y j) g2 px2 py2 pb2 kd2 hg2 hX2 hY2 hXY2 hn2 hk (by omega)) rfl ?_
  refine zeN (q := ((76, [(8, .int (f_Ge_turn X2 Y2 k (gI X j) (gI Y j))), (7, .int (f_Ge_turn X Y j (gI X2 (f_Ge_end X2 k)) (gI Y2 (f_Ge_end X2 k)))), (6, .int (f_Ge_turn X Y j (gI X2 k) (gI Y2 k))), (5, .int (f_Ge_end X2 k)), (4, .int (f_Ge_end X j)), (0, .ref g), (1, .int j), (2, .ref g2), (3, .int k)], [.ref g, .int k, .ref g2]), h)) 4 rfl ?_
  refine zegf (fs := [.int kd, .ref px, .ref py, .ref pb]) (v := .ref px) rfl rfl rfl rfl hg rfl ?_
  refine zeN (q := ((81, [(8, .int (f_Ge_turn X2 Y2 k (gI X j) (gI Y j))), (7, .int (f_Ge_turn X Y j (gI X2 (f_Ge_end X2 k)) (gI Y2 (f_Ge_end X2 k)))), (6, .int (f_Ge_turn X Y j (gI X2 k) (gI Y2 k))), (5, .int (f_Ge_end X2 k)), (4, .int (f_Ge_end X j)), (0, .ref g), (1, .int j), (2, .ref g2), (3, .int k)], [.int (f_Ge_end X j), .ref px, .int k, .ref g2]), h)) 1 rfl ?_
  refine zeia (l := X.map Value.int) (k := (f_Ge_end X j).toNatClampNeg) (v := .int (gI X (f_Ge_end X j))) rfl rfl hX (zIx_a (zIx_end hn hj)) (zIx_b (zIx_end hn hj)) ?_
  refine zeN (q := ((83, [(8, .int (f_Ge_turn X2 Y2 k (gI X j) (gI Y j))), (7, .int (f_Ge_turn X Y j (gI X2 (f_Ge_end X2 k)) (gI Y2 (f_Ge_end X2 k)))), (6, .int (f_Ge_turn X Y j (gI X2 k) (gI Y2 k))), (5, .int (f_Ge_end X2 k)), (4, .int (f_Ge_end X j)), (0, .ref g), (1, .int j), (2, .ref g2), (3, .int k)], [.ref g, .int (gI X (f_Ge_end X j)), .int k, .ref g2]), h)) 1 rfl ?_
  refine zegf (fs := [.int kd, .ref px, .ref py, .ref pb]) (v := .ref py) rfl rfl rfl rfl hg rfl ?_
  refine zeN (q := ((88, [(8, .int (f_Ge_turn X2 Y2 k (gI X j) (gI Y j))), (7, .int (f_Ge_turn X Y j (gI X2 (f_Ge_end X2 k)) (gI Y2 (f_Ge_end X2 k)))), (6, .int (f_Ge_turn X Y j (gI X2 k) (gI Y2 k))), (5, .int (f_Ge_end X2 k)), (4, .int (f_Ge_end X j)), (0, .ref g), (1, .int j), (2, .ref g2), (3, .int k)], [.int (f_Ge_end X j), .ref py, .int (gI X (f_Ge_end X j)), .int k, .ref g2]), h)) 1 rfl ?_
  refine zeia (l := Y.map Value.int) (k := (f_Ge_end X j).toNatClampNeg) (v := .int (gI Y (f_Ge_end X j))) rfl rfl hY (zIx_a (zIx_s (zIx_end hn hj) hXY)) (zIx_b (zIx_s (zIx_end hn hj) hXY)) ?_
  refine zec 1 (M' := M_Ge_turn) (qq := ([.ref g2, .int k, .int (gI X (f_Ge_end X j)), .int (gI Y (f_Ge_end X j))], [])) (s' := (92, [(8, .int (f_Ge_turn X2 Y2 k (gI X j) (gI Y j))), (7, .int (f_Ge_turn X Y j (gI X2 (f_Ge_end X2 k)) (gI Y2 (f_Ge_end X2 k)))), (6, .int (f_Ge_turn X Y j (gI X2 k) (gI Y2 k))), (5, .int (f_Ge_end X2 k)), (4, .int (f_Ge_end X j)), (0, .ref g), (1, .int j), (2, .ref g2), (3, .int k)], [.int (f_Ge_turn X2 Y2 k (gI X (f_Ge_end X j)) (gI Y (f_Ge_end X j)))])) rfl rfl (fun _ => rfl) rfl rfl (zhk rfl (zrc_ok hg2) rfl) (s_Ge_turn X2 Y2 k (gI X (f_Ge_end X j)) (gI Y (f_Ge_end X j)) g2 px2 py2 pb2 kd2 hg2 hX2 hY2 hXY2 hn2 hk (by omega)) rfl ?_
  refine zeN (q := ((98, [(9, .int (f_Ge_turn X2 Y2 k (gI X (f_Ge_end X j)) (gI Y (f_Ge_end X j)))), (8, .int (f_Ge_turn X2 Y2 k (gI X j) (gI Y j))), (7, .int (f_Ge_turn X Y j (gI X2 (f_Ge_end X2 k)) (gI Y2 (f_Ge_end X2 k)))), (6, .int (f_Ge_turn X Y j (gI X2 k) (gI Y2 k))), (5, .int (f_Ge_end X2 k)), (4, .int (f_Ge_end X j)), (0, .ref g), (1, .int j), (2, .ref g2), (3, .int k)], [.int (f_Ge_turn X Y j (gI X2 (f_Ge_end X2 k)) (gI Y2 (f_Ge_end X2 k))), .int (f_Ge_turn X Y j (gI X2 k) (gI Y2 k))]), h)) 3 rfl ?_
  refine zec 0 (M' := M_Ge_areOpposite) (qq := ([.int (f_Ge_turn X Y j (gI X2 k) (gI Y2 k)), .int (f_Ge_turn X Y j (gI X2 (f_Ge_end X2 k)) (gI Y2 (f_Ge_end X2 k)))], [])) (s' := (101, [(9, .int (f_Ge_turn X2 Y2 k (gI X (f_Ge_end X j)) (gI Y (f_Ge_end X j)))), (8, .int (f_Ge_turn X2 Y2 k (gI X j) (gI Y j))), (7, .int (f_Ge_turn X Y j (gI X2 (f_Ge_end X2 k)) (gI Y2 (f_Ge_end X2 k)))), (6, .int (f_Ge_turn X Y j (gI X2 k) (gI Y2 k))), (5, .int (f_Ge_end X2 k)), (4, .int (f_Ge_end X j)), (0, .ref g), (1, .int j), (2, .ref g2), (3, .int k)], [.int (f_Ge_areOpposite (f_Ge_turn X Y j (gI X2 k) (gI Y2 k)) (f_Ge_turn X Y j (gI X2 (f_Ge_end X2 k)) (gI Y2 (f_Ge_end X2 k))))])) rfl rfl (fun _ => rfl) rfl rfl rfl (s_Ge_areOpposite (f_Ge_turn X Y j (gI X2 k) (gI Y2 k)) (f_Ge_turn X Y j (gI X2 (f_Ge_end X2 k)) (gI Y2 (f_Ge_end X2 k)))  (by omega)) rfl ?_
  refine zbc (q1 := (114, [(9, .int (f_Ge_turn X2 Y2 k (gI X (f_Ge_end X j)) (gI Y (f_Ge_end X j)))), (8, .int (f_Ge_turn X2 Y2 k (gI X j) (gI Y j))), (7, .int (f_Ge_turn X Y j (gI X2 (f_Ge_end X2 k)) (gI Y2 (f_Ge_end X2 k)))), (6, .int (f_Ge_turn X Y j (gI X2 k) (gI Y2 k))), (5, .int (f_Ge_end X2 k)), (4, .int (f_Ge_end X j)), (0, .ref g), (1, .int j), (2, .ref g2), (3, .int k)], [])) (q2 := (104, [(9, .int (f_Ge_turn X2 Y2 k (gI X (f_Ge_end X j)) (gI Y (f_Ge_end X j)))), (8, .int (f_Ge_turn X2 Y2 k (gI X j) (gI Y j))), (7, .int (f_Ge_turn X Y j (gI X2 (f_Ge_end X2 k)) (gI Y2 (f_Ge_end X2 k)))), (6, .int (f_Ge_turn X Y j (gI X2 k) (gI Y2 k))), (5, .int (f_Ge_end X2 k)), (4, .int (f_Ge_end X j)), (0, .ref g), (1, .int j), (2, .ref g2), (3, .int k)], [])) (cB := zc .eq (f_Ge_areOpposite (f_Ge_turn X Y j (gI X2 k) (gI Y2 k)) (f_Ge_turn X Y j (gI X2 (f_Ge_end X2 k)) (gI Y2 (f_Ge_end X2 k)))) 0) (off := 13) (lv := [(9, .int (f_Ge_turn X2 Y2 k (gI X (f_Ge_end X j)) (gI Y (f_Ge_end X j)))), (8, .int (f_Ge_turn X2 Y2 k (gI X j) (gI Y j))), (7, .int (f_Ge_turn X Y j (gI X2 (f_Ge_end X2 k)) (gI Y2 (f_Ge_end X2 k)))), (6, .int (f_Ge_turn X Y j (gI X2 k) (gI Y2 k))), (5, .int (f_Ge_end X2 k)), (4, .int (f_Ge_end X j)), (0, .ref g), (1, .int j), (2, .ref g2), (3, .int k)]) (st := []) rfl rfl rfl rfl rfl (fun c101 => ?_) (fun c101 => ?_)
  · rw [c101]
    exact s_Ge_sideMeets_114 X Y X2 Y2 j k g px py pb kd hg hX hY hXY hn g2 px2 py2 pb2 kd2 hg2 hX2 hY2 hXY2 hn2 hj hk (by omega)
  · rw [c101]
    refine zeN (q := ((108, [(9, .int (f_Ge_turn X2 Y2 k (gI X (f_Ge_end X j)) (gI Y (f_Ge_end X j)))), (8, .int (f_Ge_turn X2 Y2 k (gI X j) (gI Y j))), (7, .int (f_Ge_turn X Y j (gI X2 (f_Ge_end X2 k)) (gI Y2 (f_Ge_end X2 k)))), (6, .int (f_Ge_turn X Y j (gI X2 k) (gI Y2 k))), (5, .int (f_Ge_end X2 k)), (4, .int (f_Ge_end X j)), (0, .ref g), (1, .int j), (2, .ref g2), (3, .int k)], [.int (f_Ge_turn X2 Y2 k (gI X (f_Ge_end X j)) (gI Y (f_Ge_end X j))), .int (f_Ge_turn X2 Y2 k (gI X j) (gI Y j))]), h)) 2 rfl ?_
    refine zec 0 (M' := M_Ge_areOpposite) (qq := ([.int (f_Ge_turn X2 Y2 k (gI X j) (gI Y j)), .int (f_Ge_turn X2 Y2 k (gI X (f_Ge_end X j)) (gI Y (f_Ge_end X j)))], [])) (s' := (111, [(9, .int (f_Ge_turn X2 Y2 k (gI X (f_Ge_end X j)) (gI Y (f_Ge_end X j)))), (8, .int (f_Ge_turn X2 Y2 k (gI X j) (gI Y j))), (7, .int (f_Ge_turn X Y j (gI X2 (f_Ge_end X2 k)) (gI Y2 (f_Ge_end X2 k)))), (6, .int (f_Ge_turn X Y j (gI X2 k) (gI Y2 k))), (5, .int (f_Ge_end X2 k)), (4, .int (f_Ge_end X j)), (0, .ref g), (1, .int j), (2, .ref g2), (3, .int k)], [.int (f_Ge_areOpposite (f_Ge_turn X2 Y2 k (gI X j) (gI Y j)) (f_Ge_turn X2 Y2 k (gI X (f_Ge_end X j)) (gI Y (f_Ge_end X j))))])) rfl rfl (fun _ => rfl) rfl rfl rfl (s_Ge_areOpposite (f_Ge_turn X2 Y2 k (gI X j) (gI Y j)) (f_Ge_turn X2 Y2 k (gI X (f_Ge_end X j)) (gI Y (f_Ge_end X j)))  (by omega)) rfl ?_
    refine zbc (q1 := (176, [(9, .int (f_Ge_turn X2 Y2 k (gI X (f_Ge_end X j)) (gI Y (f_Ge_end X j)))), (8, .int (f_Ge_turn X2 Y2 k (gI X j) (gI Y j))), (7, .int (f_Ge_turn X Y j (gI X2 (f_Ge_end X2 k)) (gI Y2 (f_Ge_end X2 k)))), (6, .int (f_Ge_turn X Y j (gI X2 k) (gI Y2 k))), (5, .int (f_Ge_end X2 k)), (4, .int (f_Ge_end X j)), (0, .ref g), (1, .int j), (2, .ref g2), (3, .int k)], [])) (q2 := (114, [(9, .int (f_Ge_turn X2 Y2 k (gI X (f_Ge_end X j)) (gI Y (f_Ge_end X j)))), (8, .int (f_Ge_turn X2 Y2 k (gI X j) (gI Y j))), (7, .int (f_Ge_turn X Y j (gI X2 (f_Ge_end X2 k)) (gI Y2 (f_Ge_end X2 k)))), (6, .int (f_Ge_turn X Y j (gI X2 k) (gI Y2 k))), (5, .int (f_Ge_end X2 k)), (4, .int (f_Ge_end X j)), (0, .ref g), (1, .int j), (2, .ref g2), (3, .int k)], [])) (cB := zc .ne (f_Ge_areOpposite (f_Ge_turn X2 Y2 k (gI X j) (gI Y j)) (f_Ge_turn X2 Y2 k (gI X (f_Ge_end X j)) (gI Y (f_Ge_end X j)))) 0) (off := 65) (lv := [(9, .int (f_Ge_turn X2 Y2 k (gI X (f_Ge_end X j)) (gI Y (f_Ge_end X j)))), (8, .int (f_Ge_turn X2 Y2 k (gI X j) (gI Y j))), (7, .int (f_Ge_turn X Y j (gI X2 (f_Ge_end X2 k)) (gI Y2 (f_Ge_end X2 k)))), (6, .int (f_Ge_turn X Y j (gI X2 k) (gI Y2 k))), (5, .int (f_Ge_end X2 k)), (4, .int (f_Ge_end X j)), (0, .ref g), (1, .int j), (2, .ref g2), (3, .int k)]) (st := []) rfl rfl rfl rfl rfl (fun c111 => ?_) (fun c111 => ?_)
    · rw [c111]
      exact s_Ge_sideMeets_176 X Y X2 Y2 j k g px py pb kd hg hX hY hXY hn g2 px2 py2 pb2 kd2 hg2 hX2 hY2 hXY2 hn2 hj hk (by omega)
    · rw [c111]
      exact s_Ge_sideMeets_114 X Y X2 Y2 j k g px py pb kd hg hX hY hXY hn g2 px2 py2 pb2 kd2 hg2 hX2 hY2 hXY2 hn2 hj hk (by omega)
def f_Bo_apart (a b c d : Int32) : Int32 := if 0 < (if (c - b) < (a - d) then (a - d) else (c - b)) then (if (c - b) < (a - d) then (a - d) else (c - b)) else 0
theorem s_Bo_apart {fr lo : Nat} {h : zH} (a b c d : Int32)  (hlo : 60 ≤ lo) : zAns (fr + 1) lo 53 [.int a, .int b, .int c, .int d] h (some (.int (f_Bo_apart a b c d)), h) := by
  unfold f_Bo_apart
  refine zeb (fr := fr + 0) (M := M_Bo_apart) rfl (Nat.le_trans (by decide) hlo) rfl ?_
  have e0 : mL M_Bo_apart = 4 := rfl
  refine zeN (q := ((7, [(0, .int a), (1, .int b), (2, .int c), (3, .int d)], [.int (a - d), .int (c - b), .int 0]), h)) 7 rfl ?_
  refine zemx rfl rfl rfl (Nat.le_trans (Nat.le_of_eq (rfl : _ = 14)) (by omega)) ?_
  refine zemx rfl rfl rfl (Nat.le_trans (Nat.le_of_eq (rfl : _ = 13)) (by omega)) ?_
  exact zer rfl rfl
