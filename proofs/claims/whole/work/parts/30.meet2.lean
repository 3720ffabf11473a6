-- conditions over whole numbers; truth values
theorem zc_lt (x y : Int32) : zc .lt x y = decide (x.toInt < y.toInt) := decide_eq_decide.mpr Int32.lt_iff_toInt_lt
theorem zc_ge (x y : Int32) : zc .ge x y = decide (y.toInt ≤ x.toInt) := decide_eq_decide.mpr Int32.le_iff_toInt_le
theorem zc_gt (x y : Int32) : zc .gt x y = decide (y.toInt < x.toInt) := decide_eq_decide.mpr Int32.lt_iff_toInt_lt
theorem zc_le (x y : Int32) : zc .le x y = decide (x.toInt ≤ y.toInt) := decide_eq_decide.mpr Int32.le_iff_toInt_le
theorem zc_eq (x y : Int32) : zc .eq x y = decide (x.toInt = y.toInt) := decide_eq_decide.mpr ⟨fun e => by rw [e], fun e => Int32.toInt_inj.mp e⟩
theorem zc_ne (x y : Int32) : zc .ne x y = decide (¬ x.toInt = y.toInt) := decide_eq_decide.mpr ⟨fun e e2 => e (Int32.toInt_inj.mp e2), fun e e2 => e (by rw [e2])⟩
def b2 (c : Bool) : Int32 := bif c then 1 else 0
theorem b2_eq (c : Bool) : zc .eq (b2 c) 0 = !c := by cases c <;> rfl
theorem b2_ne (c : Bool) : zc .ne (b2 c) 0 = c := by cases c <;> rfl
def zBtw (a v b : Int) : Bool := decide ((a ≤ v ∧ v ≤ b) ∨ (b ≤ v ∧ v ≤ a))
def zOpp (p q : Int) : Bool := decide ((p < 0 ∧ 0 < q) ∨ (0 < p ∧ q < 0))
def zOn (ax ay bx bz cx cy : Int) : Bool := decide (zTurn ax ay bx bz cx cy = 0) && (zBtw ax cx bx && zBtw ay cy bz)
theorem z_min (a b : Int32) : (if b < a then b else a).toInt = if b.toInt < a.toInt then b.toInt else a.toInt := by
  by_cases h : b < a
  · rw [if_pos h, if_pos (Int32.lt_iff_toInt_lt.mp h)]
  · rw [if_neg h, if_neg (fun h2 => h (Int32.lt_iff_toInt_lt.mpr h2))]
theorem z_max (a b : Int32) : (if a < b then b else a).toInt = if a.toInt < b.toInt then b.toInt else a.toInt := by
  by_cases h : a < b
  · rw [if_pos h, if_pos (Int32.lt_iff_toInt_lt.mp h)]
  · rw [if_neg h, if_neg (fun h2 => h (Int32.lt_iff_toInt_lt.mpr h2))]
theorem z_isBetween (c a b : Int32) : f_Ge_isBetween c a b = b2 (zBtw a.toInt c.toInt b.toInt) := by
  unfold f_Ge_isBetween f_Ge_isBetween_22 b2 zBtw
  rw [zc_gt, zc_gt, z_min a b, z_max a b]
  simp only [Bool.cond_decide]
  repeat' split
  all_goals first | rfl | (exfalso; omega)
