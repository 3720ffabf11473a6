theorem lc_le (x y : Int64) : zc .le (lg_cmp x y) 0 = decide (x.toInt ≤ y.toInt) := decide_eq_decide.mpr ((lg_cmp_le x y).trans Int64.le_iff_toInt_le)
theorem lc_ge (x y : Int64) : zc .ge (lg_cmp x y) 0 = decide (y.toInt ≤ x.toInt) := decide_eq_decide.mpr ((lg_cmp_ge x y).trans Int64.le_iff_toInt_le)
theorem lc_lt (x y : Int64) : zc .lt (lg_cmp x y) 0 = decide (x.toInt < y.toInt) := decide_eq_decide.mpr ((lg_cmp_lt x y).trans Int64.lt_iff_toInt_lt)
theorem lc_gt (x y : Int64) : zc .gt (lg_cmp x y) 0 = decide (y.toInt < x.toInt) := decide_eq_decide.mpr ((lg_cmp_gt x y).trans Int64.lt_iff_toInt_lt)
theorem lc_eq (x y : Int64) : zc .eq (lg_cmp x y) 0 = decide (x.toInt = y.toInt) := decide_eq_decide.mpr ((lg_cmp_eq x y).trans ⟨fun e => by rw [e], fun e => Int64.toInt_inj.mp e⟩)
theorem lc_ne (x y : Int64) : zc .ne (lg_cmp x y) 0 = decide (¬ x.toInt = y.toInt) := decide_eq_decide.mpr (not_congr ((lg_cmp_eq x y).trans ⟨fun e => by rw [e], fun e => Int64.toInt_inj.mp e⟩))
theorem z_i0 : (0 : Int32).toInt = 0 := rfl
theorem z_l0 : (0 : Int64).toInt = 0 := rfl
theorem z_mbetween (a v b : Int32) : f_Mo_between a v b = b2 (zBtw a.toInt v.toInt b.toInt) := by
  unfold f_Mo_between f_Mo_between_10 f_Mo_between_20 f_Mo_between_24 b2 zBtw
  rw [zc_gt, zc_gt, zc_gt, zc_le]
  simp only [Bool.cond_decide]
  repeat' split
  all_goals first | rfl | (exfalso; omega)
theorem z_opp (a b : Int32) : f_Ge_areOpposite a b = b2 (zOpp a.toInt b.toInt) := by
  unfold f_Ge_areOpposite f_Ge_areOpposite_8 f_Ge_areOpposite_16 f_Ge_areOpposite_20 b2 zOpp
  rw [zc_ge, zc_ge, zc_gt, zc_le, z_i0]
  simp only [Bool.cond_decide]
  repeat' split
  all_goals first | rfl | (exfalso; omega)
theorem z_on {ax ay bx bz cx cy : Int32} (h1 : 0 ≤ ax.toInt ∧ ax.toInt ≤ 255) (h2 : 0 ≤ ay.toInt ∧ ay.toInt ≤ 255) (h3 : 0 ≤ bx.toInt ∧ bx.toInt ≤ 255) (h4 : 0 ≤ bz.toInt ∧ bz.toInt ≤ 255) (h5 : 0 ≤ cx.toInt ∧ cx.toInt ≤ 255) (h6 : 0 ≤ cy.toInt ∧ cy.toInt ≤ 255) :
    f_Mo_on ax ay bx bz cx cy = b2 (zOn ax.toInt ay.toInt bx.toInt bz.toInt cx.toInt cy.toInt) := by
  unfold f_Mo_on f_Mo_on_40 zOn
  rw [z_mbetween, z_mbetween, b2_eq, b2_eq, lc_ne, z_cross h1 h2 h3 h4 h5 h6, z_l0]
  by_cases h : zTurn ax.toInt ay.toInt bx.toInt bz.toInt cx.toInt cy.toInt = 0
  · rw [decide_eq_false (not_not_intro h), decide_eq_true h]
    cases zBtw ax.toInt cx.toInt bx.toInt <;> cases zBtw ay.toInt cy.toInt bz.toInt <;> rfl
  · rw [decide_eq_true h, decide_eq_false h]
    rfl
theorem z_beside (X Y X2 Y2 : List Int32) (j c : Int32) :
    f_Ge_isBeside X Y X2 Y2 j c = b2 (zBtw (gI X j).toInt (gI X2 c).toInt (gI X (f_Ge_end X j)).toInt && zBtw (gI Y j).toInt (gI Y2 c).toInt (gI Y (f_Ge_end X j)).toInt) := by
  unfold f_Ge_isBeside f_Ge_isBeside_60
  rw [z_isBetween, z_isBetween, b2_eq, b2_eq]
  cases zBtw (gI X j).toInt (gI X2 c).toInt (gI X (f_Ge_end X j)).toInt <;> cases zBtw (gI Y j).toInt (gI Y2 c).toInt (gI Y (f_Ge_end X j)).toInt <;> rfl
/-- two sides meet -/
def zMt (ax ay bx bz cx cy dx dy : Int) : Bool :=
  (zOpp (zTurn ax ay bx bz cx cy) (zTurn ax ay bx bz dx dy) && zOpp (zTurn cx cy dx dy ax ay) (zTurn cx cy dx dy bx bz)) || (zOn ax ay bx bz cx cy || (zOn ax ay bx bz dx dy || (zOn cx cy dx dy ax ay || zOn cx cy dx dy bx bz)))
theorem z_sideMeets {X Y X2 Y2 : List Int32} {j k : Int32} (hX : zCo X) (hY : zCo Y) (hXY : Y.length = X.length) (hn : X.length ≤ 1000) (hj : zIx j X.length) (hX2 : zCo X2) (hY2 : zCo Y2) (hXY2 : Y2.length = X2.length) (hn2 : X2.length ≤ 1000) (hk : zIx k X2.length) :
    f_Ge_sideMeets X Y X2 Y2 j k = b2 (zMt (gI X j).toInt (gI Y j).toInt (gI X (f_Ge_end X j)).toInt (gI Y (f_Ge_end X j)).toInt (gI X2 k).toInt (gI Y2 k).toInt (gI X2 (f_Ge_end X2 k)).toInt (gI Y2 (f_Ge_end X2 k)).toInt) := by
  have he := zIx_end hn hj
  have hf := zIx_end hn2 hk
  have a1 := zCo_g hX hj
  have a2 := zCo_g hY (zIx_s hj hXY)
  have a3 := zCo_g hX he
  have a4 := zCo_g hY (zIx_s he hXY)
  have a5 := zCo_g hX2 hk
  have a6 := zCo_g hY2 (zIx_s hk hXY2)
  have a7 := zCo_g hX2 hf
  have a8 := zCo_g hY2 (zIx_s hf hXY2)
  have t1 := z_turn hX hY hXY hn hj a5 a6
  have t2 := z_turn hX hY hXY hn hj a7 a8
  have t3 := z_turn hX2 hY2 hXY2 hn2 hk a1 a2
  have t4 := z_turn hX2 hY2 hXY2 hn2 hk a3 a4
  unfold f_Ge_sideMeets f_Ge_sideMeets_114 f_Ge_sideMeets_129 f_Ge_sideMeets_145 f_Ge_sideMeets_160 f_Ge_sideMeets_176 f_Ge_sideMeets_180 zMt zOn
  rw [z_opp, z_opp, b2_eq, b2_ne, zc_ne, zc_ne, zc_ne, zc_ne, z_beside, z_beside, z_beside, z_beside, b2_ne, b2_ne, b2_ne, b2_eq, t1, t2, t3, t4, z_i0]
  generalize zTurn (gI X j).toInt (gI Y j).toInt (gI X (f_Ge_end X j)).toInt (gI Y (f_Ge_end X j)).toInt (gI X2 k).toInt (gI Y2 k).toInt = T1
  generalize zTurn (gI X j).toInt (gI Y j).toInt (gI X (f_Ge_end X j)).toInt (gI Y (f_Ge_end X j)).toInt (gI X2 (f_Ge_end X2 k)).toInt (gI Y2 (f_Ge_end X2 k)).toInt = T2
  generalize zTurn (gI X2 k).toInt (gI Y2 k).toInt (gI X2 (f_Ge_end X2 k)).toInt (gI Y2 (f_Ge_end X2 k)).toInt (gI X j).toInt (gI Y j).toInt = T3
  generalize zTurn (gI X2 k).toInt (gI Y2 k).toInt (gI X2 (f_Ge_end X2 k)).toInt (gI Y2 (f_Ge_end X2 k)).toInt (gI X (f_Ge_end X j)).toInt (gI Y (f_Ge_end X j)).toInt = T4
  generalize (zBtw _ _ _ && zBtw _ _ _) = B1
  generalize (zBtw _ _ _ && zBtw _ _ _) = B2
  generalize (zBtw _ _ _ && zBtw _ _ _) = B3
  generalize (zBtw _ _ _ && zBtw _ _ _) = B4
  have e (T : Int) : decide (¬ T = 0) = !decide (T = 0) := decide_not
  rw [e T1, e T2, e T3, e T4]
  generalize zOpp T1 T2 = O1
  generalize zOpp T3 T4 = O2
  generalize decide (T1 = 0) = D1
  generalize decide (T2 = 0) = D2
  generalize decide (T3 = 0) = D3
  generalize decide (T4 = 0) = D4
  cases O1 <;> cases O2 <;> cases D1 <;> cases D2 <;> cases D3 <;> cases D4 <;> cases B1 <;> cases B2 <;> cases B3 <;> cases B4 <;> rfl
