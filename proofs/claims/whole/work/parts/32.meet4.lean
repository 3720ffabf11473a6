theorem z_touching {X Y : List Int32} {a b c d : Int32} (a1 : 0 ≤ (gI X a).toInt ∧ (gI X a).toInt ≤ 255) (a2 : 0 ≤ (gI Y a).toInt ∧ (gI Y a).toInt ≤ 255) (a3 : 0 ≤ (gI X b).toInt ∧ (gI X b).toInt ≤ 255) (a4 : 0 ≤ (gI Y b).toInt ∧ (gI Y b).toInt ≤ 255) (a5 : 0 ≤ (gI X c).toInt ∧ (gI X c).toInt ≤ 255) (a6 : 0 ≤ (gI Y c).toInt ∧ (gI Y c).toInt ≤ 255) (a7 : 0 ≤ (gI X d).toInt ∧ (gI X d).toInt ≤ 255) (a8 : 0 ≤ (gI Y d).toInt ∧ (gI Y d).toInt ≤ 255) :
    f_Mo_touching X Y a b c d = b2 (zMt (gI X a).toInt (gI Y a).toInt (gI X b).toInt (gI Y b).toInt (gI X c).toInt (gI Y c).toInt (gI X d).toInt (gI Y d).toInt) := by
  have t1 : (f_Mo_turn X Y a b c).toInt = _ := z_cross a1 a2 a3 a4 a5 a6
  have t2 : (f_Mo_turn X Y a b d).toInt = _ := z_cross a1 a2 a3 a4 a7 a8
  have t3 : (f_Mo_turn X Y c d a).toInt = _ := z_cross a5 a6 a7 a8 a1 a2
  have t4 : (f_Mo_turn X Y c d b).toInt = _ := z_cross a5 a6 a7 a8 a3 a4
  have l1 : f_Mo_lies X Y a b c = _ := z_on a1 a2 a3 a4 a5 a6
  have l2 : f_Mo_lies X Y a b d = _ := z_on a1 a2 a3 a4 a7 a8
  have l3 : f_Mo_lies X Y c d a = _ := z_on a5 a6 a7 a8 a1 a2
  have l4 : f_Mo_lies X Y c d b = _ := z_on a5 a6 a7 a8 a3 a4
  unfold f_Mo_touching f_Mo_touching_43 f_Mo_touching_98 f_Mo_touching_112 f_Mo_touching_126 f_Mo_touching_140 f_Mo_touching_144 zMt
  rw [l1, l2, l3, l4, b2_ne, b2_ne, b2_ne, b2_eq]
  simp only [lc_le, lc_ge, lc_gt, t1, t2, t3, t4, z_l0]
  generalize zTurn (gI X a).toInt (gI Y a).toInt (gI X b).toInt (gI Y b).toInt (gI X c).toInt (gI Y c).toInt = T1
  generalize zTurn (gI X a).toInt (gI Y a).toInt (gI X b).toInt (gI Y b).toInt (gI X d).toInt (gI Y d).toInt = T2
  generalize zTurn (gI X c).toInt (gI Y c).toInt (gI X d).toInt (gI Y d).toInt (gI X a).toInt (gI Y a).toInt = T3
  generalize zTurn (gI X c).toInt (gI Y c).toInt (gI X d).toInt (gI Y d).toInt (gI X b).toInt (gI Y b).toInt = T4
  generalize zOn _ _ _ _ _ _ = B1
  generalize zOn _ _ _ _ _ _ = B2
  generalize zOn _ _ _ _ _ _ = B3
  generalize zOn _ _ _ _ _ _ = B4
  have s (x y : Int32) (P : Prop) [Decidable P] : (bif decide P then x else y) = if P then x else y := Bool.cond_decide ..
  cases B1 <;> cases B2 <;> cases B3 <;> cases B4 <;> first | (simp only [Bool.true_or, Bool.or_true, Bool.not_false, Bool.not_true, cond_true, cond_false]; done) | (simp only [Bool.or_true, Bool.true_or]; rfl) | skip
  simp only [Bool.or_false, cond_false, Bool.not_false, cond_true, zOpp, b2, ← Bool.decide_and, s]
  repeat' split
  all_goals first | rfl | (exfalso; omega)
