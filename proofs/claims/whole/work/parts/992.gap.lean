-- gaps of rectangles
theorem gapm_n {a b c d : Int32} (ha : zDx a.toInt) (hb : zDx b.toInt) (hc : zDx c.toInt) (hd : zDx d.toInt) : (f_Mo_gap a b c d).toInt = pGp a.toInt b.toInt c.toInt d.toInt := by
  unfold zDx at *
  unfold f_Mo_gap pGp
  rw [zc_ge, zc_ge]
  by_cases e1 : b.toInt < c.toInt
  · rw [decide_eq_false (show ¬ c.toInt ≤ b.toInt by omega), if_pos e1, cond_false, z_i2l, z_sub (by omega) (by omega)]
  · rw [decide_eq_true (show c.toInt ≤ b.toInt by omega), if_neg e1, cond_true]
    by_cases e2 : d.toInt < a.toInt
    · rw [decide_eq_false (show ¬ a.toInt ≤ d.toInt by omega), if_pos e2, cond_false, z_i2l, z_sub (by omega) (by omega)]
    · rw [decide_eq_true (show a.toInt ≤ d.toInt by omega), if_neg e2]
      rfl
theorem gapc_n {a b c d : Int32} (ha : zDx a.toInt) (hb : zDx b.toInt) (hc : zDx c.toInt) (hd : zDx d.toInt) (h1 : a.toInt ≤ b.toInt) (h2 : c.toInt ≤ d.toInt) : (f_Bo_apart a b c d).toInt = pGp a.toInt b.toInt c.toInt d.toInt := by
  unfold zDx at *
  have s1 := z_sub (a := c) (b := b) (by omega) (by omega)
  have s2 := z_sub (a := a) (b := d) (by omega) (by omega)
  unfold f_Bo_apart pGp
  have m : (if (c - b) < (a - d) then (a - d) else (c - b)).toInt = if c.toInt - b.toInt < a.toInt - d.toInt then a.toInt - d.toInt else c.toInt - b.toInt := by
    rw [mx_i]
    rw [s1, s2]
    split
    · exact s2
    · exact s1
  generalize (if (c - b) < (a - d) then (a - d) else (c - b)) = z at m
  rw [mx_i, z_i0]
  by_cases e1 : b.toInt < c.toInt
  · rw [if_neg (by omega)] at m
    rw [if_pos e1, if_pos (by omega), m]
  · rw [if_neg e1]
    by_cases e2 : d.toInt < a.toInt
    · rw [if_pos (by omega)] at m
      rw [if_pos e2, if_pos (by omega), m]
    · rw [if_neg e2]
      have : ¬ 0 < z.toInt := by rw [m]; split <;> omega
      rw [if_neg this]
      rfl
