-- what may be wrong with a shape
/-- a path that turns back at its middle point -/
def zSt (ax ay bx bz cx cy : Int) : Bool := decide (zTurn ax ay bx bz cx cy = 0) && decide (0 < (ax - bx) * (cx - bx) + (ay - bz) * (cy - bz))
def zDx (x : Int) : Prop := 0 ≤ x ∧ x ≤ 255
theorem z_dot {a b c d e f : Int32} (ha : zDx a.toInt) (hb : zDx b.toInt) (hc : zDx c.toInt) (hd : zDx d.toInt) (he : zDx e.toInt) (hf : zDx f.toInt) : ((a - b) * (c - b) + (d - e) * (f - e)).toInt = (a.toInt - b.toInt) * (c.toInt - b.toInt) + (d.toInt - e.toInt) * (f.toInt - e.toInt) := by
  unfold zDx at *
  have s1 := z_sub (a := a) (b := b) (by omega) (by omega)
  have s2 := z_sub (a := c) (b := b) (by omega) (by omega)
  have s3 := z_sub (a := d) (b := e) (by omega) (by omega)
  have s4 := z_sub (a := f) (b := e) (by omega) (by omega)
  have p := b_mul (a := a.toInt - b.toInt) (b := c.toInt - b.toInt) (A := 255) (B := 255) (by omega) (by omega) (by omega) (by omega)
  have q := b_mul (a := d.toInt - e.toInt) (b := f.toInt - e.toInt) (A := 255) (B := 255) (by omega) (by omega) (by omega) (by omega)
  have m1 := z_mul (a := a - b) (b := c - b) (by rw [s1, s2]; omega) (by rw [s1, s2]; omega)
  have m2 := z_mul (a := d - e) (b := f - e) (by rw [s3, s4]; omega) (by rw [s3, s4]; omega)
  rw [z_add (by rw [m1, m2, s1, s2, s3, s4]; omega) (by rw [m1, m2, s1, s2, s3, s4]; omega), m1, m2, s1, s2, s3, s4]
theorem opp_b (p q : Int) : (bif decide (0 ≤ p) then (bif decide (p ≤ 0) then (0 : Int32) else (bif decide (0 ≤ q) then 0 else 1)) else (bif decide (0 < q) then 1 else (bif decide (p ≤ 0) then 0 else (bif decide (0 ≤ q) then 0 else 1)))) = b2 (decide ((p < 0 ∧ 0 < q) ∨ (0 < p ∧ q < 0))) := by
  by_cases e1 : 0 ≤ p
  · rw [decide_eq_true e1]
    by_cases e2 : p ≤ 0
    · rw [decide_eq_true e2, decide_eq_false (show ¬ ((p < 0 ∧ 0 < q) ∨ (0 < p ∧ q < 0)) by omega)]; rfl
    · rw [decide_eq_false e2]
      by_cases e3 : 0 ≤ q
      · rw [decide_eq_true e3, decide_eq_false (show ¬ ((p < 0 ∧ 0 < q) ∨ (0 < p ∧ q < 0)) by omega)]; rfl
      · rw [decide_eq_false e3, decide_eq_true (show ((p < 0 ∧ 0 < q) ∨ (0 < p ∧ q < 0)) by omega)]; rfl
  · rw [decide_eq_false e1]
    by_cases e3 : 0 < q
    · rw [decide_eq_true e3, decide_eq_true (show ((p < 0 ∧ 0 < q) ∨ (0 < p ∧ q < 0)) by omega)]; rfl
    · rw [decide_eq_false e3, decide_eq_true (show p ≤ 0 by omega), decide_eq_false (show ¬ ((p < 0 ∧ 0 < q) ∨ (0 < p ∧ q < 0)) by omega)]; rfl
theorem mt_bool (o1 o2 o3 o4 p1 p2 : Bool) : (bif ((o1 || o2) || (o3 || o4)) then (1 : Int32) else (bif !p1 then 0 else (bif !p2 then 0 else 1))) = b2 ((p1 && p2) || (o1 || (o2 || (o3 || o4)))) := by
  cases o1 <;> cases o2 <;> cases o3 <;> cases o4 <;> cases p1 <;> cases p2 <;> rfl
section STK
variable {w : yW} {a b c d : Nat}
def dX (w : yW) (i : Nat) : Int := (w.1 65 i).toInt
def dY (w : yW) (i : Nat) : Int := (w.1 66 i).toInt
theorem stuck_n (ha : a < 6) (hb : b < 6) (hc : c < 6) (h1 : zDx (dX w a)) (h2 : zDx (dY w a)) (h3 : zDx (dX w b)) (h4 : zDx (dY w b)) (h5 : zDx (dX w c)) (h6 : zDx (dY w c)) : e_Mo_stuck (Int32.ofNat a) (Int32.ofNat b) (Int32.ofNat c) w = b2 (zSt (dX w a) (dY w a) (dX w b) (dY w b) (dX w c) (dY w c)) := by
  unfold e_Mo_stuck zSt
  rw [n_clamp (by omega), n_clamp (by omega), n_clamp (by omega), lc_ne, z_cross h1 h2 h3 h4 h5 h6, z_l0, zc_le, z_dot h1 h3 h5 h2 h4 h6, z_i0]
  show (bif decide (¬ zTurn (dX w a) (dY w a) (dX w b) (dY w b) (dX w c) (dY w c) = 0) then (0 : Int32) else (bif decide ((dX w a - dX w b) * (dX w c - dX w b) + (dY w a - dY w b) * (dY w c - dY w b) ≤ 0) then 0 else 1)) = _
  by_cases e1 : zTurn (dX w a) (dY w a) (dX w b) (dY w b) (dX w c) (dY w c) = 0
  · rw [decide_eq_false (not_not_intro e1), decide_eq_true e1]
    by_cases e2 : (dX w a - dX w b) * (dX w c - dX w b) + (dY w a - dY w b) * (dY w c - dY w b) ≤ 0
    · rw [decide_eq_true e2, decide_eq_false (by omega)]; rfl
    · rw [decide_eq_false e2, decide_eq_true (by omega)]; rfl
  · rw [decide_eq_true e1, decide_eq_false e1]; rfl
theorem apart_n (ha : a < 6) (hb : b < 6) (hc : c < 6) (hd : d < 6) (h1 : zDx (dX w a)) (h2 : zDx (dY w a)) (h3 : zDx (dX w b)) (h4 : zDx (dY w b)) (h5 : zDx (dX w c)) (h6 : zDx (dY w c)) (h7 : zDx (dX w d)) (h8 : zDx (dY w d)) : e_Mo_apart (Int32.ofNat a) (Int32.ofNat b) (Int32.ofNat c) (Int32.ofNat d) w = b2 (zOpp (zTurn (dX w a) (dY w a) (dX w b) (dY w b) (dX w c) (dY w c)) (zTurn (dX w a) (dY w a) (dX w b) (dY w b) (dX w d) (dY w d))) := by
  unfold e_Mo_apart
  have t1 : (f_Mo_cross (w.1 65 a) (w.1 66 a) (w.1 65 b) (w.1 66 b) (w.1 65 c) (w.1 66 c)).toInt = zTurn (dX w a) (dY w a) (dX w b) (dY w b) (dX w c) (dY w c) := z_cross h1 h2 h3 h4 h5 h6
  have t2 : (f_Mo_cross (w.1 65 a) (w.1 66 a) (w.1 65 b) (w.1 66 b) (w.1 65 d) (w.1 66 d)).toInt = zTurn (dX w a) (dY w a) (dX w b) (dY w b) (dX w d) (dY w d) := z_cross h1 h2 h3 h4 h7 h8
  rw [n_clamp (by omega), n_clamp (by omega), n_clamp (by omega), n_clamp (by omega)]
  simp only [lc_ge, lc_le, lc_gt, t1, t2, z_l0]
  unfold zOpp
  generalize zTurn (dX w a) (dY w a) (dX w b) (dY w b) (dX w c) (dY w c) = p
  generalize zTurn (dX w a) (dY w a) (dX w b) (dY w b) (dX w d) (dY w d) = q
  exact opp_b p q
theorem c59_n (ha : a < 6) (hb : b < 6) (hc : c < 6) (hd : d < 6) (h1 : zDx (dX w a)) (h2 : zDx (dY w a)) (h3 : zDx (dX w b)) (h4 : zDx (dY w b)) (h5 : zDx (dX w c)) (h6 : zDx (dY w c)) (h7 : zDx (dX w d)) (h8 : zDx (dY w d)) : g_Mo_clash_59 (Int32.ofNat a) (Int32.ofNat b) (Int32.ofNat c) (Int32.ofNat d) w = b2 (zOn (dX w a) (dY w a) (dX w b) (dY w b) (dX w c) (dY w c) || zOn (dX w a) (dY w a) (dX w b) (dY w b) (dX w d) (dY w d)) := by
  unfold g_Mo_clash_59
  rw [n_clamp (by omega), n_clamp (by omega), n_clamp (by omega), n_clamp (by omega), z_on h1 h2 h3 h4 h5 h6, z_on h1 h2 h3 h4 h7 h8, b2_eq, b2_ne]
  show (bif zOn (dX w a) (dY w a) (dX w b) (dY w b) (dX w c) (dY w c) then (1 : Int32) else (bif !zOn (dX w a) (dY w a) (dX w b) (dY w b) (dX w d) (dY w d) then 0 else 1)) = _
  cases zOn (dX w a) (dY w a) (dX w b) (dY w b) (dX w c) (dY w c) <;> cases zOn (dX w a) (dY w a) (dX w b) (dY w b) (dX w d) (dY w d) <;> rfl
theorem c158_n {o : Bool} (ha : a < 6) (hb : b < 6) (hc : c < 6) (hd : d < 6) (h1 : zDx (dX w a)) (h2 : zDx (dY w a)) (h3 : zDx (dX w b)) (h4 : zDx (dY w b)) (h5 : zDx (dX w c)) (h6 : zDx (dY w c)) (h7 : zDx (dX w d)) (h8 : zDx (dY w d)) : g_Mo_clash_158 (Int32.ofNat a) (Int32.ofNat b) (Int32.ofNat c) (Int32.ofNat d) w (b2 o) = b2 (o || (zOn (dX w c) (dY w c) (dX w d) (dY w d) (dX w a) (dY w a) || zOn (dX w c) (dY w c) (dX w d) (dY w d) (dX w b) (dY w b))) := by
  unfold g_Mo_clash_158
  rw [n_clamp (by omega), n_clamp (by omega), n_clamp (by omega), n_clamp (by omega), z_on h5 h6 h7 h8 h1 h2, z_on h5 h6 h7 h8 h3 h4, b2_eq, b2_ne, b2_ne]
  show (bif o then (1 : Int32) else bif zOn (dX w c) (dY w c) (dX w d) (dY w d) (dX w a) (dY w a) then (1 : Int32) else (bif !zOn (dX w c) (dY w c) (dX w d) (dY w d) (dX w b) (dY w b) then 0 else 1)) = _
  cases o <;> cases zOn (dX w c) (dY w c) (dX w d) (dY w d) (dX w a) (dY w a) <;> cases zOn (dX w c) (dY w c) (dX w d) (dY w d) (dX w b) (dY w b) <;> rfl
theorem nc_ne {p q : Nat} (hp : p < 2147483648) (hq : q < 2147483648) : zc .ne (Int32.ofNat p) (Int32.ofNat q) = !decide (p = q) := by
  rw [zc_ne, z_nat hp, z_nat hq]
  by_cases e : p = q
  · rw [decide_eq_true e, decide_eq_false (by omega)]; rfl
  · rw [decide_eq_false e, decide_eq_true (by omega)]; rfl
theorem c25_n (ha : a < 6) (hb : b < 6) (hc : c < 6) (hd : d < 6) (h1 : zDx (dX w a)) (h2 : zDx (dY w a)) (h3 : zDx (dX w b)) (h4 : zDx (dY w b)) (h5 : zDx (dX w c)) (h6 : zDx (dY w c)) (h7 : zDx (dX w d)) (h8 : zDx (dY w d)) : g_Mo_clash_25 (Int32.ofNat a) (Int32.ofNat b) (Int32.ofNat c) (Int32.ofNat d) w = b2 (if b = c then zSt (dX w a) (dY w a) (dX w b) (dY w b) (dX w d) (dY w d) else if d = a then zSt (dX w c) (dY w c) (dX w d) (dY w d) (dX w b) (dY w b) else zMt (dX w a) (dY w a) (dX w b) (dY w b) (dX w c) (dY w c) (dX w d) (dY w d)) := by
  unfold g_Mo_clash_25
  rw [nc_ne (by omega) (by omega), nc_ne (by omega) (by omega)]
  by_cases e1 : b = c
  · rw [decide_eq_true e1, if_pos e1]
    exact stuck_n ha hb hd h1 h2 h3 h4 h7 h8
  · rw [decide_eq_false e1, if_neg e1]
    by_cases e2 : d = a
    · rw [decide_eq_true e2, if_pos e2]
      exact stuck_n hc hd hb h5 h6 h7 h8 h3 h4
    · rw [decide_eq_false e2, if_neg e2, c59_n ha hb hc hd h1 h2 h3 h4 h5 h6 h7 h8, c158_n ha hb hc hd h1 h2 h3 h4 h5 h6 h7 h8, apart_n ha hb hc hd h1 h2 h3 h4 h5 h6 h7 h8, apart_n hc hd ha hb h5 h6 h7 h8 h1 h2 h3 h4, b2_ne, b2_eq, b2_eq]
      exact mt_bool ..
end STK
theorem folds_n {X Y : List Int32} {j k : Nat} (hX : zCo X) (hY : zCo Y) (hXY : Y.length = X.length) (hn : X.length ≤ 1000) (hj : j < X.length) (hk : k < X.length) : f_Ge_foldsBack X Y (Int32.ofNat j) (Int32.ofNat k) = b2 (zSt (xC X j) (xC Y j) (xC X k) (xC Y k) (xC X (pE X.length k)) (xC Y (pE X.length k))) := by
  have he := pE_lt (n := X.length) (i := k) (by omega)
  have bX := xC_box hX
  have bY := xC_box hY
  rw [hXY] at bY
  have x1 := bX j hj
  have x2 := bX k hk
  have x3 := bX _ he
  have y1 := bY j hj
  have y2 := bY k hk
  have y3 := bY _ he
  unfold f_Ge_foldsBack f_Ge_foldsBack_96 zSt
  rw [end_n hn hk, gI_n (by omega), gI_n (by omega), gI_n (by omega), gI_n (by omega), gI_n (by omega), gI_n (by omega), zc_ne, zc_ge, z_i0]
  unfold xC at *
  generalize X.getD j 0 = p at *
  generalize X.getD k 0 = q at *
  generalize X.getD (pE X.length k) 0 = r at *
  generalize Y.getD j 0 = s at *
  generalize Y.getD k 0 = t at *
  generalize Y.getD (pE X.length k) 0 = u at *
  have s1 := z_sub (a := q) (b := p) (by omega) (by omega)
  have s2 := z_sub (a := u) (b := t) (by omega) (by omega)
  have s3 := z_sub (a := t) (b := s) (by omega) (by omega)
  have s4 := z_sub (a := r) (b := q) (by omega) (by omega)
  have p1 := b_mul (a := q.toInt - p.toInt) (b := u.toInt - t.toInt) (A := 255) (B := 255) (by omega) (by omega) (by omega) (by omega)
  have p2 := b_mul (a := t.toInt - s.toInt) (b := r.toInt - q.toInt) (A := 255) (B := 255) (by omega) (by omega) (by omega) (by omega)
  have p3 := b_mul (a := q.toInt - p.toInt) (b := r.toInt - q.toInt) (A := 255) (B := 255) (by omega) (by omega) (by omega) (by omega)
  have p4 := b_mul (a := t.toInt - s.toInt) (b := u.toInt - t.toInt) (A := 255) (B := 255) (by omega) (by omega) (by omega) (by omega)
  have m1 := z_mul (a := q - p) (b := u - t) (by rw [s1, s2]; omega) (by rw [s1, s2]; omega)
  have m2 := z_mul (a := t - s) (b := r - q) (by rw [s3, s4]; omega) (by rw [s3, s4]; omega)
  have m3 := z_mul (a := q - p) (b := r - q) (by rw [s1, s4]; omega) (by rw [s1, s4]; omega)
  have m4 := z_mul (a := t - s) (b := u - t) (by rw [s3, s2]; omega) (by rw [s3, s2]; omega)
  rw [z_add (by rw [m3, m4, s1, s2, s3, s4]; omega) (by rw [m3, m4, s1, s2, s3, s4]; omega), m1, m2, m3, m4, s1, s2, s3, s4]
  have k1 : zTurn p.toInt s.toInt q.toInt t.toInt r.toInt u.toInt = (q.toInt - p.toInt) * (u.toInt - t.toInt) - (t.toInt - s.toInt) * (r.toInt - q.toInt) := by unfold zTurn; grind
  have k2 : (p.toInt - q.toInt) * (r.toInt - q.toInt) + (s.toInt - t.toInt) * (u.toInt - t.toInt) = - ((q.toInt - p.toInt) * (r.toInt - q.toInt) + (t.toInt - s.toInt) * (u.toInt - t.toInt)) := by grind
  rw [k1, k2]
  generalize (q.toInt - p.toInt) * (u.toInt - t.toInt) = A
  generalize (t.toInt - s.toInt) * (r.toInt - q.toInt) = B
  generalize (q.toInt - p.toInt) * (r.toInt - q.toInt) + (t.toInt - s.toInt) * (u.toInt - t.toInt) = C
  by_cases e1 : A = B
  · rw [decide_eq_false (not_not_intro e1), decide_eq_true (show A - B = 0 by omega)]
    by_cases e2 : 0 ≤ C
    · rw [decide_eq_true e2, decide_eq_false (show ¬ 0 < -C by omega)]; rfl
    · rw [decide_eq_false e2, decide_eq_true (show 0 < -C by omega)]; rfl
  · rw [decide_eq_true e1, decide_eq_false (show ¬ A - B = 0 by omega)]; rfl
theorem may_n {X Y : List Int32} {i j : Nat} (hX : zCo X) (hY : zCo Y) (hXY : Y.length = X.length) (hn : X.length ≤ 1000) (hi : i < X.length) (hj : j < X.length) : f_Ge_mayNotMeetAsTheyDo X Y (Int32.ofNat i) (Int32.ofNat j) = b2 (if pE X.length i = j then zSt (xC X i) (xC Y i) (xC X j) (xC Y j) (xC X (pE X.length j)) (xC Y (pE X.length j)) else if pE X.length j = i then zSt (xC X j) (xC Y j) (xC X i) (xC Y i) (xC X (pE X.length i)) (xC Y (pE X.length i)) else pMt (xC X) (xC Y) (xC X) (xC Y) X.length X.length i j) := by
  have h1 := pE_lt (n := X.length) (i := i) (by omega)
  have h2 := pE_lt (n := X.length) (i := j) (by omega)
  unfold f_Ge_mayNotMeetAsTheyDo
  rw [end_n hn hi, end_n hn hj, nc_ne (by omega) (by omega), nc_ne (by omega) (by omega)]
  by_cases e1 : pE X.length i = j
  · rw [decide_eq_true e1, if_pos e1]
    exact folds_n hX hY hXY hn hi hj
  · rw [decide_eq_false e1, if_neg e1]
    by_cases e2 : pE X.length j = i
    · rw [decide_eq_true e2, if_pos e2]
      exact folds_n hX hY hXY hn hj hi
    · rw [decide_eq_false e2, if_neg e2]
      exact meets_n hX hY hXY hn hX hY hXY hn hi hj
