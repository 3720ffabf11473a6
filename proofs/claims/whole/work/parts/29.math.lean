-- what the mirror functions say over whole numbers
theorem b_mul {a b : Int} {A B : Int} (h1 : -A ≤ a) (h2 : a ≤ A) (h3 : -B ≤ b) (h4 : b ≤ B) : -(A * B) ≤ a * b ∧ a * b ≤ A * B := by
  have p1 : 0 ≤ (A - a) * (B + b) := Int.mul_nonneg (by omega) (by omega)
  have p2 : 0 ≤ (A + a) * (B - b) := Int.mul_nonneg (by omega) (by omega)
  have p3 : 0 ≤ (A - a) * (B - b) := Int.mul_nonneg (by omega) (by omega)
  have p4 : 0 ≤ (A + a) * (B + b) := Int.mul_nonneg (by omega) (by omega)
  simp only [Int.sub_mul, Int.mul_sub, Int.add_mul, Int.mul_add] at p1 p2 p3 p4
  constructor <;> omega
/-- coordinates -/
def zCo (X : List Int32) : Prop := ∀ v ∈ X, 0 ≤ v.toInt ∧ v.toInt ≤ 255
theorem zCo_g {X : List Int32} {j : Int32} (h : zCo X) (hj : zIx j X.length) : 0 ≤ (gI X j).toInt ∧ (gI X j).toInt ≤ 255 := by
  have h1 := zIx_a hj
  have h2 : j.toNatClampNeg < X.length := by have := hj.2; omega
  have e : gI X j = X[j.toNatClampNeg] := by simp [gI, List.getD_eq_getElem?_getD, h2]
  rw [e]
  exact h _ (List.getElem_mem h2)
/-- twice the area of a triangle, with its sign -/
def zTurn (ax ay bx bz cx cy : Int) : Int := (bx - ax) * (cy - ay) - (bz - ay) * (cx - ax)
theorem zTurn_b {ax ay bx bz cx cy : Int} (h1 : 0 ≤ ax ∧ ax ≤ 255) (h2 : 0 ≤ ay ∧ ay ≤ 255) (h3 : 0 ≤ bx ∧ bx ≤ 255) (h4 : 0 ≤ bz ∧ bz ≤ 255) (h5 : 0 ≤ cx ∧ cx ≤ 255) (h6 : 0 ≤ cy ∧ cy ≤ 255) : -130050 ≤ zTurn ax ay bx bz cx cy ∧ zTurn ax ay bx bz cx cy ≤ 130050 := by
  have p := b_mul (a := bx - ax) (b := cy - ay) (A := 255) (B := 255) (by omega) (by omega) (by omega) (by omega)
  have q := b_mul (a := bz - ay) (b := cx - ax) (A := 255) (B := 255) (by omega) (by omega) (by omega) (by omega)
  unfold zTurn
  omega
theorem z_turn {X Y : List Int32} {j x y : Int32} (hX : zCo X) (hY : zCo Y) (hXY : Y.length = X.length) (hn : X.length ≤ 1000) (hj : zIx j X.length) (hx : 0 ≤ x.toInt ∧ x.toInt ≤ 255) (hy : 0 ≤ y.toInt ∧ y.toInt ≤ 255) :
    (f_Ge_turn X Y j x y).toInt = zTurn (gI X j).toInt (gI Y j).toInt (gI X (f_Ge_end X j)).toInt (gI Y (f_Ge_end X j)).toInt x.toInt y.toInt := by
  have he := zIx_end hn hj
  have a1 := zCo_g hX hj
  have a2 := zCo_g hY (zIx_s hj hXY)
  have a3 := zCo_g hX he
  have a4 := zCo_g hY (zIx_s he hXY)
  have s1 := z_sub (a := gI X (f_Ge_end X j)) (b := gI X j) (by omega) (by omega)
  have s2 := z_sub (a := y) (b := gI Y j) (by omega) (by omega)
  have s3 := z_sub (a := gI Y (f_Ge_end X j)) (b := gI Y j) (by omega) (by omega)
  have s4 := z_sub (a := x) (b := gI X j) (by omega) (by omega)
  have p := b_mul (a := (gI X (f_Ge_end X j)).toInt - (gI X j).toInt) (b := y.toInt - (gI Y j).toInt) (A := 255) (B := 255) (by omega) (by omega) (by omega) (by omega)
  have q := b_mul (a := (gI Y (f_Ge_end X j)).toInt - (gI Y j).toInt) (b := x.toInt - (gI X j).toInt) (A := 255) (B := 255) (by omega) (by omega) (by omega) (by omega)
  have m1 := z_mul (a := gI X (f_Ge_end X j) - gI X j) (b := y - gI Y j) (by rw [s1, s2]; omega) (by rw [s1, s2]; omega)
  have m2 := z_mul (a := gI Y (f_Ge_end X j) - gI Y j) (b := x - gI X j) (by rw [s3, s4]; omega) (by rw [s3, s4]; omega)
  rw [s1, s2] at m1
  rw [s3, s4] at m2
  unfold f_Ge_turn zTurn
  rw [z_sub (by rw [m1, m2]; omega) (by rw [m1, m2]; omega), m1, m2]
theorem z_subL {a b : Int64} (h1 : -9223372036854775808 ≤ a.toInt - b.toInt) (h2 : a.toInt - b.toInt < 9223372036854775808) : (a - b).toInt = a.toInt - b.toInt := by
  rw [Int64.toInt_sub, Int.bmod_def]
  omega
theorem z_addL {a b : Int64} (h1 : -9223372036854775808 ≤ a.toInt + b.toInt) (h2 : a.toInt + b.toInt < 9223372036854775808) : (a + b).toInt = a.toInt + b.toInt := by
  rw [Int64.toInt_add, Int.bmod_def]
  omega
theorem z_mulL {a b : Int64} (h1 : -9223372036854775808 ≤ a.toInt * b.toInt) (h2 : a.toInt * b.toInt < 9223372036854775808) : (a * b).toInt = a.toInt * b.toInt := by
  rw [Int64.toInt_mul, Int.bmod_def]
  omega
theorem z_i2l (a : Int32) : a.toInt64.toInt = a.toInt := Int32.toInt_toInt64 a
theorem z_cross {ax ay bx bz cx cy : Int32} (h1 : 0 ≤ ax.toInt ∧ ax.toInt ≤ 255) (h2 : 0 ≤ ay.toInt ∧ ay.toInt ≤ 255) (h3 : 0 ≤ bx.toInt ∧ bx.toInt ≤ 255) (h4 : 0 ≤ bz.toInt ∧ bz.toInt ≤ 255) (h5 : 0 ≤ cx.toInt ∧ cx.toInt ≤ 255) (h6 : 0 ≤ cy.toInt ∧ cy.toInt ≤ 255) :
    (f_Mo_cross ax ay bx bz cx cy).toInt = zTurn ax.toInt ay.toInt bx.toInt bz.toInt cx.toInt cy.toInt := by
  have s1 := z_sub (a := bx) (b := ax) (by omega) (by omega)
  have s2 := z_sub (a := cy) (b := ay) (by omega) (by omega)
  have s3 := z_sub (a := bz) (b := ay) (by omega) (by omega)
  have s4 := z_sub (a := cx) (b := ax) (by omega) (by omega)
  have p := b_mul (a := bx.toInt - ax.toInt) (b := cy.toInt - ay.toInt) (A := 255) (B := 255) (by omega) (by omega) (by omega) (by omega)
  have q := b_mul (a := bz.toInt - ay.toInt) (b := cx.toInt - ax.toInt) (A := 255) (B := 255) (by omega) (by omega) (by omega) (by omega)
  have m1 := z_mulL (a := (bx - ax).toInt64) (b := (cy - ay).toInt64) (by rw [z_i2l, z_i2l, s1, s2]; omega) (by rw [z_i2l, z_i2l, s1, s2]; omega)
  have m2 := z_mulL (a := (bz - ay).toInt64) (b := (cx - ax).toInt64) (by rw [z_i2l, z_i2l, s3, s4]; omega) (by rw [z_i2l, z_i2l, s3, s4]; omega)
  rw [z_i2l, z_i2l, s1, s2] at m1
  rw [z_i2l, z_i2l, s3, s4] at m2
  unfold f_Mo_cross zTurn
  rw [z_subL (by rw [m1, m2]; omega) (by rw [m1, m2]; omega), m1, m2]
