-- the first row of a square
theorem t16_n : ∀ a : Fin 32, Int32.ofNat a.1 / 16 * 16 = Int32.ofNat (a.1 / 16 * 16) := by decide +kernel
theorem t16_e {T r : Nat} (hT : T < 2) (hr : r < 16) : Int32.ofNat (16 * T + r) / 16 * 16 = Int32.ofNat (16 * T) := by
  have k := t16_n ⟨16 * T + r, by omega⟩
  rw [k]
  show Int32.ofNat ((16 * T + r) / 16 * 16) = _
  rw [show (16 * T + r) / 16 * 16 = 16 * T by omega]
/-- what a table's rows are, for squares -/
def tX (w : yW) (G : List zC) (T : Nat) : Nat → Int := fun r => oB G 0 (w.2.2 (16 + 12 * T) r)
def tY (w : yW) (G : List zC) (T : Nat) : Nat → Int := fun r => oB G 1 (w.2.2 (16 + 12 * T) r)
def tX1 (w : yW) (G : List zC) (T : Nat) : Nat → Int := fun r => oB G 2 (w.2.2 (16 + 12 * T) r)
def tY1 (w : yW) (G : List zC) (T : Nat) : Nat → Int := fun r => oB G 3 (w.2.2 (16 + 12 * T) r)
def tD (w : yW) (G : List zC) (T : Nat) : Nat → Nat := fun r => oH G (w.2.2 (16 + 12 * T) r)
def tSh (w : yW) (G : List zC) (T r l s : Nat) : Bool := decide (l < tD w G T s) && decide (ixQ (tX w G T) (tY w G T) s l = ixQ (tX w G T) (tY w G T) r l)
theorem fore_L {w w' : yW} {G : List zC} {T r l y : Nat} (h : INV w G) (hs : sRw w w') (hT : T < 2) (h2 : r < 16) (hy : w.2.2 (16 + 12 * T) r = some y) (hl : l ≤ 8) : ∀ (f s : Nat), s ≤ r → r < s + f → g_Mo_foremost_8 (Int32.ofNat (16 * T + r)) (Int32.ofNat l) w' f (Int32.ofNat (16 * T + s)) = b2 (!anF (tSh w G T r l) (r - s) s)
  | 0, s, a, b => by omega
  | f + 1, s, a, b => by
    rw [g_Mo_foremost_8, zc_ge, z_nat (by omega), z_nat (by omega)]
    by_cases e : s = r
    · rw [decide_eq_true (by omega), e, Nat.sub_self]
      rfl
    · rw [decide_eq_false (by omega), n_inc2, show 16 * T + s + 1 = 16 * T + (s + 1) by omega, fore_L h hs hT h2 hy hl f (s + 1) (by omega) (by omega), shares_n h hs hT (by omega) h2 hy hl, b2_eq, show r - s = (r - (s + 1)) + 1 by omega, anF]
      show (bif !tSh w G T r l s then b2 (!anF (tSh w G T r l) (r - (s + 1)) (s + 1)) else 0) = _
      generalize anF (tSh w G T r l) (r - (s + 1)) (s + 1) = z
      cases tSh w G T r l s <;> cases z <;> rfl
theorem fore_n {w w' : yW} {G : List zC} {T r l y : Nat} (h : INV w G) (hs : sRw w w') (hT : T < 2) (h2 : r < 16) (hy : w.2.2 (16 + 12 * T) r = some y) (hl : l ≤ 8) : e_Mo_foremost (Int32.ofNat (16 * T + r)) (Int32.ofNat l) w' = b2 (ixF (tD w G T) (tX w G T) (tY w G T) r l) := by
  unfold e_Mo_foremost
  have k := fore_L h hs hT h2 hy hl 33 0 (by omega) (by omega)
  rw [Nat.add_zero] at k
  rw [t16_e hT h2, k]
  congr 1
  apply Bool.eq_iff_iff.mpr
  rw [ixF_t, Bool.not_eq_true', Nat.sub_zero]
  constructor
  · intro a s hs1 hs2 hs3
    have : anF (tSh w G T r l) r 0 = true := (anF_iff _ _ _).mpr ⟨s, by omega, by omega, by
      unfold tSh
      rw [decide_eq_true hs2, decide_eq_true hs3]
      rfl⟩
    rw [a] at this
    cases this
  · intro a
    cases hz : anF (tSh w G T r l) r 0 with
    | false => rfl
    | true =>
      obtain ⟨s, b1, b2, b3⟩ := (anF_iff _ _ _).mp hz
      unfold tSh at b3
      rw [Bool.and_eq_true] at b3
      exact absurd (of_decide_eq_true b3.2) (a s (by omega) (of_decide_eq_true b3.1))
