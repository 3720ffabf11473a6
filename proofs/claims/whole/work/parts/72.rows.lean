-- rows as bits, counts of rows
def mkM (f : Nat → Bool) : Nat → Nat
  | 0 => 0
  | n + 1 => mkM f n ||| (if f n then 2 ^ n else 0)
theorem mkM_lt (f : Nat → Bool) : ∀ n, mkM f n < 2 ^ n
  | 0 => Nat.one_pos
  | n + 1 => by
    unfold mkM
    have h := mkM_lt f n
    have e : 2 ^ (n + 1) = 2 ^ n + 2 ^ n := by rw [Nat.pow_succ]; omega
    apply Nat.or_lt_two_pow
    · omega
    · split <;> omega
theorem mkM_tb (f : Nat → Bool) : ∀ n i, (mkM f n).testBit i = (decide (i < n) && f i)
  | 0, i => by
    unfold mkM
    rw [Nat.zero_testBit, decide_eq_false (Nat.not_lt_zero i)]
    rfl
  | n + 1, i => by
    unfold mkM
    rw [Nat.testBit_or, mkM_tb f n i]
    by_cases hf : f n = true
    · rw [if_pos hf, Nat.testBit_two_pow]
      by_cases e : n = i
      · subst e
        rw [decide_eq_true rfl, hf, decide_eq_true (Nat.lt_succ_self n)]
        simp
      · rw [decide_eq_false e]
        by_cases hi : i < n
        · rw [decide_eq_true hi, decide_eq_true (by omega)]; simp
        · rw [decide_eq_false hi, decide_eq_false (by omega)]; simp
    · rw [if_neg hf, Nat.zero_testBit]
      by_cases e : i = n
      · subst e
        rw [Bool.eq_false_iff.mpr hf]
        simp
      · by_cases hi : i < n
        · rw [decide_eq_true hi, decide_eq_true (by omega)]; simp
        · rw [decide_eq_false hi, decide_eq_false (by omega)]; simp
def cntM (f : Nat → Bool) (n : Nat) : Nat := (List.range n).countP f
theorem cntM_succ (f : Nat → Bool) (n : Nat) : cntM f (n + 1) = cntM f n + (if f n then 1 else 0) := by
  unfold cntM
  rw [List.range_succ, List.countP_append, List.countP_singleton]
theorem cntM_le (f : Nat → Bool) : ∀ n, cntM f n ≤ n
  | 0 => Nat.le_refl _
  | n + 1 => by
    rw [cntM_succ]
    have := cntM_le f n
    split <;> omega
theorem bitCount_n {m : Nat} (hm : m < 65536) : e_Ig_bitCount (Int32.ofNat m) = Int32.ofNat (bcN m) := by
  have k1 : (1431655765 : Int32) = Int32.ofNat 1431655765 := rfl
  have k2 : (858993459 : Int32) = Int32.ofNat 858993459 := rfl
  have k3 : (252645135 : Int32) = Int32.ofNat 252645135 := rfl
  have k4 : (63 : Int32) = Int32.ofNat 63 := rfl
  have u1 : (1 : Int32) = Int32.ofNat 1 := rfl
  have u2 : (2 : Int32) = Int32.ofNat 2 := rfl
  have u4 : (4 : Int32) = Int32.ofNat 4 := rfl
  have u8 : (8 : Int32) = Int32.ofNat 8 := rfl
  have u16 : (16 : Int32) = Int32.ofNat 16 := rfl
  have s1 : Int32.ofNat m - (((Int32.ofNat m).toUInt32 >>> ((1 : Int32).toUInt32 &&& Int32.toUInt32 31)).toInt32 &&& (1431655765 : Int32)) = Int32.ofNat (m - ((m >>> 1) &&& 0x55555555)) := by
    rw [u1, k1, mk_ushr (by omega) (by omega), mk_and, mk_sub (bc_le m)]
  have b1 : m - ((m >>> 1) &&& 0x55555555) < 65536 := by omega
  generalize hi1 : m - ((m >>> 1) &&& 0x55555555) = i1 at s1 b1
  have s2 : (Int32.ofNat i1 &&& (858993459 : Int32)) + (((Int32.ofNat i1).toUInt32 >>> ((2 : Int32).toUInt32 &&& Int32.toUInt32 31)).toInt32 &&& (858993459 : Int32)) = Int32.ofNat ((i1 &&& 0x33333333) + ((i1 >>> 2) &&& 0x33333333)) := by
    rw [u2, k2, mk_ushr (by omega) (by omega), mk_and, mk_and, mk_add]
  have b2 : (i1 &&& 0x33333333) + ((i1 >>> 2) &&& 0x33333333) < 131072 := by
    have a1 : i1 &&& 0x33333333 ≤ i1 := Nat.and_le_left
    have a2 : (i1 >>> 2) &&& 0x33333333 ≤ i1 := Nat.le_trans Nat.and_le_left (Nat.shiftRight_le _ _)
    omega
  generalize hi2 : (i1 &&& 0x33333333) + ((i1 >>> 2) &&& 0x33333333) = i2 at s2 b2
  have s3 : (Int32.ofNat i2 + ((Int32.ofNat i2).toUInt32 >>> ((4 : Int32).toUInt32 &&& Int32.toUInt32 31)).toInt32) &&& (252645135 : Int32) = Int32.ofNat ((i2 + (i2 >>> 4)) &&& 0x0f0f0f0f) := by
    rw [u4, k3, mk_ushr (by omega) (by omega), mk_add, mk_and]
  have b3 : (i2 + (i2 >>> 4)) &&& 0x0f0f0f0f < 262144 := by
    have a1 : (i2 + (i2 >>> 4)) &&& 0x0f0f0f0f ≤ i2 + (i2 >>> 4) := Nat.and_le_left
    have a2 : i2 >>> 4 ≤ i2 := Nat.shiftRight_le _ _
    omega
  generalize hi3 : (i2 + (i2 >>> 4)) &&& 0x0f0f0f0f = i3 at s3 b3
  have s4 : Int32.ofNat i3 + ((Int32.ofNat i3).toUInt32 >>> ((8 : Int32).toUInt32 &&& Int32.toUInt32 31)).toInt32 = Int32.ofNat (i3 + (i3 >>> 8)) := by
    rw [u8, mk_ushr (by omega) (by omega), mk_add]
  have b4 : i3 + (i3 >>> 8) < 524288 := by
    have a2 : i3 >>> 8 ≤ i3 := Nat.shiftRight_le _ _
    omega
  generalize hi4 : i3 + (i3 >>> 8) = i4 at s4 b4
  have s5 : (Int32.ofNat i4 + ((Int32.ofNat i4).toUInt32 >>> ((16 : Int32).toUInt32 &&& Int32.toUInt32 31)).toInt32) &&& (63 : Int32) = Int32.ofNat ((i4 + (i4 >>> 16)) &&& 0x3f) := by
    rw [u16, k4, mk_ushr (by omega) (by omega), mk_add, mk_and]
  unfold e_Ig_bitCount
  rw [s1, s2, s3, s4, s5]
  unfold bcN
  simp only [hi1, hi2, hi3, hi4]
theorem bits_n (f : Nat → Bool) : e_Ig_bitCount (Int32.ofNat (mkM f 16)) = Int32.ofNat (cntM f 16) := by
  have h := mkM_lt f 16
  rw [bitCount_n h, bc_16 h, ← bc_cnt]
  unfold cntM
  congr 1
  apply List.countP_congr
  intro i hi
  have : i < 16 := List.mem_range.mp hi
  rw [mkM_tb, decide_eq_true this, Bool.true_and]
/-- a row stands in the reference if it has a place in the class -/
theorem there_n {w : yW} {G : List zC} (h : INV w G) {T Q : Nat} (hT : T < 2) (hQ : Q < 16) : zc .eq (w.1 55 (16 * T + Q)) 0 = yN (w.2.2 (16 + 12 * T) Q) := by
  have k := (h.2.2.1 T Q hT hQ).1
  cases ho : w.2.2 (16 + 12 * T) Q with
  | none =>
    rw [ho] at k
    have k : w.1 55 (16 * T + Q) = 0 := k
    rw [k]
    rfl
  | some x =>
    rw [ho] at k
    have k1 : w.1 55 (16 * T + Q) = 1 := k.1
    rw [k1]
    rfl
def rowP (w : yW) (T : Nat) (Q : Nat) : Bool := yS (w.2.2 (16 + 12 * T) Q)
theorem yN_not (o : Option Nat) : yN o = !yS o := by cases o <;> rfl
theorem rowBits_L {w : yW} {T : Nat} : ∀ n Q, Q ≤ 16 → 16 < Q + n → g_Ta_rowBits_4 (14 + 12 * T) w n (Int32.ofNat (mkM (rowP w T) Q)) (Int32.ofNat Q) = Int32.ofNat (mkM (rowP w T) 16)
  | 0, Q, h1, h2 => by omega
  | n + 1, Q, h1, h2 => by
    rw [g_Ta_rowBits_4, zc_ge, z_nat (by omega), show (16 : Int32).toInt = 16 from rfl]
    by_cases hQ : Q = 16
    · subst hQ
      rw [decide_eq_true (by omega)]
      rfl
    · rw [decide_eq_false (by omega), n_clamp (by omega), n_inc2, mk_1 ⟨Q, by omega⟩, mk_or, show 14 + 12 * T + 2 = 16 + 12 * T by omega, yN_not]
      have ih := rowBits_L (w := w) (T := T) n (Q + 1) (by omega) (by omega)
      have e : mkM (rowP w T) (Q + 1) = mkM (rowP w T) Q ||| (if rowP w T Q then 2 ^ Q else 0) := rfl
      rw [e] at ih
      unfold rowP at ih ⊢
      cases hy : yS (w.2.2 (16 + 12 * T) Q)
      · rw [hy, if_neg (by decide), Nat.or_zero] at ih
        show g_Ta_rowBits_4 (14 + 12 * T) w n (Int32.ofNat (mkM (fun Q => yS (w.2.2 (16 + 12 * T) Q)) Q) ||| 0) (Int32.ofNat (Q + 1)) = _
        rw [show (0 : Int32) = Int32.ofNat 0 from rfl, mk_or, Nat.or_zero]
        exact ih
      · rw [hy, if_pos rfl] at ih
        exact ih
theorem rows_L {w : yW} {G : List zC} (h : INV w G) {T : Nat} (hT : T < 2) : ∀ n Q, Q ≤ 16 → 16 < Q + n → g_Mo_rows_13 (Int32.ofNat T) w n (Int32.ofNat (mkM (rowP w T) Q)) (Int32.ofNat Q) = Int32.ofNat (mkM (rowP w T) 16)
  | 0, Q, h1, h2 => by omega
  | n + 1, Q, h1, h2 => by
    rw [g_Mo_rows_13, zc_ge, z_nat (by omega), show (16 : Int32).toInt = 16 from rfl]
    by_cases hQ : Q = 16
    · subst hQ
      rw [decide_eq_true (by omega)]
      rfl
    · have ei : (16 * Int32.ofNat T + Int32.ofNat Q).toNatClampNeg = 16 * T + Q := by
        rw [show (16 : Int32) = Int32.ofNat 16 from rfl, ← Int32.ofNat_mul, mk_add]
        exact n_clamp (by omega)
      rw [decide_eq_false (by omega), ei, there_n h hT (by omega), n_inc2, mk_1 ⟨Q, by omega⟩, mk_or, yN_not]
      have ih := rows_L h hT n (Q + 1) (by omega) (by omega)
      have e : mkM (rowP w T) (Q + 1) = mkM (rowP w T) Q ||| (if rowP w T Q then 2 ^ Q else 0) := rfl
      rw [e] at ih
      unfold rowP at ih ⊢
      cases hy : yS (w.2.2 (16 + 12 * T) Q)
      · rw [hy, if_neg (by decide), Nat.or_zero] at ih
        exact ih
      · rw [hy, if_pos rfl] at ih
        exact ih
theorem rowBits_n {w : yW} {T : Nat} : e_Ta_rowBits (14 + 12 * T) w = Int32.ofNat (mkM (rowP w T) 16) := rowBits_L 17 0 (by omega) (by omega)
theorem sim_rows {w : yW} {G : List zC} (h : INV w G) (t : Int32) : e_ST_rows t w = e_Mo_rows t w := by
  unfold e_ST_rows e_Mo_rows
  rcases isT_cases t with ⟨T, hT, e, k1, k2⟩ | ⟨k1, k2⟩
  · rw [k1, k2, e, n_clamp (by omega)]
    show e_Ta_rowBits (14 + 12 * T) w = g_Mo_rows_13 (Int32.ofNat T) w 17 0 0
    rw [rowBits_n]
    exact (rows_L h hT 17 0 (by omega) (by omega)).symm
  · rw [k1, k2]
    rfl
theorem size_L {w : yW} {G : List zC} (h : INV w G) {T : Nat} (hT : T < 2) : ∀ n Q, Q ≤ 16 → 16 < Q + n → (g_Mo_size_7 (Int32.ofNat T) n w (Int32.ofNat (cntM (rowP w T) Q)) (Int32.ofNat (16 * T + Q))).2 = Int32.ofNat (cntM (rowP w T) 16)
  | 0, Q, h1, h2 => by omega
  | n + 1, Q, h1, h2 => by
    have ei : (16 * Int32.ofNat T + 16).toInt = 16 * T + 16 := by
      rw [show (16 : Int32) = Int32.ofNat 16 from rfl, ← Int32.ofNat_mul, mk_add, z_nat (by omega)]
      omega
    rw [g_Mo_size_7, zc_ge, z_nat (by omega), ei]
    by_cases hQ : Q = 16
    · subst hQ
      rw [decide_eq_true (by omega)]
      rfl
    · rw [decide_eq_false (by omega), n_clamp (by omega), there_n h hT (by omega), n_inc2, yN_not]
      have ih := size_L h hT n (Q + 1) (by omega) (by omega)
      rw [cntM_succ] at ih
      have e1 : Int32.ofNat (cntM (rowP w T) Q) + 1 = Int32.ofNat (cntM (rowP w T) Q + 1) := n_inc _
      have e0 : Int32.ofNat (cntM (rowP w T) Q) + 0 = Int32.ofNat (cntM (rowP w T) Q) := Int32.add_zero _
      rw [e1, e0]
      cases hy : yS (w.2.2 (16 + 12 * T) Q)
      · rw [show rowP w T Q = false from hy, if_neg (by decide), Nat.add_zero] at ih
        exact ih
      · rw [show rowP w T Q = true from hy, if_pos rfl] at ih
        exact ih
theorem size_n {w : yW} {G : List zC} (h : INV w G) {T : Nat} (hT : T < 2) : (e_Mo_size (Int32.ofNat T) w).2 = Int32.ofNat (cntM (rowP w T) 16) := by
  have k := size_L h hT 17 0 (by omega) (by omega)
  unfold e_Mo_size
  rw [show 16 * Int32.ofNat T = Int32.ofNat (16 * T + 0) from by rw [show (16 : Int32) = Int32.ofNat 16 from rfl, ← Int32.ofNat_mul, Nat.add_zero]]
  exact k
