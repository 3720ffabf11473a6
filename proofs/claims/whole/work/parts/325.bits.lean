def bcN (i : Nat) : Nat :=
  let i1 := i - ((i >>> 1) &&& 0x55555555)
  let i2 := (i1 &&& 0x33333333) + ((i1 >>> 2) &&& 0x33333333)
  let i3 := (i2 + (i2 >>> 4)) &&& 0x0f0f0f0f
  let i4 := i3 + (i3 >>> 8)
  (i4 + (i4 >>> 16)) &&& 0x3f
def bc8 (a : Nat) : Nat := a % 2 + (a / 2 % 2 + (a / 4 % 2 + (a / 8 % 2 + (a / 16 % 2 + (a / 32 % 2 + (a / 64 % 2 + a / 128 % 2))))))
def bcT (n : Nat) : Nat → Bool
  | 0 => true
  | k + 1 => Nat.beq (bcN (n * 256 + k)) (Nat.add (bc8 n) (bc8 k)) && bcT n k
def bcA : Nat → Bool
  | 0 => true
  | k + 1 => bcT k 256 && bcA k
theorem bcA_ok : bcA 256 = true := by decide +kernel
-- masks: bits of small whole numbers
theorem mk_or (m k : Nat) : Int32.ofNat m ||| Int32.ofNat k = Int32.ofNat (m ||| k) := by
  apply Int32.toBitVec_inj.mp
  show (BitVec.ofNat 32 m) ||| (BitVec.ofNat 32 k) = BitVec.ofNat 32 (m ||| k)
  rw [BitVec.ofNat_or]
theorem mk_and (m k : Nat) : Int32.ofNat m &&& Int32.ofNat k = Int32.ofNat (m &&& k) := by
  apply Int32.toBitVec_inj.mp
  show (BitVec.ofNat 32 m) &&& (BitVec.ofNat 32 k) = BitVec.ofNat 32 (m &&& k)
  rw [BitVec.ofNat_and]
theorem mk_1 : ∀ k : Fin 16, (1 : Int32) <<< (Int32.ofNat k.1 &&& 31) = Int32.ofNat (2 ^ k.1) := by decide +kernel
theorem sh_amt : ∀ k : Fin 16, ((Int32.ofNat k.1 &&& 31).toBitVec.smod 32).toNat = k.1 := by decide +kernel
theorem mk_shr {m k : Nat} (hm : m < 2147483648) (hk : k < 16) : Int32.ofNat m >>> (Int32.ofNat k &&& 31) = Int32.ofNat (m >>> k) := by
  apply Int32.toBitVec_inj.mp
  rw [Int32.toBitVec_shiftRight]
  show (BitVec.ofNat 32 m).sshiftRight' ((Int32.ofNat k &&& 31).toBitVec.smod 32) = BitVec.ofNat 32 (m >>> k)
  unfold BitVec.sshiftRight'
  have h := sh_amt ⟨k, hk⟩
  rw [h]
  show (BitVec.ofNat 32 m).sshiftRight k = _
  rw [BitVec.sshiftRight_eq_of_msb_false (by rw [BitVec.msb_eq_decide]; simp; omega)]
  apply BitVec.eq_of_toNat_eq
  rw [BitVec.toNat_ushiftRight, BitVec.toNat_ofNat, BitVec.toNat_ofNat, Nat.mod_eq_of_lt (by omega), Nat.mod_eq_of_lt]
  exact Nat.lt_of_le_of_lt (Nat.shiftRight_le _ _) (by omega)
theorem mk_bit {m k : Nat} (hm : m < 2147483648) (hk : k < 16) : (Int32.ofNat m >>> (Int32.ofNat k &&& 31)) &&& 1 = if m.testBit k then 1 else 0 := by
  rw [mk_shr hm hk]
  rw [show (1 : Int32) = Int32.ofNat 1 from rfl, mk_and]
  rw [Nat.and_one_is_mod]
  unfold Nat.testBit
  rw [Nat.and_comm, Nat.and_one_is_mod]
  rcases Nat.mod_two_eq_zero_or_one (m >>> k) with h | h <;> rw [h] <;> rfl
theorem us_amt : ∀ k : Fin 32, (((Int32.ofNat k.1).toUInt32 &&& Int32.toUInt32 31).toBitVec % 32).toNat = k.1 := by decide +kernel
theorem mk_ushr {m k : Nat} (hm : m < 2147483648) (hk : k < 32) : ((Int32.ofNat m).toUInt32 >>> ((Int32.ofNat k).toUInt32 &&& Int32.toUInt32 31)).toInt32 = Int32.ofNat (m >>> k) := by
  apply Int32.toBitVec_inj.mp
  show ((BitVec.ofNat 32 m) >>> (((Int32.ofNat k).toUInt32 &&& Int32.toUInt32 31).toBitVec % 32)) = BitVec.ofNat 32 (m >>> k)
  rw [BitVec.ushiftRight_eq', us_amt ⟨k, hk⟩]
  apply BitVec.eq_of_toNat_eq
  show (BitVec.ofNat 32 m >>> k).toNat = _
  rw [BitVec.toNat_ushiftRight, BitVec.toNat_ofNat, BitVec.toNat_ofNat, Nat.mod_eq_of_lt (by omega), Nat.mod_eq_of_lt]
  exact Nat.lt_of_le_of_lt (Nat.shiftRight_le _ _) (by omega)
theorem mk_add (a b : Nat) : Int32.ofNat a + Int32.ofNat b = Int32.ofNat (a + b) := (Int32.ofNat_add a b).symm
theorem mk_sub {a b : Nat} (h : b ≤ a) : Int32.ofNat a - Int32.ofNat b = Int32.ofNat (a - b) := by
  have : Int32.ofNat a = Int32.ofNat (a - b) + Int32.ofNat b := by rw [mk_add]; congr 1; omega
  rw [this]
  exact Int32.add_sub_cancel ..
theorem bc_le (m : Nat) : (m >>> 1) &&& 1431655765 ≤ m := Nat.le_trans Nat.and_le_left (Nat.shiftRight_le _ _)
def bc16 (m : Nat) : Nat := m % 2 + (m / 2 % 2 + (m / 4 % 2 + (m / 8 % 2 + (m / 16 % 2 + (m / 32 % 2 + (m / 64 % 2 + (m / 128 % 2 + (m / 256 % 2 + (m / 512 % 2 + (m / 1024 % 2 + (m / 2048 % 2 + (m / 4096 % 2 + (m / 8192 % 2 + (m / 16384 % 2 + m / 32768 % 2))))))))))))))
theorem bcT_ok {n : Nat} : ∀ {k : Nat}, bcT n k = true → ∀ j, j < k → bcN (n * 256 + j) = bc8 n + bc8 j
  | 0, _, j, h => absurd h (Nat.not_lt_zero _)
  | k + 1, h, j, hj => by
    unfold bcT at h
    rw [Bool.and_eq_true] at h
    by_cases e : j = k
    · subst e
      exact Nat.eq_of_beq_eq_true h.1
    · exact bcT_ok h.2 j (by omega)
theorem bcA_all : ∀ {k : Nat}, bcA k = true → ∀ n, n < k → ∀ j, j < 256 → bcN (n * 256 + j) = bc8 n + bc8 j
  | 0, _, n, h => absurd h (Nat.not_lt_zero _)
  | k + 1, h, n, hn => by
    unfold bcA at h
    rw [Bool.and_eq_true] at h
    by_cases e : n = k
    · subst e
      exact fun j hj => bcT_ok h.1 j hj
    · exact bcA_all h.2 n (by omega)
theorem bc_8 (m : Nat) : bc8 (m / 256) + bc8 (m % 256) = bc16 m := by
  have a0 : m % 256 / 1 % 2 = m / 1 % 2 := by omega
  have b0 : m / 256 / 1 % 2 = m / 256 % 2 := by omega
  have a1 : m % 256 / 2 % 2 = m / 2 % 2 := by omega
  have b1 : m / 256 / 2 % 2 = m / 512 % 2 := by omega
  have a2 : m % 256 / 4 % 2 = m / 4 % 2 := by omega
  have b2 : m / 256 / 4 % 2 = m / 1024 % 2 := by omega
  have a3 : m % 256 / 8 % 2 = m / 8 % 2 := by omega
  have b3 : m / 256 / 8 % 2 = m / 2048 % 2 := by omega
  have a4 : m % 256 / 16 % 2 = m / 16 % 2 := by omega
  have b4 : m / 256 / 16 % 2 = m / 4096 % 2 := by omega
  have a5 : m % 256 / 32 % 2 = m / 32 % 2 := by omega
  have b5 : m / 256 / 32 % 2 = m / 8192 % 2 := by omega
  have a6 : m % 256 / 64 % 2 = m / 64 % 2 := by omega
  have b6 : m / 256 / 64 % 2 = m / 16384 % 2 := by omega
  have a7 : m % 256 / 128 % 2 = m / 128 % 2 := by omega
  have b7 : m / 256 / 128 % 2 = m / 32768 % 2 := by omega
  rw [Nat.div_one] at a0 b0
  rw [Nat.div_one] at a0
  unfold bc8 bc16
  rw [a0, b0, a1, b1, a2, b2, a3, b3, a4, b4, a5, b5, a6, b6, a7, b7]
  simp only [Nat.add_assoc, Nat.add_comm, Nat.add_left_comm]
theorem bc_16 {m : Nat} (h : m < 65536) : bcN m = bc16 m := by
  have e : m / 256 * 256 + m % 256 = m := by omega
  have k := bcA_all bcA_ok (m / 256) (by omega) (m % 256) (by omega)
  rw [e] at k
  rw [k, bc_8]
def tb1 (b : Bool) : Nat := bif b then 1 else 0
theorem bc_tb (m i : Nat) : (if m.testBit i = true then 1 else 0) = m / 2 ^ i % 2 := by
  rw [Nat.testBit_eq_decide_div_mod_eq]
  rcases Nat.mod_two_eq_zero_or_one (m / 2 ^ i) with h | h <;> simp [h]
theorem bc_cs (m n : Nat) : (List.range (n + 1)).countP (fun i => m.testBit i) = (List.range n).countP (fun i => m.testBit i) + m / 2 ^ n % 2 := by
  rw [List.range_succ, List.countP_append, List.countP_singleton, bc_tb]
theorem bc_cnt (m : Nat) : (List.range 16).countP (fun i => m.testBit i) = bc16 m := by
  rw [bc_cs, bc_cs, bc_cs, bc_cs, bc_cs, bc_cs, bc_cs, bc_cs, bc_cs, bc_cs, bc_cs, bc_cs, bc_cs, bc_cs, bc_cs, bc_cs]
  show 0 + m / 1 % 2 + m / 2 % 2 + m / 4 % 2 + m / 8 % 2 + m / 16 % 2 + m / 32 % 2 + m / 64 % 2 + m / 128 % 2 + m / 256 % 2 + m / 512 % 2 + m / 1024 % 2 + m / 2048 % 2 + m / 4096 % 2 + m / 8192 % 2 + m / 16384 % 2 + m / 32768 % 2 = bc16 m
  unfold bc16
  rw [Nat.div_one]
  simp only [Nat.zero_add, Nat.add_assoc]
