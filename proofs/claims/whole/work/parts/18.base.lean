-- calls, indices, small arithmetic
theorem zrc_ok {c u : Nat} {fs as : List Value} {h : List zC} (hu : h[u]? = some (.inr (c, fs))) : zrc 1 c (.ref u :: as) h = true := by simp [zrc, hu, Nat.beq_refl]
theorem zhk {a b c : Bool} (ha : a = true) (hb : b = true) (hc : c = true) : (a && (b && c)) = true := by rw [ha, hb, hc]; rfl
section ZMA
variable {fr lo : Nat} {xs : zX} {M : zM} {h : zH} {r : Option Value × zH} {pc i : Nat} {lv : List (Nat × Value)} {rest : List Value} {x : zE} {a b : Int32}
theorem zemn (hx : zlk2 (mT M) pc = some x) (hi : xI x = .invokestatic i) (hb : xB x = 3) (hr : zcat rest + 13 ≤ lo) (k : zRun fr lo xs M (pc + 3, lv, .int (if b < a then b else a) :: rest) h r) : zRun fr lo xs M (pc, lv, .int b :: .int a :: rest) h r := by
  refine ze1 (q := ((pc + 3, lv, .int (if b < a then b else a) :: rest), h)) hx (by rw [hi]; rfl) (fun call => ?_) k
  unfold zstep
  rw [hi, hb]
  show zmx (fun x y => if y < x then y else x) (fr + 1) lo h (pc + 3) lv (.int b :: .int a :: rest) = _
  have h1 : Nat.ble (zcat rest + 13) lo = true := Nat.ble_eq_true_of_le hr
  have h2 : Nat.ble 1 (fr + 1) = true := Nat.ble_eq_true_of_le (by omega)
  simp [zmx, h1, h2]
theorem zemx (hx : zlk2 (mT M) pc = some x) (hi : xI x = .invokestatic i) (hb : xB x = 4) (hr : zcat rest + 13 ≤ lo) (k : zRun fr lo xs M (pc + 3, lv, .int (if a < b then b else a) :: rest) h r) : zRun fr lo xs M (pc, lv, .int b :: .int a :: rest) h r := by
  refine ze1 (q := ((pc + 3, lv, .int (if a < b then b else a) :: rest), h)) hx (by rw [hi]; rfl) (fun call => ?_) k
  unfold zstep
  rw [hi, hb]
  show zmx (fun x y => if x < y then y else x) (fr + 1) lo h (pc + 3) lv (.int b :: .int a :: rest) = _
  have h1 : Nat.ble (zcat rest + 13) lo = true := Nat.ble_eq_true_of_le hr
  have h2 : Nat.ble 1 (fr + 1) = true := Nat.ble_eq_true_of_le (by omega)
  simp [zmx, h1, h2]
end ZMA
/-- an index within, and what an int array holds there -/
def zIx (j : Int32) (n : Nat) : Prop := 0 ≤ j.toInt ∧ j.toInt < (n : Int)
def gI (X : List Int32) (j : Int32) : Int32 := X.getD j.toNatClampNeg 0
theorem zIx_a {j : Int32} {n : Nat} (h : zIx j n) : j.toInt = (j.toNatClampNeg : Int) := by
  show j.toInt = ((j.toInt.toNat : Nat) : Int)
  have := h.1
  omega
theorem zIx_b {j : Int32} {X : List Int32} (h : zIx j X.length) : (X.map Value.int)[j.toNatClampNeg]? = some (.int (gI X j)) := by
  have h1 := zIx_a h
  have h2 : j.toNatClampNeg < X.length := by have := h.2; omega
  simp [gI, List.getD_eq_getElem?_getD, h2]
theorem zIx_s {j : Int32} {m n : Nat} (h : zIx j m) (e : n = m) : zIx j n := e ▸ h
theorem z_add {a b : Int32} (h1 : -2147483648 ≤ a.toInt + b.toInt) (h2 : a.toInt + b.toInt < 2147483648) : (a + b).toInt = a.toInt + b.toInt := by
  rw [Int32.toInt_add, Int.bmod_def]
  omega
theorem z_sub {a b : Int32} (h1 : -2147483648 ≤ a.toInt - b.toInt) (h2 : a.toInt - b.toInt < 2147483648) : (a - b).toInt = a.toInt - b.toInt := by
  rw [Int32.toInt_sub, Int.bmod_def]
  omega
theorem z_mul {a b : Int32} (h1 : -2147483648 ≤ a.toInt * b.toInt) (h2 : a.toInt * b.toInt < 2147483648) : (a * b).toInt = a.toInt * b.toInt := by
  rw [Int32.toInt_mul, Int.bmod_def]
  omega
theorem z_nat {n : Nat} (h : n < 2147483648) : (Int32.ofNat n).toInt = (n : Int) := nI_toInt h
