-- calls, indices, small arithmetic
theorem zrc_ok {c u : Nat} {fs as : List Value} {h : List zC} (hu : h[u]? = some (.inr (c, fs))) : zrc 1 c (.ref u :: as) h = true := by simp [zrc, hu, Nat.beq_refl]
theorem zhk {a b c : Bool} (ha : a = true) (hb : b = true) (hc : c = true) : (a && (b && c)) = true := by rw [ha, hb, hc]; rfl
section ZMA
variable {fr lo : Nat} {xs : zX} {M : zM} {h : zH} {r : Option Value × zH} {pc i : Nat} {lv : List (Nat × Value)} {rest : List Value} {x : zE} {a b : Int32}
theorem zemn (hx : zlk2 (mT M) pc = some x) (hi : xI x = .invokestatic i) (hb : xB x = 3) (hr : zcat rest + 13 ≤ lo) (k : zRun fr lo xs M (pc + 3, lv, .int (if b < a then b else a) :: rest) h r) : zRun fr lo xs M (pc, lv, .int b :: .int a :: rest) h r := by
  refine ze1 (q := ((pc + 3, lv, .int (if b < a then b else a) :: rest), h)) hx (by rw [hi]; rfl) (fun call => ?_) k
  unfold zstep
  rw [hi, hb]
  show zmx (fun x y => if y < x then y else x) (fr + 1) lo h (pc + 3) lv (.int b :: .int a :: rest) = _
  have h1 : Nat.ble (zcat rest + 13) lo = true := Nat.ble_eq_true_of_le hr
  have h2 : Nat.ble 1 (fr + 1) = true := Nat.ble_eq_true_of_le (by omega)
  simp [zmx, h1, h2]
theorem zemx (hx : zlk2 (mT M) pc = some x) (hi : xI x = .invokestatic i) (hb : xB x = 4) (hr : zcat rest + 13 ≤ lo) (k : zRun fr lo xs M (pc + 3, lv, .int (if a < b then b else a) :: rest) h r) : zRun fr lo xs M (pc, lv, .int b :: .int a :: rest) h r := by
  refine ze1 (q := ((pc + 3, lv, .int (if a < b then b else a) :: rest), h)) hx (by rw [hi]; rfl) (fun call => ?_) k
  unfold zstep
  rw [hi, hb]
  show zmx (fun x y => if x < y then y else x) (fr + 1) lo h (pc + 3) lv (.int b :: .int a :: rest) = _
  have h1 : Nat.ble (zcat rest + 13) lo = true := Nat.ble_eq_true_of_le hr
  have h2 : Nat.ble 1 (fr + 1) = true := Nat.ble_eq_true_of_le (by omega)
  simp [zmx, h1, h2]
end ZMA
/-- a truth value made by a branch -/
theorem zdia {fr lo : Nat} {xs : zX} {M : zM} {h : zH} {r : Option Value × zH} {s q1 q2 : zS} {x : zE} {cB : Bool} {off : Int} {lv lv2 : List (Nat × Value)} {st st2 : List Value} {J : Nat} {vA vB : Int32} (n1 n2 : Nat) (hx : zlk2 (mT M) s.1 = some x) (hr : zre (mR M) (xI x) s.2.2 = none) (hs : zp (xI x) (xV x) s.1 s.2.1 s.2.2 = zbr cB s.1 off lv st) (hq1 : zbr true s.1 off lv st = some q1) (hq2 : zbr false s.1 off lv st = some q2)
    (h1 : znx (fr + 1) lo xs M n1 q1 h = some ((J, lv2, .int vA :: st2), h)) (h2 : znx (fr + 1) lo xs M n2 q2 h = some ((J, lv2, .int vB :: st2), h)) (k : zRun fr lo xs M (J, lv2, .int (bif cB then vA else vB) :: st2) h r) : zRun fr lo xs M s h r := by
  cases hc : cB with
  | true => rw [hc] at k; exact zeb2 hx hr hs hc hq1 (zeN n1 h1 k)
  | false => rw [hc] at k; exact zeb2 hx hr hs hc hq2 (zeN n2 h2 k)
/-- an index within, and what an int array holds there -/
def zIx (j : Int32) (n : Nat) : Prop := 0 ≤ j.toInt ∧ j.toInt < (n : Int)
def gI (X : List Int32) (j : Int32) : Int32 := X.getD j.toNatClampNeg 0
theorem zIx_a {j : Int32} {n : Nat} (h : zIx j n) : j.toInt = (j.toNatClampNeg : Int) := by
  show j.toInt = ((j.toInt.toNat : Nat) : Int)
  have := h.1
  omega
theorem zIx_b {j : Int32} {X : List Int32} (h : zIx j X.length) : (X.map Value.int)[j.toNatClampNeg]? = some (.int (gI X j)) := by
  have h1 := zIx_a h
  have h2 : j.toNatClampNeg < X.length := by have := h.2; omega
  simp [gI, List.getD_eq_getElem?_getD, h2]
theorem zIx_s {j : Int32} {m n : Nat} (h : zIx j m) (e : n = m) : zIx j n := e ▸ h
theorem z_add {a b : Int32} (h1 : -2147483648 ≤ a.toInt + b.toInt) (h2 : a.toInt + b.toInt < 2147483648) : (a + b).toInt = a.toInt + b.toInt := by
  rw [Int32.toInt_add, Int.bmod_def]
  omega
theorem z_sub {a b : Int32} (h1 : -2147483648 ≤ a.toInt - b.toInt) (h2 : a.toInt - b.toInt < 2147483648) : (a - b).toInt = a.toInt - b.toInt := by
  rw [Int32.toInt_sub, Int.bmod_def]
  omega
theorem z_mul {a b : Int32} (h1 : -2147483648 ≤ a.toInt * b.toInt) (h2 : a.toInt * b.toInt < 2147483648) : (a * b).toInt = a.toInt * b.toInt := by
  rw [Int32.toInt_mul, Int.bmod_def]
  omega
theorem z_nat {n : Nat} (h : n < 2147483648) : (Int32.ofNat n).toInt = (n : Int) := nI_toInt h
def zB (v : Int32) : Prop := v = 0 ∨ v = 1
theorem zreb {v : Int32} (h : zB v) : zre (some .boolean) .ireturn [.int v] = some (some (.int v)) := by
  rcases h with rfl | rfl <;> rfl
theorem zbb (c : Bool) : zB (bif c then 0 else 1) := by cases c <;> first | exact Or.inl rfl | exact Or.inr rfl
theorem zbb2 (c : Bool) : zB (bif c then 1 else 0) := by cases c <;> first | exact Or.inl rfl | exact Or.inr rfl
theorem zbi {c : Bool} {a b : Int32} (ha : zB a) (hb : zB b) : zB (bif c then a else b) := by cases c <;> assumption
theorem zB0 : zB 0 := Or.inl rfl
theorem zB1 : zB 1 := Or.inr rfl
section ZDV
variable {fr lo : Nat} {xs : zX} {M : zM} {h : zH} {r : Option Value × zH} {pc : Nat} {lv : List (Nat × Value)} {rest : List Value} {x : zE} {a b : Int32} {p q : Int64}
theorem zerm (hx : zlk2 (mT M) pc = some x) (hi : xI x = .irem) (hne : ¬ b = 0) (k : zRun fr lo xs M (pc + 1, lv, .int (a - a / b * b) :: rest) h r) : zRun fr lo xs M (pc, lv, .int b :: .int a :: rest) h r := by
  refine ze1 (q := ((pc + 1, lv, .int (a - a / b * b) :: rest), h)) hx (by rw [hi]; rfl) (fun call => ?_) k
  unfold zstep
  rw [hi]
  simp [zp, zdv, hne]
theorem zedi (hx : zlk2 (mT M) pc = some x) (hi : xI x = .idiv) (hne : ¬ b = 0) (k : zRun fr lo xs M (pc + 1, lv, .int (a / b) :: rest) h r) : zRun fr lo xs M (pc, lv, .int b :: .int a :: rest) h r := by
  refine ze1 (q := ((pc + 1, lv, .int (a / b) :: rest), h)) hx (by rw [hi]; rfl) (fun call => ?_) k
  unfold zstep
  rw [hi]
  simp [zp, zdv, hne]
theorem zedl (hx : zlk2 (mT M) pc = some x) (hi : xI x = .ldiv) (hne : ¬ q = 0) (k : zRun fr lo xs M (pc + 1, lv, .long (p / q) :: rest) h r) : zRun fr lo xs M (pc, lv, .long q :: .long p :: rest) h r := by
  refine ze1 (q := ((pc + 1, lv, .long (p / q) :: rest), h)) hx (by rw [hi]; rfl) (fun call => ?_) k
  unfold zstep
  rw [hi]
  simp [zp, zdvl, hne]
end ZDV
