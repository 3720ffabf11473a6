-- the reference's fault
theorem rem_n : ∀ n, n < 7 → ∀ x, x < n → (Int32.ofNat x + 1) - (Int32.ofNat x + 1) / Int32.ofNat n * Int32.ofNat n = Int32.ofNat (pE n x) := by decide +kernel
section RFA
variable {w : yW} {n : Nat} {kd : Int32}
def dBox (w : yW) (n : Nat) : Prop := ∀ i, i < n → zDx (dX w i) ∧ zDx (dY w i)
theorem clash_n {x y : Nat} (hw : w.1 54 10 = Int32.ofNat n) (hn : n ≤ 6) (hb : dBox w n) (hx : x < n) (hy : y < n) : e_Mo_clash (Int32.ofNat x) (Int32.ofNat y) w = b2 (pCl (dX w) (dY w) n x y) := by
  have h1 := pE_lt (n := n) (i := x) (by omega)
  have h2 := pE_lt (n := n) (i := y) (by omega)
  unfold e_Mo_clash
  rw [hw, rem_n n (by omega) x hx, rem_n n (by omega) y hy, c25_n (by omega) (by omega) (by omega) (by omega) (hb x hx).1 (hb x hx).2 (hb _ h1).1 (hb _ h1).2 (hb y hy).1 (hb y hy).2 (hb _ h2).1 (hb _ h2).2]
  unfold pCl pMt
  by_cases e1 : pE n x = y
  · rw [if_pos e1, if_pos e1, e1]
  · rw [if_neg e1, if_neg e1]
    by_cases e2 : pE n y = x
    · rw [if_pos e2, if_pos e2, e2]
    · rw [if_neg e2, if_neg e2]
theorem f133_L {nn : Int32} {x : Nat} (hw : w.1 54 10 = Int32.ofNat n) (hn : n ≤ 6) (hb : dBox w n) (hx : x < n) : ∀ (f y : Nat), y ≤ x → x < y + f → g_Mo_fault_133 kd nn (Int32.ofNat x) w f (Int32.ofNat y) = anF (pCl (dX w) (dY w) n x) (x - y) y
  | 0, y, h1, h2 => by omega
  | f + 1, y, h1, h2 => by
    rw [g_Mo_fault_133, zc_ge, z_nat (by omega), z_nat (by omega)]
    by_cases e : y = x
    · rw [decide_eq_true (by omega), e, Nat.sub_self]
      rfl
    · rw [decide_eq_false (by omega), n_inc2, f133_L hw hn hb hx f (y + 1) (by omega) (by omega), clash_n hw hn hb hx (by omega), b2_eq, show x - y = (x - (y + 1)) + 1 by omega, anF]
      cases pCl (dX w) (dY w) n x y <;> rfl
theorem f120_L (hw : w.1 54 10 = Int32.ofNat n) (hn : n ≤ 6) (hb : dBox w n) : ∀ (f x : Nat), x ≤ n → n < x + f → g_Mo_fault_120 kd (Int32.ofNat n) w f (Int32.ofNat x) = if kd.toInt = 2 ∧ anF (fun x => anF (pCl (dX w) (dY w) n x) x 0) (n - x) x = true then 3 else 0
  | 0, x, h1, h2 => by omega
  | f + 1, x, h1, h2 => by
    rw [g_Mo_fault_120, zc_ge, z_nat (by omega), z_nat (by omega), zc_ne, show (2 : Int32).toInt = 2 from rfl]
    by_cases e : x = n
    · rw [decide_eq_true (by omega), e, Nat.sub_self, if_neg (by intro h; cases h.2)]
      rfl
    · rw [decide_eq_false (show ¬ ((n : Int) ≤ x) by omega)]
      by_cases e2 : kd.toInt = 2
      · rw [decide_eq_false (not_not_intro e2), show (0 : Int32) = Int32.ofNat 0 from rfl, f133_L hw hn hb (by omega) 7 0 (by omega) (by omega), n_inc2, f120_L hw hn hb f (x + 1) (by omega) (by omega), Nat.sub_zero, show n - x = (n - (x + 1)) + 1 by omega, anF]
        cases anF (pCl (dX w) (dY w) n x) x 0
        · rw [Bool.false_or]; rfl
        · show (3 : Int32) = _
          rw [Bool.true_or, if_pos ⟨e2, rfl⟩]
      · rw [decide_eq_true (show ¬ kd.toInt = 2 from e2), if_neg (by intro h; exact e2 h.1)]
        rfl
def pOkE (kd : Int) (n x : Nat) : Bool := (decide (kd = 2) || decide (0 < pE n x)) && decide (1 < n)
theorem f51_n {nn x : Int32} {y : Nat} (hy : y < 7) : g_Mo_fault_51 kd nn x (Int32.ofNat y) w = b2 (decide (kd.toInt = 2) || decide (0 < y)) := by
  unfold g_Mo_fault_51
  rw [zc_eq, zc_le, z_nat (by omega), show (2 : Int32).toInt = 2 from rfl, z_i0]
  by_cases e1 : kd.toInt = 2
  · rw [decide_eq_true e1]; rfl
  · rw [decide_eq_false e1]
    by_cases e2 : 0 < y
    · rw [decide_eq_true e2, decide_eq_false (show ¬ (y : Int) ≤ 0 by omega)]; rfl
    · rw [decide_eq_false e2, decide_eq_true (show (y : Int) ≤ 0 by omega)]; rfl
theorem f39_L (hw : w.1 54 10 = Int32.ofNat n) (hn : n ≤ 6) (hb : dBox w n) : ∀ (f x : Nat), x ≤ n → n < x + f → g_Mo_fault_39 kd (Int32.ofNat n) w f (Int32.ofNat x) = if anF (fun x => pOkE kd.toInt n x && pEq (dX w) (dY w) n x) (n - x) x = true then 2 else g_Mo_fault_120 kd (Int32.ofNat n) w 7 0
  | 0, x, h1, h2 => by omega
  | f + 1, x, h1, h2 => by
    rw [g_Mo_fault_39, zc_ge, z_nat (by omega), z_nat (by omega)]
    by_cases e : x = n
    · rw [decide_eq_true (by omega), e, Nat.sub_self, if_neg (by intro h; cases h)]
      rfl
    · have he := pE_lt (n := n) (i := x) (by omega)
      rw [decide_eq_false (by omega), rem_n n (by omega) x (by omega), f51_n (by omega), n_inc2, f39_L hw hn hb f (x + 1) (by omega) (by omega), n_clamp (by omega), n_clamp (by omega), b2_eq, zc_le, zc_ne, zc_ne, z_nat (by omega), show (1 : Int32).toInt = 1 from rfl, show n - x = (n - (x + 1)) + 1 by omega]
      rw [show anF (fun x => pOkE kd.toInt n x && pEq (dX w) (dY w) n x) (n - (x + 1) + 1) x = ((pOkE kd.toInt n x && pEq (dX w) (dY w) n x) || anF (fun x => pOkE kd.toInt n x && pEq (dX w) (dY w) n x) (n - (x + 1)) (x + 1)) from rfl]
      generalize anF (fun x => pOkE kd.toInt n x && pEq (dX w) (dY w) n x) (n - (x + 1)) (x + 1) = r
      generalize g_Mo_fault_120 kd (Int32.ofNat n) w 7 0 = z
      unfold pOkE pEq
      show (bif !(decide (kd.toInt = 2) || decide (0 < pE n x)) then _ else bif decide ((n : Int) ≤ 1) then _ else bif decide (¬ dX w x = dX w (pE n x)) then _ else bif decide (¬ dY w x = dY w (pE n x)) then _ else 2) = _
      cases (decide (kd.toInt = 2) || decide (0 < pE n x))
      · rfl
      · by_cases e1 : 1 < n
        · rw [decide_eq_true e1, decide_eq_false (show ¬ (n : Int) ≤ 1 by omega)]
          by_cases e2 : dX w x = dX w (pE n x)
          · rw [decide_eq_true e2, decide_eq_false (not_not_intro e2)]
            by_cases e3 : dY w x = dY w (pE n x)
            · rw [decide_eq_true e3, decide_eq_false (not_not_intro e3)]; rfl
            · rw [decide_eq_false e3, decide_eq_true (show ¬ dY w x = dY w (pE n x) from e3)]; rfl
          · rw [decide_eq_false e2, decide_eq_true (show ¬ dX w x = dX w (pE n x) from e2)]; rfl
        · rw [decide_eq_false e1, decide_eq_true (show (n : Int) ≤ 1 by omega)]; rfl
end RFA
