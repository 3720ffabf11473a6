-- a row goes into an index
theorem nn17_n {c N : Nat} (hN : N ≤ 128) : ∀ n Q (w : yW), Q ≤ 4 → 4 < Q + n → (∀ j, (g_In_newNode_17 c (Int32.ofNat N) n w (Int32.ofNat Q)).1 (c + 1) j = if 4 * N + Q ≤ j ∧ j < 4 * N + 4 then 0 else w.1 (c + 1) j) ∧ (∀ d j, d ≠ c + 1 → (g_In_newNode_17 c (Int32.ofNat N) n w (Int32.ofNat Q)).1 d j = w.1 d j)
  | 0, Q, w, h1, h2 => by omega
  | n + 1, Q, w, h1, h2 => by
    rw [g_In_newNode_17, zc_ge, z_nat (by omega), show (4 : Int32).toInt = 4 from rfl]
    by_cases hQ : Q = 4
    · subst hQ
      rw [decide_eq_true (by omega)]
      exact ⟨fun j => (if_neg (by omega)).symm, fun d j _ => rfl⟩
    · have ei : (4 * Int32.ofNat N + Int32.ofNat Q).toNatClampNeg = 4 * N + Q := by
        rw [show (4 : Int32) = Int32.ofNat 4 from rfl, ← Int32.ofNat_mul, mk_add]
        exact n_clamp (by omega)
      rw [decide_eq_false (by omega), ei, n_inc2]
      obtain ⟨k1, k2⟩ := nn17_n (c := c) hN n (Q + 1) (wI w (c + 1) (4 * N + Q) 0) (by omega) (by omega)
      refine ⟨fun j => ?_, fun d j hd => (k2 d j hd).trans (wI_ne hd)⟩
      refine (k1 j).trans ?_
      by_cases hj : j = 4 * N + Q
      · subst hj
        rw [if_neg (by omega), wI_self, if_pos (by omega)]
      · rw [wI_nc (fun e => hj e.2)]
        by_cases hc : 4 * N + (Q + 1) ≤ j ∧ j < 4 * N + 4
        · rw [if_pos hc, if_pos (by omega)]
        · rw [if_neg hc, if_neg (by omega)]
theorem new_n {w : yW} {c N : Nat} (hs : w.1 c 5 = Int32.ofNat N) (hN : N ≤ 128) : (e_In_newNode c w).2 = Int32.ofNat N ∧ (e_In_newNode c w).1.1 c 5 = Int32.ofNat (N + 1) ∧ (∀ j, (e_In_newNode c w).1.1 (c + 1) j = if 4 * N ≤ j ∧ j < 4 * N + 4 then 0 else w.1 (c + 1) j) ∧ (∀ j, (e_In_newNode c w).1.1 (c + 2) j = if j = N then 255 else w.1 (c + 2) j) ∧ (∀ j, (e_In_newNode c w).1.1 (c + 3) j = if j = N then 255 else w.1 (c + 3) j) ∧ (∀ j, (e_In_newNode c w).1.1 (c + 4) j = if j = N then 0 else w.1 (c + 4) j) ∧ (∀ j, (e_In_newNode c w).1.1 (c + 5) j = if j = N then 0 else w.1 (c + 5) j) := by
  unfold e_In_newNode
  rw [hs, n_clamp (by omega), n_inc]
  obtain ⟨k1, k2⟩ := nn17_n (c := c) hN 5 0 (wI w c 5 (Int32.ofNat (N + 1))) (by omega) (by omega)
  have z : (0 : Int32) = Int32.ofNat 0 := rfl
  rw [show g_In_newNode_17 c (Int32.ofNat N) 5 (wI w c 5 (Int32.ofNat (N + 1))) 0 = g_In_newNode_17 c (Int32.ofNat N) 5 (wI w c 5 (Int32.ofNat (N + 1))) (Int32.ofNat 0) from rfl]
  generalize g_In_newNode_17 c (Int32.ofNat N) 5 (wI w c 5 (Int32.ofNat (N + 1))) (Int32.ofNat 0) = w1 at k1 k2
  have up : ∀ {v : yW} {d : Nat} {y : Int32} (j : Nat), (wI v d N y).1 d j = if j = N then y else v.1 d j := by
    intro v d y j
    by_cases e : j = N
    · rw [if_pos e, e, wI_self]
    · rw [if_neg e, wI_nc (fun h => e h.2)]
  refine ⟨rfl, ?_, fun j => ?_, fun j => ?_, fun j => ?_, fun j => ?_, fun j => ?_⟩
  · show (wI (wI (wI (wI w1 (c + 2) N 255) (c + 3) N 255) (c + 4) N 0) (c + 5) N 0).1 c 5 = _
    rw [wI_ne (by omega), wI_ne (by omega), wI_ne (by omega), wI_ne (by omega), k2 c 5 (by omega), wI_self]
  · show (wI (wI (wI (wI w1 (c + 2) N 255) (c + 3) N 255) (c + 4) N 0) (c + 5) N 0).1 (c + 1) j = _
    rw [wI_ne (by omega), wI_ne (by omega), wI_ne (by omega), wI_ne (by omega), k1 j, wI_ne (by omega), Nat.add_zero]
  · show (wI (wI (wI (wI w1 (c + 2) N 255) (c + 3) N 255) (c + 4) N 0) (c + 5) N 0).1 (c + 2) j = _
    rw [wI_ne (by omega), wI_ne (by omega), wI_ne (by omega), up, k2 _ j (by omega), wI_ne (by omega)]
  · show (wI (wI (wI (wI w1 (c + 2) N 255) (c + 3) N 255) (c + 4) N 0) (c + 5) N 0).1 (c + 3) j = _
    rw [wI_ne (by omega), wI_ne (by omega), up, wI_ne (by omega), k2 _ j (by omega), wI_ne (by omega)]
  · show (wI (wI (wI (wI w1 (c + 2) N 255) (c + 3) N 255) (c + 4) N 0) (c + 5) N 0).1 (c + 4) j = _
    rw [wI_ne (by omega), up, wI_ne (by omega), wI_ne (by omega), k2 _ j (by omega), wI_ne (by omega)]
  · show (wI (wI (wI (wI w1 (c + 2) N 255) (c + 3) N 255) (c + 4) N 0) (c + 5) N 0).1 (c + 5) j = _
    rw [up, wI_ne (by omega), wI_ne (by omega), wI_ne (by omega), k2 _ j (by omega), wI_ne (by omega)]
theorem mn_n (a b : Int32) : (if b < a then b else a).toInt = min a.toInt b.toInt := by
  by_cases h : b < a
  · have := Int32.lt_iff_toInt_lt.mp h
    rw [if_pos h]
    omega
  · have : ¬ b.toInt < a.toInt := fun e => h (Int32.lt_iff_toInt_lt.mpr e)
    rw [if_neg h]
    omega
theorem mx_n (a b : Int32) : (if a < b then b else a).toInt = max a.toInt b.toInt := by
  by_cases h : a < b
  · have := Int32.lt_iff_toInt_lt.mp h
    rw [if_pos h]
    omega
  · have : ¬ a.toInt < b.toInt := fun e => h (Int32.lt_iff_toInt_lt.mpr e)
    rw [if_neg h]
    omega
theorem str_n {G : List zC} {w : yW} {c x m : Nat} (hm : m ≤ 128) : (∀ d j, d ≠ c + 2 → d ≠ c + 3 → d ≠ c + 4 → d ≠ c + 5 → (e_In_stretch G c (Int32.ofNat m) x w).1 d j = w.1 d j) ∧ (∀ j, j ≠ m → (e_In_stretch G c (Int32.ofNat m) x w).1 (c + 2) j = w.1 (c + 2) j ∧ (e_In_stretch G c (Int32.ofNat m) x w).1 (c + 3) j = w.1 (c + 3) j ∧ (e_In_stretch G c (Int32.ofNat m) x w).1 (c + 4) j = w.1 (c + 4) j ∧ (e_In_stretch G c (Int32.ofNat m) x w).1 (c + 5) j = w.1 (c + 5) j)
    ∧ ((e_In_stretch G c (Int32.ofNat m) x w).1 (c + 2) m).toInt = min (w.1 (c + 2) m).toInt (gB G x 0).toInt ∧ ((e_In_stretch G c (Int32.ofNat m) x w).1 (c + 3) m).toInt = min (w.1 (c + 3) m).toInt (gB G x 1).toInt ∧ ((e_In_stretch G c (Int32.ofNat m) x w).1 (c + 4) m).toInt = max (w.1 (c + 4) m).toInt (gB G x 2).toInt ∧ ((e_In_stretch G c (Int32.ofNat m) x w).1 (c + 5) m).toInt = max (w.1 (c + 5) m).toInt (gB G x 3).toInt := by
  unfold e_In_stretch
  rw [n_clamp (by omega)]
  refine ⟨fun d j a b e f => by rw [wI_ne f, wI_ne e, wI_ne b, wI_ne a], fun j hj => ⟨?_, ?_, ?_, ?_⟩, ?_, ?_, ?_, ?_⟩
  · rw [wI_ne (by omega), wI_ne (by omega), wI_ne (by omega), wI_nc (fun h => hj h.2)]
  · rw [wI_ne (by omega), wI_ne (by omega), wI_nc (fun h => hj h.2), wI_ne (by omega)]
  · rw [wI_ne (by omega), wI_nc (fun h => hj h.2), wI_ne (by omega), wI_ne (by omega)]
  · rw [wI_nc (fun h => hj h.2), wI_ne (by omega), wI_ne (by omega), wI_ne (by omega)]
  · rw [wI_ne (by omega), wI_ne (by omega), wI_ne (by omega), wI_self, mn_n]
  · rw [wI_ne (by omega), wI_ne (by omega), wI_self, mn_n, wI_ne (by omega)]
  · rw [wI_ne (by omega), wI_self, mx_n, wI_ne (by omega), wI_ne (by omega)]
  · rw [wI_self, mx_n, wI_ne (by omega), wI_ne (by omega), wI_ne (by omega)]
set_option maxRecDepth 100000 in
theorem bit_n : ∀ k : Fin 9, ∀ a : Fin 256, (Int32.ofNat a.1 >>> ((8 - Int32.ofNat k.1) &&& 31)) &&& 1 = Int32.ofNat (a.1 / 2 ^ (8 - k.1) % 2) := by decide +kernel
set_option maxRecDepth 100000 in
theorem q4_n : ∀ a : Fin 2, ∀ b : Fin 2, Int32.ofNat a.1 * 2 + Int32.ofNat b.1 = Int32.ofNat (a.1 * 2 + b.1) := by decide
theorem quarter_n {x0 y0 x1 y1 : Int32} {k : Nat} (hx : 0 ≤ x0.toInt ∧ x0.toInt ≤ 255) (hy : 0 ≤ y0.toInt ∧ y0.toInt ≤ 255) (hk : k ≤ 8) : f_Bo_quarter x0 y0 x1 y1 (Int32.ofNat k) = Int32.ofNat (y0.toInt.toNat / 2 ^ (8 - k) % 2 * 2 + x0.toInt.toNat / 2 ^ (8 - k) % 2) := by
  have e1 := bit_n ⟨k, by omega⟩ ⟨x0.toInt.toNat, by omega⟩
  have e2 := bit_n ⟨k, by omega⟩ ⟨y0.toInt.toNat, by omega⟩
  have e1 : (Int32.ofNat x0.toInt.toNat >>> ((8 - Int32.ofNat k) &&& 31)) &&& 1 = Int32.ofNat (x0.toInt.toNat / 2 ^ (8 - k) % 2) := e1
  have e2 : (Int32.ofNat y0.toInt.toNat >>> ((8 - Int32.ofNat k) &&& 31)) &&& 1 = Int32.ofNat (y0.toInt.toNat / 2 ^ (8 - k) % 2) := e2
  rw [← z_ofn hx.1] at e1
  rw [← z_ofn hy.1] at e2
  unfold f_Bo_quarter
  rw [e1, e2]
  exact q4_n ⟨y0.toInt.toNat / 2 ^ (8 - k) % 2, by omega⟩ ⟨x0.toInt.toNat / 2 ^ (8 - k) % 2, by omega⟩
theorem child_n {X Y : Nat → Int} {r k : Nat} (hx : 0 ≤ X r ∧ X r ≤ 255) (hy : 0 ≤ Y r ∧ Y r ≤ 255) (hk : 1 ≤ k) (hk8 : k ≤ 8) : ixC (ixQ X Y r (k - 1)) ((Y r).toNat / 2 ^ (8 - k) % 2 * 2 + (X r).toNat / 2 ^ (8 - k) % 2) = ixQ X Y r k := by
  have p1 := ix_par (X r) (k := k - 1) (by omega)
  have p2 := ix_par (Y r) (k := k - 1) (by omega)
  rw [show k - 1 + 1 = k by omega] at p1 p2
  have c1 : (((X r).toNat / 2 ^ (8 - k) : Nat) : Int) = X r / 2 ^ (8 - k) := by
    rw [Int.natCast_ediv, Int.toNat_of_nonneg hx.1]
    norm_cast
  have c2 : (((Y r).toNat / 2 ^ (8 - k) : Nat) : Int) = Y r / 2 ^ (8 - k) := by
    rw [Int.natCast_ediv, Int.toNat_of_nonneg hy.1]
    norm_cast
  unfold ixC ixQ
  refine Prod.ext (by show k - 1 + 1 = k; omega) (Prod.ext ?_ ?_)
  · show 2 * (X r / 2 ^ (8 - (k - 1))) + _ = X r / 2 ^ (8 - k)
    rw [p1]
    omega
  · show 2 * (Y r / 2 ^ (8 - (k - 1))) + _ = Y r / 2 ^ (8 - k)
    rw [p2]
    omega
