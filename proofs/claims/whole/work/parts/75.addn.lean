-- a row's squares, all levels
theorem ixU_r {d : Nat → Nat} {r k : Nat} : ixU d r k r = k := if_pos rfl
theorem ixU_ne {d : Nat → Nat} {r k i : Nat} (h : i ≠ r) : ixU d r k i = d i := if_neg h
theorem ixU_self {d : Nat → Nat} {r k : Nat} (h : d r = k) : ixU d r k = d := by
  funext i
  by_cases e : i = r
  · subst e; rw [ixU_r, h]
  · exact ixU_ne e
theorem ixU_u {d : Nat → Nat} {r k l : Nat} : ixU (ixU d r k) r l = ixU d r l := by
  funext i
  by_cases e : i = r
  · subst e; rw [ixU_r, ixU_r]
  · rw [ixU_ne e, ixU_ne e, ixU_ne e]
section ADN
variable {G : List zC} {c x r H : Nat} {X Y X1 Y1 : Nat → Int}
theorem loop_n (hr : r < 16) (hH : H ≤ 8) (e0 : X r = (gB G x 0).toInt) (e1 : Y r = (gB G x 1).toInt) (e2 : X1 r = (gB G x 2).toInt) (e3 : Y1 r = (gB G x 3).toInt) (bX : 0 ≤ X r ∧ X r ≤ 255) (bY : 0 ≤ Y r ∧ Y r ≤ 255) (bX1 : 0 ≤ X1 r) (bY1 : 0 ≤ Y1 r) :
    ∀ (n k m : Nat) (w : yW) (sq : Nat → Nat × Int × Int) (d : Nat → Nat), yIn w c → ixW w c sq d X Y X1 Y1 → d r = k → 1 ≤ k → k ≤ H + 1 → H < k + n → (∀ i, i < 16 → d i ≤ 9) → m < (w.1 c 5).toInt.toNat → sq m = ixQ X Y r (k - 1) → ∃ sq', ixW (g_In_add_30 G c x n w (Int32.ofNat m) (Int32.ofNat H) (Int32.ofNat k)) c sq' (ixU d r (H + 1)) X Y X1 Y1 := by
  intro n
  induction n with
  | zero =>
    intro k m w sq d hy hW hk h1 h2 h3 hd9 hm hsq
    have : k = H + 1 := by omega
    subst this
    refine ⟨sq, ?_⟩
    rw [ixU_self hk]
    exact hW
  | succ n ih =>
    intro k m w sq d hy hW hk h1 h2 h3 hd9 hm hsq
    rw [g_In_add_30, zc_gt, z_nat (by omega), z_nat (by omega)]
    by_cases hkH : H < k
    · have : k = H + 1 := by omega
      subst this
      rw [decide_eq_true (by omega)]
      refine ⟨sq, ?_⟩
      rw [ixU_self hk]
      exact hW
    · rw [decide_eq_false (by omega)]
      obtain ⟨m', sq', a1, a2, a3, a4⟩ := step_n (x := x) hy hW hr hk h1 (by omega) hd9 hm hsq e0 e1 e2 e3 bX bY bX1 bY1
      have hz := hy.2
      have hqr := z_quarter (gB G x 0) (gB G x 1) (gB G x 2) (gB G x 3) (Int32.ofNat k)
      have hmz := z_nat (n := m) (by omega)
      have hP := yIn_part (nd := Int32.ofNat m) (qu := f_Bo_quarter (gB G x 0) (gB G x 1) (gB G x 2) (gB G x 3) (Int32.ofNat k)) hy (zIx_4n (by omega) (by omega) hqr.1 hqr.2)
      have hS := yIn_str (G := G) (x := x) (nd := Int32.ofNat m') hP.1
      simp only [cond_false]
      rw [a1, n_inc2]
      obtain ⟨sq2, h⟩ := ih (k + 1) m' _ sq' (ixU d r (k + 1)) hS a4 ixU_r (by omega) (by omega) (by omega) (fun i hi => by
        by_cases e : i = r
        · rw [e, ixU_r]; omega
        · rw [ixU_ne e]; exact hd9 i hi) a2 a3
      exact ⟨sq2, by rw [ixU_u] at h; exact h⟩
theorem q0_n (bX : 0 ≤ X r ∧ X r ≤ 255) (bY : 0 ≤ Y r ∧ Y r ≤ 255) : ixQ X Y r 0 = (0, 0, 0) := by
  unfold ixQ
  have e : (2 : Int) ^ (8 - 0) = 256 := by decide
  rw [e]
  refine Prod.ext rfl (Prod.ext ?_ ?_)
  · show X r / 256 = 0
    omega
  · show Y r / 256 = 0
    omega
theorem add_n {w : yW} {sq : Nat → Nat × Int × Int} {d : Nat → Nat} (hy : yIn w c) (hW : ixW w c sq d X Y X1 Y1) (hr : r < 16) (hd : d r = 0) (hd9 : ∀ i, i < 16 → d i ≤ 9) (hH : H ≤ 8) (hh : f_Bo_homeLevel (gB G x 0) (gB G x 1) (gB G x 2) (gB G x 3) = Int32.ofNat H) (e0 : X r = (gB G x 0).toInt) (e1 : Y r = (gB G x 1).toInt) (e2 : X1 r = (gB G x 2).toInt) (e3 : Y1 r = (gB G x 3).toInt) (bX : 0 ≤ X r ∧ X r ≤ 255) (bY : 0 ≤ Y r ∧ Y r ≤ 255) (bX1 : 0 ≤ X1 r) (bY1 : 0 ≤ Y1 r) : ∃ sq', ixW (e_In_add G c x w) c sq' (ixU d r (H + 1)) X Y X1 Y1 := by
  have hz := hy.2
  have hs := z_ofn hz.1
  have hq0 := q0_n (r := r) bX bY
  have hd9' : ∀ i, i < 16 → ixU d r 1 i ≤ 9 := fun i hi => by
    by_cases e : i = r
    · rw [e, ixU_r]; omega
    · rw [ixU_ne e]; exact hd9 i hi
  unfold e_In_add
  rw [hh]
  have hN0 := yIn_a0 (G := G) (x := x) hy
  by_cases hN : w.1 c 5 = 0
  · have ea : g_In_add_0 G c x w = ((e_In_newNode c w).1, (e_In_newNode c w).2) := by
      unfold g_In_add_0
      rw [show zc .ne (w.1 c 5) 0 = false from decide_eq_false (fun h => h hN)]
      rfl
    have hs0 : w.1 c 5 = Int32.ofNat 0 := hN
    obtain ⟨n1, n2, n3, n4, n5, n6, n7⟩ := new_n (c := c) hs0 (by omega)
    rw [ea] at hN0 ⊢
    rw [n1] at hN0 ⊢
    obtain ⟨s1, s2, s3, s4, s5, s6⟩ := str_n (G := G) (w := (e_In_newNode c w).1) (c := c) (x := x) (m := 0) (by omega)
    have hS := yIn_str (G := G) (x := x) (nd := Int32.ofNat 0) hN0.1
    have f5 : ((e_In_stretch G c (Int32.ofNat 0) x (e_In_newNode c w).1).1 c 5).toInt.toNat = 1 := by
      rw [s1 c 5 (by omega) (by omega) (by omega) (by omega), n2]
      rfl
    have hW1 : ixW (e_In_stretch G c (Int32.ofNat 0) x (e_In_newNode c w).1) c (fun _ => (0, 0, 0)) (ixU d r 1) X Y X1 Y1 := by
      unfold ixW
      rw [f5]
      obtain ⟨hI, _⟩ := hW
      have hz0 : (w.1 c 5).toInt.toNat = 0 := by rw [hN]; rfl
      rw [hz0] at hI
      have hI0 : ixI 0 (fun _ => (0, 0, 0)) (fun i q => ((e_In_stretch G c (Int32.ofNat 0) x (e_In_newNode c w).1).1 (c + 1) (4 * i + q)).toInt.toNat) d X Y := ⟨fun i j hi => absurd hi (Nat.not_lt_zero _), fun i hi => absurd hi (Nat.not_lt_zero _), fun r l hr hl => by
        obtain ⟨i, hi, _⟩ := hI.2.2.1 r l hr hl
        exact absurd hi (Nat.not_lt_zero _), fun _ => rfl, fun i q hi => absurd hi (Nat.not_lt_zero _), by omega⟩
      refine ix_root hI0 hr hd rfl hq0 ?_ ?_ ?_ ?_ ?_
      · intro q hq
        show ((e_In_stretch G c (Int32.ofNat 0) x (e_In_newNode c w).1).1 (c + 1) (4 * 0 + q)).toInt.toNat = 0
        rw [s1 _ _ (by omega) (by omega) (by omega) (by omega), n3, if_pos (by omega)]
        rfl
      · show ((e_In_stretch G c (Int32.ofNat 0) x (e_In_newNode c w).1).1 (c + 2) 0).toInt = X r
        rw [s3, n4, if_pos rfl, ← e0]
        show min (255 : Int) (X r) = X r
        omega
      · show ((e_In_stretch G c (Int32.ofNat 0) x (e_In_newNode c w).1).1 (c + 3) 0).toInt = Y r
        rw [s4, n5, if_pos rfl, ← e1]
        show min (255 : Int) (Y r) = Y r
        omega
      · show ((e_In_stretch G c (Int32.ofNat 0) x (e_In_newNode c w).1).1 (c + 4) 0).toInt = X1 r
        rw [s5, n6, if_pos rfl, ← e2]
        show max (0 : Int) (X1 r) = X1 r
        omega
      · show ((e_In_stretch G c (Int32.ofNat 0) x (e_In_newNode c w).1).1 (c + 5) 0).toInt = Y1 r
        rw [s6, n7, if_pos rfl, ← e3]
        show max (0 : Int) (Y1 r) = Y1 r
        omega
    obtain ⟨sq2, h⟩ := loop_n (c := c) (x := x) hr hH e0 e1 e2 e3 bX bY bX1 bY1 9 1 0 _ _ _ hS hW1 ixU_r (by omega) (by omega) (by omega) hd9' (by rw [f5]; omega) hq0.symm
    exact ⟨sq2, by rw [ixU_u] at h; exact h⟩
  · have ea : g_In_add_0 G c x w = (w, 0) := by
      unfold g_In_add_0
      rw [show zc .ne (w.1 c 5) 0 = true from decide_eq_true hN]
      rfl
    rw [ea]
    have hNp : 0 < (w.1 c 5).toInt.toNat := by
      rcases Nat.eq_zero_or_pos (w.1 c 5).toInt.toNat with h0 | h0
      · rw [h0] at hs
        exact absurd hs hN
      · exact h0
    obtain ⟨hI, hR⟩ := hW
    have hsq0 : sq 0 = ixQ X Y r 0 := (hI.2.2.2.1 hNp).trans hq0.symm
    obtain ⟨s1, s2, s3, s4, s5, s6⟩ := str_n (G := G) (w := w) (c := c) (x := x) (m := 0) (by omega)
    have hS := yIn_str (G := G) (x := x) (nd := Int32.ofNat 0) hy
    have f5 : (e_In_stretch G c (Int32.ofNat 0) x w).1 c 5 = w.1 c 5 := s1 c 5 (by omega) (by omega) (by omega) (by omega)
    have fp : (fun i q => ((e_In_stretch G c (Int32.ofNat 0) x w).1 (c + 1) (4 * i + q)).toInt.toNat) = fun i q => (w.1 (c + 1) (4 * i + q)).toInt.toNat := by
      funext i p
      rw [s1 _ _ (by omega) (by omega) (by omega) (by omega)]
    have hW1 : ixW (e_In_stretch G c (Int32.ofNat 0) x w) c sq (ixU d r 1) X Y X1 Y1 := by
      unfold ixW
      rw [f5, fp]
      refine ix_old hI hR hr hd hNp hsq0 ?_ ?_ ?_ ?_ ?_
      · intro i hi hne2
        obtain ⟨a, b, g, h⟩ := s2 i hne2
        exact ⟨congrArg Int32.toInt a, congrArg Int32.toInt b, congrArg Int32.toInt g, congrArg Int32.toInt h⟩
      · rw [e0]; exact s3
      · rw [e1]; exact s4
      · rw [e2]; exact s5
      · rw [e3]; exact s6
    obtain ⟨sq2, h⟩ := loop_n (c := c) (x := x) hr hH e0 e1 e2 e3 bX bY bX1 bY1 9 1 0 _ _ _ hS hW1 ixU_r (by omega) (by omega) (by omega) hd9' (by rw [f5]; exact hNp) hsq0
    exact ⟨sq2, by rw [ixU_u] at h; exact h⟩
end ADN
