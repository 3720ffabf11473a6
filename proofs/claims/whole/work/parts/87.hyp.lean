-- what the reference's theorems ask for
theorem r190_p (al ln t : Int64) (w : yW) : 0 < ((g_Mo_reach_190 al ln t w).2).toInt := by
  unfold g_Mo_reach_190
  rw [lc_le, lc_lt]
  have e0 : (0 : Int64).toInt = 0 := rfl
  by_cases h1 : al.toInt ≤ 0
  · rw [decide_eq_true (by omega)]
    show 0 < (1 : Int64).toInt
    decide
  · rw [decide_eq_false (by omega)]
    by_cases h2 : al.toInt < ln.toInt
    · rw [decide_eq_true h2]
      show 0 < ln.toInt
      omega
    · rw [decide_eq_false h2]
      show 0 < (1 : Int64).toInt
      decide
theorem r213_p {t u : Int64} {w : yW} (hu : 0 < u.toInt) (h : 0 < (w.2.1 54 14).toInt) : 0 < ((g_Mo_reach_213 t u w).2.1 54 14).toInt := by
  unfold g_Mo_reach_213
  generalize zc .ge _ 0 = b
  cases b
  · show 0 < ((wL (wL w 54 13 t) 54 14 u).2.1 54 14).toInt
    rw [wL_self]
    exact hu
  · exact h
theorem re_p {a b c : Int32} {w : yW} (h : 0 < (w.2.1 54 14).toInt) : 0 < ((e_Mo_reach a b c w).2.1 54 14).toInt := by
  unfold e_Mo_reach
  rw [i_Mo_reach_190, i_Mo_reach_122]
  exact r213_p (r190_p ..) h
theorem mo49_p {w0 : yW} {s u i j : Int32} {w : yW} (h : 0 < (w.2.1 54 14).toInt) : 0 < ((g_Mo_measureOut_49 w0 s u i j w).2.1 54 14).toInt := by
  unfold g_Mo_measureOut_49
  exact re_p (re_p (re_p (re_p h)))
theorem mo39_p {w0 : yW} {s u i : Int32} : ∀ (n : Nat) (w : yW) (j : Int32), 0 < (w.2.1 54 14).toInt → 0 < ((g_Mo_measureOut_39 w0 s u i n w j).2.1 54 14).toInt
  | 0, w, j, h => h
  | n + 1, w, j, h => by
    rw [g_Mo_measureOut_39]
    cases zc .ge j (f_Mo_sides (yA w 57 65) (yA w 58 65) u)
    · exact mo39_p n _ _ (mo49_p h)
    · exact h
theorem mo27_p {w0 : yW} {s u : Int32} : ∀ (n : Nat) (w : yW) (j : Int32), 0 < (w.2.1 54 14).toInt → 0 < ((g_Mo_measureOut_27 w0 s u n w j).2.1 54 14).toInt
  | 0, w, j, h => h
  | n + 1, w, j, h => by
    rw [g_Mo_measureOut_27]
    cases zc .ge j (f_Mo_sides (yA w 57 65) (yA w 58 65) s)
    · exact mo27_p n _ _ (mo39_p _ _ _ h)
    · exact h
theorem mo_p (s u : Int32) (w : yW) : 0 < ((e_Mo_measureOut s u w).2.1 54 14).toInt := by
  unfold e_Mo_measureOut
  refine mo27_p _ _ _ ?_
  unfold g_Mo_measureOut_0
  generalize zc .eq _ 0 = b
  cases b
  · show 0 < ((wL (wL w 54 14 1) 54 13 0).2.1 54 14).toInt
    rw [(ydL _ 54 13 _ 54 14 (by decide)).2.1, wL_self]
    decide
  · show 0 < ((wL (wL w 54 14 1) 54 13 1000000).2.1 54 14).toInt
    rw [(ydL _ 54 13 _ 54 14 (by decide)).2.1, wL_self]
    decide
theorem mo_nz (s u : Int32) (w : yW) : ¬ (e_Mo_measureOut s u w).2.1 54 14 = 0 := fun e => by
  have h := mo_p s u w
  rw [e] at h
  exact absurd h (by decide)
theorem yM_i {w w' : yW} (f : ∀ d j, d = 55 ∨ d = 58 ∨ d = 61 ∨ d = 62 ∨ d = 63 ∨ d = 64 → w'.1 d j = w.1 d j) (h : yM w) : yM w' := by
  intro s hs
  have k := h s hs
  rw [f 55 s (by omega), f 58 s (by omega), f 61 s (by omega), f 62 s (by omega), f 63 s (by omega), f 64 s (by omega)]
  exact k
theorem free_n {w w' : yW} {G : List zC} (h : INV w G) (e : w'.1 55 = w.1 55) (t : Int32) (h0 : 0 ≤ t.toInt) (h1 : t.toInt ≤ 1) (hs : ¬ (e_Mo_size t w').2 = 16) : ∃ j, j < 16 ∧ w'.1 55 (16 * t + Int32.ofNat j).toNatClampNeg = 0 := by
  have et := z_ofn (x := t) h0
  have hT : t.toInt.toNat < 2 := by omega
  generalize t.toInt.toNat = T at et hT
  have hsz := size_n h hT
  rw [← et, ← size_55 e t] at hsz
  have hcl := cntM_le (rowP w T) 16
  have hc : ¬ cntM (rowP w T) 16 = 16 := fun hh => hs (by rw [hsz, hh]; rfl)
  have hla := @lfr_all (rowP w T) 16 0
  have hl : lfr (rowP w T) 16 0 < 16 := by
    have : ¬ lfr (rowP w T) 16 0 = 16 := fun hh => hc ((cnt_16 _).mpr hh)
    omega
  have hf := hla.2.2.2 (by omega)
  refine ⟨lfr (rowP w T) 16 0, hl, ?_⟩
  rw [et, show (16 : Int32) = Int32.ofNat 16 from rfl, ← Int32.ofNat_mul, mk_add, n_clamp (by omega), e]
  have hp := (h.2.2.1 T (lfr (rowP w T) 16 0) hT hl).1
  have hh : yS (w.2.2 (16 + 12 * T) (lfr (rowP w T) 16 0)) = false := hf
  cases hz : w.2.2 (16 + 12 * T) (lfr (rowP w T) 16 0) with
  | none => rw [hz] at hp; exact hp
  | some y => rw [hz] at hh; cases hh
