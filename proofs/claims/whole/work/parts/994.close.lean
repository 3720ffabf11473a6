-- close: a gap against a limit
theorem pGp_b {a b c d : Int} (ha : zDx a) (hb : zDx b) (hc : zDx c) (hd : zDx d) : 0 ≤ pGp a b c d ∧ pGp a b c d ≤ 255 := by
  unfold zDx at *
  unfold pGp
  split
  · omega
  · split <;> omega
theorem sq_b {a : Int} (h0 : 0 ≤ a) (h1 : a ≤ 255) : 0 ≤ a * a ∧ a * a ≤ 65025 := ⟨Int.mul_nonneg h0 h0, by
  have := Int.mul_le_mul h1 h1 h0 (by omega)
  omega⟩
theorem pGap_b {a b c d e f g i : Int} (h1 : zDx a) (h2 : zDx b) (h3 : zDx c) (h4 : zDx d) (h5 : zDx e) (h6 : zDx f) (h7 : zDx g) (h8 : zDx i) : 0 ≤ pGap a b c d e f g i ∧ pGap a b c d e f g i ≤ 130050 := by
  unfold pGap
  have p := pGp_b h1 h2 h5 h6
  have q := pGp_b h3 h4 h7 h8
  have := sq_b p.1 p.2
  have := sq_b q.1 q.2
  omega
theorem mulu_b {g u : Int} (h0 : 0 ≤ g) (h1 : g ≤ 130050) (h2 : 0 ≤ u) (h3 : u ≤ 131072) : 0 ≤ g * u ∧ g * u ≤ 17045913600 := ⟨Int.mul_nonneg h0 h2, by
  have := Int.mul_le_mul h1 h3 h2 (by omega)
  omega⟩
theorem close_n {w : yW} {p : Nat} {t u : Int64} (hp : p < 65) (h1 : zDx (w.1 61 p).toInt) (h2 : zDx (w.1 62 p).toInt) (h3 : zDx (w.1 63 p).toInt) (h4 : zDx (w.1 64 p).toInt) (h5 : zDx (w.1 54 17).toInt) (h6 : zDx (w.1 54 18).toInt) (h7 : zDx (w.1 54 19).toInt) (h8 : zDx (w.1 54 20).toInt) (hu0 : 0 ≤ u.toInt) (hu : u.toInt ≤ 131072) : (e_Mo_close (Int32.ofNat p) t u w).2 = b2 (decide (pGap (w.1 61 p).toInt (w.1 62 p).toInt (w.1 63 p).toInt (w.1 64 p).toInt (w.1 54 17).toInt (w.1 54 18).toInt (w.1 54 19).toInt (w.1 54 20).toInt * u.toInt ≤ t.toInt)) := by
  unfold e_Mo_close
  rw [n_clamp (by omega), lc_gt]
  have g1 := gapm_n h1 h2 h5 h6
  have g2 := gapm_n h3 h4 h7 h8
  have p1 := pGp_b h1 h2 h5 h6
  have p2 := pGp_b h3 h4 h7 h8
  have s1 := sq_b p1.1 p1.2
  have s2 := sq_b p2.1 p2.2
  unfold pGap
  generalize f_Mo_gap (w.1 61 p) (w.1 62 p) (w.1 54 17) (w.1 54 18) = A at g1 ⊢
  generalize f_Mo_gap (w.1 63 p) (w.1 64 p) (w.1 54 19) (w.1 54 20) = B at g2 ⊢
  generalize pGp (w.1 61 p).toInt (w.1 62 p).toInt (w.1 54 17).toInt (w.1 54 18).toInt = a at g1 p1 s1 ⊢
  generalize pGp (w.1 63 p).toInt (w.1 64 p).toInt (w.1 54 19).toInt (w.1 54 20).toInt = b at g2 p2 s2 ⊢
  have m := mulu_b (g := a * a + b * b) (u := u.toInt) (by omega) (by omega) hu0 hu
  have e : ((A * A + B * B) * u).toInt = (a * a + b * b) * u.toInt := by
    have eA : (A * A).toInt = a * a := by rw [z_mulL (by rw [g1]; omega) (by rw [g1]; omega), g1]
    have eB : (B * B).toInt = b * b := by rw [z_mulL (by rw [g2]; omega) (by rw [g2]; omega), g2]
    have eS : (A * A + B * B).toInt = a * a + b * b := by rw [z_addL (by omega) (by omega), eA, eB]
    rw [z_mulL (by rw [eS]; omega) (by rw [eS]; omega), eS]
  rw [e]
  by_cases c : t.toInt < (a * a + b * b) * u.toInt
  · rw [decide_eq_true c, decide_eq_false (show ¬ (a * a + b * b) * u.toInt ≤ t.toInt by omega)]
    rfl
  · rw [decide_eq_false c, decide_eq_true (show (a * a + b * b) * u.toInt ≤ t.toInt by omega)]
    rfl
theorem gap_n {x0 y0 x1 y1 p q r s : Int32} (h1 : zDx x0.toInt) (h2 : zDx x1.toInt) (h3 : zDx y0.toInt) (h4 : zDx y1.toInt) (h5 : zDx p.toInt) (h6 : zDx r.toInt) (h7 : zDx q.toInt) (h8 : zDx s.toInt) (k1 : x0.toInt ≤ x1.toInt) (k2 : y0.toInt ≤ y1.toInt) (k3 : p.toInt ≤ r.toInt) (k4 : q.toInt ≤ s.toInt) : (f_Bo_gapToRectangle x0 y0 x1 y1 p q r s).toInt = pGap x0.toInt x1.toInt y0.toInt y1.toInt p.toInt r.toInt q.toInt s.toInt := by
  unfold f_Bo_gapToRectangle pGap
  have g1 := gapc_n h1 h2 h5 h6 k1 k3
  have g2 := gapc_n h3 h4 h7 h8 k2 k4
  have p1 := pGp_b h1 h2 h5 h6
  have p2 := pGp_b h3 h4 h7 h8
  have s1 := sq_b p1.1 p1.2
  have s2 := sq_b p2.1 p2.2
  generalize f_Bo_apart x0 x1 p r = A at g1 ⊢
  generalize f_Bo_apart y0 y1 q s = B at g2 ⊢
  generalize pGp x0.toInt x1.toInt p.toInt r.toInt = a at g1 p1 s1 ⊢
  generalize pGp y0.toInt y1.toInt q.toInt s.toInt = b at g2 p2 s2 ⊢
  have eA : (A * A).toInt = a * a := by rw [z_mul (by rw [g1]; omega) (by rw [g1]; omega), g1]
  have eB : (B * B).toInt = b * b := by rw [z_mul (by rw [g2]; omega) (by rw [g2]; omega), g2]
  rw [z_add (by omega) (by omega), eA, eB]
theorem least_n {x0 y0 x1 y1 p q r s : Int32} {T B : Int64} (h1 : zDx x0.toInt) (h2 : zDx x1.toInt) (h3 : zDx y0.toInt) (h4 : zDx y1.toInt) (h5 : zDx p.toInt) (h6 : zDx r.toInt) (h7 : zDx q.toInt) (h8 : zDx s.toInt) (k1 : x0.toInt ≤ x1.toInt) (k2 : y0.toInt ≤ y1.toInt) (k3 : p.toInt ≤ r.toInt) (k4 : q.toInt ≤ s.toInt) (hB0 : 0 ≤ B.toInt) (hB : B.toInt ≤ 131072) : f_Di_isAtLeast T B (f_Bo_gapToRectangle x0 y0 x1 y1 p q r s) = b2 (decide (pGap x0.toInt x1.toInt y0.toInt y1.toInt p.toInt r.toInt q.toInt s.toInt * B.toInt ≤ T.toInt)) := by
  have g := gap_n h1 h2 h3 h4 h5 h6 h7 h8 k1 k2 k3 k4
  have b := pGap_b h1 h2 h3 h4 h5 h6 h7 h8
  unfold f_Di_isAtLeast
  rw [lc_gt]
  generalize f_Bo_gapToRectangle x0 y0 x1 y1 p q r s = A at g ⊢
  generalize pGap x0.toInt x1.toInt y0.toInt y1.toInt p.toInt r.toInt q.toInt s.toInt = a at g b ⊢
  have m := mulu_b b.1 b.2 hB0 hB
  have e : (A.toInt64 * B).toInt = a * B.toInt := by
    rw [z_mulL (by rw [z_i2l, g]; omega) (by rw [z_i2l, g]; omega), z_i2l, g]
  rw [e]
  by_cases c : T.toInt < a * B.toInt
  · rw [decide_eq_true c, decide_eq_false (show ¬ a * B.toInt ≤ T.toInt by omega)]
    rfl
  · rw [decide_eq_false c, decide_eq_true (show a * B.toInt ≤ T.toInt by omega)]
    rfl
theorem yOk_bd {G : List zC} {x : Nat} (h : yOk G x) : zDx (gB G x 0).toInt ∧ zDx (gB G x 1).toInt ∧ zDx (gB G x 2).toInt ∧ zDx (gB G x 3).toInt ∧ (gB G x 0).toInt ≤ (gB G x 2).toInt ∧ (gB G x 1).toInt ≤ (gB G x 3).toInt := by
  have b := ok_b h
  obtain ⟨_, _, _, _, _, _, n1, n6, cX, cY, lX, lY, gX', gY', _, _⟩ := h
  refine ⟨b.1, b.2.1, b.2.2.1, b.2.2.2, ?_, ?_⟩
  · obtain ⟨⟨a, ha, e⟩, _⟩ := lX
    have := gX'.2 a ha
    omega
  · obtain ⟨⟨a, ha, e⟩, _⟩ := lY
    have := gY'.2 a ha
    omega
theorem tb_b {w : yW} {G : List zC} {T : Nat} (r : Nat) (h : INV w G) : zDx (tX w G T r) ∧ zDx (tY w G T r) ∧ zDx (tX1 w G T r) ∧ zDx (tY1 w G T r) ∧ tX w G T r ≤ tX1 w G T r ∧ tY w G T r ≤ tY1 w G T r := by
  have hR : yRk w G := h.2.2.2.2.2.2.2.2.2
  unfold tX tY tX1 tY1
  cases e : w.2.2 (16 + 12 * T) r with
  | none =>
    have z : zDx 0 := ⟨by omega, by omega⟩
    exact ⟨z, z, z, z, Int.le_refl _, Int.le_refl _⟩
  | some x => exact yOk_bd (hR _ _ _ e)
theorem nB_b {w' w : yW} {G : List zC} {T : Nat} {P : Nat → Prop} (h : INV w G) (hn : nB w' w G T P) : zDx (w'.1 54 17).toInt ∧ zDx (w'.1 54 18).toInt ∧ zDx (w'.1 54 19).toInt ∧ zDx (w'.1 54 20).toInt := by
  obtain ⟨⟨⟨r1, _, _, e1⟩, _⟩, ⟨⟨r2, _, _, e2⟩, _⟩, ⟨⟨r3, _, _, e3⟩, _⟩, ⟨⟨r4, _, _, e4⟩, _⟩⟩ := hn
  rw [← e1, ← e2, ← e3, ← e4]
  exact ⟨(tb_b r1 h).1, (tb_b r2 h).2.2.1, (tb_b r3 h).2.1, (tb_b r4 h).2.2.2.1⟩
/-- a rectangle is read at limit t / u from slot p -/
def clB (w : yW) (p : Nat) (t u : Int) (x0 x1 y0 y1 : Int) : Bool := decide (u = 0) || decide (pGap (w.1 61 p).toInt (w.1 62 p).toInt (w.1 63 p).toInt (w.1 64 p).toInt x0 x1 y0 y1 * u ≤ t)
def pBd (w : yW) (p : Nat) : Prop := zDx (w.1 61 p).toInt ∧ zDx (w.1 62 p).toInt ∧ zDx (w.1 63 p).toInt ∧ zDx (w.1 64 p).toInt
theorem rb101_n {w w' : yW} {p c : Nat} {tb q dp l : Int32} {t u : Int64} (hp : p < 65) (hs : sRw w w') (hb : u.toInt = 0 ∨ pBd w p) (h5 : zDx (w'.1 54 17).toInt) (h6 : zDx (w'.1 54 18).toInt) (h7 : zDx (w'.1 54 19).toInt) (h8 : zDx (w'.1 54 20).toInt) (hu0 : 0 ≤ u.toInt) (hu : u.toInt ≤ 131072) : g_Mo_readBy_101 (Int32.ofNat p) tb t u q dp l w' (Int32.ofNat c) = (w', Int32.ofNat (c + if clB w p t.toInt u.toInt (w'.1 54 17).toInt (w'.1 54 18).toInt (w'.1 54 19).toInt (w'.1 54 20).toInt then 1 else 0)) := by
  have e1 := hs 61 p (by omega) (by omega)
  have e2 := hs 62 p (by omega) (by omega)
  have e3 := hs 63 p (by omega) (by omega)
  have e4 := hs 64 p (by omega) (by omega)
  unfold g_Mo_readBy_101 clB
  rw [lc_eq, n_inc2, show (0 : Int64).toInt = 0 from rfl]
  by_cases hz : u.toInt = 0
  · rw [decide_eq_true hz]
    rfl
  · obtain ⟨h1, h2, h3, h4⟩ := hb.resolve_left hz
    have k := close_n (w := w') (p := p) (t := t) (u := u) hp (by rw [e1]; exact h1) (by rw [e2]; exact h2) (by rw [e3]; exact h3) (by rw [e4]; exact h4) h5 h6 h7 h8 hu0 hu
    rw [e1, e2, e3, e4] at k
    rw [k, b2_eq, decide_eq_false hz]
    generalize pGap (w.1 61 p).toInt (w.1 62 p).toInt (w.1 63 p).toInt (w.1 64 p).toInt (w'.1 54 17).toInt (w'.1 54 18).toInt (w'.1 54 19).toInt (w'.1 54 20).toInt * u.toInt = z
    cases decide (z ≤ t.toInt) <;> rfl
