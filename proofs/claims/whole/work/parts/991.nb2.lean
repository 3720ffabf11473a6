-- the bound of a square's rows: the loop
def tP (w : yW) (G : List zC) (T r l s : Nat) : Nat → Prop := fun i => i = r ∨ (i < s ∧ tSh w G T r l i = true)
def nB (w' w : yW) (G : List zC) (T : Nat) (P : Nat → Prop) : Prop := ixLo P (tX w G T) (w'.1 54 17).toInt ∧ ixHi P (tX1 w G T) (w'.1 54 18).toInt ∧ ixLo P (tY w G T) (w'.1 54 19).toInt ∧ ixHi P (tY1 w G T) (w'.1 54 20).toInt
theorem row_b {w : yW} {G : List zC} {T r x : Nat} (h : INV w G) (hT : T < 2) (hr : r < 16) (hx : w.2.2 (16 + 12 * T) r = some x) : (w.1 61 (16 * T + r)).toInt = tX w G T r ∧ (w.1 62 (16 * T + r)).toInt = tX1 w G T r ∧ (w.1 63 (16 * T + r)).toInt = tY w G T r ∧ (w.1 64 (16 * T + r)).toInt = tY1 w G T r := by
  have k := row_e h hT hr hx
  unfold tX tX1 tY tY1
  rw [hx, k.2.2.2.2.2.1, k.2.2.2.2.2.2.1, k.2.2.2.2.2.2.2.1, k.2.2.2.2.2.2.2.2]
  exact ⟨rfl, rfl, rfl, rfl⟩
theorem nb_L {w : yW} {G : List zC} {T r l y : Nat} (h : INV w G) (hT : T < 2) (h2 : r < 16) (hy : w.2.2 (16 + 12 * T) r = some y) (hl : l ≤ 8) : ∀ (f s : Nat) (w' : yW), s ≤ 16 → 16 < s + f → sRw w w' → nB w' w G T (tP w G T r l s) →
    (∀ d j, ¬ (d = 54 ∧ 17 ≤ j ∧ j ≤ 20) → (g_Mo_nodeBound_13 (Int32.ofNat (16 * T + r)) (Int32.ofNat l) f w' (Int32.ofNat (16 * T + s))).1 d j = w'.1 d j) ∧ (g_Mo_nodeBound_13 (Int32.ofNat (16 * T + r)) (Int32.ofNat l) f w' (Int32.ofNat (16 * T + s))).2 = w'.2 ∧ nB (g_Mo_nodeBound_13 (Int32.ofNat (16 * T + r)) (Int32.ofNat l) f w' (Int32.ofNat (16 * T + s))) w G T (tP w G T r l 16)
  | 0, s, w', a, b, _, _ => by omega
  | f + 1, s, w', a, b, hs, hn => by
    rw [g_Mo_nodeBound_13, t16_e hT h2, show (16 : Int32) = Int32.ofNat 16 from rfl, mk_add, zc_ge, z_nat (by omega), z_nat (by omega)]
    by_cases e : s = 16
    · rw [decide_eq_true (by omega)]
      rw [e] at hn
      exact ⟨fun _ _ _ => rfl, rfl, hn⟩
    · rw [decide_eq_false (by omega), n_inc2, show 16 * T + s + 1 = 16 * T + (s + 1) by omega, shares_n h hs hT (by omega) h2 hy hl, b2_ne, cond_false]
      show (∀ d j, _ → (bif tSh w G T r l s then _ else _ : yW).1 d j = w'.1 d j) ∧ (bif tSh w G T r l s then _ else _ : yW).2 = w'.2 ∧ nB (bif tSh w G T r l s then _ else _ : yW) w G T _
      cases hz : tSh w G T r l s with
      | false =>
        rw [cond_false]
        refine nb_L h hT h2 hy hl f (s + 1) w' (by omega) (by omega) hs ?_
        have hQ : ∀ x, tP w G T r l (s + 1) x ↔ tP w G T r l s x := fun x => by
          unfold tP
          constructor
          · rintro (p | ⟨p1, p2⟩)
            · exact Or.inl p
            · by_cases p3 : x = s
              · rw [p3, hz] at p2; cases p2
              · exact Or.inr ⟨by omega, p2⟩
          · rintro (p | ⟨p1, p2⟩)
            · exact Or.inl p
            · exact Or.inr ⟨by omega, p2⟩
        exact ⟨ixLo_eq hn.1 hQ, ixHi_eq hn.2.1 hQ, ixLo_eq hn.2.2.1 hQ, ixHi_eq hn.2.2.2 hQ⟩
      | true =>
        rw [cond_true]
        have hd : l < oH G (w.2.2 (16 + 12 * T) s) := by
          unfold tSh at hz
          rw [Bool.and_eq_true] at hz
          exact of_decide_eq_true hz.1
        have hx : ∃ x, w.2.2 (16 + 12 * T) s = some x := by
          cases e2 : w.2.2 (16 + 12 * T) s with
          | none => rw [e2] at hd; exact absurd hd (Nat.not_lt_zero _)
          | some x => exact ⟨x, rfl⟩
        obtain ⟨x, hx⟩ := hx
        obtain ⟨b1, b2, b3, b4⟩ := row_b h hT (by omega) hx
        obtain ⟨n1, n2, n3, n4, n5, n6⟩ := nb_step (w := w') (q := Int32.ofNat (16 * T + r)) (l := Int32.ofNat l) (S := 16 * T + s) (by omega)
        generalize g_Mo_nodeBound_130 (Int32.ofNat (16 * T + r)) (Int32.ofNat l) (Int32.ofNat (16 * T + s)) (g_Mo_nodeBound_100 (Int32.ofNat (16 * T + r)) (Int32.ofNat l) (Int32.ofNat (16 * T + s)) (g_Mo_nodeBound_70 (Int32.ofNat (16 * T + r)) (Int32.ofNat l) (Int32.ofNat (16 * T + s)) (g_Mo_nodeBound_40 (Int32.ofNat (16 * T + r)) (Int32.ofNat l) (Int32.ofNat (16 * T + s)) w'))) = w1 at n1 n2 n3 n4 n5 n6
        have hs1 : sRw w w1 := fun d j p q => by rw [n1 d j (by omega)]; exact hs d j p q
        rw [hs 61 _ (by omega) (by omega), b1] at n3
        rw [hs 62 _ (by omega) (by omega), b2] at n4
        rw [hs 63 _ (by omega) (by omega), b3] at n5
        rw [hs 64 _ (by omega) (by omega), b4] at n6
        have hQ : ∀ x, tP w G T r l (s + 1) x ↔ tP w G T r l s x ∨ x = s := fun x => by
          unfold tP
          constructor
          · rintro (p | ⟨p1, p2⟩)
            · exact Or.inl (Or.inl p)
            · by_cases p3 : x = s
              · exact Or.inr p3
              · exact Or.inl (Or.inr ⟨by omega, p2⟩)
          · rintro ((p | ⟨p1, p2⟩) | p)
            · exact Or.inl p
            · exact Or.inr ⟨by omega, p2⟩
            · rw [p]; exact Or.inr ⟨by omega, hz⟩
        have k := nb_L h hT h2 hy hl f (s + 1) w1 (by omega) (by omega) hs1 ⟨by rw [n3]; exact ixLo_add (by omega) hn.1 hQ, by rw [n4]; exact ixHi_add (by omega) hn.2.1 hQ, by rw [n5]; exact ixLo_add (by omega) hn.2.2.1 hQ, by rw [n6]; exact ixHi_add (by omega) hn.2.2.2 hQ⟩
        exact ⟨fun d j p => by rw [k.1 d j p, n1 d j p], k.2.1.trans n2, k.2.2⟩
