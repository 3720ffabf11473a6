-- the bound of a square
theorem ixLo_16 {P Q : Nat → Prop} {f : Nat → Int} {v : Int} (h : ixLo P f v) (hQ : ∀ x, x < 16 → (Q x ↔ P x)) : ixLo Q f v := by
  obtain ⟨⟨r, a, b, c⟩, d⟩ := h
  exact ⟨⟨r, a, (hQ r a).mpr b, c⟩, fun x hx hq => d x hx ((hQ x hx).mp hq)⟩
theorem ixHi_16 {P Q : Nat → Prop} {f : Nat → Int} {v : Int} (h : ixHi P f v) (hQ : ∀ x, x < 16 → (Q x ↔ P x)) : ixHi Q f v := by
  obtain ⟨⟨r, a, b, c⟩, d⟩ := h
  exact ⟨⟨r, a, (hQ r a).mpr b, c⟩, fun x hx hq => d x hx ((hQ x hx).mp hq)⟩
theorem around_n {w : yW} {s : Nat} (hs : s < 65) : (∀ d j, ¬ (d = 54 ∧ 17 ≤ j ∧ j ≤ 20) → (e_Mo_around (Int32.ofNat s) w).1 d j = w.1 d j) ∧ (e_Mo_around (Int32.ofNat s) w).2 = w.2 ∧ (e_Mo_around (Int32.ofNat s) w).1 54 17 = w.1 61 s ∧ (e_Mo_around (Int32.ofNat s) w).1 54 18 = w.1 62 s ∧ (e_Mo_around (Int32.ofNat s) w).1 54 19 = w.1 63 s ∧ (e_Mo_around (Int32.ofNat s) w).1 54 20 = w.1 64 s := by
  unfold e_Mo_around
  rw [n_clamp (by omega)]
  refine ⟨fun d j a => ?_, rfl, ?_, ?_, ?_, ?_⟩
  · rw [wI_nc (by omega), wI_nc (by omega), wI_nc (by omega), wI_nc (by omega)]
  · rw [wI_nc (by omega), wI_nc (by omega), wI_nc (by omega), wI_self]
  · rw [wI_nc (by omega), wI_nc (by omega), wI_self, wI_nc (by omega)]
  · rw [wI_nc (by omega), wI_self, wI_nc (by omega), wI_nc (by omega)]
  · rw [wI_self, wI_nc (by omega), wI_nc (by omega), wI_nc (by omega)]
theorem nodeB_n {w w' : yW} {G : List zC} {T r l y : Nat} (h : INV w G) (hs : sRw w w') (hT : T < 2) (h2 : r < 16) (hy : w.2.2 (16 + 12 * T) r = some y) (hl : l ≤ 8) (hd : l < tD w G T r) :
    (∀ d j, ¬ (d = 54 ∧ 17 ≤ j ∧ j ≤ 20) → (e_Mo_nodeBound (Int32.ofNat (16 * T + r)) (Int32.ofNat l) w').1 d j = w'.1 d j) ∧ (e_Mo_nodeBound (Int32.ofNat (16 * T + r)) (Int32.ofNat l) w').2 = w'.2 ∧ nB (e_Mo_nodeBound (Int32.ofNat (16 * T + r)) (Int32.ofNat l) w') w G T (ixH (tD w G T) (tX w G T) (tY w G T) (ixQ (tX w G T) (tY w G T) r l)) := by
  obtain ⟨a1, a2, a3, a4, a5, a6⟩ := around_n (w := w') (s := 16 * T + r) (by omega)
  obtain ⟨b1, b2, b3, b4⟩ := row_b h hT h2 hy
  unfold e_Mo_nodeBound
  rw [t16_e hT h2]
  generalize e_Mo_around (Int32.ofNat (16 * T + r)) w' = w1 at a1 a2 a3 a4 a5 a6
  have hs1 : sRw w w1 := fun d j p q => by rw [a1 d j (by omega)]; exact hs d j p q
  rw [hs 61 _ (by omega) (by omega)] at a3
  rw [hs 62 _ (by omega) (by omega)] at a4
  rw [hs 63 _ (by omega) (by omega)] at a5
  rw [hs 64 _ (by omega) (by omega)] at a6
  have only : ∀ x, tP w G T r l 0 x → x = r := fun x hx => by
    rcases hx with p | p
    · exact p
    · exact absurd p.1 (Nat.not_lt_zero _)
  have h0 : nB w1 w G T (tP w G T r l 0) := by
    unfold nB
    rw [a3, a4, a5, a6, b1, b2, b3, b4]
    exact ⟨⟨⟨r, h2, Or.inl rfl, rfl⟩, fun x _ hx => by rw [only x hx]; exact Int.le_refl _⟩, ⟨⟨r, h2, Or.inl rfl, rfl⟩, fun x _ hx => by rw [only x hx]; exact Int.le_refl _⟩, ⟨⟨r, h2, Or.inl rfl, rfl⟩, fun x _ hx => by rw [only x hx]; exact Int.le_refl _⟩, ⟨⟨r, h2, Or.inl rfl, rfl⟩, fun x _ hx => by rw [only x hx]; exact Int.le_refl _⟩⟩
  have k := nb_L h hT h2 hy hl 33 0 w1 (by omega) (by omega) hs1 h0
  rw [Nat.add_zero] at k
  refine ⟨fun d j p => by rw [k.1 d j p, a1 d j p], k.2.1.trans a2, ?_⟩
  have hQ : ∀ x, x < 16 → (ixH (tD w G T) (tX w G T) (tY w G T) (ixQ (tX w G T) (tY w G T) r l) x ↔ tP w G T r l 16 x) := fun x hx => by
    unfold ixH tP tSh
    constructor
    · rintro ⟨p, q⟩
      right
      refine ⟨hx, ?_⟩
      rw [decide_eq_true (show l < tD w G T x from p), decide_eq_true (show ixQ (tX w G T) (tY w G T) x l = ixQ (tX w G T) (tY w G T) r l from q)]
      rfl
    · rintro (p | ⟨_, p⟩)
      · rw [p]; exact ⟨hd, rfl⟩
      · rw [Bool.and_eq_true] at p
        exact ⟨of_decide_eq_true p.1, of_decide_eq_true p.2⟩
  exact ⟨ixLo_16 k.2.2.1 hQ, ixHi_16 k.2.2.2.1 hQ, ixLo_16 k.2.2.2.2.1 hQ, ixHi_16 k.2.2.2.2.2 hQ⟩
