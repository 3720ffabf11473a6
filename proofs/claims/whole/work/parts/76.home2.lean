-- home levels; an index made anew
theorem xor0 {a b : Int32} : a ^^^ b = 0 ↔ a = b := by
  constructor
  · intro h
    have := congrArg Int32.toBitVec h
    exact Int32.toBitVec_inj.mp (BitVec.xor_eq_zero_iff.mp this)
  · intro h
    subst h
    exact Int32.toBitVec_inj.mp (BitVec.xor_eq_zero_iff.mpr rfl)
theorem or0 {a b : Int32} : a ||| b = 0 ↔ a = 0 ∧ b = 0 := by
  constructor
  · intro h
    have := BitVec.or_eq_zero_iff.mp (congrArg Int32.toBitVec h)
    exact ⟨Int32.toBitVec_inj.mp this.1, Int32.toBitVec_inj.mp this.2⟩
  · rintro ⟨rfl, rfl⟩
    decide
theorem dif_n {x0 y0 x1 y1 s : Int32} : (x0 ^^^ x1 ||| (y0 ^^^ y1)) >>> s = 0 ↔ x0 >>> s = x1 >>> s ∧ y0 >>> s = y1 >>> s := by
  rw [Int32.shiftRight_or, Int32.shiftRight_xor, Int32.shiftRight_xor, or0, xor0, xor0]
theorem home_L {w : yW} {s : Int32} {x0 y0 x1 y1 : Int32} (h1 : w.1 61 s.toNatClampNeg = x0) (h2 : w.1 62 s.toNatClampNeg = x1) (h3 : w.1 63 s.toNatClampNeg = y0) (h4 : w.1 64 s.toNatClampNeg = y1) (b1 : 0 ≤ x0.toInt ∧ x0.toInt ≤ 255) (b2 : 0 ≤ x1.toInt ∧ x1.toInt ≤ 255) (b3 : 0 ≤ y0.toInt ∧ y0.toInt ≤ 255) (b4 : 0 ≤ y1.toInt ∧ y1.toInt ≤ 255) : ∀ (n : Nat) (l : Int32), 0 ≤ l.toInt → l.toInt ≤ 8 → l.toInt < n → f_Bo_homeLevel_L23 x0 y0 x1 y1 n l = (g_Mo_home_3 s n w l).2 ∧ 0 ≤ (f_Bo_homeLevel_L23 x0 y0 x1 y1 n l).toInt
  | 0, l, a, b, c => by omega
  | n + 1, l, a, b, c => by
    rw [f_Bo_homeLevel_L23, g_Mo_home_3, h1, h2, h3, h4]
    have e0 : (0 : Int32).toInt = 0 := rfl
    by_cases hl : l.toInt ≤ 0
    · have el : l = 0 := Int32.toInt_inj.mp (by rw [e0]; omega)
      subst el
      rw [zc_le, decide_eq_true (by omega), zsh0 b1, zsh0 b2, zsh0 b3, zsh0 b4]
      exact ⟨rfl, a⟩
    · have hi1 : (l + Int32.ofInt (-1)).toInt = l.toInt - 1 := z_add (by show _ ≤ _ + (-1 : Int); omega) (by show _ + (-1 : Int) < _; omega)
      have ih := home_L h1 h2 h3 h4 b1 b2 b3 b4 n (l + Int32.ofInt (-1)) (by omega) (by omega) (by omega)
      rw [zc_le, decide_eq_false (by omega)]
      by_cases hd : x0 >>> ((8 - l) &&& 31) = x1 >>> ((8 - l) &&& 31) ∧ y0 >>> ((8 - l) &&& 31) = y1 >>> ((8 - l) &&& 31)
      · rw [show zc .eq ((x0 ^^^ x1 ||| (y0 ^^^ y1)) >>> ((8 - l) &&& 31)) 0 = true from decide_eq_true (dif_n.mpr hd), show zc .ne (x0 >>> ((8 - l) &&& 31)) (x1 >>> ((8 - l) &&& 31)) = false from decide_eq_false (fun h => h hd.1), show zc .eq (y0 >>> ((8 - l) &&& 31)) (y1 >>> ((8 - l) &&& 31)) = true from decide_eq_true hd.2]
        exact ⟨rfl, a⟩
      · rw [show zc .eq ((x0 ^^^ x1 ||| (y0 ^^^ y1)) >>> ((8 - l) &&& 31)) 0 = false from decide_eq_false (fun h => hd (dif_n.mp h))]
        by_cases hx : x0 >>> ((8 - l) &&& 31) = x1 >>> ((8 - l) &&& 31)
        · rw [show zc .ne (x0 >>> ((8 - l) &&& 31)) (x1 >>> ((8 - l) &&& 31)) = false from decide_eq_false (fun h => h hx), show zc .eq (y0 >>> ((8 - l) &&& 31)) (y1 >>> ((8 - l) &&& 31)) = false from decide_eq_false (fun h => hd ⟨hx, h⟩)]
          exact ih
        · rw [show zc .ne (x0 >>> ((8 - l) &&& 31)) (x1 >>> ((8 - l) &&& 31)) = true from decide_eq_true hx]
          exact ih
theorem home_n {w : yW} {s : Int32} {x0 y0 x1 y1 : Int32} (h1 : w.1 61 s.toNatClampNeg = x0) (h2 : w.1 62 s.toNatClampNeg = x1) (h3 : w.1 63 s.toNatClampNeg = y0) (h4 : w.1 64 s.toNatClampNeg = y1) (b1 : 0 ≤ x0.toInt ∧ x0.toInt ≤ 255) (b2 : 0 ≤ x1.toInt ∧ x1.toInt ≤ 255) (b3 : 0 ≤ y0.toInt ∧ y0.toInt ≤ 255) (b4 : 0 ≤ y1.toInt ∧ y1.toInt ≤ 255) : f_Bo_homeLevel x0 y0 x1 y1 = (e_Mo_home s w).2 := (home_L h1 h2 h3 h4 b1 b2 b3 b4 9 8 (by decide) (by decide) (by decide)).1
theorem home_0L (x0 y0 x1 y1 : Int32) : ∀ (n : Nat) (l : Int32), 0 ≤ l.toInt → l.toInt ≤ 8 → 0 ≤ (f_Bo_homeLevel_L23 x0 y0 x1 y1 n l).toInt
  | 0, l, a, b => by show 0 ≤ (0 : Int32).toInt; decide
  | n + 1, l, a, b => by
    rw [f_Bo_homeLevel_L23]
    have e0 : (0 : Int32).toInt = 0 := rfl
    by_cases hl : l.toInt ≤ 0
    · rw [zc_le, decide_eq_true (by omega)]
      exact a
    · have hi1 : (l + Int32.ofInt (-1)).toInt = l.toInt - 1 := z_add (by show _ ≤ _ + (-1 : Int); omega) (by show _ + (-1 : Int) < _; omega)
      have ih := home_0L x0 y0 x1 y1 n (l + Int32.ofInt (-1)) (by omega) (by omega)
      rw [zc_le, decide_eq_false (by omega)]
      cases zc .eq ((x0 ^^^ x1 ||| (y0 ^^^ y1)) >>> ((8 - l) &&& 31)) 0
      · exact ih
      · exact a
theorem homeN (x0 y0 x1 y1 : Int32) : f_Bo_homeLevel x0 y0 x1 y1 = Int32.ofNat (f_Bo_homeLevel x0 y0 x1 y1).toInt.toNat ∧ (f_Bo_homeLevel x0 y0 x1 y1).toInt.toNat ≤ 8 := by
  have h0 : 0 ≤ (f_Bo_homeLevel x0 y0 x1 y1).toInt := home_0L x0 y0 x1 y1 9 8 (by decide) (by decide)
  have h8 := z_home8 x0 y0 x1 y1
  exact ⟨z_ofn h0, by omega⟩
/-- only rows that are in matter -/
theorem ixW_cg {w : yW} {c : Nat} {sq : Nat → Nat × Int × Int} {d d' : Nat → Nat} {X Y X1 Y1 X' Y' X1' Y1' : Nat → Int} (hd : ∀ r, r < 16 → d' r = d r) (hX : ∀ r, r < 16 → 0 < d r → X' r = X r ∧ Y' r = Y r ∧ X1' r = X1 r ∧ Y1' r = Y1 r) (h : ixW w c sq d X Y X1 Y1) : ixW w c sq d' X' Y' X1' Y1' := by
  obtain ⟨⟨i1, i2, i3, i4, i5, i6⟩, hR⟩ := h
  have hq : ∀ r l, r < 16 → l < d r → ixQ X' Y' r l = ixQ X Y r l := fun r l hr hl => by
    have := hX r hr (by omega)
    unfold ixQ
    rw [this.1, this.2.1]
  have hH : ∀ s r, r < 16 → (ixH d' X' Y' s r ↔ ixH d X Y s r) := by
    intro s r hr
    unfold ixH
    rw [hd r hr]
    constructor
    · rintro ⟨a, b⟩
      exact ⟨a, (hq r s.1 hr a).symm.trans b⟩
    · rintro ⟨a, b⟩
      exact ⟨a, (hq r s.1 hr a).trans b⟩
  have hS : ∀ n, n ≤ 16 → ixS d' n = ixS d n := by
    intro n
    induction n with
    | zero => intro _; rfl
    | succ n ih =>
      intro hn
      show ixS d' n + (d' n - 1) = ixS d n + (d n - 1)
      rw [ih (by omega), hd n (by omega)]
  refine ⟨⟨i1, ?_, ?_, i4, i5, by rw [hS 16 (Nat.le_refl _)]; exact i6⟩, ?_⟩
  · intro i hi
    obtain ⟨r, hr, h⟩ := i2 i hi
    exact ⟨r, hr, (hH _ r hr).mpr h⟩
  · intro r l hr hl
    rw [hd r hr] at hl
    obtain ⟨i, hi, e⟩ := i3 r l hr hl
    exact ⟨i, hi, e.trans (hq r l hr hl).symm⟩
  · intro i hi
    have lo : ∀ {f f' : Nat → Int} {v : Int}, (∀ r, r < 16 → 0 < d r → f' r = f r) → ixLo (ixH d X Y (sq i)) f v → ixLo (ixH d' X' Y' (sq i)) f' v := by
      intro f f' v hf h
      obtain ⟨⟨a, ha, hP, e⟩, hl⟩ := h
      refine ⟨⟨a, ha, (hH _ a ha).mpr hP, ?_⟩, fun x hx hp => ?_⟩
      · rw [hf a ha (by have := hP.1; omega)]; exact e
      · have hp' := (hH _ x hx).mp hp
        rw [hf x hx (by have := hp'.1; omega)]
        exact hl x hx hp'
    have hi' : ∀ {f f' : Nat → Int} {v : Int}, (∀ r, r < 16 → 0 < d r → f' r = f r) → ixHi (ixH d X Y (sq i)) f v → ixHi (ixH d' X' Y' (sq i)) f' v := by
      intro f f' v hf h
      obtain ⟨⟨a, ha, hP, e⟩, hl⟩ := h
      refine ⟨⟨a, ha, (hH _ a ha).mpr hP, ?_⟩, fun x hx hp => ?_⟩
      · rw [hf a ha (by have := hP.1; omega)]; exact e
      · have hp' := (hH _ x hx).mp hp
        rw [hf x hx (by have := hp'.1; omega)]
        exact hl x hx hp'
    obtain ⟨r1, r2, r3, r4⟩ := hR i hi
    exact ⟨lo (fun r hr h => (hX r hr h).1) r1, lo (fun r hr h => (hX r hr h).2.1) r2, hi' (fun r hr h => (hX r hr h).2.2.1) r3, hi' (fun r hr h => (hX r hr h).2.2.2) r4⟩
theorem ok_b {G : List zC} {x : Nat} (h : yOk G x) : (0 ≤ (gB G x 0).toInt ∧ (gB G x 0).toInt ≤ 255) ∧ (0 ≤ (gB G x 1).toInt ∧ (gB G x 1).toInt ≤ 255) ∧ (0 ≤ (gB G x 2).toInt ∧ (gB G x 2).toInt ≤ 255) ∧ (0 ≤ (gB G x 3).toInt ∧ (gB G x 3).toInt ≤ 255) := by
  obtain ⟨_, _, _, _, _, _, n1, n6, cX, cY, lX, lY, gX', gY', _, _⟩ := h
  have bl : ∀ {Z : List Int32} {v : Int32}, zCo Z → zLow Z v → 0 ≤ v.toInt ∧ v.toInt ≤ 255 := fun hz hl => by
    obtain ⟨⟨a, ha, e⟩, _⟩ := hl
    have := hz a ha
    omega
  have bh : ∀ {Z : List Int32} {v : Int32}, zCo Z → zHgh Z v → 0 ≤ v.toInt ∧ v.toInt ≤ 255 := fun hz hl => by
    obtain ⟨⟨a, ha, e⟩, _⟩ := hl
    have := hz a ha
    omega
  exact ⟨bl cX lX, bl cY lY, bh cX gX', bh cY gY'⟩
