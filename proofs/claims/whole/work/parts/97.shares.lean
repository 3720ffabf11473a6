-- which rows share a square
theorem shf_n : ∀ k : Fin 9, ∀ a : Fin 256, Int32.ofNat a.1 >>> ((8 - Int32.ofNat k.1) &&& 31) = Int32.ofNat (a.1 / 2 ^ (8 - k.1)) := by decide +kernel
theorem shf_i {v : Int32} {l : Nat} (hv : 0 ≤ v.toInt ∧ v.toInt ≤ 255) (hl : l ≤ 8) : (v >>> ((8 - Int32.ofNat l) &&& 31)).toInt = v.toInt / 2 ^ (8 - l) := by
  have e := z_ofn (x := v) hv.1
  have e2 : v.toInt = (v.toInt.toNat : Int) := by omega
  have hb : v.toInt.toNat < 256 := by omega
  generalize v.toInt.toNat = m at e e2 hb
  have k := shf_n ⟨l, by omega⟩ ⟨m, hb⟩
  rw [e2, e, k, z_nat (Nat.lt_of_le_of_lt (Nat.div_le_self _ _) (by show m < 2147483648; omega))]
  show ((m / 2 ^ (8 - l) : Nat) : Int) = (m : Int) / 2 ^ (8 - l)
  rw [Int.natCast_ediv]
  rfl
/-- the reference's rows are those of w -/
def sRw (w w' : yW) : Prop := ∀ d j, 55 ≤ d → d ≤ 64 → w'.1 d j = w.1 d j
theorem row_e {w : yW} {G : List zC} {T r x : Nat} (h : INV w G) (hT : T < 2) (hr : r < 16) (hx : w.2.2 (16 + 12 * T) r = some x) : rEq w G (16 * T + r) (some x) := by
  have k := (h.2.2.1 T r hT hr).1
  rw [hx] at k
  exact k
theorem hom_e {w w' : yW} {G : List zC} {T r x : Nat} (h : INV w G) (hs : sRw w w') (hT : T < 2) (hr : r < 16) (hx : w.2.2 (16 + 12 * T) r = some x) : (e_Mo_home (Int32.ofNat (16 * T + r)) w').2 = Int32.ofNat (f_Bo_homeLevel (gB G x 0) (gB G x 1) (gB G x 2) (gB G x 3)).toInt.toNat := by
  have k := row_e h hT hr hx
  have ok := ok_b k.2.1
  have ec : (Int32.ofNat (16 * T + r)).toNatClampNeg = 16 * T + r := n_clamp (by omega)
  have e1 : w'.1 61 (Int32.ofNat (16 * T + r)).toNatClampNeg = gB G x 0 := by rw [ec, hs _ _ (by omega) (by omega)]; exact k.2.2.2.2.2.1
  have e2 : w'.1 62 (Int32.ofNat (16 * T + r)).toNatClampNeg = gB G x 2 := by rw [ec, hs _ _ (by omega) (by omega)]; exact k.2.2.2.2.2.2.2.1
  have e3 : w'.1 63 (Int32.ofNat (16 * T + r)).toNatClampNeg = gB G x 1 := by rw [ec, hs _ _ (by omega) (by omega)]; exact k.2.2.2.2.2.2.1
  have e4 : w'.1 64 (Int32.ofNat (16 * T + r)).toNatClampNeg = gB G x 3 := by rw [ec, hs _ _ (by omega) (by omega)]; exact k.2.2.2.2.2.2.2.2
  rw [← home_n e1 e2 e3 e4 ok.1 ok.2.2.1 ok.2.1 ok.2.2.2]
  exact (homeN ..).1
theorem shares_n {w w' : yW} {G : List zC} {T s r l y : Nat} (h : INV w G) (hs : sRw w w') (hT : T < 2) (h1 : s < 16) (h2 : r < 16) (hy : w.2.2 (16 + 12 * T) r = some y) (hl : l ≤ 8) : (e_Mo_shares (Int32.ofNat (16 * T + s)) (Int32.ofNat (16 * T + r)) (Int32.ofNat l) w').2 = b2 (decide (l < oH G (w.2.2 (16 + 12 * T) s)) && decide (ixQ (fun r => oB G 0 (w.2.2 (16 + 12 * T) r)) (fun r => oB G 1 (w.2.2 (16 + 12 * T) r)) s l = ixQ (fun r => oB G 0 (w.2.2 (16 + 12 * T) r)) (fun r => oB G 1 (w.2.2 (16 + 12 * T) r)) r l)) := by
  have kr := row_e h hT h2 hy
  have okr := ok_b kr.2.1
  unfold e_Mo_shares
  rw [n_clamp (by omega), n_clamp (by omega), hs _ _ (by omega) (by omega), hs _ _ (by omega) (by omega), hs _ _ (by omega) (by omega), hs _ _ (by omega) (by omega), hs _ _ (by omega) (by omega)]
  cases hx : w.2.2 (16 + 12 * T) s with
  | none =>
    have k := (h.2.2.1 T s hT h1).1
    rw [hx] at k
    have k : w.1 55 (16 * T + s) = 0 := k
    rw [k]
    show (0 : Int32) = b2 (decide (l < 0) && _)
    rw [decide_eq_false (Nat.not_lt_zero _)]
    rfl
  | some x =>
    have k := row_e h hT h1 hx
    have ok := ok_b k.2.1
    rw [k.1, hom_e h hs hT h1 hx, k.2.2.2.2.2.1, k.2.2.2.2.2.2.1, kr.2.2.2.2.2.1, kr.2.2.2.2.2.2.1, zc_ne, zc_ne, shf_i ok.1 hl, shf_i okr.1 hl, shf_i ok.2.1 hl, shf_i okr.2.1 hl, zc_lt]
    have hH := (homeN (gB G x 0) (gB G x 1) (gB G x 2) (gB G x 3)).2
    rw [z_nat (by omega), z_nat (by omega)]
    show (bif zc .eq 1 0 then ((w' : yW), (0 : Int32)) else _).2 = b2 (decide (l < (f_Bo_homeLevel (gB G x 0) (gB G x 1) (gB G x 2) (gB G x 3)).toInt.toNat + 1) && _)
    generalize (f_Bo_homeLevel (gB G x 0) (gB G x 1) (gB G x 2) (gB G x 3)).toInt.toNat = H at hH
    rw [show zc .eq 1 0 = false from rfl, cond_false]
    unfold ixQ
    simp only [hx, hy]
    show _ = b2 (decide (l < H + 1) && decide ((l, (gB G x 0).toInt / 2 ^ (8 - l), (gB G x 1).toInt / 2 ^ (8 - l)) = (l, (gB G y 0).toInt / 2 ^ (8 - l), (gB G y 1).toInt / 2 ^ (8 - l))))
    generalize (gB G x 0).toInt / 2 ^ (8 - l) = p
    generalize (gB G y 0).toInt / 2 ^ (8 - l) = q
    generalize (gB G x 1).toInt / 2 ^ (8 - l) = u
    generalize (gB G y 1).toInt / 2 ^ (8 - l) = v
    by_cases e1 : l < H + 1
    · rw [decide_eq_true e1, decide_eq_false (show ¬ (H : Int) < l by omega)]
      by_cases e2 : p = q
      · rw [decide_eq_false (not_not_intro e2)]
        by_cases e3 : u = v
        · rw [decide_eq_false (not_not_intro e3), decide_eq_true (by rw [e2, e3])]; rfl
        · rw [decide_eq_true (show ¬ u = v from e3), decide_eq_false (fun e => e3 (congrArg (fun z => z.2.2) e))]; rfl
      · rw [decide_eq_true (show ¬ p = q from e2), decide_eq_false (fun e => e2 (congrArg (fun z => z.2.1) e))]; rfl
    · rw [decide_eq_false e1, decide_eq_true (show (H : Int) < l by omega)]; rfl
