-- answers, rows found, reads of a search
theorem gD_l {L : List Int32} {a : Int32} {i : Nat} (h : i < L.length) : (L ++ [a]).getD i 0 = L.getD i 0 := by
  rw [List.getD_eq_getElem?_getD, List.getD_eq_getElem?_getD, List.getElem?_append_left h]
theorem gD_r {L : List Int32} {a : Int32} : (L ++ [a]).getD L.length 0 = a := by
  rw [List.getD_eq_getElem?_getD, List.getElem?_append_right (Nat.le_refl _), Nat.sub_self]
  rfl
def cA (w : yW) (L : List Int32) : Prop := w.1 0 7 = Int32.ofNat L.length ∧ L.length ≤ 256 ∧ ∀ i, i < L.length → w.1 9 i = L.getD i 0
def rA (w : yW) (L : List Int32) : Prop := w.1 54 21 = Int32.ofNat L.length ∧ ∀ i, i < L.length → w.1 69 i = L.getD i 0
theorem cA_add {w : yW} {L : List Int32} {a : Int32} (h : cA w L) (hl : L.length < 256) : cA (e_ST_addAnswer a w) (L ++ [a]) ∧ (∀ d j, ¬ (d = 0 ∧ j = 7) → d ≠ 9 → (e_ST_addAnswer a w).1 d j = w.1 d j) ∧ (e_ST_addAnswer a w).2 = w.2 := by
  have e : e_ST_addAnswer a w = wI (wI w 9 L.length a) 0 7 (Int32.ofNat (L.length + 1)) := by
    unfold e_ST_addAnswer
    have e7 : ∀ n v, (wI w 9 n v).1 0 7 = w.1 0 7 := fun n v => wI_nc (by omega)
    rw [e7, h.1, zc_ge, z_nat (show L.length < 2147483648 by omega), z_nat (show 256 < 2147483648 by omega), decide_eq_false (by omega), cond_false, n_clamp (by omega), n_inc]
  rw [e]
  refine ⟨⟨?_, ?_, fun i hi => ?_⟩, fun d j p q => ?_, rfl⟩
  · rw [wI_self, List.length_append]
    rfl
  · rw [List.length_append]
    show L.length + 1 ≤ 256
    omega
  · rw [List.length_append] at hi
    have hi : i < L.length + 1 := hi
    rw [wI_nc (by omega)]
    by_cases hh : i = L.length
    · rw [hh, wI_self, gD_r]
    · rw [wI_nc (by omega), gD_l (by omega)]
      exact h.2.2 i (by omega)
  · rw [wI_nc p, wI_nc (by omega)]
theorem rA_add {w : yW} {L : List Int32} {a : Int32} (h : rA w L) (hl : L.length < 256) : rA (wI (wI w 69 (w.1 54 21).toNatClampNeg a) 54 21 (((wI w 69 (w.1 54 21).toNatClampNeg a).1 54 21) + 1)) (L ++ [a]) ∧ (∀ d j, ¬ (d = 54 ∧ j = 21) → d ≠ 69 → (wI (wI w 69 (w.1 54 21).toNatClampNeg a) 54 21 (((wI w 69 (w.1 54 21).toNatClampNeg a).1 54 21) + 1)).1 d j = w.1 d j) ∧ (wI (wI w 69 (w.1 54 21).toNatClampNeg a) 54 21 (((wI w 69 (w.1 54 21).toNatClampNeg a).1 54 21) + 1)).2 = w.2 := by
  have e7 : ∀ n v, (wI w 69 n v).1 54 21 = w.1 54 21 := fun n v => wI_nc (by omega)
  rw [e7, h.1, n_clamp (by omega), n_inc]
  refine ⟨⟨?_, fun i hi => ?_⟩, fun d j p q => ?_, rfl⟩
  · rw [wI_self, List.length_append]
    rfl
  · rw [List.length_append] at hi
    have hi : i < L.length + 1 := hi
    rw [wI_nc (by omega)]
    by_cases hh : i = L.length
    · rw [hh, wI_self, gD_r]
    · rw [wI_nc (by omega), gD_l (by omega)]
      exact h.2 i (by omega)
  · rw [wI_nc p, wI_nc (by omega)]
theorem cA_i {w w' : yW} {L : List Int32} (h7 : w'.1 0 7 = w.1 0 7) (h9 : ∀ j, w'.1 9 j = w.1 9 j) (h : cA w L) : cA w' L := by
  unfold cA
  rw [h7]
  exact ⟨h.1, h.2.1, fun i hi => (h9 i).trans (h.2.2 i hi)⟩
theorem rA_i {w w' : yW} {L : List Int32} (h7 : w'.1 54 21 = w.1 54 21) (h9 : ∀ j, w'.1 69 j = w.1 69 j) (h : rA w L) : rA w' L := by
  unfold rA
  rw [h7]
  exact ⟨h.1, fun i hi => (h9 i).trans (h.2 i hi)⟩
theorem iAns_n {w : yW} {L : List Int32} (hc : cA w L) (hr : rA w L) (h8 : w.1 0 8 = w.1 54 22) : iAns w := by
  have hl := hc.2.1
  have e : (w.1 54 21).toInt = L.length := by rw [hr.1, z_nat (by omega)]
  refine ⟨hc.1.trans hr.1.symm, ⟨by omega, by omega⟩, fun i hi => ?_, h8⟩
  rw [hc.2.2 i (by omega), hr.2 i (by omega)]
def atM (p : Int64 × Int64) (li : Int32) : Bool := !zc .gt (lg_cmp p.1 (li.toInt64 * p.2)) 0
def fF (w : yW) (G : List zC) (x T : Nat) (li : Int32) (r : Nat) : Bool := match w.2.2 (16 + 12 * T) r with
  | none => false
  | some y => atM (gD G x y (0, 0)) li
theorem bd_in {X : List Int32} {lo hi : Int32} (h1 : zLow X lo) (h2 : zHgh X hi) {i : Nat} (hh : i < X.length) : lo.toInt ≤ xC X i ∧ xC X i ≤ hi.toInt := by
  unfold xC
  exact ⟨h1.2 _ (mem_getD hh), h2.2 _ (mem_getD hh)⟩
theorem gapd_n {w : yW} {G : List zC} {a b x y : Nat} {p0 : Int64 × Int64} (ha : a < 65) (hb : b < 65) (h1 : rEq w G a (some x)) (h2 : rEq w G b (some y)) : pGap (gB G x 0).toInt (gB G x 2).toInt (gB G x 1).toInt (gB G x 3).toInt (gB G y 0).toInt (gB G y 2).toInt (gB G y 1).toInt (gB G y 3).toInt * (gD G x y p0).2.toInt ≤ (gD G x y p0).1.toInt := by
  obtain ⟨_, _, e⟩ := dist_eq (p0 := p0) ha hb h1 h2
  have e1 : (gD G x y p0).1.toInt = (pOut (xC (gX G x)) (xC (gY G x)) (xC (gX G y)) (xC (gY G y)) (gX G x).length (gX G y).length (gK G x).toInt (gK G y).toInt).1 := congrArg Prod.fst e
  have e2 : (gD G x y p0).2.toInt = (pOut (xC (gX G x)) (xC (gY G x)) (xC (gX G y)) (xC (gY G y)) (gX G x).length (gX G y).length (gK G x).toInt (gK G y).toInt).2 := congrArg Prod.snd e
  have bx := yOk_bd h1.2.1
  have bv := yOk_bd h2.2.1
  obtain ⟨_, _, _, _, _, lx, nx, _, _, _, a1, a2, a3, a4, _⟩ := h1.2.1
  obtain ⟨_, _, _, _, _, ly, ny, _, _, _, c1, c2, c3, c4, _⟩ := h2.2.1
  rw [e1, e2]
  unfold zDx at bx bv
  exact p_gap (fun i hi => bd_in a1 a3 hi) (fun i hi => bd_in a2 a4 (by omega)) (fun i hi => bd_in c1 c3 hi) (fun i hi => bd_in c2 c4 (by omega)) (by omega) (by omega) ⟨by omega, by omega⟩ ⟨by omega, by omega⟩ ⟨by omega, by omega⟩ ⟨by omega, by omega⟩
theorem atM_far {p : Int64 × Int64} {li : Int32} {g : Int} (hd : dB p) (h0 : 0 ≤ li.toInt) (hg : g * p.2.toInt ≤ p.1.toInt) (hl : li.toInt < g) : atM p li = false := by
  obtain ⟨⟨d1, d2⟩, d3, d4⟩ := hd
  have hlt : li.toInt < 2147483648 := Int32.toInt_lt li
  have m0 : 0 ≤ li.toInt * p.2.toInt := Int.mul_nonneg h0 (by omega)
  have m1 : li.toInt * p.2.toInt ≤ 2147483648 * 131072 := Int.mul_le_mul (by omega) d4 (by omega) (by omega)
  have e : (li.toInt64 * p.2).toInt = li.toInt * p.2.toInt := by
    rw [z_mulL (by rw [z_i2l]; omega) (by rw [z_i2l]; omega), z_i2l]
  have m2 : (li.toInt + 1) * p.2.toInt ≤ g * p.2.toInt := Int.mul_le_mul_of_nonneg_right (by omega) (by omega)
  rw [Int.add_mul, Int.one_mul] at m2
  unfold atM
  rw [lc_gt, e, decide_eq_true (by omega)]
  rfl
theorem gD_any {w : yW} {G : List zC} {a b x y : Nat} (ha : a < 65) (hb : b < 65) (h1 : rEq w G a (some x)) (h2 : rEq w G b (some y)) (p0 : Int64 × Int64) : gD G x y p0 = gD G x y (0, 0) := (dist_eq ha hb h1 h2).1.symm.trans (dist_eq ha hb h1 h2).1
theorem mk_s0 {f : Nat → Bool} {s : Nat} (h : f s = false) : mkM f (s + 1) = mkM f s := by
  rw [mkM, h, if_neg (by decide), Nat.or_zero]
theorem mk_s1 {f : Nat → Bool} {s : Nat} (h : f s = true) : mkM f (s + 1) = mkM f s ||| 2 ^ s := by
  rw [mkM, h, if_pos rfl]
theorem rf_L {w : yW} {G : List zC} {T x p : Nat} {li : Int32} (h : INV w G) (hT : T < 2) (hp : p < 65) (he : rEq w G p (some x)) (hli : 0 ≤ li.toInt) : ∀ (f s : Nat) (w1 : yW), s ≤ 16 → 16 < s + f → w1.2.2 = w.2.2 →
    (g_ST_rowsFound_6 G x (Int32.ofNat T) li f w1 (Int32.ofNat (mkM (fF w G x T li) s)) (Int32.ofNat s)).2 = Int32.ofNat (mkM (fF w G x T li) 16) ∧ (g_ST_rowsFound_6 G x (Int32.ofNat T) li f w1 (Int32.ofNat (mkM (fF w G x T li) s)) (Int32.ofNat s)).1.1 = w1.1 ∧ (g_ST_rowsFound_6 G x (Int32.ofNat T) li f w1 (Int32.ofNat (mkM (fF w G x T li) s)) (Int32.ofNat s)).1.2.2 = w.2.2
  | 0, s, w1, a, b, _ => by omega
  | f + 1, s, w1, a, b, hr => by
    rw [g_ST_rowsFound_6, zc_ge, z_nat (by omega), show (16 : Int32).toInt = 16 from rfl]
    by_cases e : s = 16
    · rw [decide_eq_true (by omega), cond_true, e]
      exact ⟨rfl, rfl, hr⟩
    · rw [decide_eq_false (by omega), cond_false, placeAt_Q (by omega), n_inc2, n_clamp (show T < 2147483648 by omega), show 14 + 12 * T + 2 = 16 + 12 * T by omega, hr]
      cases ho : w.2.2 (16 + 12 * T) s with
      | none =>
        have hf : fF w G x T li s = false := by unfold fF; rw [ho]
        have ih := rf_L h hT hp he hli f (s + 1) w1 (by omega) (by omega) hr
        rw [mk_s0 hf] at ih
        rw [show yN none = true from rfl, cond_true]
        exact ih
      | some y =>
        have k := row_e h hT (by omega) ho
        have hf : fF w G x T li s = atM (gD G x y (0, 0)) li := by unfold fF; rw [ho]
        have dB0 := (dist_eq (p0 := (0, 0)) hp (show 16 * T + s < 65 by omega) he k).2.1
        have o := yOk_bd he.2.1
        have oy := yOk_bd k.2.1
        rw [show yN (some y) = false from rfl, cond_false, show yd (some y) = y from rfl, gD_any hp (show 16 * T + s < 65 by omega) he k, zc_gt]
        have gn : (f_Bo_gapTo (gB G x 0) (gB G x 1) (gB G x 2) (gB G x 3) (gB G y 0) (gB G y 1) (gB G y 2) (gB G y 3)).toInt = _ := gap_n o.1 o.2.2.1 o.2.1 o.2.2.2.1 oy.1 oy.2.2.1 oy.2.1 oy.2.2.2.1 o.2.2.2.2.1 o.2.2.2.2.2 oy.2.2.2.2.1 oy.2.2.2.2.2
        by_cases hg : li.toInt < (f_Bo_gapTo (gB G x 0) (gB G x 1) (gB G x 2) (gB G x 3) (gB G y 0) (gB G y 1) (gB G y 2) (gB G y 3)).toInt
        · rw [decide_eq_true hg, cond_true]
          rw [gn] at hg
          have ih := rf_L h hT hp he hli f (s + 1) w1 (by omega) (by omega) hr
          rw [mk_s0 (hf.trans (atM_far dB0 hli (gapd_n hp (show 16 * T + s < 65 by omega) he k) hg))] at ih
          exact ih
        · rw [decide_eq_false hg, cond_false]
          have ea : zc .eq (f_Di_isAtMost ((wD w1 10 (gD G x y (0, 0))).2.1 10 0) ((wD w1 10 (gD G x y (0, 0))).2.1 10 1) li) 0 = !fF w G x T li s := by
            rw [hf]
            show zc .eq (f_Di_isAtMost (gD G x y (0, 0)).1 (gD G x y (0, 0)).2 li) 0 = _
            unfold f_Di_isAtMost atM
            cases zc .gt (lg_cmp (gD G x y (0, 0)).1 (li.toInt64 * (gD G x y (0, 0)).2)) 0 <;> rfl
          rw [ea]
          have ih := rf_L h hT hp he hli f (s + 1) (wD w1 10 (gD G x y (0, 0))) (by omega) (by omega) hr
          cases hz : fF w G x T li s with
          | false =>
            rw [mk_s0 hz] at ih
            rw [Bool.not_false, cond_true, show (0 : Int32) = Int32.ofNat 0 from rfl, mk_or, Nat.or_zero]
            exact ih
          | true =>
            rw [mk_s1 hz] at ih
            rw [Bool.not_true, cond_false, mk_1 ⟨s, by omega⟩, mk_or]
            exact ih
theorem rf_n {w w1 : yW} {G : List zC} {T x p : Nat} {li : Int32} (h : INV w G) (hT : T < 2) (hp : p < 65) (he : rEq w G p (some x)) (hli : 0 ≤ li.toInt) (hr : w1.2.2 = w.2.2) : (e_ST_rowsFound G x (Int32.ofNat T) li w1).2 = Int32.ofNat (mkM (fF w G x T li) 16) ∧ (e_ST_rowsFound G x (Int32.ofNat T) li w1).1.1 = w1.1 ∧ (e_ST_rowsFound G x (Int32.ofNat T) li w1).1.2.2 = w.2.2 := by
  have k := rf_L h hT hp he hli 17 0 w1 (by omega) (by omega) hr
  rw [show Int32.ofNat (mkM (fF w G x T li) 0) = 0 from rfl, show Int32.ofNat 0 = 0 from rfl] at k
  unfold e_ST_rowsFound
  exact k
theorem hb_n {f : Nat → Bool} {s : Nat} (hs : s < 16) : e_ST_hasBit (Int32.ofNat (mkM f 16)) (Int32.ofNat s) = b2 (f s) := by
  have hl := mkM_lt f 16
  have hl : mkM f 16 < 65536 := hl
  unfold e_ST_hasBit
  rw [mk_bit (by omega) hs, mkM_tb, decide_eq_true hs, Bool.true_and]
  cases f s <;> rfl
/-- reference: a row is found -/
theorem finds_n {w w1 : yW} {G : List zC} {T x p s : Nat} {li : Int32} (h : INV w G) (hs1 : sRw w w1) (hT : T < 2) (hs : s < 16) (hp : p < 65) (he : rEq w G p (some x)) : (e_Mo_finds (Int32.ofNat p) (Int32.ofNat (16 * T + s)) li w1).2 = b2 (fF w G x T li s) ∧ (e_Mo_finds (Int32.ofNat p) (Int32.ofNat (16 * T + s)) li w1).1.1 = w1.1 ∧ (e_Mo_finds (Int32.ofNat p) (Int32.ofNat (16 * T + s)) li w1).1.2.2 = w1.2.2 := by
  unfold e_Mo_finds
  rw [n_clamp (by omega), there_s h hs1 hT hs]
  cases ho : w.2.2 (16 + 12 * T) s with
  | none =>
    rw [show rowP w T s = false by unfold rowP; rw [ho]; rfl, cond_false]
    refine ⟨?_, rfl, rfl⟩
    unfold fF
    rw [ho]
    rfl
  | some y =>
    rw [show rowP w T s = true by unfold rowP; rw [ho]; rfl, cond_true]
    have k := row_e h hT hs ho
    have he1 : rEq w1 G p (some x) := rEq_i (fun d j a b _ _ _ => hs1 d j a b) he
    have k1 : rEq w1 G (16 * T + s) (some y) := rEq_i (fun d j a b _ _ _ => hs1 d j a b) k
    have dd := (dist_eq (p0 := (0, 0)) hp (show 16 * T + s < 65 by omega) he1 k1).1
    have m := mo_22 (Int32.ofNat p) (Int32.ofNat (16 * T + s)) w1
    have hf : fF w G x T li s = atM (gD G x y (0, 0)) li := by unfold fF; rw [ho]
    rw [hf, ← dd]
    unfold atM mD
    generalize e_Mo_measureOut (Int32.ofNat p) (Int32.ofNat (16 * T + s)) w1 = z at m ⊢
    show ((bif zc .gt (lg_cmp (z.2.1 54 13) (li.toInt64 * z.2.1 54 14)) 0 then (z, 0) else (z, 1)) : yW × Int32).2 = b2 (!zc .gt (lg_cmp (z.2.1 54 13) (li.toInt64 * z.2.1 54 14)) 0) ∧ _
    cases zc .gt (lg_cmp (z.2.1 54 13) (li.toInt64 * z.2.1 54 14)) 0
    · exact ⟨rfl, m.1, m.2⟩
    · exact ⟨rfl, m.1, m.2⟩
/-- reads of a search -/
theorem srch_n {w w1 w' : yW} {G : List zC} {T x p : Nat} {li : Int32} (h : INV w G) (hc : cRw w w1) (hs : sRw w w') (hT : T < 2) (hp : p < 65) (he : rEq w G p (some x)) :
    (e_ST_searchReads G x (Int32.ofNat T) li w1).2 = (e_Mo_searchReads (Int32.ofNat p) (Int32.ofNat T) li w').2 ∧ ((e_ST_searchReads G x (Int32.ofNat T) li w1).1.1 = w1.1 ∧ (e_ST_searchReads G x (Int32.ofNat T) li w1).1.2.2 = w1.2.2) ∧ ((∀ d j, ¬ (d = 54 ∧ 17 ≤ j ∧ j ≤ 20) → (e_Mo_searchReads (Int32.ofNat p) (Int32.ofNat T) li w').1.1 d j = w'.1 d j) ∧ (e_Mo_searchReads (Int32.ofNat p) (Int32.ofNat T) li w').1.2 = w'.2) := by
  have sz : (e_Mo_size (Int32.ofNat T) w').2 = Int32.ofNat (cntM (rowP w T) 16) := by
    rw [size_55 (w := w) (funext fun j => hs 55 j (by omega) (by omega)), size_n h hT]
  have bc : e_Ig_bitCount (e_Ta_rowBits (14 + 12 * T) w1) = Int32.ofNat (cntM (rowP w T) 16) := by
    rw [rowBits_n, bits_n]
    congr 2
    funext r
    unfold rowP
    rw [hc.2]
  unfold e_ST_searchReads e_Mo_searchReads
  rw [n_clamp (show T < 2147483648 by omega), sz, bc]
  generalize Int32.ofNat (cntM (rowP w T) 16) = c
  cases zc .gt c 4 with
  | false => exact ⟨rfl, ⟨rfl, rfl⟩, fun _ _ _ => rfl, rfl⟩
  | true =>
    have k := reads_n (w1 := wD w1 11 (li.toInt64, 1)) (w' := w') (dd := 11) (t := li.toInt64) (u := 1) h hc hs hT hp he rfl rfl (by decide) (by decide)
    have kf := kf_Mo_readBy (Int32.ofNat p) (Int32.ofNat T) li.toInt64 1 w'
    rw [cond_true, cond_true]
    exact ⟨k.1, ⟨rfl, rfl⟩, fun d j a => yKi kf (ySt_54 a), k.2⟩
