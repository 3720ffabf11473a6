-- measure
theorem INV_L {w w' : yW} {G : List zC} (h1 : w'.1 = w.1) (h2 : w'.2.2 = w.2.2) (h : INV w G) : INV w' G := by
  obtain ⟨a, l, r⟩ := w
  obtain ⟨a', l', r'⟩ := w'
  have h1 : a' = a := h1
  have h2 : r' = r := h2
  subst h1
  subst h2
  exact h
theorem rEq_L {w w' : yW} {G : List zC} {s : Nat} {o : Option Nat} (h1 : w'.1 = w.1) (h : rEq w G s o) : rEq w' G s o := rEq_i (fun d j _ _ _ _ _ => by rw [h1]) h
theorem re_22 (a b c : Int32) (w : yW) : (e_Mo_reach a b c w).1 = w.1 ∧ (e_Mo_reach a b c w).2.2 = w.2.2 := by
  unfold e_Mo_reach
  rw [i_Mo_reach_190, i_Mo_reach_122]
  unfold g_Mo_reach_213
  constructor
  · exact yf1 rfl rfl
  · generalize zc .ge _ 0 = b
    cases b <;> rfl
theorem mo49_22 (w0 : yW) (s u i j : Int32) (w : yW) : (g_Mo_measureOut_49 w0 s u i j w).1 = w.1 ∧ (g_Mo_measureOut_49 w0 s u i j w).2.2 = w.2.2 := by
  unfold g_Mo_measureOut_49
  exact ⟨(re_22 ..).1.trans ((re_22 ..).1.trans ((re_22 ..).1.trans (re_22 ..).1)), (re_22 ..).2.trans ((re_22 ..).2.trans ((re_22 ..).2.trans (re_22 ..).2))⟩
theorem mo39_22 (w0 : yW) (s u i : Int32) : ∀ (n : Nat) (w : yW) (j : Int32), (g_Mo_measureOut_39 w0 s u i n w j).1 = w.1 ∧ (g_Mo_measureOut_39 w0 s u i n w j).2.2 = w.2.2
  | 0, w, j => ⟨rfl, rfl⟩
  | n + 1, w, j => by
    rw [g_Mo_measureOut_39]
    cases zc .ge j (f_Mo_sides (yA w 57 65) (yA w 58 65) u)
    · exact ⟨(mo39_22 w0 s u i n _ _).1.trans (mo49_22 ..).1, (mo39_22 w0 s u i n _ _).2.trans (mo49_22 ..).2⟩
    · exact ⟨rfl, rfl⟩
theorem mo27_22 (w0 : yW) (s u : Int32) : ∀ (n : Nat) (w : yW) (i : Int32), (g_Mo_measureOut_27 w0 s u n w i).1 = w.1 ∧ (g_Mo_measureOut_27 w0 s u n w i).2.2 = w.2.2
  | 0, w, j => ⟨rfl, rfl⟩
  | n + 1, w, i => by
    rw [g_Mo_measureOut_27]
    cases zc .ge i (f_Mo_sides (yA w 57 65) (yA w 58 65) s)
    · exact ⟨(mo27_22 w0 s u n _ _).1.trans (mo39_22 ..).1, (mo27_22 w0 s u n _ _).2.trans (mo39_22 ..).2⟩
    · exact ⟨rfl, rfl⟩
theorem mo_22 (s u : Int32) (w : yW) : (e_Mo_measureOut s u w).1 = w.1 ∧ (e_Mo_measureOut s u w).2.2 = w.2.2 := by
  have k : (g_Mo_measureOut_0 s u w).1 = w.1 ∧ (g_Mo_measureOut_0 s u w).2.2 = w.2.2 := by
    unfold g_Mo_measureOut_0
    generalize zc .eq _ 0 = b
    cases b <;> exact ⟨rfl, rfl⟩
  unfold e_Mo_measureOut
  exact ⟨(mo27_22 ..).1.trans k.1, (mo27_22 ..).2.trans k.2⟩
theorem rEq_in {w : yW} {G : List zC} {s x : Nat} (h : rEq w G s (some x)) : ∀ i, i < (gX G x).length → mcX w (6 * s + i) = xC (gX G x) i ∧ mcY w (6 * s + i) = xC (gY G x) i := fun i hi => by
  unfold mcX mcY xC
  rw [(h.2.2.2.2.1 i hi).1, (h.2.2.2.2.1 i hi).2]
  exact ⟨rfl, rfl⟩
theorem pSd_pos {G : List zC} {x : Nat} (h : yOk G x) : 0 < pSd (gK G x).toInt (gX G x).length := by
  have h1 := h.2.2.2.2.2.2.1
  have h2 := h.2.2.2.2.2.2.2.2.2.2.2.2.2.2.2
  unfold pSd
  split
  · have := h2 (by assumption); omega
  · omega
/-- class and reference measure alike -/
theorem dist_eq {w : yW} {G : List zC} {a b x y : Nat} {p0 : Int64 × Int64} (ha : a < 65) (hb : b < 65) (h1 : rEq w G a (some x)) (h2 : rEq w G b (some y)) : mD (e_Mo_measureOut (Int32.ofNat a) (Int32.ofNat b) w) = gD G x y p0 ∧ dB (gD G x y p0) ∧ pI (gD G x y p0) = pOut (xC (gX G x)) (xC (gY G x)) (xC (gX G y)) (xC (gY G y)) (gX G x).length (gX G y).length (gK G x).toInt (gK G y).toInt := by
  have i1 := rEq_in h1
  have i2 := rEq_in h2
  have o1 := h1.2.1
  have o2 := h2.2.1
  have l1 := o1.2.2.2.2.2.1
  have l2 := o2.2.2.2.2.2.1
  have m1 := o1.2.2.2.2.2.2.1
  have m2 := o2.2.2.2.2.2.2.1
  have n1 := o1.2.2.2.2.2.2.2.1
  have n2 := o2.2.2.2.2.2.2.2.1
  have zx1 := o1.2.2.2.2.2.2.2.2.1
  have zx2 := o2.2.2.2.2.2.2.2.2.1
  have zy1 := o1.2.2.2.2.2.2.2.2.2.1
  have zy2 := o2.2.2.2.2.2.2.2.2.2.1
  have bx1 := xC_box zx1
  have bx2 := xC_box zx2
  have by1 := xC_box zy1
  have by2 := xC_box zy2
  rw [l1] at by1
  rw [l2] at by2
  obtain ⟨c1, c2⟩ := between_n (kd := gK G x) (kd2 := gK G y) (p0 := p0) zx1 zy1 l1 (by omega) m1 zx2 zy2 l2 (by omega) m2
  obtain ⟨r1, r2⟩ := measure_n (w := w) ha hb h1.2.2.2.1 h2.2.2.2.1 m1 n1 m2 n2 (fun i hi => by unfold mIn; rw [(i1 i hi).1, (i1 i hi).2]; exact ⟨bx1 i hi, by1 i hi⟩) (fun i hi => by unfold mIn; rw [(i2 i hi).1, (i2 i hi).2]; exact ⟨bx2 i hi, by2 i hi⟩)
  rw [p_bet_out bx1 by1 bx2 by2 (pSd_pos o1) (pSd_pos o2)] at c1
  rw [h1.2.2.1, h2.2.2.1, pOut_eq (x' := xC (gX G x)) (y' := xC (gY G x)) (x2' := xC (gX G y)) (y2' := xC (gY G y)) (by omega) (by omega) i1 i2] at r1
  refine ⟨?_, c2, c1⟩
  have e := r1.trans c1.symm
  exact Prod.ext (Int64.toInt_inj.mp (congrArg Prod.fst e)) (Int64.toInt_inj.mp (congrArg Prod.snd e))
theorem foc_n : foc = Int32.ofNat 64 := rfl
theorem whole_n {T B : Int64} (h : dB (T, B)) : f_Di_wholePart T B = (T / B).toInt32 := by
  unfold f_Di_wholePart
  have h1 : 1 ≤ B.toInt := h.2.1
  rw [lc_le, decide_eq_false (by show ¬ B.toInt ≤ 0; omega)]
  rfl
theorem sim_measure {w : yW} {G : List zC} (h : INV w G) (t q : Int32) : (e_ST_measure G t q w).2 = (e_Mo_measure t q (e_ST_measure G t q w).1).2 ∧ INV (e_Mo_measure t q (e_ST_measure G t q w).1).1 G := by
  have same : (e_ST_measure G t q w) = (w, -1) → e_Mo_measure t q w = (w, -1) → (e_ST_measure G t q w).2 = (e_Mo_measure t q (e_ST_measure G t q w).1).2 ∧ INV (e_Mo_measure t q (e_ST_measure G t q w).1).1 G := by
    intro e1 e2
    rw [e1]
    show -1 = (e_Mo_measure t q w).2 ∧ INV (e_Mo_measure t q w).1 G
    rw [e2]
    exact ⟨rfl, h⟩
  rcases tq_cases h t q with ⟨T, Q, hT, hQ, et, eq, e1, e2, e3⟩ | ⟨e1, e2⟩
  · cases ho : w.2.2 (16 + 12 * T) Q with
    | none =>
      refine same ?_ ?_
      · unfold e_ST_measure
        rw [e1, ho]
        rfl
      · unfold e_Mo_measure
        rw [e2 ho]
        rfl
    | some y =>
      obtain ⟨k1, k2, k3⟩ := e3 y ho
      have hsl : ∀ w' : yW, w'.1 55 = w.1 55 → zc .lt (e_Mo_slot t q w') 0 = false ∧ e_Mo_slot t q w' = Int32.ofNat (16 * T + Q) := fun w' e => by
        rw [slot_i e, k1]
        refine ⟨?_, rfl⟩
        rw [zc_lt, z_nat (by omega)]
        exact decide_eq_false (by show ¬ ((16 * T + Q : Nat) : Int) < 0; omega)
      have hf := h.2.1
      unfold iFoc at hf
      cases hof : w.2.2 0 5 with
      | none =>
        rw [hof] at hf
        have hf : w.1 55 64 = 0 := hf
        refine same ?_ ?_
        · unfold e_ST_measure
          rw [e1, ho, hof]
          rfl
        · unfold e_Mo_measure
          rw [(hsl w rfl).1, cl64, hf]
          rfl
      | some x =>
        rw [hof] at hf
        have h55 : w.1 55 64 = 1 := hf.1
        have ec : e_ST_measure G t q w = (wD w 10 (gD G x y (w.2.1 10 0, w.2.1 10 1)), f_Di_wholePart ((wD w 10 (gD G x y (w.2.1 10 0, w.2.1 10 1))).2.1 10 0) ((wD w 10 (gD G x y (w.2.1 10 0, w.2.1 10 1))).2.1 10 1)) := by
          unfold e_ST_measure
          rw [e1, ho, hof]
          rfl
        rw [ec]
        have hW : (wD w 10 (gD G x y (w.2.1 10 0, w.2.1 10 1))).1 = w.1 := rfl
        have hW2 : (wD w 10 (gD G x y (w.2.1 10 0, w.2.1 10 1))).2.2 = w.2.2 := rfl
        have hW3 : (wD w 10 (gD G x y (w.2.1 10 0, w.2.1 10 1))).2.1 10 1 = (gD G x y (w.2.1 10 0, w.2.1 10 1)).2 := wL_self ..
        have hW4 : (wD w 10 (gD G x y (w.2.1 10 0, w.2.1 10 1))).2.1 10 0 = (gD G x y (w.2.1 10 0, w.2.1 10 1)).1 := by
          unfold wD
          rw [(ydL _ 10 1 _ 10 0 (by decide)).2.1, wL_self]
        generalize (w.2.1 10 0, w.2.1 10 1) = p0 at hW hW2 hW3 hW4
        generalize wD w 10 (gD G x y p0) = w1 at hW hW2 hW3 hW4
        obtain ⟨s1, s2⟩ := hsl w1 (by rw [hW])
        obtain ⟨d1, d2, _⟩ := dist_eq (w := w1) (a := 64) (b := 16 * T + Q) (p0 := p0) (by omega) (by omega) (rEq_L hW hf) (rEq_L hW k2)
        obtain ⟨o1, o2⟩ := mo_22 (Int32.ofNat 64) (Int32.ofNat (16 * T + Q)) w1
        have em : e_Mo_measure t q w1 = g_Mo_measure_30 (e_Mo_measureOut (Int32.ofNat 64) (Int32.ofNat (16 * T + Q)) w1) := by
          unfold e_Mo_measure
          rw [s1, s2, cl64, hW, h55, foc_n]
          rfl
        show f_Di_wholePart (w1.2.1 10 0) (w1.2.1 10 1) = (e_Mo_measure t q w1).2 ∧ INV (e_Mo_measure t q w1).1 G
        rw [em]
        generalize e_Mo_measureOut (Int32.ofNat 64) (Int32.ofNat (16 * T + Q)) w1 = w2 at d1 o1 o2
        unfold g_Mo_measure_30
        have d3 : w2.2.1 54 13 = (gD G x y p0).1 := congrArg Prod.fst d1
        have d4 : w2.2.1 54 14 = (gD G x y p0).2 := congrArg Prod.snd d1
        refine ⟨?_, INV_L (o1.trans hW) (o2.trans hW2) h⟩
        show _ = (w2.2.1 54 13 / w2.2.1 54 14).toInt32
        rw [d3, d4, hW3, hW4]
        exact whole_n d2
  · refine same ?_ ?_
    · unfold e_ST_measure
      rw [e1]
      rfl
    · unfold e_Mo_measure
      rw [e2]
      rfl
