-- the reference's distance as whole numbers
def mD (w : yW) : Int64 × Int64 := (w.2.1 54 13, w.2.1 54 14)
theorem r213_n (t u : Int64) (w : yW) : mD (g_Mo_reach_213 t u w) = f_Di_lessen (w.2.1 54 13) (w.2.1 54 14) t u := by
  unfold g_Mo_reach_213 f_Di_lessen mD
  cases zc .ge (lg_cmp (t * w.2.1 54 14) (w.2.1 54 13 * u)) 0
  · show ((wL (wL w 54 13 t) 54 14 u).2.1 54 13, (wL (wL w 54 13 t) 54 14 u).2.1 54 14) = (t, u)
    rw [(ydL _ 54 14 u 54 13 (by decide)).2.1, wL_self, wL_self]
  · rfl
def pCf (ux uy vx vy wx wy : Int) : Int × Int := if ux * vx + uy * vy ≤ 0 then (vx * vx + vy * vy, 1) else if ux * ux + uy * uy ≤ ux * vx + uy * vy then (wx * wx + wy * wy, 1) else ((ux * vy - uy * vx) * (ux * vy - uy * vx), ux * ux + uy * uy)
theorem rch_n {ux uy vx vy wx wy : Int64} {w : yW} (hp : dB (mD w)) (h1 : sB ux) (h2 : sB uy) (h3 : sB vx) (h4 : sB vy) (h5 : sB wx) (h6 : sB wy) :
    pI (f_Di_lessen (w.2.1 54 13) (w.2.1 54 14) (g_Mo_reach_122 ux uy vx vy (ux * vx + uy * vy) (ux * ux + uy * uy) wx wy w).2 (g_Mo_reach_190 (ux * vx + uy * vy) (ux * ux + uy * uy) (g_Mo_reach_122 ux uy vx vy (ux * vx + uy * vy) (ux * ux + uy * uy) wx wy w).2 w).2) = pLs (pI (mD w)) (pCf ux.toInt uy.toInt vx.toInt vy.toInt wx.toInt wy.toInt)
    ∧ dB (f_Di_lessen (w.2.1 54 13) (w.2.1 54 14) (g_Mo_reach_122 ux uy vx vy (ux * vx + uy * vy) (ux * ux + uy * uy) wx wy w).2 (g_Mo_reach_190 (ux * vx + uy * vy) (ux * ux + uy * uy) (g_Mo_reach_122 ux uy vx vy (ux * vx + uy * vy) (ux * ux + uy * uy) wx wy w).2 w).2) := by
  have eal := sB_d h1 h3 h2 h4
  have eln := sB_d h1 h1 h2 h2
  have evv := sB_d h3 h3 h4 h4
  have eww := sB_d h5 h5 h6 h6
  have ex := sB_s h1 h4 h2 h3
  have q1 := p_sq ux.toInt
  have q2 := p_sq uy.toInt
  have q3 := p_sq vx.toInt
  have q4 := p_sq vy.toInt
  have q5 := p_sq wx.toInt
  have q6 := p_sq wy.toInt
  unfold g_Mo_reach_122 g_Mo_reach_190 pCf
  rw [lc_gt, lc_lt, lc_le, eal.1, eln.1, z_l0]
  by_cases c1 : ux.toInt * vx.toInt + uy.toInt * vy.toInt ≤ 0
  · rw [if_pos c1, decide_eq_false (by omega), decide_eq_true c1]
    have k := lessen_n (T := w.2.1 54 13) (B := w.2.1 54 14) (t := vx * vx + vy * vy) (b := 1) hp ⟨⟨by rw [evv.1]; omega, by rw [evv.1]; omega⟩, by show (1 : Int) ≤ 1; omega, by show (1 : Int) ≤ _; omega⟩
    rw [show pI (vx * vx + vy * vy, 1) = (vx.toInt * vx.toInt + vy.toInt * vy.toInt, 1) from Prod.ext evv.1 rfl] at k
    exact k
  · rw [if_neg c1, decide_eq_true (by omega), decide_eq_false c1]
    by_cases c2 : ux.toInt * ux.toInt + uy.toInt * uy.toInt ≤ ux.toInt * vx.toInt + uy.toInt * vy.toInt
    · rw [if_pos c2, decide_eq_false (by omega)]
      have k := lessen_n (T := w.2.1 54 13) (B := w.2.1 54 14) (t := wx * wx + wy * wy) (b := 1) hp ⟨⟨by rw [eww.1]; omega, by rw [eww.1]; omega⟩, by show (1 : Int) ≤ 1; omega, by show (1 : Int) ≤ _; omega⟩
      rw [show pI (wx * wx + wy * wy, 1) = (wx.toInt * wx.toInt + wy.toInt * wy.toInt, 1) from Prod.ext eww.1 rfl] at k
      exact k
    · rw [if_neg c2, decide_eq_true (by omega)]
      have m := b_mul (a := (ux * vy - uy * vx).toInt) (b := (ux * vy - uy * vx).toInt) (A := 130050) (B := 130050) (by rw [ex.1]; exact ex.2.1) (by rw [ex.1]; exact ex.2.2) (by rw [ex.1]; exact ex.2.1) (by rw [ex.1]; exact ex.2.2)
      have e := z_mulL (a := ux * vy - uy * vx) (b := ux * vy - uy * vx) (by omega) (by omega)
      have q7 := p_sq (ux * vy - uy * vx).toInt
      have k := lessen_n (T := w.2.1 54 13) (B := w.2.1 54 14) (t := (ux * vy - uy * vx) * (ux * vy - uy * vx)) (b := ux * ux + uy * uy) hp ⟨⟨by rw [e]; exact q7, by rw [e]; omega⟩, by rw [eln.1]; show (1 : Int) ≤ _; omega, by rw [eln.1]; omega⟩
      rw [show pI ((ux * vy - uy * vx) * (ux * vy - uy * vx), ux * ux + uy * uy) = ((ux.toInt * vy.toInt - uy.toInt * vx.toInt) * (ux.toInt * vy.toInt - uy.toInt * vx.toInt), ux.toInt * ux.toInt + uy.toInt * uy.toInt) from Prod.ext (by rw [← ex.1]; exact e) eln.1] at k
      exact k
/-- coordinates of the reference -/
def mcX (w : yW) (k : Nat) : Int := (w.1 59 k).toInt
def mcY (w : yW) (k : Nat) : Int := (w.1 60 k).toInt
def mIn (w : yW) (k : Nat) : Prop := (0 ≤ mcX w k ∧ mcX w k ≤ 255) ∧ (0 ≤ mcY w k ∧ mcY w k ≤ 255)
theorem reach_n {a b c : Nat} {w : yW} (ha : a < 390) (hb : b < 390) (hc : c < 390) (ka : mIn w a) (kb : mIn w b) (kc : mIn w c) (hp : dB (mD w)) : pI (mD (e_Mo_reach (Int32.ofNat a) (Int32.ofNat b) (Int32.ofNat c) w)) = pLs (pI (mD w)) (pCd (mcX w a) (mcY w a) (mcX w b) (mcY w b) (mcX w c) (mcY w c)) ∧ dB (mD (e_Mo_reach (Int32.ofNat a) (Int32.ofNat b) (Int32.ofNat c) w)) := by
  unfold e_Mo_reach
  rw [i_Mo_reach_190, i_Mo_reach_122, r213_n, n_clamp (by omega), n_clamp (by omega), n_clamp (by omega)]
  have s1 := sub_l kb.1 ka.1
  have s2 := sub_l kb.2 ka.2
  have s3 := sub_l kc.1 ka.1
  have s4 := sub_l kc.2 ka.2
  have s5 := sub_l kc.1 kb.1
  have s6 := sub_l kc.2 kb.2
  have k := rch_n (w := w) hp s1.2 s2.2 s3.2 s4.2 s5.2 s6.2
  rw [s1.1, s2.1, s3.1, s4.1, s5.1, s6.1] at k
  exact k
set_option maxRecDepth 100000 in
theorem rem_n2 : ∀ m : Fin 7, ∀ j : Fin 6, j.1 < m.1 → (Int32.ofNat j.1 + 0) - (Int32.ofNat j.1 + 0) / Int32.ofNat m.1 * Int32.ofNat m.1 = Int32.ofNat j.1 ∧ (Int32.ofNat j.1 + 1) - (Int32.ofNat j.1 + 1) / Int32.ofNat m.1 * Int32.ofNat m.1 = Int32.ofNat (if j.1 + 1 < m.1 then j.1 + 1 else 0) := by decide +kernel
theorem n_six (s i : Nat) : 6 * Int32.ofNat s + Int32.ofNat i = Int32.ofNat (6 * s + i) := by
  rw [← mk_add, show (6 : Int32) = Int32.ofNat 6 from rfl, ← Int32.ofNat_mul]
theorem corner_n {MA : List Int32} {s i n : Nat} (hs : s < 1000) (hm : MA.getD s 0 = Int32.ofNat n) (hi : i < n) (hn : n ≤ 6) : f_Mo_corner MA (Int32.ofNat s) (Int32.ofNat i) 0 = Int32.ofNat (6 * s + i) ∧ f_Mo_corner MA (Int32.ofNat s) (Int32.ofNat i) 1 = Int32.ofNat (6 * s + pE n i) := by
  unfold f_Mo_corner
  rw [gI_n (by omega), hm]
  have k := rem_n2 ⟨n, by omega⟩ ⟨i, by omega⟩ hi
  have k1 : (Int32.ofNat i + 0) - (Int32.ofNat i + 0) / Int32.ofNat n * Int32.ofNat n = Int32.ofNat i := k.1
  have k2 : (Int32.ofNat i + 1) - (Int32.ofNat i + 1) / Int32.ofNat n * Int32.ofNat n = Int32.ofNat (pE n i) := k.2
  rw [k1, k2, n_six, n_six]
  exact ⟨rfl, rfl⟩
theorem msides_n {SO MA : List Int32} {s n : Nat} (hs : s < 1000) (hm : MA.getD s 0 = Int32.ofNat n) (h1 : 1 ≤ n) : f_Mo_sides SO MA (Int32.ofNat s) = Int32.ofNat (pSd (SO.getD s 0).toInt n) := by
  unfold f_Mo_sides pSd
  rw [gI_n (by omega), gI_n (by omega), hm, zc_ne]
  have e1 : (1 : Int32).toInt = 1 := rfl
  rw [e1]
  by_cases h : (SO.getD s 0).toInt = 1
  · rw [if_pos h, decide_eq_false (by omega)]
    exact mk_sub h1
  · rw [if_neg h, decide_eq_true h]
    rfl
theorem yA_n {w : yW} {c N k : Nat} (hk : k < N) : (yA w c N).getD k 0 = w.1 c k := by
  rw [List.getD_eq_getElem?_getD, yA_get hk]
  rfl
section PME
theorem mo49_n {w0 : yW} {s u n n2 : Nat} (hs : s < 65) (hu : u < 65) (hm : w0.1 58 s = Int32.ofNat n) (hm2 : w0.1 58 u = Int32.ofNat n2) (h1 : 1 ≤ n) (h6 : n ≤ 6) (g1 : 1 ≤ n2) (g6 : n2 ≤ 6) (hc : ∀ i, i < n → mIn w0 (6 * s + i)) (hc2 : ∀ i, i < n2 → mIn w0 (6 * u + i)) {w : yW} {i j : Nat} (hw : w.1 = w0.1) (hi : i < n) (hj : j < n2) (hp : dB (mD w)) : pI (mD (g_Mo_measureOut_49 w0 (Int32.ofNat s) (Int32.ofNat u) (Int32.ofNat i) (Int32.ofNat j) w)) = pPr (fun i => mcX w0 (6 * s + i)) (fun i => mcY w0 (6 * s + i)) (fun i => mcX w0 (6 * u + i)) (fun i => mcY w0 (6 * u + i)) n n2 i j (pI (mD w)) ∧ dB (mD (g_Mo_measureOut_49 w0 (Int32.ofNat s) (Int32.ofNat u) (Int32.ofNat i) (Int32.ofNat j) w)) := by
  have he := pE_lt (n := n) (i := i) (by omega)
  have he2 := pE_lt (n := n2) (i := j) (by omega)
  have k1 := corner_n (MA := yA w 58 65) (s := s) (i := i) (n := n) (by omega) (by rw [yA_n hs, hw]; exact hm) hi h6
  have k2 := corner_n (MA := yA w 58 65) (s := u) (i := j) (n := n2) (by omega) (by rw [yA_n hu, hw]; exact hm2) hj g6
  have cw : ∀ {w' : yW}, w'.1 = w0.1 → ∀ k, mIn w0 k → mIn w' k := fun e k h => by unfold mIn mcX mcY; rw [e]; exact h
  have cx : ∀ {w' : yW}, w'.1 = w0.1 → ∀ k, mcX w' k = mcX w0 k ∧ mcY w' k = mcY w0 k := fun e k => by unfold mcX mcY; rw [e]; exact ⟨rfl, rfl⟩
  unfold g_Mo_measureOut_49
  rw [k1.1, k1.2, k2.1, k2.2]
  have r1 := reach_n (w := w) (a := 6 * s + i) (b := 6 * s + pE n i) (c := 6 * u + j) (by omega) (by omega) (by omega) (cw hw _ (hc i hi)) (cw hw _ (hc _ he)) (cw hw _ (hc2 j hj)) hp
  have w1 := i_Mo_reach (Int32.ofNat (6 * s + i)) (Int32.ofNat (6 * s + pE n i)) (Int32.ofNat (6 * u + j)) w
  generalize e_Mo_reach (Int32.ofNat (6 * s + i)) (Int32.ofNat (6 * s + pE n i)) (Int32.ofNat (6 * u + j)) w = wa at *
  have ea := w1.trans hw
  have r2 := reach_n (w := wa) (a := 6 * s + i) (b := 6 * s + pE n i) (c := 6 * u + pE n2 j) (by omega) (by omega) (by omega) (cw ea _ (hc i hi)) (cw ea _ (hc _ he)) (cw ea _ (hc2 _ he2)) r1.2
  have w2 := i_Mo_reach (Int32.ofNat (6 * s + i)) (Int32.ofNat (6 * s + pE n i)) (Int32.ofNat (6 * u + pE n2 j)) wa
  generalize e_Mo_reach (Int32.ofNat (6 * s + i)) (Int32.ofNat (6 * s + pE n i)) (Int32.ofNat (6 * u + pE n2 j)) wa = wb at *
  have eb := w2.trans ea
  have r3 := reach_n (w := wb) (a := 6 * u + j) (b := 6 * u + pE n2 j) (c := 6 * s + i) (by omega) (by omega) (by omega) (cw eb _ (hc2 j hj)) (cw eb _ (hc2 _ he2)) (cw eb _ (hc i hi)) r2.2
  have w3 := i_Mo_reach (Int32.ofNat (6 * u + j)) (Int32.ofNat (6 * u + pE n2 j)) (Int32.ofNat (6 * s + i)) wb
  generalize e_Mo_reach (Int32.ofNat (6 * u + j)) (Int32.ofNat (6 * u + pE n2 j)) (Int32.ofNat (6 * s + i)) wb = wc at *
  have ec := w3.trans eb
  have r4 := reach_n (w := wc) (a := 6 * u + j) (b := 6 * u + pE n2 j) (c := 6 * s + pE n i) (by omega) (by omega) (by omega) (cw ec _ (hc2 j hj)) (cw ec _ (hc2 _ he2)) (cw ec _ (hc _ he)) r3.2
  refine ⟨?_, r4.2⟩
  rw [r4.1, r3.1, r2.1, r1.1]
  simp only [(cx hw _).1, (cx hw _).2, (cx ea _).1, (cx ea _).2, (cx eb _).1, (cx eb _).2, (cx ec _).1, (cx ec _).2]
  rfl
theorem mo39_n {w0 : yW} {s u n n2 : Nat} (hs : s < 65) (hu : u < 65) (hm : w0.1 58 s = Int32.ofNat n) (hm2 : w0.1 58 u = Int32.ofNat n2) (h1 : 1 ≤ n) (h6 : n ≤ 6) (g1 : 1 ≤ n2) (g6 : n2 ≤ 6) (hc : ∀ i, i < n → mIn w0 (6 * s + i)) (hc2 : ∀ i, i < n2 → mIn w0 (6 * u + i)) {i : Nat} (hi : i < n) : ∀ (f j : Nat) (w : yW), w.1 = w0.1 → j ≤ pSd (w0.1 57 u).toInt n2 → pSd (w0.1 57 u).toInt n2 < j + f → dB (mD w) → pI (mD (g_Mo_measureOut_39 w0 (Int32.ofNat s) (Int32.ofNat u) (Int32.ofNat i) f w (Int32.ofNat j))) = (List.range' j (pSd (w0.1 57 u).toInt n2 - j)).foldl (fun p j => pPr (fun i => mcX w0 (6 * s + i)) (fun i => mcY w0 (6 * s + i)) (fun i => mcX w0 (6 * u + i)) (fun i => mcY w0 (6 * u + i)) n n2 i j p) (pI (mD w)) ∧ dB (mD (g_Mo_measureOut_39 w0 (Int32.ofNat s) (Int32.ofNat u) (Int32.ofNat i) f w (Int32.ofNat j))) := by
  have hsd := pSd_le (w0.1 57 u).toInt n2
  intro f
  induction f with
  | zero => intro j w _ h2 h3; exfalso; omega
  | succ f ih =>
    intro j w hw h2 h3 hp
    rw [g_Mo_measureOut_39, msides_n (n := n2) (by omega) (by rw [yA_n hu, hw]; exact hm2) g1, yA_n hu, hw, zc_ge, z_nat (by omega), z_nat (by omega)]
    by_cases hj : pSd (w0.1 57 u).toInt n2 ≤ j
    · rw [decide_eq_true (by omega), show pSd (w0.1 57 u).toInt n2 - j = 0 by omega]
      exact ⟨rfl, hp⟩
    · rw [decide_eq_false (by omega), n_inc2]
      have k := mo49_n hs hu hm hm2 h1 h6 g1 g6 hc hc2 (w := w) (i := i) (j := j) hw hi (by omega) hp
      have k2 := ih (j + 1) (g_Mo_measureOut_49 w0 (Int32.ofNat s) (Int32.ofNat u) (Int32.ofNat i) (Int32.ofNat j) w) ((i_Mo_mo49 ..).trans hw) (by omega) (by omega) k.2
      refine ⟨k2.1.trans ?_, k2.2⟩
      rw [k.1]
      have : pSd (w0.1 57 u).toInt n2 - j = (pSd (w0.1 57 u).toInt n2 - (j + 1)) + 1 := by omega
      rw [this, List.range'_succ, List.foldl_cons]
theorem mo27_n {w0 : yW} {s u n n2 : Nat} (hs : s < 65) (hu : u < 65) (hm : w0.1 58 s = Int32.ofNat n) (hm2 : w0.1 58 u = Int32.ofNat n2) (h1 : 1 ≤ n) (h6 : n ≤ 6) (g1 : 1 ≤ n2) (g6 : n2 ≤ 6) (hc : ∀ i, i < n → mIn w0 (6 * s + i)) (hc2 : ∀ i, i < n2 → mIn w0 (6 * u + i)) : ∀ (f i : Nat) (w : yW), w.1 = w0.1 → i ≤ pSd (w0.1 57 s).toInt n → pSd (w0.1 57 s).toInt n < i + f → dB (mD w) → pI (mD (g_Mo_measureOut_27 w0 (Int32.ofNat s) (Int32.ofNat u) f w (Int32.ofNat i))) = (List.range' i (pSd (w0.1 57 s).toInt n - i)).foldl (fun p i => (List.range (pSd (w0.1 57 u).toInt n2)).foldl (fun p j => pPr (fun i => mcX w0 (6 * s + i)) (fun i => mcY w0 (6 * s + i)) (fun i => mcX w0 (6 * u + i)) (fun i => mcY w0 (6 * u + i)) n n2 i j p) p) (pI (mD w)) ∧ dB (mD (g_Mo_measureOut_27 w0 (Int32.ofNat s) (Int32.ofNat u) f w (Int32.ofNat i))) := by
  have hsd := pSd_le (w0.1 57 s).toInt n
  have hsd2 := pSd_le (w0.1 57 u).toInt n2
  intro f
  induction f with
  | zero => intro i w _ h2 h3; exfalso; omega
  | succ f ih =>
    intro i w hw h2 h3 hp
    rw [g_Mo_measureOut_27, msides_n (n := n) (by omega) (by rw [yA_n hs, hw]; exact hm) h1, yA_n hs, hw, zc_ge, z_nat (by omega), z_nat (by omega)]
    by_cases hj : pSd (w0.1 57 s).toInt n ≤ i
    · rw [decide_eq_true (by omega), show pSd (w0.1 57 s).toInt n - i = 0 by omega]
      exact ⟨rfl, hp⟩
    · rw [decide_eq_false (by omega), n_inc2]
      have k := mo39_n hs hu hm hm2 h1 h6 g1 g6 hc hc2 (i := i) (by omega) 7 0 w hw (by omega) (by omega) hp
      have k2 := ih (i + 1) (g_Mo_measureOut_39 w0 (Int32.ofNat s) (Int32.ofNat u) (Int32.ofNat i) 7 w (Int32.ofNat 0)) ((i_Mo_mo39 ..).trans hw) (by omega) (by omega) k.2
      refine ⟨k2.1.trans ?_, k2.2⟩
      rw [k.1]
      have : pSd (w0.1 57 s).toInt n - i = (pSd (w0.1 57 s).toInt n - (i + 1)) + 1 := by omega
      rw [this, List.range'_succ, List.foldl_cons, Nat.sub_zero, List.range_eq_range']
end PME
theorem b2_02 (a b : Int64) : (bif zc .ge (lg_cmp a b) 0 then true else false) = decide (b.toInt ≤ a.toInt) := by rw [lc_ge]; cases decide (b.toInt ≤ a.toInt) <;> rfl
section PWI
theorem with_n {X Y MA : List Int32} {s n : Nat} (hs : s < 1000) (hm : MA.getD s 0 = Int32.ofNat n) (h6 : n ≤ 6) (hc : ∀ i, i < n → (0 ≤ xC X (6 * s + i) ∧ xC X (6 * s + i) ≤ 255) ∧ (0 ≤ xC Y (6 * s + i) ∧ xC Y (6 * s + i) ≤ 255)) {c : Nat} (hcc : c < 100000) (hu : 0 ≤ xC X c ∧ xC X c ≤ 255) (hv : 0 ≤ xC Y c ∧ xC Y c ≤ 255) : ∀ (f i : Nat) (b : Bool), i ≤ n → n < i + f → f_Mo_within_L5 X Y MA (Int32.ofNat s) (Int32.ofNat c) f (b2 b) (Int32.ofNat i) = b2 ((List.range' i (n - i)).foldl (fun b i => b ^^ pTr (fun i => xC X (6 * s + i)) (fun i => xC Y (6 * s + i)) n (xC X c) (xC Y c) i) b) := by
  intro f
  induction f with
  | zero => intro i b h2 h3; exfalso; omega
  | succ f ih =>
    intro i b h2 h3
    rw [f_Mo_within_L5, gI_n (X := MA) (by omega), hm, zc_ge, z_nat (by omega), z_nat (by omega)]
    by_cases hj : n ≤ i
    · rw [decide_eq_true (by omega), show n - i = 0 by omega]
      rfl
    · have he := pE_lt (n := n) (i := i) (by omega)
      have k := corner_n (MA := MA) (s := s) (i := i) (n := n) hs hm (by omega) h6
      have c1 := hc i (by omega)
      have c2 := hc _ he
      rw [decide_eq_false (by omega), k.1, k.2, gI_n (X := Y) (by omega), gI_n (X := Y) (by omega), gI_n (X := Y) (by omega), b2_01, b2_01, b2_n, n_inc2, b2_f, ih (i + 1) b (by omega) (by omega), ih (i + 1) (!b) (by omega) (by omega)]
      have et : (f_Mo_turn X Y (Int32.ofNat (6 * s + i)) (Int32.ofNat (6 * s + pE n i)) (Int32.ofNat c)).toInt = zTurn (xC X (6 * s + i)) (xC Y (6 * s + i)) (xC X (6 * s + pE n i)) (xC Y (6 * s + pE n i)) (xC X c) (xC Y c) := by
        unfold f_Mo_turn
        rw [gI_n (by omega), gI_n (by omega), gI_n (by omega), gI_n (by omega), gI_n (by omega), gI_n (by omega)]
        exact z_cross c1.1 c1.2 c2.1 c2.2 hu hv
      rw [lc_ge, lc_le, et, z_l0, zc_le]
      have : n - i = (n - (i + 1)) + 1 := by omega
      rw [this, List.range'_succ, List.foldl_cons]
      unfold pTr
      show (bif (decide (xC Y c < xC Y (6 * s + i)) != decide (xC Y c < xC Y (6 * s + pE n i))) then (bif decide (xC Y (6 * s + pE n i) ≤ xC Y (6 * s + i)) then _ else _) else _) = _
      generalize zTurn (xC X (6 * s + i)) (xC Y (6 * s + i)) (xC X (6 * s + pE n i)) (xC Y (6 * s + pE n i)) (xC X c) (xC Y c) = t
      generalize decide (xC Y c < xC Y (6 * s + i)) = p1
      generalize decide (xC Y c < xC Y (6 * s + pE n i)) = p2
      by_cases hy : xC Y (6 * s + i) < xC Y (6 * s + pE n i)
      · rw [if_pos hy, decide_eq_false (show ¬ xC Y (6 * s + pE n i) ≤ xC Y (6 * s + i) by omega)]
        by_cases ht : 0 < t
        · rw [decide_eq_true ht, decide_eq_false (show ¬ t ≤ 0 by omega)]
          cases p1 <;> cases p2 <;> cases b <;> rfl
        · rw [decide_eq_false ht, decide_eq_true (show t ≤ 0 by omega)]
          cases p1 <;> cases p2 <;> cases b <;> rfl
      · rw [if_neg hy, decide_eq_true (show xC Y (6 * s + pE n i) ≤ xC Y (6 * s + i) by omega)]
        by_cases ht : t < 0
        · rw [decide_eq_true ht, decide_eq_false (show ¬ 0 ≤ t by omega)]
          cases p1 <;> cases p2 <;> cases b <;> rfl
        · rw [decide_eq_false ht, decide_eq_true (show 0 ≤ t by omega)]
          cases p1 <;> cases p2 <;> cases b <;> rfl
theorem within_n {X Y MA : List Int32} {s n : Nat} (hs : s < 1000) (hm : MA.getD s 0 = Int32.ofNat n) (h6 : n ≤ 6) (hc : ∀ i, i < n → (0 ≤ xC X (6 * s + i) ∧ xC X (6 * s + i) ≤ 255) ∧ (0 ≤ xC Y (6 * s + i) ∧ xC Y (6 * s + i) ≤ 255)) {c : Nat} (hcc : c < 100000) (hu : 0 ≤ xC X c ∧ xC X c ≤ 255) (hv : 0 ≤ xC Y c ∧ xC Y c ≤ 255) : f_Mo_within X Y MA (Int32.ofNat s) (Int32.ofNat c) = b2 (pPa (pTr (fun i => xC X (6 * s + i)) (fun i => xC Y (6 * s + i)) n (xC X c) (xC Y c)) n) := by
  unfold f_Mo_within
  have k := with_n hs hm h6 hc hcc hu hv 7 0 false (by omega) (by omega)
  rw [Nat.sub_zero, ← List.range_eq_range'] at k
  exact k
end PWI
section PMT
theorem touch_n {X Y MA : List Int32} {s u n n2 : Nat} (hs : s < 1000) (hu : u < 1000) (hm : MA.getD s 0 = Int32.ofNat n) (hm2 : MA.getD u 0 = Int32.ofNat n2) (h1 : 1 ≤ n) (h6 : n ≤ 6) (g1 : 1 ≤ n2) (g6 : n2 ≤ 6) (hc : ∀ i, i < n → (0 ≤ xC X (6 * s + i) ∧ xC X (6 * s + i) ≤ 255) ∧ (0 ≤ xC Y (6 * s + i) ∧ xC Y (6 * s + i) ≤ 255)) (hc2 : ∀ i, i < n2 → (0 ≤ xC X (6 * u + i) ∧ xC X (6 * u + i) ≤ 255) ∧ (0 ≤ xC Y (6 * u + i) ∧ xC Y (6 * u + i) ≤ 255)) {i j : Nat} (hi : i < n) (hj : j < n2) : f_Mo_touching X Y (f_Mo_corner MA (Int32.ofNat s) (Int32.ofNat i) 0) (f_Mo_corner MA (Int32.ofNat s) (Int32.ofNat i) 1) (f_Mo_corner MA (Int32.ofNat u) (Int32.ofNat j) 0) (f_Mo_corner MA (Int32.ofNat u) (Int32.ofNat j) 1) = b2 (pMt (fun i => xC X (6 * s + i)) (fun i => xC Y (6 * s + i)) (fun i => xC X (6 * u + i)) (fun i => xC Y (6 * u + i)) n n2 i j) := by
  have he := pE_lt (n := n) (i := i) (by omega)
  have he2 := pE_lt (n := n2) (i := j) (by omega)
  have k := corner_n (MA := MA) hs hm hi h6
  have k2 := corner_n (MA := MA) hu hm2 hj g6
  have c1 := hc i hi
  have c2 := hc _ he
  have c3 := hc2 j hj
  have c4 := hc2 _ he2
  rw [k.1, k.2, k2.1, k2.2, z_touching (by rw [gI_n (by omega)]; exact c1.1) (by rw [gI_n (by omega)]; exact c1.2) (by rw [gI_n (by omega)]; exact c2.1) (by rw [gI_n (by omega)]; exact c2.2) (by rw [gI_n (by omega)]; exact c3.1) (by rw [gI_n (by omega)]; exact c3.2) (by rw [gI_n (by omega)]; exact c4.1) (by rw [gI_n (by omega)]; exact c4.2), gI_n (by omega), gI_n (by omega), gI_n (by omega), gI_n (by omega), gI_n (by omega), gI_n (by omega), gI_n (by omega), gI_n (by omega)]
  rfl
theorem L14_n {X Y SO MA : List Int32} {s u n n2 : Nat} (hs : s < 1000) (hu : u < 1000) (hm : MA.getD s 0 = Int32.ofNat n) (hm2 : MA.getD u 0 = Int32.ofNat n2) (h1 : 1 ≤ n) (h6 : n ≤ 6) (g1 : 1 ≤ n2) (g6 : n2 ≤ 6) (hc : ∀ i, i < n → (0 ≤ xC X (6 * s + i) ∧ xC X (6 * s + i) ≤ 255) ∧ (0 ≤ xC Y (6 * s + i) ∧ xC Y (6 * s + i) ≤ 255)) (hc2 : ∀ i, i < n2 → (0 ≤ xC X (6 * u + i) ∧ xC X (6 * u + i) ≤ 255) ∧ (0 ≤ xC Y (6 * u + i) ∧ xC Y (6 * u + i) ≤ 255)) {K : Int32} {i : Nat} (hi : i < n) : ∀ (f j : Nat), j ≤ pSd (SO.getD u 0).toInt n2 → pSd (SO.getD u 0).toInt n2 < j + f → f_Mo_meet_L14 X Y SO MA (Int32.ofNat s) (Int32.ofNat u) (Int32.ofNat i) K f (Int32.ofNat j) = bif (List.range' j (pSd (SO.getD u 0).toInt n2 - j)).any (fun j => pMt (fun i => xC X (6 * s + i)) (fun i => xC Y (6 * s + i)) (fun i => xC X (6 * u + i)) (fun i => xC Y (6 * u + i)) n n2 i j) then 1 else K := by
  have hsd := pSd_le (SO.getD u 0).toInt n2
  intro f
  induction f with
  | zero => intro j h2 h3; exfalso; omega
  | succ f ih =>
    intro j h2 h3
    rw [f_Mo_meet_L14, msides_n hu hm2 g1, zc_ge, z_nat (by omega), z_nat (by omega)]
    by_cases hj : pSd (SO.getD u 0).toInt n2 ≤ j
    · rw [decide_eq_true (by omega), show pSd (SO.getD u 0).toInt n2 - j = 0 by omega]
      rfl
    · rw [decide_eq_false (by omega), touch_n hs hu hm hm2 h1 h6 g1 g6 hc hc2 hi (by omega), b2_eq, n_inc2, ih (j + 1) (by omega) (by omega)]
      have : pSd (SO.getD u 0).toInt n2 - j = (pSd (SO.getD u 0).toInt n2 - (j + 1)) + 1 := by omega
      rw [this, List.range'_succ, List.any_cons]
      cases pMt (fun i => xC X (6 * s + i)) (fun i => xC Y (6 * s + i)) (fun i => xC X (6 * u + i)) (fun i => xC Y (6 * u + i)) n n2 i j <;> rfl
theorem L2_n {X Y SO MA : List Int32} {s u n n2 : Nat} (hs : s < 1000) (hu : u < 1000) (hm : MA.getD s 0 = Int32.ofNat n) (hm2 : MA.getD u 0 = Int32.ofNat n2) (h1 : 1 ≤ n) (h6 : n ≤ 6) (g1 : 1 ≤ n2) (g6 : n2 ≤ 6) (hc : ∀ i, i < n → (0 ≤ xC X (6 * s + i) ∧ xC X (6 * s + i) ≤ 255) ∧ (0 ≤ xC Y (6 * s + i) ∧ xC Y (6 * s + i) ≤ 255)) (hc2 : ∀ i, i < n2 → (0 ≤ xC X (6 * u + i) ∧ xC X (6 * u + i) ≤ 255) ∧ (0 ≤ xC Y (6 * u + i) ∧ xC Y (6 * u + i) ≤ 255)) : ∀ (f i : Nat), i ≤ pSd (SO.getD s 0).toInt n → pSd (SO.getD s 0).toInt n < i + f → f_Mo_meet_L2 X Y SO MA (Int32.ofNat s) (Int32.ofNat u) f (Int32.ofNat i) = b2 ((List.range' i (pSd (SO.getD s 0).toInt n - i)).any (fun i => (List.range (pSd (SO.getD u 0).toInt n2)).any (fun j => pMt (fun i => xC X (6 * s + i)) (fun i => xC Y (6 * s + i)) (fun i => xC X (6 * u + i)) (fun i => xC Y (6 * u + i)) n n2 i j)) || ((decide ((SO.getD u 0).toInt = 2) && pPa (pTr (fun i => xC X (6 * u + i)) (fun i => xC Y (6 * u + i)) n2 (xC X (6 * s + 0)) (xC Y (6 * s + 0))) n2) || (decide ((SO.getD s 0).toInt = 2) && pPa (pTr (fun i => xC X (6 * s + i)) (fun i => xC Y (6 * s + i)) n (xC X (6 * u + 0)) (xC Y (6 * u + 0))) n))) := by
  have hsd := pSd_le (SO.getD s 0).toInt n
  have hsd2 := pSd_le (SO.getD u 0).toInt n2
  have e2 : (2 : Int32).toInt = 2 := rfl
  have six : ∀ k : Nat, 6 * Int32.ofNat k = Int32.ofNat (6 * k + 0) := fun k => by
    rw [← n_six]
    exact (Int32.add_zero _).symm
  intro f
  induction f with
  | zero => intro i h2 h3; exfalso; omega
  | succ f ih =>
    intro i h2 h3
    rw [f_Mo_meet_L2, msides_n hs hm h1, zc_ge, z_nat (by omega), z_nat (by omega)]
    by_cases hj : pSd (SO.getD s 0).toInt n ≤ i
    · rw [decide_eq_true (by omega), show pSd (SO.getD s 0).toInt n - i = 0 by omega]
      have c1 := hc 0 (by omega)
      have c2 := hc2 0 (by omega)
      rw [gI_n (X := SO) (by omega), gI_n (X := SO) (by omega), zc_ne, zc_ne, e2, six s, six u, within_n hs hm h6 hc (by omega) c2.1 c2.2, within_n hu hm2 g6 hc2 (by omega) c1.1 c1.2, b2_ne, b2_eq]
      show (bif true then _ else _) = b2 (false || _)
      rw [Bool.false_or]
      generalize pPa (pTr (fun i => xC X (6 * u + i)) (fun i => xC Y (6 * u + i)) n2 (xC X (6 * s + 0)) (xC Y (6 * s + 0))) n2 = q1
      generalize pPa (pTr (fun i => xC X (6 * s + i)) (fun i => xC Y (6 * s + i)) n (xC X (6 * u + 0)) (xC Y (6 * u + 0))) n = q2
      by_cases k1 : (SO.getD u 0).toInt = 2 <;> by_cases k2 : (SO.getD s 0).toInt = 2 <;> simp only [k1, k2, decide_true, decide_false, not_true_eq_false, not_false_eq_true] <;> cases q1 <;> cases q2 <;> rfl
    · have k := L14_n hs hu hm hm2 h1 h6 g1 g6 hc hc2 (SO := SO) (K := f_Mo_meet_L2 X Y SO MA (Int32.ofNat s) (Int32.ofNat u) f (Int32.ofNat i + Int32.ofInt 1)) (i := i) (by omega) 7 0 (by omega) (by omega)
      rw [decide_eq_false (by omega)]
      show f_Mo_meet_L14 X Y SO MA (Int32.ofNat s) (Int32.ofNat u) (Int32.ofNat i) (f_Mo_meet_L2 X Y SO MA (Int32.ofNat s) (Int32.ofNat u) f (Int32.ofNat i + Int32.ofInt 1)) 7 (Int32.ofNat 0) = _
      rw [k, n_inc2, ih (i + 1) (by omega) (by omega), Nat.sub_zero, ← List.range_eq_range']
      have : pSd (SO.getD s 0).toInt n - i = (pSd (SO.getD s 0).toInt n - (i + 1)) + 1 := by omega
      rw [this, List.range'_succ, List.any_cons]
      cases (List.range (pSd (SO.getD u 0).toInt n2)).any (fun j => pMt (fun i => xC X (6 * s + i)) (fun i => xC Y (6 * s + i)) (fun i => xC X (6 * u + i)) (fun i => xC Y (6 * u + i)) n n2 i j) <;> rfl
end PMT
theorem xC_y {w : yW} {c N k : Nat} (hk : k < N) : xC (yA w c N) k = (w.1 c k).toInt := by
  unfold xC
  rw [yA_n hk]
theorem pOut_eq {x y x2 y2 x' y' x2' y2' : Nat → Int} {n n2 : Nat} {kd kd2 : Int} (hn : 0 < n) (hn2 : 0 < n2) (e1 : ∀ i, i < n → x i = x' i ∧ y i = y' i) (e2 : ∀ i, i < n2 → x2 i = x2' i ∧ y2 i = y2' i) : pOut x y x2 y2 n n2 kd kd2 = pOut x' y' x2' y2' n n2 kd kd2 := by
  have hs := pSd_le kd n
  have hs2 := pSd_le kd2 n2
  have hpr : ∀ i j p, i < n → j < n2 → pPr x y x2 y2 n n2 i j p = pPr x' y' x2' y2' n n2 i j p := by
    intro i j p hi hj
    unfold pPr
    have a := e1 i hi
    have b := e1 _ (pE_lt (i := i) hn)
    have c := e2 j hj
    have d := e2 _ (pE_lt (i := j) hn2)
    rw [a.1, a.2, b.1, b.2, c.1, c.2, d.1, d.2]
  have hmt : ∀ i j, i < n → j < n2 → pMt x y x2 y2 n n2 i j = pMt x' y' x2' y2' n n2 i j := by
    intro i j hi hj
    unfold pMt
    have a := e1 i hi
    have b := e1 _ (pE_lt (i := i) hn)
    have c := e2 j hj
    have d := e2 _ (pE_lt (i := j) hn2)
    rw [a.1, a.2, b.1, b.2, c.1, c.2, d.1, d.2]
  have ht : ∀ {x y x' y' : Nat → Int} {n : Nat} (hn : 0 < n) (u v : Int), (∀ i, i < n → x i = x' i ∧ y i = y' i) → pPa (pTr x y n u v) n = pPa (pTr x' y' n u v) n := by
    intro x y x' y' n hn u v h
    apply pPa_eq
    intro i hi
    unfold pTr
    have a := h i hi
    have b := h _ (pE_lt (i := i) hn)
    rw [a.1, a.2, b.1, b.2]
  have hme : pMeet x y x2 y2 n n2 kd kd2 = pMeet x' y' x2' y2' n n2 kd kd2 := by
    unfold pMeet
    have a := e1 0 hn
    have c := e2 0 hn2
    rw [a.1, a.2, c.1, c.2, ht hn2 _ _ e2, ht hn _ _ e1]
    congr 1
    have : ∀ (l m : List Nat), (∀ i ∈ l, i < n) → (∀ j ∈ m, j < n2) → l.any (fun i => m.any (fun j => pMt x y x2 y2 n n2 i j)) = l.any (fun i => m.any (fun j => pMt x' y' x2' y2' n n2 i j)) := by
      intro l m hl hm
      apply Bool.eq_iff_iff.mpr
      simp only [List.any_eq_true]
      constructor
      · rintro ⟨i, hi, j, hj, h⟩
        exact ⟨i, hi, j, hj, by rw [← hmt i j (hl i hi) (hm j hj)]; exact h⟩
      · rintro ⟨i, hi, j, hj, h⟩
        exact ⟨i, hi, j, hj, by rw [hmt i j (hl i hi) (hm j hj)]; exact h⟩
    exact this _ _ (fun i hi => by have := List.mem_range.mp hi; omega) (fun j hj => by have := List.mem_range.mp hj; omega)
  unfold pOut
  rw [hme]
  exact pF2_rel (fun p q => p = q) rfl (fun i j p q hi hj h => by rw [h]; exact hpr i j q (by omega) (by omega))
/-- the reference's distance -/
theorem measure_n {w : yW} {s u n n2 : Nat} (hs : s < 65) (hu : u < 65) (hm : w.1 58 s = Int32.ofNat n) (hm2 : w.1 58 u = Int32.ofNat n2) (h1 : 1 ≤ n) (h6 : n ≤ 6) (g1 : 1 ≤ n2) (g6 : n2 ≤ 6) (hc : ∀ i, i < n → mIn w (6 * s + i)) (hc2 : ∀ i, i < n2 → mIn w (6 * u + i)) : pI (mD (e_Mo_measureOut (Int32.ofNat s) (Int32.ofNat u) w)) = pOut (fun i => mcX w (6 * s + i)) (fun i => mcY w (6 * s + i)) (fun i => mcX w (6 * u + i)) (fun i => mcY w (6 * u + i)) n n2 (w.1 57 s).toInt (w.1 57 u).toInt ∧ dB (mD (e_Mo_measureOut (Int32.ofNat s) (Int32.ofNat u) w)) := by
  have hsd := pSd_le (w.1 57 s).toInt n
  have cx : ∀ i, i < n → (0 ≤ xC (yA w 59 390) (6 * s + i) ∧ xC (yA w 59 390) (6 * s + i) ≤ 255) ∧ (0 ≤ xC (yA w 60 390) (6 * s + i) ∧ xC (yA w 60 390) (6 * s + i) ≤ 255) := fun i hi => by
    rw [xC_y (by omega), xC_y (by omega)]; exact hc i hi
  have cx2 : ∀ i, i < n2 → (0 ≤ xC (yA w 59 390) (6 * u + i) ∧ xC (yA w 59 390) (6 * u + i) ≤ 255) ∧ (0 ≤ xC (yA w 60 390) (6 * u + i) ∧ xC (yA w 60 390) (6 * u + i) ≤ 255) := fun i hi => by
    rw [xC_y (by omega), xC_y (by omega)]; exact hc2 i hi
  have km := L2_n (X := yA w 59 390) (Y := yA w 60 390) (SO := yA w 57 65) (MA := yA w 58 65) (s := s) (u := u) (by omega) (by omega) (by rw [yA_n hs]; exact hm) (by rw [yA_n hu]; exact hm2) h1 h6 g1 g6 cx cx2 7 0 (by omega) (by rw [yA_n hs]; omega)
  rw [yA_n hs, yA_n hu, Nat.sub_zero, ← List.range_eq_range'] at km
  have eM : f_Mo_meet (yA w 59 390) (yA w 60 390) (yA w 57 65) (yA w 58 65) (Int32.ofNat s) (Int32.ofNat u) = b2 (pMeet (fun i => xC (yA w 59 390) (6 * s + i)) (fun i => xC (yA w 60 390) (6 * s + i)) (fun i => xC (yA w 59 390) (6 * u + i)) (fun i => xC (yA w 60 390) (6 * u + i)) n n2 (w.1 57 s).toInt (w.1 57 u).toInt) := km
  have eP := pOut_eq (x := fun i => mcX w (6 * s + i)) (y := fun i => mcY w (6 * s + i)) (x2 := fun i => mcX w (6 * u + i)) (y2 := fun i => mcY w (6 * u + i)) (x' := fun i => xC (yA w 59 390) (6 * s + i)) (y' := fun i => xC (yA w 60 390) (6 * s + i)) (x2' := fun i => xC (yA w 59 390) (6 * u + i)) (y2' := fun i => xC (yA w 60 390) (6 * u + i)) (n := n) (n2 := n2) (kd := (w.1 57 s).toInt) (kd2 := (w.1 57 u).toInt) (by omega) (by omega) (fun i hi => ⟨(xC_y (by omega)).symm, (xC_y (by omega)).symm⟩) (fun i hi => ⟨(xC_y (by omega)).symm, (xC_y (by omega)).symm⟩)
  unfold e_Mo_measureOut
  have hw : (g_Mo_measureOut_0 (Int32.ofNat s) (Int32.ofNat u) w).1 = w.1 := by unfold g_Mo_measureOut_0; exact yf1 rfl rfl
  have e0 : mD (g_Mo_measureOut_0 (Int32.ofNat s) (Int32.ofNat u) w) = bif pMeet (fun i => xC (yA w 59 390) (6 * s + i)) (fun i => xC (yA w 60 390) (6 * s + i)) (fun i => xC (yA w 59 390) (6 * u + i)) (fun i => xC (yA w 60 390) (6 * u + i)) n n2 (w.1 57 s).toInt (w.1 57 u).toInt then (0, 1) else (1000000, 1) := by
    unfold g_Mo_measureOut_0
    rw [show f_Mo_meet (yA (wL w 54 14 1) 59 390) (yA (wL w 54 14 1) 60 390) (yA (wL w 54 14 1) 57 65) (yA (wL w 54 14 1) 58 65) (Int32.ofNat s) (Int32.ofNat u) = _ from eM, b2_eq]
    cases pMeet (fun i => xC (yA w 59 390) (6 * s + i)) (fun i => xC (yA w 60 390) (6 * s + i)) (fun i => xC (yA w 59 390) (6 * u + i)) (fun i => xC (yA w 60 390) (6 * u + i)) n n2 (w.1 57 s).toInt (w.1 57 u).toInt
    · show ((wL (wL w 54 14 1) 54 13 1000000).2.1 54 13, (wL (wL w 54 14 1) 54 13 1000000).2.1 54 14) = _
      rw [wL_self, (ydL _ 54 13 _ 54 14 (by decide)).2.1, wL_self]
      rfl
    · show ((wL (wL w 54 14 1) 54 13 0).2.1 54 13, (wL (wL w 54 14 1) 54 13 0).2.1 54 14) = _
      rw [wL_self, (ydL _ 54 13 _ 54 14 (by decide)).2.1, wL_self]
      rfl
  have hd : dB (mD (g_Mo_measureOut_0 (Int32.ofNat s) (Int32.ofNat u) w)) := by
    rw [e0]
    cases pMeet (fun i => xC (yA w 59 390) (6 * s + i)) (fun i => xC (yA w 60 390) (6 * s + i)) (fun i => xC (yA w 59 390) (6 * u + i)) (fun i => xC (yA w 60 390) (6 * u + i)) n n2 (w.1 57 s).toInt (w.1 57 u).toInt
    · exact ⟨⟨by show (0 : Int) ≤ 1000000; omega, by show (1000000 : Int) ≤ _; omega⟩, by show (1 : Int) ≤ 1; omega, by show (1 : Int) ≤ _; omega⟩
    · exact ⟨⟨by show (0 : Int) ≤ 0; omega, by show (0 : Int) ≤ _; omega⟩, by show (1 : Int) ≤ 1; omega, by show (1 : Int) ≤ _; omega⟩
  have k := mo27_n (w0 := w) (s := s) (u := u) (n := n) (n2 := n2) hs hu hm hm2 h1 h6 g1 g6 hc hc2 7 0 _ hw (by omega) (by omega) hd
  refine ⟨?_, k.2⟩
  refine k.1.trans ?_
  rw [e0, Nat.sub_zero, ← List.range_eq_range', eP]
  unfold pOut
  have eh : pMeet (fun i => mcX w (6 * s + i)) (fun i => mcY w (6 * s + i)) (fun i => mcX w (6 * u + i)) (fun i => mcY w (6 * u + i)) n n2 (w.1 57 s).toInt (w.1 57 u).toInt = pMeet (fun i => mcX w (6 * s + i)) (fun i => mcY w (6 * s + i)) (fun i => mcX w (6 * u + i)) (fun i => mcY w (6 * u + i)) n n2 (w.1 57 s).toInt (w.1 57 u).toInt := rfl
  have ip : pI (bif pMeet (fun i => xC (yA w 59 390) (6 * s + i)) (fun i => xC (yA w 60 390) (6 * s + i)) (fun i => xC (yA w 59 390) (6 * u + i)) (fun i => xC (yA w 60 390) (6 * u + i)) n n2 (w.1 57 s).toInt (w.1 57 u).toInt then (0, 1) else (1000000, 1)) = if pMeet (fun i => xC (yA w 59 390) (6 * s + i)) (fun i => xC (yA w 60 390) (6 * s + i)) (fun i => xC (yA w 59 390) (6 * u + i)) (fun i => xC (yA w 60 390) (6 * u + i)) n n2 (w.1 57 s).toInt (w.1 57 u).toInt then (0, 1) else (1000000, 1) := by
    cases pMeet (fun i => xC (yA w 59 390) (6 * s + i)) (fun i => xC (yA w 60 390) (6 * s + i)) (fun i => xC (yA w 59 390) (6 * u + i)) (fun i => xC (yA w 60 390) (6 * u + i)) n n2 (w.1 57 s).toInt (w.1 57 u).toInt <;> rfl
  rw [ip]
  exact pF2_rel (fun p q => p = q) rfl (fun i j p q hi hj h => by
    rw [h]
    have hs2 := pSd_le (w.1 57 u).toInt n2
    have he := pE_lt (n := n) (i := i) (by omega)
    have he2 := pE_lt (n := n2) (i := j) (by omega)
    unfold pPr mcX mcY
    dsimp only
    rw [xC_y (by omega), xC_y (by omega), xC_y (by omega), xC_y (by omega), xC_y (by omega), xC_y (by omega), xC_y (by omega), xC_y (by omega)])
