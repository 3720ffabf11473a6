-- shape: the drawn one
theorem tk_n {w : yW} {c k i : Nat} (hk : k ≤ 6) (hi : i < k) : ((yA w c 6).take k).getD i 0 = w.1 c i := by
  have e : ((yA w c 6).take k).getD i 0 = (yA w c 6).getD i 0 := by simp [List.getD, List.getElem?_take, hi]
  rw [e, yA_n (by omega)]
theorem tk_co {w : yW} {c k : Nat} (hk : k ≤ 6) (h : ∀ i, i < k → 0 ≤ (w.1 c i).toInt ∧ (w.1 c i).toInt ≤ 255) : zCo ((yA w c 6).take k) := by
  intro v hv
  obtain ⟨i, hi, e⟩ := List.mem_iff_getElem.mp hv
  have hl : i < k := by rw [List.length_take] at hi; omega
  have e2 : ((yA w c 6).take k).getD i 0 = v := by
    rw [← e, List.getD_eq_getElem?_getD, List.getElem?_eq_getElem hi]
    rfl
  rw [← e2, tk_n hk hl]
  exact h i hl
theorem pCn_k {kd : Int} {k : Nat} (kk : 0 ≤ kd ∧ kd ≤ 2) (h : pCn kd k = true) : (kd = 0 → k = 1) ∧ (kd = 1 → 2 ≤ k) ∧ (kd = 2 → 3 ≤ k) ∧ 1 ≤ k := by
  unfold pCn at h
  split at h
  · have := of_decide_eq_true h; omega
  · split at h
    · have := of_decide_eq_true h; omega
    · have := of_decide_eq_true h; omega
theorem sim_shape_d {w : yW} {G : List zC} (h : INV w G) (kd : Int32) (h1 : zc .lt kd 0 = false) (h2 : zc .le kd 2 = true) (h3 : zc .ne (e_Dr_hasCountFor kd w) 0 = true) : ∃ k, k ≤ 6 ∧ w.1 6 2 = Int32.ofNat k ∧ yOk (G ++ dCells w k (72 + G.length) kd) (72 + G.length) ∧ (g_ST_shape_40 (G ++ dCells w k (72 + G.length) kd) kd (72 + G.length) w).2 = (e_Mo_shape kd (g_ST_shape_40 (G ++ dCells w k (72 + G.length) kd) kd (72 + G.length) w).1).2 ∧ INV (e_Mo_shape kd (g_ST_shape_40 (G ++ dCells w k (72 + G.length) kd) kd (72 + G.length) w).1).1 (G ++ dCells w k (72 + G.length) kd) := by
  obtain ⟨d1, d2, d3⟩ := h.1
  have hw := z_ofn (x := w.1 54 10) d2.1
  have hk : (w.1 54 10).toInt.toNat ≤ 6 := by omega
  generalize (w.1 54 10).toInt.toNat = k at hw hk d3
  have hw6 : w.1 6 2 = Int32.ofNat k := d1.trans hw
  rw [cnt_c hk hw6, b2_ne] at h3
  have kk : 0 ≤ kd.toInt ∧ kd.toInt ≤ 2 := by
    rw [zc_lt] at h1
    rw [zc_le] at h2
    have a := of_decide_eq_false h1
    have b := of_decide_eq_true h2
    have e0 : (0 : Int32).toInt = 0 := rfl
    have e2 : (2 : Int32).toInt = 2 := rfl
    omega
  obtain ⟨k0, k1, k2, kp⟩ := pCn_k kk h3
  have cX : zCo ((yA w 7 6).take k) := tk_co hk (fun i hi => by rw [(d3 i hi).1]; exact (d3 i hi).2.2.1)
  have cY : zCo ((yA w 8 6).take k) := tk_co hk (fun i hi => by rw [(d3 i hi).2.1]; exact (d3 i hi).2.2.2)
  have ok := ok_new (w := w) (G := G) (kd := kd) rfl kp hk cX cY kk k1
  obtain ⟨a1, a2, a3, a4, a5, a6, a7⟩ := drw_n (w := w) (G := G) (k := k) (kd := kd) rfl hk
  refine ⟨k, hk, hw6, ok, ?_⟩
  have hA := INV_app (H := dCells w k (72 + G.length) kd) h
  have l7 : ((yA w 7 6).take k).length = k := by rw [List.length_take, yA_len]; omega
  have l8 : ((yA w 8 6).take k).length = k := by rw [List.length_take, yA_len]; omega
  generalize G ++ dCells w k (72 + G.length) kd = G' at ok a1 a2 a3 a4 a5 a6 a7 hA
  generalize 72 + G.length = g at ok a1 a2 a3 a4 a5 a6 a7
  have hfe : ∀ w1 : yW, (∀ d j, ¬ (d = 6 ∧ j = 2) → w1.1 d j = w.1 d j) → e_Mo_fault kd w1 = f_Ge_fault (gX G' g) (gY G' g) (gK G' g) := fun w1 e => by
    have hw1 : w1.1 54 10 = Int32.ofNat k := (e 54 10 (by omega)).trans hw
    rw [cnt_m hk hw1, h3, a1, a2, a3]
    refine (fault_eq cX cY (l8.trans l7.symm) l7 kp hk hw1 (fun i hi => ?_) k0 k1 k2 kk).symm
    unfold xC dX dY
    rw [tk_n hk hi, tk_n hk hi, (d3 i hi).1, (d3 i hi).2.1, e 65 i (by omega), e 66 i (by omega)]
    exact ⟨rfl, rfl⟩
  unfold g_ST_shape_40
  cases hz : zc .ne (f_Ge_fault (gX G' g) (gY G' g) (gK G' g)) 0 with
  | true =>
    show f_Ge_fault (gX G' g) (gY G' g) (gK G' g) = (e_Mo_shape kd (e_Dr_clear w)).2 ∧ INV (e_Mo_shape kd (e_Dr_clear w)).1 G'
    have ef := hfe (e_Dr_clear w) (fun d j a => wI_nc a)
    have em : e_Mo_shape kd (e_Dr_clear w) = (wI (e_Dr_clear w) 54 10 0, f_Ge_fault (gX G' g) (gY G' g) (gK G' g)) := by
      unfold e_Mo_shape
      rw [h1, h2, ef, hz]
      rfl
    rw [em]
    exact ⟨rfl, INV_clr hA⟩
  | false =>
    show f_Ge_fault (gX G' g) (gY G' g) (gK G' g) = (e_Mo_shape kd (wR (e_Dr_clear w) 0 5 (some g))).2 ∧ INV (e_Mo_shape kd (wR (e_Dr_clear w) 0 5 (some g))).1 G'
    have i1 : ∀ d j, ¬ (d = 6 ∧ j = 2) → (wR (e_Dr_clear w) 0 5 (some g)).1 d j = w.1 d j := fun d j a => wI_nc a
    have i2 : (wR (e_Dr_clear w) 0 5 (some g)).1 6 2 = 0 := wI_self w 6 2 0
    have i3 : ∀ c j, (wR (e_Dr_clear w) 0 5 (some g)).2.2 c j = if c = 0 ∧ j = 5 then some g else w.2.2 c j := fun c j => wR_r (w := e_Dr_clear w) c j
    have ef := hfe (wR (e_Dr_clear w) 0 5 (some g)) i1
    generalize wR (e_Dr_clear w) 0 5 (some g) = w1 at i1 i2 i3 ef
    have em : e_Mo_shape kd w1 = (wI (e_Mo_bind (Int32.ofNat 64) (w1.1 54 10) (g_Mo_shape_50 kd (e_Mo_fault kd w1) 7 (wI (wI (wI w1 55 64 1) 57 64 kd) 58 64 ((wI (wI w1 55 64 1) 57 64 kd).1 54 10)) (Int32.ofNat 0))) 54 10 0, e_Mo_fault kd w1) := by
      unfold e_Mo_shape
      rw [h1, h2, show zc .ne (e_Mo_fault kd w1) 0 = false by rw [ef]; exact hz, cl64]
      rfl
    rw [em]
    refine ⟨ef.symm, ?_⟩
    generalize w1.1 54 10 = mv
    generalize e_Mo_fault kd w1 = f0
    have hn1 : (wI (wI w1 55 64 1) 57 64 kd).1 54 10 = Int32.ofNat k := by rw [wI_ne (by decide), wI_ne (by decide), i1 54 10 (by omega), hw]
    rw [hn1]
    have w2f : ∀ d j, ¬ (55 ≤ d ∧ d ≤ 58 ∧ j = 64) → (wI (wI (wI w1 55 64 1) 57 64 kd) 58 64 (Int32.ofNat k)).1 d j = w1.1 d j := fun d j a => by rw [wI_nc (by omega), wI_nc (by omega), wI_nc (by omega)]
    have w2a : (wI (wI (wI w1 55 64 1) 57 64 kd) 58 64 (Int32.ofNat k)).1 55 64 = 1 := by rw [wI_ne (by decide), wI_ne (by decide), wI_self]
    have w2b : (wI (wI (wI w1 55 64 1) 57 64 kd) 58 64 (Int32.ofNat k)).1 57 64 = kd := by rw [wI_ne (by decide), wI_self]
    have w2c : (wI (wI (wI w1 55 64 1) 57 64 kd) 58 64 (Int32.ofNat k)).1 58 64 = Int32.ofNat k := wI_self ..
    have w2r : (wI (wI (wI w1 55 64 1) 57 64 kd) 58 64 (Int32.ofNat k)).2 = w1.2 := rfl
    generalize wI (wI (wI w1 55 64 1) 57 64 kd) 58 64 (Int32.ofNat k) = w2 at w2f w2a w2b w2c w2r
    obtain ⟨s1, s2, s3, s4⟩ := s50_L (kd := kd) (f0 := f0) hk w2 (by rw [w2f _ _ (by omega), i1 54 10 (by omega), hw]) 7 0 w2 (by omega) (by omega) (fun _ _ _ _ => rfl) (fun _ _ _ => rfl) (fun i hi => absurd hi (Nat.not_lt_zero _))
    generalize g_Mo_shape_50 kd f0 7 w2 (Int32.ofNat 0) = w3 at s1 s2 s3 s4
    obtain ⟨b1, b2, b3, b4, b5⟩ := bind_n (mv := mv) (b := 64) (by omega) hk w3 (by rw [s1 58 64 (by decide) (by decide), w2c])
    have bj : (e_Mo_bind (Int32.ofNat 64) mv w3).2 = w3.2 := by unfold e_Mo_bind; exact (b37_2 ..).trans rfl
    generalize e_Mo_bind (Int32.ofNat 64) mv w3 = w4 at b1 b2 b3 b4 b5 bj
    show INV (wI w4 54 10 0) G'
    have r4 : ∀ c j, (wI w4 54 10 0).2.2 c j = if c = 0 ∧ j = 5 then some g else w.2.2 c j := fun c j => by
      show w4.2.2 c j = _
      rw [bj, s4, w2r]
      exact i3 c j
    have c3 : ∀ d j, ¬ (d = 54 ∧ j = 10) → ¬ (61 ≤ d ∧ d ≤ 64 ∧ j = 64) → (wI w4 54 10 0).1 d j = w3.1 d j := fun d j a b => by rw [wI_nc a, b1 d j b]
    have z10 : (wI w4 54 10 0).1 54 10 = 0 := wI_self ..
    have v59 : ∀ i, i < k → w3.1 59 (6 * 64 + i) = ((yA w 7 6).take k).getD i 0 ∧ w3.1 60 (6 * 64 + i) = ((yA w 8 6).take k).getD i 0 := fun i hi => by
      rw [tk_n hk hi, tk_n hk hi, (d3 i hi).1, (d3 i hi).2.1]
      have q := s3 i hi
      rw [w2f 65 i (by omega), w2f 66 i (by omega), i1 65 i (by omega), i1 66 i (by omega)] at q
      exact q
    have g4 : ∀ c, 61 ≤ c → c ≤ 64 → (wI w4 54 10 0).1 c 64 = w4.1 c 64 := fun c a b => wI_nc (by omega)
    generalize wI w4 54 10 0 = w5 at r4 c3 z10 g4
    have lows := ok
    obtain ⟨_, _, _, _, _, _, _, _, _, _, lX, lY, hX', hY', _, _⟩ := lows
    rw [a2] at lX hX'
    rw [a3] at lY hY'
    have e1 : mnF (fun i => w3.1 59 (6 * 64 + i)) k = gB G' g 0 := by
      have := mnF_low (f := fun i => w3.1 59 (6 * 64 + i)) cX (fun i hi => (v59 i (by omega)).1) (by omega) lX
      rw [l7] at this; exact this
    have e2 : mxF (fun i => w3.1 59 (6 * 64 + i)) k = gB G' g 2 := by
      have := mxF_hgh (f := fun i => w3.1 59 (6 * 64 + i)) cX (fun i hi => (v59 i (by omega)).1) (by omega) hX'
      rw [l7] at this; exact this
    have e3 : mnF (fun i => w3.1 60 (6 * 64 + i)) k = gB G' g 1 := by
      have := mnF_low (f := fun i => w3.1 60 (6 * 64 + i)) cY (fun i hi => (v59 i (by omega)).2) (by omega) lY
      rw [l8] at this; exact this
    have e4 : mxF (fun i => w3.1 60 (6 * 64 + i)) k = gB G' g 3 := by
      have := mxF_hgh (f := fun i => w3.1 60 (6 * 64 + i)) cY (fun i hi => (v59 i (by omega)).2) (by omega) hY'
      rw [l8] at this; exact this
    have f55 : w5.1 55 64 = 1 := by rw [c3 _ _ (by omega) (by omega), s1 _ _ (by decide) (by decide), w2a]
    have f57 : w5.1 57 64 = kd := by rw [c3 _ _ (by omega) (by omega), s1 _ _ (by decide) (by decide), w2b]
    have f58 : w5.1 58 64 = Int32.ofNat k := by rw [c3 _ _ (by omega) (by omega), s1 _ _ (by decide) (by decide), w2c]
    refine INV_foc hA (fun d j p1 p2 p3 p4 p5 => ?_) (fun c j hcj => by rw [r4, if_neg hcj]) ?_ z10 ?_ ?_ ?_
    · rw [c3 d j p2 p5]
      by_cases q : d = 59 ∨ d = 60
      · rw [s2 d j (by omega), w2f d j (by omega), i1 d j p1]
      · rw [s1 d j (by omega) (by omega), w2f d j p3, i1 d j p1]
    · rw [c3 _ _ (by omega) (by omega), s1 _ _ (by decide) (by decide), w2f _ _ (by omega), i2]
    · rw [r4, if_pos ⟨rfl, rfl⟩]
      refine ⟨f55, ok, by rw [a1]; exact f57, by rw [a2, l7]; exact f58, fun i hi => ?_, ?_, ?_, ?_, ?_⟩
      · rw [a2, l7] at hi
        rw [a2, a3, c3 _ _ (by omega) (by omega), c3 _ _ (by omega) (by omega)]
        exact v59 i hi
      · rw [g4 61 (by omega) (by omega), b2, e1]
      · rw [g4 63 (by omega) (by omega), b4, e3]
      · rw [g4 62 (by omega) (by omega), b3, e2]
      · rw [g4 64 (by omega) (by omega), b5, e4]
    · refine ⟨Or.inr f55, ?_⟩
      rw [f58, z_nat (by omega)]
      omega
    · intro c j y hy
      rw [r4] at hy
      split at hy
      · cases hy; exact ok
      · exact hA.2.2.2.2.2.2.2.2.2 c j y hy
