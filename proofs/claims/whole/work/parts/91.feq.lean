-- class and reference find the same fault
theorem zMt_sym (ax ay bx bz cx cy dx dy : Int) : zMt ax ay bx bz cx cy dx dy = zMt cx cy dx dy ax ay bx bz := by
  unfold zMt
  generalize zOpp (zTurn ax ay bx bz cx cy) (zTurn ax ay bx bz dx dy) = p
  generalize zOpp (zTurn cx cy dx dy ax ay) (zTurn cx cy dx dy bx bz) = q
  generalize zOn ax ay bx bz cx cy = o1
  generalize zOn ax ay bx bz dx dy = o2
  generalize zOn cx cy dx dy ax ay = o3
  generalize zOn cx cy dx dy bx bz = o4
  cases p <;> cases q <;> cases o1 <;> cases o2 <;> cases o3 <;> cases o4 <;> rfl
theorem pE_two {n i j : Nat} (hn : 3 ≤ n) (hi : i < n) (hj : j < n) (h1 : pE n i = j) (h2 : pE n j = i) : False := by
  unfold pE at h1 h2
  split at h1 <;> split at h2 <;> omega
theorem pCl_sym {x y : Nat → Int} {n i j : Nat} (hn : 3 ≤ n) (hi : i < n) (hj : j < n) : pCl x y n i j = pCl x y n j i := by
  unfold pCl
  by_cases e1 : pE n i = j
  · rw [if_pos e1, if_neg (fun e2 => pE_two hn hi hj e1 e2), if_pos e1]
  · rw [if_neg e1]
    by_cases e2 : pE n j = i
    · rw [if_pos e2, if_pos e2]
    · rw [if_neg e2, if_neg e2, if_neg e1]
      exact zMt_sym ..
theorem pCl_cg {x y x' y' : Nat → Int} {n i j : Nat} (h : ∀ i, i < n → x i = x' i ∧ y i = y' i) (hi : i < n) (hj : j < n) : pCl x y n i j = pCl x' y' n i j := by
  have h1 := pE_lt (n := n) (i := i) (by omega)
  have h2 := pE_lt (n := n) (i := j) (by omega)
  unfold pCl pMt
  rw [(h i hi).1, (h i hi).2, (h j hj).1, (h j hj).2, (h _ h1).1, (h _ h1).2, (h _ h2).1, (h _ h2).2]
theorem pEq_cg {x y x' y' : Nat → Int} {n i : Nat} (h : ∀ i, i < n → x i = x' i ∧ y i = y' i) (hi : i < n) : pEq x y n i = pEq x' y' n i := by
  have h1 := pE_lt (n := n) (i := i) (by omega)
  unfold pEq
  rw [(h i hi).1, (h i hi).2, (h _ h1).1, (h _ h1).2]
theorem fault_eq {X Y : List Int32} {kd : Int32} {w : yW} {n : Nat} (hX : zCo X) (hY : zCo Y) (hXY : Y.length = X.length) (hl : X.length = n) (h1 : 1 ≤ n) (hn : n ≤ 6) (hw : w.1 54 10 = Int32.ofNat n) (hxy : ∀ i, i < n → xC X i = dX w i ∧ xC Y i = dY w i) (k0 : kd.toInt = 0 → n = 1) (k1 : kd.toInt = 1 → 2 ≤ n) (k2 : kd.toInt = 2 → 3 ≤ n) (kk : 0 ≤ kd.toInt ∧ kd.toInt ≤ 2) : f_Ge_fault X Y kd = g_Mo_fault_39 kd (Int32.ofNat n) w 7 0 := by
  have bX := xC_box hX
  have bY := xC_box hY
  rw [hXY, hl] at bY
  rw [hl] at bX
  have hb : dBox w n := fun i hi => ⟨by rw [← (hxy i hi).1]; exact bX i hi, by rw [← (hxy i hi).2]; exact bY i hi⟩
  have q39 := f39_L (kd := kd) hw hn hb 7 0 (by omega) (by omega)
  have q120 := f120_L (kd := kd) hw hn hb 7 0 (by omega) (by omega)
  rw [show Int32.ofNat 0 = 0 from rfl] at q39 q120
  rw [q120] at q39
  rw [cfault_n hX hY hXY (by omega) (by omega), q39, hl, Nat.sub_zero]
  have hS : pSd kd.toInt n = if kd.toInt = 1 then n - 1 else n := rfl
  have A : (¬ kd.toInt = 0 ∧ anF (pEq (xC X) (xC Y) n) (pSd kd.toInt n) 0 = true) ↔ anF (fun x => pOkE kd.toInt n x && pEq (dX w) (dY w) n x) n 0 = true := by
    rw [anF_iff, anF_iff]
    constructor
    · rintro ⟨e0, j, j1, j2, j3⟩
      have hj : j < n := by have := pSd_le kd.toInt n; omega
      refine ⟨j, j1, by omega, ?_⟩
      rw [← pEq_cg hxy hj, j3, Bool.and_true]
      unfold pOkE
      rw [Bool.and_eq_true, Bool.or_eq_true, decide_eq_true_eq, decide_eq_true_eq, decide_eq_true_eq]
      by_cases e1 : kd.toInt = 1
      · rw [hS, if_pos e1] at j2
        have := k1 e1
        refine ⟨Or.inr ?_, by omega⟩
        unfold pE
        rw [if_pos (by omega)]
        omega
      · have e2 : kd.toInt = 2 := by omega
        have := k2 e2
        exact ⟨Or.inl e2, by omega⟩
    · rintro ⟨j, j1, j2, j3⟩
      have hj : j < n := by omega
      rw [Bool.and_eq_true] at j3
      obtain ⟨j3, j4⟩ := j3
      unfold pOkE at j3
      rw [Bool.and_eq_true, Bool.or_eq_true, decide_eq_true_eq, decide_eq_true_eq, decide_eq_true_eq] at j3
      have e0 : ¬ kd.toInt = 0 := fun e => by have := k0 e; omega
      refine ⟨e0, j, j1, ?_, by rw [pEq_cg hxy hj]; exact j4⟩
      rw [hS]
      by_cases e1 : kd.toInt = 1
      · rw [if_pos e1]
        rcases j3.1 with e2 | e2
        · omega
        · unfold pE at e2
          split at e2 <;> omega
      · rw [if_neg e1]; omega
  have B : (kd.toInt = 2 ∧ anF (fun i => anF (pCl (xC X) (xC Y) n i) (pSd kd.toInt n - (i + 1)) (i + 1)) (pSd kd.toInt n) 0 = true) ↔ (kd.toInt = 2 ∧ anF (fun x => anF (pCl (dX w) (dY w) n x) x 0) n 0 = true) := by
    constructor
    · rintro ⟨e2, h⟩
      refine ⟨e2, ?_⟩
      have h3 := k2 e2
      rw [show pSd kd.toInt n = n by rw [hS, if_neg (by omega)]] at h
      rw [anF_iff] at h ⊢
      obtain ⟨i, i1, i2, i3⟩ := h
      rw [anF_iff] at i3
      obtain ⟨j, j1, j2, j3⟩ := i3
      refine ⟨j, by omega, by omega, ?_⟩
      rw [anF_iff]
      refine ⟨i, by omega, by omega, ?_⟩
      rw [pCl_sym h3 (by omega) (by omega), ← pCl_cg hxy (by omega) (by omega)]
      exact j3
    · rintro ⟨e2, h⟩
      refine ⟨e2, ?_⟩
      have h3 := k2 e2
      rw [show pSd kd.toInt n = n by rw [hS, if_neg (by omega)]]
      rw [anF_iff] at h ⊢
      obtain ⟨j, i1, i2, i3⟩ := h
      rw [anF_iff] at i3
      obtain ⟨i, j1, j2, j3⟩ := i3
      refine ⟨i, by omega, by omega, ?_⟩
      rw [anF_iff]
      refine ⟨j, by omega, by omega, ?_⟩
      rw [pCl_sym h3 (by omega) (by omega), pCl_cg hxy (by omega) (by omega)]
      exact j3
  by_cases a : anF (fun x => pOkE kd.toInt n x && pEq (dX w) (dY w) n x) n 0 = true
  · rw [if_pos (A.mpr a), if_pos a]
  · rw [if_neg (fun h => a (A.mp h)), if_neg a]
    by_cases b : (kd.toInt = 2 ∧ anF (fun x => anF (pCl (dX w) (dY w) n x) x 0) n 0 = true)
    · rw [if_pos (B.mpr b), if_pos b]
    · rw [if_neg (fun h => b (B.mp h)), if_neg b]
