-- a copied shape is the same geometry
theorem mnF_p {f : Nat → Int32} : ∀ n, (∀ i, i < n → 0 ≤ (f i).toInt ∧ (f i).toInt ≤ 255) → (mnF f n).toInt ≤ 255 ∧ (∀ i, i < n → (mnF f n).toInt ≤ (f i).toInt) ∧ (0 < n → ∃ i, i < n ∧ (f i).toInt = (mnF f n).toInt)
  | 0, _ => ⟨by show (255 : Int) ≤ 255; omega, fun i hi => absurd hi (Nat.not_lt_zero _), fun h => absurd h (Nat.lt_irrefl _)⟩
  | n + 1, h => by
    obtain ⟨a1, a2, a3⟩ := mnF_p n (fun i hi => h i (by omega))
    have hn := h n (by omega)
    unfold mnF
    by_cases hc : (f n).toInt < (mnF f n).toInt
    · rw [if_pos hc]
      refine ⟨by omega, fun i hi => ?_, fun _ => ⟨n, by omega, rfl⟩⟩
      by_cases e : i = n
      · rw [e]; exact Int.le_refl _
      · have := a2 i (by omega); omega
    · rw [if_neg hc]
      refine ⟨a1, fun i hi => ?_, fun _ => ?_⟩
      · by_cases e : i = n
        · rw [e]; omega
        · exact a2 i (by omega)
      · by_cases h0 : 0 < n
        · obtain ⟨i, hi, e⟩ := a3 h0
          exact ⟨i, by omega, e⟩
        · have : n = 0 := by omega
          subst this
          exact ⟨0, by omega, by show (f 0).toInt = (255 : Int); have : (mnF f 0).toInt = 255 := rfl; omega⟩
theorem mxF_p {f : Nat → Int32} : ∀ n, (∀ i, i < n → 0 ≤ (f i).toInt ∧ (f i).toInt ≤ 255) → 0 ≤ (mxF f n).toInt ∧ (∀ i, i < n → (f i).toInt ≤ (mxF f n).toInt) ∧ (0 < n → ∃ i, i < n ∧ (f i).toInt = (mxF f n).toInt)
  | 0, _ => ⟨by show (0 : Int) ≤ 0; omega, fun i hi => absurd hi (Nat.not_lt_zero _), fun h => absurd h (Nat.lt_irrefl _)⟩
  | n + 1, h => by
    obtain ⟨a1, a2, a3⟩ := mxF_p n (fun i hi => h i (by omega))
    have hn := h n (by omega)
    unfold mxF
    by_cases hc : (mxF f n).toInt < (f n).toInt
    · rw [if_pos hc]
      refine ⟨by omega, fun i hi => ?_, fun _ => ⟨n, by omega, rfl⟩⟩
      by_cases e : i = n
      · rw [e]; exact Int.le_refl _
      · have := a2 i (by omega); omega
    · rw [if_neg hc]
      refine ⟨a1, fun i hi => ?_, fun _ => ?_⟩
      · by_cases e : i = n
        · rw [e]; omega
        · exact a2 i (by omega)
      · by_cases h0 : 0 < n
        · obtain ⟨i, hi, e⟩ := a3 h0
          exact ⟨i, by omega, e⟩
        · have : n = 0 := by omega
          subst this
          exact ⟨0, by omega, by show (f 0).toInt = (0 : Int); have : (mxF f 0).toInt = 0 := rfl; omega⟩
theorem mnF_low {X : List Int32} {f : Nat → Int32} {v : Int32} (hX : zCo X) (hf : ∀ i, i < X.length → f i = X.getD i 0) (h1 : 1 ≤ X.length) (h : zLow X v) : mnF f X.length = v := by
  have hb : ∀ i, i < X.length → 0 ≤ (f i).toInt ∧ (f i).toInt ≤ 255 := fun i hi => by rw [hf i hi]; exact xC_box hX i hi
  obtain ⟨_, a2, a3⟩ := mnF_p X.length hb
  obtain ⟨i, hi, e⟩ := a3 (by omega)
  obtain ⟨⟨a, ha, ea⟩, hl⟩ := h
  apply Int32.toInt_inj.mp
  obtain ⟨j, hj, ej⟩ := List.getElem_of_mem ha
  have gj : X.getD j 0 = a := by simp [List.getD, hj, ej]
  have gi : X.getD i 0 ∈ X := by
    have : X.getD i 0 = X[i] := by simp [List.getD, hi]
    rw [this]
    exact List.getElem_mem hi
  have k1 := a2 j hj
  rw [hf j hj, gj] at k1
  have k2 := hl _ gi
  rw [hf i hi] at e
  omega
theorem mxF_hgh {X : List Int32} {f : Nat → Int32} {v : Int32} (hX : zCo X) (hf : ∀ i, i < X.length → f i = X.getD i 0) (h1 : 1 ≤ X.length) (h : zHgh X v) : mxF f X.length = v := by
  have hb : ∀ i, i < X.length → 0 ≤ (f i).toInt ∧ (f i).toInt ≤ 255 := fun i hi => by rw [hf i hi]; exact xC_box hX i hi
  obtain ⟨_, a2, a3⟩ := mxF_p X.length hb
  obtain ⟨i, hi, e⟩ := a3 (by omega)
  obtain ⟨⟨a, ha, ea⟩, hl⟩ := h
  apply Int32.toInt_inj.mp
  obtain ⟨j, hj, ej⟩ := List.getElem_of_mem ha
  have gj : X.getD j 0 = a := by simp [List.getD, hj, ej]
  have gi : X.getD i 0 ∈ X := by
    have : X.getD i 0 = X[i] := by simp [List.getD, hi]
    rw [this]
    exact List.getElem_mem hi
  have k1 := a2 j hj
  rw [hf j hj, gj] at k1
  have k2 := hl _ gi
  rw [hf i hi] at e
  omega
/-- a slot that is made of another: the same geometry -/
theorem rEq_cs {w w' : yW} {G : List zC} {a b n x : Nat} (h6 : n ≤ 6) (hn : w.1 58 a = Int32.ofNat n) (h : rEq w G a (some x)) (t : w'.1 55 b = 1) (c57 : w'.1 57 b = w.1 57 a) (c58 : w'.1 58 b = Int32.ofNat n) (c59 : ∀ i, i < 6 → w'.1 59 (6 * b + i) = w.1 59 (6 * a + i) ∧ w'.1 60 (6 * b + i) = w.1 60 (6 * a + i)) (c61 : w'.1 61 b = mnF (fun i => w.1 59 (6 * a + i)) n) (c62 : w'.1 62 b = mxF (fun i => w.1 59 (6 * a + i)) n) (c63 : w'.1 63 b = mnF (fun i => w.1 60 (6 * a + i)) n) (c64 : w'.1 64 b = mxF (fun i => w.1 60 (6 * a + i)) n) : rEq w' G b (some x) := by
  obtain ⟨a1, ok, a3, a4, a5, a6, a7, a8, a9⟩ := h
  have ok' := ok
  obtain ⟨_, _, _, _, _, hl, n1, n6, cX, cY, lX, lY, gX', gY', _, _⟩ := ok
  have hnn : n = (gX G x).length := by
    rw [hn] at a4
    have := congrArg Int32.toInt a4
    rw [z_nat (by omega), z_nat (by omega)] at this
    omega
  have ea : w.1 58 a = Int32.ofNat (gX G x).length := a4
  have e58 : w'.1 58 b = Int32.ofNat (gX G x).length := by rw [c58, ← hn, a4]
  subst hnn
  refine ⟨t, ok', by rw [c57]; exact a3, e58, fun i hi => ?_, ?_, ?_, ?_, ?_⟩
  · have := c59 i (by omega)
    rw [this.1, this.2]
    exact a5 i hi
  · rw [c61]; exact mnF_low cX (fun i hi => (a5 i hi).1) n1 lX
  · rw [c63, ← hl]; exact mnF_low cY (fun i hi => (a5 i (by omega)).2) (by omega) lY
  · rw [c62]; exact mxF_hgh cX (fun i hi => (a5 i hi).1) n1 gX'
  · rw [c64, ← hl]; exact mxF_hgh cY (fun i hi => (a5 i (by omega)).2) (by omega) gY'
