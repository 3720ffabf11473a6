-- one present row changed
theorem INV_upd {w w' : yW} {G : List zC} {T Q : Nat} (h : INV w G) (hT : T < 2) (hQ : Q < 16) (fi : ∀ d j, ¬ (20 + 12 * T ≤ d ∧ d ≤ 25 + 12 * T) → ¬ (d = 15 + 12 * T ∧ j = Q) → ¬ (55 ≤ d ∧ d ≤ 58 ∧ j = 16 * T + Q) → ¬ ((d = 59 ∨ d = 60) ∧ 6 * (16 * T + Q) ≤ j ∧ j < 6 * (16 * T + Q) + 6) → ¬ (61 ≤ d ∧ d ≤ 64 ∧ j = 16 * T + Q) → ¬ (d = 54 ∧ (j = 13 ∨ j = 14)) → w'.1 d j = w.1 d j) (fr : ∀ c j, ¬ (c = 16 + 12 * T ∧ j = Q) → w'.2.2 c j = w.2.2 c j) (hrow : rEq w' G (16 * T + Q) (w'.2.2 (16 + 12 * T) Q)) (ham : w'.2.2 (16 + 12 * T) Q ≠ none → w'.1 (15 + 12 * T) Q = w'.1 56 (16 * T + Q)) (h55 : w'.1 55 (16 * T + Q) = 0 ∨ w'.1 55 (16 * T + Q) = 1) (h58 : 0 ≤ (w'.1 58 (16 * T + Q)).toInt ∧ (w'.1 58 (16 * T + Q)).toInt ≤ 6) (hI : iIdx w' G) (hk : yRk w' G) : INV w' G := by
  obtain ⟨hd, hf, hp, hc, hm, ha, hr, hO, _, _⟩ := h
  have hre : ∀ s o, s < 65 → s ≠ 16 * T + Q → rEq w G s o → rEq w' G s o := by
    intro s o hs hne hq
    cases o with
    | none => exact (fi 55 s (by omega) (by omega) (by omega) (by omega) (by omega) (by omega)).trans hq
    | some y =>
      obtain ⟨a1, a2, a3, a4, a5, a6, a7, a8, a9⟩ := hq
      have n6 := a2.2.2.2.2.2.2.2.1
      exact ⟨(fi 55 s (by omega) (by omega) (by omega) (by omega) (by omega) (by omega)).trans a1, a2, (fi 57 s (by omega) (by omega) (by omega) (by omega) (by omega) (by omega)).trans a3, (fi 58 s (by omega) (by omega) (by omega) (by omega) (by omega) (by omega)).trans a4, fun i hi2 => ⟨(fi 59 _ (by omega) (by omega) (by omega) (by omega) (by omega) (by omega)).trans (a5 i hi2).1, (fi 60 _ (by omega) (by omega) (by omega) (by omega) (by omega) (by omega)).trans (a5 i hi2).2⟩, (fi 61 s (by omega) (by omega) (by omega) (by omega) (by omega) (by omega)).trans a6, (fi 63 s (by omega) (by omega) (by omega) (by omega) (by omega) (by omega)).trans a7, (fi 62 s (by omega) (by omega) (by omega) (by omega) (by omega) (by omega)).trans a8, (fi 64 s (by omega) (by omega) (by omega) (by omega) (by omega) (by omega)).trans a9⟩
  have f0 : ∀ d j, d < 54 → ¬ (20 + 12 * T ≤ d ∧ d ≤ 25 + 12 * T) → d ≠ 15 + 12 * T → w'.1 d j = w.1 d j := fun d j a b c => fi d j b (by omega) (by omega) (by omega) (by omega) (by omega)
  have f1 : ∀ d j, 65 ≤ d → w'.1 d j = w.1 d j := fun d j a => fi d j (by omega) (by omega) (by omega) (by omega) (by omega) (by omega)
  have f2 : ∀ j, j ≠ 13 → j ≠ 14 → w'.1 54 j = w.1 54 j := fun j a b => fi 54 j (by omega) (by omega) (by omega) (by omega) (by omega) (by omega)
  refine ⟨?_, ?_, ?_, ?_, ?_, ?_, ?_, ?_, hI, hk⟩
  · obtain ⟨d1, d2, d3⟩ := hd
    unfold iDraft
    rw [f0 6 2 (by omega) (by omega) (by omega), f2 10 (by omega) (by omega)]
    refine ⟨d1, d2, fun i hi2 => ?_⟩
    rw [f0 7 i (by omega) (by omega) (by omega), f0 8 i (by omega) (by omega) (by omega), f1 65 i (by omega), f1 66 i (by omega)]
    exact d3 i hi2
  · unfold iFoc
    rw [fr 0 5 (by omega)]
    exact hre 64 _ (by omega) (by omega) hf
  · intro t' q' ht' hq'
    by_cases e : t' = T ∧ q' = Q
    · rw [e.1, e.2]
      exact ⟨hrow, ham⟩
    · have k := hp t' q' ht' hq'
      rw [fr (16 + 12 * t') q' (by omega)]
      refine ⟨hre _ _ (by omega) (by omega) k.1, fun hne => ?_⟩
      rw [fi 56 _ (by omega) (by omega) (by omega) (by omega) (by omega) (by omega), fi (15 + 12 * t') _ (by omega) (by omega) (by omega) (by omega) (by omega) (by omega)]
      exact k.2 hne
  · intro t' q' ht' hq'
    rw [fr (19 + 12 * t') q' (by omega)]
    have k := hc t' q' ht' hq'
    refine ⟨hre _ _ (by omega) (by omega) k.1, fun hne => ?_⟩
    rw [fi 56 _ (by omega) (by omega) (by omega) (by omega) (by omega) (by omega), f0 (18 + 12 * t') _ (by omega) (by omega) (by omega)]
    exact k.2 hne
  · intro s hs
    by_cases e : s = 16 * T + Q
    · rw [e]; exact ⟨h55, h58⟩
    · rw [fi 55 s (by omega) (by omega) (by omega) (by omega) (by omega) (by omega), fi 58 s (by omega) (by omega) (by omega) (by omega) (by omega) (by omega)]
      exact hm s hs
  · obtain ⟨a1, a2, a3, a4⟩ := ha
    unfold iAns
    rw [f0 0 7 (by omega) (by omega) (by omega), f2 21 (by omega) (by omega), f0 0 8 (by omega) (by omega) (by omega), f2 22 (by omega) (by omega)]
    refine ⟨a1, a2, fun i hi2 => ?_, a4⟩
    rw [f0 9 i (by omega) (by omega) (by omega), f1 69 i (by omega)]
    exact a3 i hi2
  · refine ⟨fun p hp2 => ?_, ?_⟩
    · rw [f0 5 p (by omega) (by omega) (by omega), f1 70 p (by omega)]
      exact hr.1 p hp2
    · rw [f1 70 8 (by omega)]
      exact hr.2
  · intro j hj
    rw [f0 13 j (by omega) (by omega) (by omega)]
    exact hO j hj
-- the least free row
theorem lfRow_L {w : yW} {T : Nat} : ∀ n Q, Q ≤ 16 → 16 < Q + n → g_Ta_leastFreeRow_2 (14 + 12 * T) w n (Int32.ofNat Q) = Int32.ofNat (lfr (rowP w T) (16 - Q) Q)
  | 0, Q, h1, h2 => by omega
  | n + 1, Q, h1, h2 => by
    rw [g_Ta_leastFreeRow_2, zc_ge, z_nat (by omega), show (16 : Int32).toInt = 16 from rfl]
    by_cases hQ : Q = 16
    · subst hQ
      rw [decide_eq_true (by omega)]
      rfl
    · rw [decide_eq_false (by omega), n_clamp (by omega), n_inc2, lfRow_L n (Q + 1) (by omega) (by omega), yN_not, show 14 + 12 * T + 2 = 16 + 12 * T by omega, show 16 - Q = (16 - (Q + 1)) + 1 by omega]
      have e : lfr (rowP w T) (16 - (Q + 1) + 1) Q = if rowP w T Q then lfr (rowP w T) (16 - (Q + 1)) (Q + 1) else Q := rfl
      rw [e, show rowP w T Q = yS (w.2.2 (16 + 12 * T) Q) from rfl]
      cases yS (w.2.2 (16 + 12 * T) Q) <;> rfl
theorem lfRow_n {w : yW} {T : Nat} : e_Ta_leastFreeRow (14 + 12 * T) w = Int32.ofNat (lfr (rowP w T) 16 0) := lfRow_L 17 0 (by omega) (by omega)
theorem cnt_lf (f : Nat → Bool) : ∀ n, cntM f n + lfC f n = n
  | 0 => rfl
  | n + 1 => by
    rw [cntM_succ, lfC_succ]
    have := cnt_lf f n
    cases f n
    · show cntM f n + 0 + (lfC f n + 1) = n + 1
      omega
    · show cntM f n + 1 + (lfC f n + 0) = n + 1
      omega
theorem cnt_16 (f : Nat → Bool) : cntM f 16 = 16 ↔ lfr f 16 0 = 16 := by
  have h1 := cnt_lf f 16
  have h2 := @lf_lt f
  have h3 := @lfr_all f 16 0
  constructor
  · intro h
    have : ¬ lfr f 16 0 < 16 := fun hl => by have := h2.mp hl; omega
    omega
  · intro h
    have : ¬ 0 < lfC f 16 := fun hl => by have := h2.mpr hl; omega
    omega
/-- what of the reference's cell 55 decides -/
theorem size_55 {w w' : yW} (h : w'.1 55 = w.1 55) (t : Int32) : (e_Mo_size t w').2 = (e_Mo_size t w).2 := by
  have key : ∀ n (c q : Int32), (g_Mo_size_7 t n w' c q).2 = (g_Mo_size_7 t n w c q).2 := by
    intro n
    induction n with
    | zero => intro c q; rfl
    | succ n ih =>
      intro c q
      rw [g_Mo_size_7, g_Mo_size_7, h]
      cases zc .ge q (16 * t + 16)
      · cases zc .eq (w.1 55 q.toNatClampNeg) 0
        · exact ih _ _
        · exact ih _ _
      · rfl
  exact key 17 0 (16 * t)
theorem ins31_n {w : yW} {G : List zC} (h : INV w G) {w' : yW} (e : w'.1 55 = w.1 55) {T : Nat} {v : Int32} (hT : T < 2) (hl : lfr (rowP w T) 16 0 < 16) : g_Mo_insert_31 (Int32.ofNat T) v 17 w' 0 = (w', Int32.ofNat (lfr (rowP w T) 16 0)) := by
  have key : ∀ n Q, Q ≤ lfr (rowP w T) 16 0 → 16 < Q + n → g_Mo_insert_31 (Int32.ofNat T) v n w' (Int32.ofNat Q) = (w', Int32.ofNat (lfr (rowP w T) 16 0)) := by
    have ha := @lfr_all (rowP w T) 16 0
    intro n
    induction n with
    | zero => intro Q h1 h2; exfalso; omega
    | succ n ih =>
      intro Q h1 h2
      have ei : (16 * Int32.ofNat T + Int32.ofNat Q).toNatClampNeg = 16 * T + Q := by
        rw [show (16 : Int32) = Int32.ofNat 16 from rfl, ← Int32.ofNat_mul, mk_add]
        exact n_clamp (by omega)
      rw [g_Mo_insert_31, ei, e, there_n h hT (by omega), yN_not, n_inc2]
      by_cases hQ : Q = lfr (rowP w T) 16 0
      · have hf := ha.2.2.2 (by omega)
        rw [← hQ] at hf ⊢
        rw [show yS (w.2.2 (16 + 12 * T) Q) = false from hf]
        rfl
      · have hf := ha.2.2.1 Q (Nat.zero_le _) (by omega)
        rw [show yS (w.2.2 (16 + 12 * T) Q) = true from hf]
        exact ih (Q + 1) (by omega) (by omega)
  exact key 17 0 (Nat.zero_le _) (by omega)
