-- shape
theorem INV_foc {w w' : yW} {G : List zC} (h : INV w G) (fi : ∀ d j, ¬ (d = 6 ∧ j = 2) → ¬ (d = 54 ∧ j = 10) → ¬ (55 ≤ d ∧ d ≤ 58 ∧ j = 64) → ¬ ((d = 59 ∨ d = 60) ∧ 384 ≤ j) → ¬ (61 ≤ d ∧ d ≤ 64 ∧ j = 64) → w'.1 d j = w.1 d j) (fr : ∀ c j, ¬ (c = 0 ∧ j = 5) → w'.2.2 c j = w.2.2 c j) (z1 : w'.1 6 2 = 0) (z2 : w'.1 54 10 = 0) (hrow : rEq w' G 64 (w'.2.2 0 5)) (hm2 : (w'.1 55 64 = 0 ∨ w'.1 55 64 = 1) ∧ 0 ≤ (w'.1 58 64).toInt ∧ (w'.1 58 64).toInt ≤ 6) (hk2 : yRk w' G) : INV w' G := by
  obtain ⟨hd, hf0, hp, hc, hm, ha, hr, hO, hi, hk⟩ := h
  have hre : ∀ s o, s < 64 → rEq w G s o → rEq w' G s o := fun s o hs hq => rEq_i (fun d j x y z u v => fi d j (by omega) (by omega) (by omega) (by omega) (by omega)) hq
  have f0 : ∀ d j, d ≠ 6 → ¬ (d = 54 ∧ j = 10) → ¬ (55 ≤ d ∧ d ≤ 64) → w'.1 d j = w.1 d j := fun d j a b c => fi d j (by omega) b (by omega) (by omega) (by omega)
  refine ⟨?_, hrow, ?_, ?_, ?_, ?_, ?_, ?_, ?_, hk2⟩
  · unfold iDraft
    rw [z1, z2]
    exact ⟨rfl, ⟨by decide, by decide⟩, fun i hi2 => absurd hi2 (by decide +revert)⟩
  · intro t q ht hq
    rw [fr _ _ (by omega)]
    refine ⟨hre _ _ (by omega) (hp t q ht hq).1, fun hne => ?_⟩
    rw [fi 56 _ (by omega) (by omega) (by omega) (by omega) (by omega), f0 _ _ (by omega) (by omega) (by omega)]
    exact (hp t q ht hq).2 hne
  · intro t q ht hq
    rw [fr _ _ (by omega)]
    refine ⟨hre _ _ (by omega) (hc t q ht hq).1, fun hne => ?_⟩
    rw [fi 56 _ (by omega) (by omega) (by omega) (by omega) (by omega), f0 _ _ (by omega) (by omega) (by omega)]
    exact (hc t q ht hq).2 hne
  · intro s hs
    by_cases e : s = 64
    · rw [e]; exact hm2
    · rw [fi 55 s (by omega) (by omega) (by omega) (by omega) (by omega), fi 58 s (by omega) (by omega) (by omega) (by omega) (by omega)]
      exact hm s hs
  · obtain ⟨a1, a2, a3, a4⟩ := ha
    unfold iAns
    rw [f0 0 7 (by omega) (by omega) (by omega), f0 54 21 (by omega) (by omega) (by omega), f0 0 8 (by omega) (by omega) (by omega), f0 54 22 (by omega) (by omega) (by omega)]
    refine ⟨a1, a2, fun i hi2 => ?_, a4⟩
    rw [f0 9 i (by omega) (by omega) (by omega), f0 69 i (by omega) (by omega) (by omega)]
    exact a3 i hi2
  · refine ⟨fun p hp2 => ?_, ?_⟩
    · rw [f0 5 p (by omega) (by omega) (by omega), f0 70 p (by omega) (by omega) (by omega)]
      exact hr.1 p hp2
    · rw [f0 70 8 (by omega) (by omega) (by omega)]
      exact hr.2
  · intro j hj
    rw [f0 13 j (by omega) (by omega) (by omega)]
    exact hO j hj
  · intro t ht
    refine iIxd_eq (f0 _ _ (by omega) (by omega) (by omega)) (fun j => f0 _ _ (by omega) (by omega) (by omega)) (fun j => f0 _ _ (by omega) (by omega) (by omega)) (fun j => f0 _ _ (by omega) (by omega) (by omega)) (fun j => f0 _ _ (by omega) (by omega) (by omega)) (fun j => f0 _ _ (by omega) (by omega) (by omega)) (fun j => fr _ _ (by omega)) ?_ (hi t ht)
    funext j
    rw [fr _ _ (by omega)]
/-- only the draft goes -/
theorem INV_clr {w : yW} {G : List zC} (h : INV w G) : INV (wI (wI w 6 2 0) 54 10 0) G := by
  have f : ∀ d j, ¬ (d = 6 ∧ j = 2) → ¬ (d = 54 ∧ j = 10) → (wI (wI w 6 2 0) 54 10 0).1 d j = w.1 d j := fun d j a b => by rw [wI_nc b, wI_nc a]
  refine INV_foc h (fun d j a b _ _ _ => f d j a b) (fun _ _ _ => rfl) (by rw [wI_nc (by omega), wI_self]) (wI_self ..) ?_ ?_ h.2.2.2.2.2.2.2.2.2
  · exact rEq_i (fun d j x y z u v => f d j (by omega) (by omega)) h.2.1
  · rw [f 55 64 (by omega) (by omega), f 58 64 (by omega) (by omega)]
    exact h.2.2.2.2.1 64 (by omega)
theorem s50_L {kd f0 : Int32} {n : Nat} (hn : n ≤ 6) (W : yW) (hW : W.1 54 10 = Int32.ofNat n) : ∀ (f x : Nat) (w : yW), x ≤ n → n < x + f → (∀ d j, d ≠ 59 → d ≠ 60 → w.1 d j = W.1 d j) → (∀ d j, j < 384 → w.1 d j = W.1 d j) → (∀ i, i < x → w.1 59 (384 + i) = W.1 65 i ∧ w.1 60 (384 + i) = W.1 66 i) →
    (∀ d j, d ≠ 59 → d ≠ 60 → (g_Mo_shape_50 kd f0 f w (Int32.ofNat x)).1 d j = W.1 d j) ∧ (∀ d j, j < 384 → (g_Mo_shape_50 kd f0 f w (Int32.ofNat x)).1 d j = W.1 d j) ∧ (∀ i, i < n → (g_Mo_shape_50 kd f0 f w (Int32.ofNat x)).1 59 (384 + i) = W.1 65 i ∧ (g_Mo_shape_50 kd f0 f w (Int32.ofNat x)).1 60 (384 + i) = W.1 66 i) ∧ (g_Mo_shape_50 kd f0 f w (Int32.ofNat x)).2 = w.2
  | 0, x, w, h1, h2, _, _, _ => by omega
  | f + 1, x, w, h1, h2, a, b, c => by
    rw [g_Mo_shape_50, a 54 10 (by decide) (by decide), hW, zc_ge, z_nat (by omega), z_nat (by omega)]
    by_cases e : x = n
    · rw [decide_eq_true (by omega), ← e]
      exact ⟨a, b, c, rfl⟩
    · rw [decide_eq_false (by omega), n_inc2, show (384 : Int32) = Int32.ofNat 384 from rfl, mk_add, n_clamp (by omega), n_clamp (by omega), cond_false]
      have k := s50_L (kd := kd) (f0 := f0) hn W hW f (x + 1) (wI (wI w 59 (384 + x) (w.1 65 x)) 60 (384 + x) ((wI w 59 (384 + x) (w.1 65 x)).1 66 x)) (by omega) (by omega) (fun d j p q => by rw [wI_ne q, wI_ne p, a d j p q]) (fun d j p => by rw [wI_nc (by omega), wI_nc (by omega), b d j p]) (fun i hi => by
        by_cases e2 : i = x
        · rw [e2, wI_self, wI_ne (by decide), wI_self, wI_ne (by decide), a 65 x (by decide) (by decide), a 66 x (by decide) (by decide)]
          exact ⟨rfl, rfl⟩
        · rw [wI_nc (by omega), wI_nc (by omega), wI_nc (by omega), wI_nc (by omega)]
          exact c i (by omega))
      exact ⟨k.1, k.2.1, k.2.2.1, k.2.2.2.trans rfl⟩
