-- crash
theorem crash_inv {w w1 w3 : yW} {G : List zC} (h : INV w G)
    (r1 : ∀ d j, ¬ ((d = 15 ∨ d = 27) ∧ j < 16) → ¬ (20 ≤ d ∧ d ≤ 25) → ¬ (32 ≤ d ∧ d ≤ 37) → ¬ (d = 6 ∧ j = 2) → ¬ (d = 0 ∧ (j = 7 ∨ j = 8)) → w1.1 d j = w.1 d j) (r2 : ∀ d j, ¬ ((d = 16 ∨ d = 28) ∧ j < 16) → ¬ (d = 0 ∧ j = 5) → w1.2.2 d j = w.2.2 d j) (r3 : ∀ t q, t < 2 → q < 16 → w1.1 (15 + 12 * t) q = w.1 (18 + 12 * t) q ∧ w1.2.2 (16 + 12 * t) q = w.2.2 (19 + 12 * t) q) (r4 : iIdx w1 G) (r5 : yRk w1 G)
    (z1 : ∀ d j, ¬ (d = 54 ∧ (j = 10 ∨ j = 21 ∨ j = 22)) → ¬ (d = 55 ∧ j = 64) → w3.1 d j = (e_Mo_rollback w1).1 d j) (z2 : w3.2 = (e_Mo_rollback w1).2) (z3 : w3.1 55 64 = 0) (z4 : w3.1 54 10 = 0) (z5 : w3.1 54 21 = 0) (z6 : w3.1 54 22 = 0) (y1 : w1.1 6 2 = 0) (y2 : w1.1 0 7 = 0) (y3 : w1.1 0 8 = 0) (y4 : w1.2.2 0 5 = none) : INV w3 G := by
  obtain ⟨hd, hf0, hp, hc, hm, ha, hr, hO, hi, hk⟩ := h
  obtain ⟨m1, m2, m3, m4⟩ := mroll_n (G := G) (o := fun r => w.2.2 (19 + 12 * (r / 16)) (r % 16)) (w := w1) (fun s hs => by rw [r1 55 s (by omega) (by omega) (by omega) (by omega) (by omega), r1 58 s (by omega) (by omega) (by omega) (by omega) (by omega)]; exact hm s hs) (fun r hr2 => by
    have k := (hc (r / 16) (r % 16) (by omega) (by omega)).1
    rw [show 16 * (r / 16) + r % 16 = r by omega] at k
    exact rEq_i (fun d j x y z u v => r1 d j (by omega) (by omega) (by omega) (by omega) (by omega)) k)
  generalize e_Mo_rollback w1 = w2 at m1 m2 m3 m4 z1 z2
  have fr : ∀ d j, w3.2.2 d j = w1.2.2 d j := fun d j => by rw [z2, m2]
  have g1 : ∀ d j, d < 54 → w3.1 d j = w1.1 d j := fun d j a => by rw [z1 d j (by omega) (by omega), m1 d j (by omega) (by omega) (by omega)]
  have fi : ∀ d j, ¬ (d = 15 ∨ d = 27) → ¬ (20 ≤ d ∧ d ≤ 25) → ¬ (32 ≤ d ∧ d ≤ 37) → ¬ (55 ≤ d ∧ d ≤ 58 ∧ j < 32) → ¬ ((d = 59 ∨ d = 60) ∧ j < 192) → ¬ (61 ≤ d ∧ d ≤ 64 ∧ j < 32) → d ≠ 6 → d ≠ 0 → d ≠ 54 → ¬ (d = 55 ∧ j = 64) → w3.1 d j = w.1 d j := fun d j a b c e f g k l m n => by rw [z1 d j (by omega) n, m1 d j e f g, r1 d j (by omega) b c (by omega) (by omega)]
  have hre : ∀ s o, 32 ≤ s → s < 64 → rEq w G s o → rEq w3 G s o := fun s o hs hs2 hq => rEq_i (fun d j x y z u v => fi d j (by omega) (by omega) (by omega) (by omega) (by omega) (by omega) (by omega) (by omega) (by omega) (by omega)) hq
  have f0 : ∀ d j, ¬ (d = 15 ∨ d = 27) → ¬ (20 ≤ d ∧ d ≤ 25) → ¬ (32 ≤ d ∧ d ≤ 37) → ¬ (54 ≤ d ∧ d ≤ 64) → d ≠ 6 → d ≠ 0 → w3.1 d j = w.1 d j := fun d j a b c e f g => fi d j a b c (by omega) (by omega) (by omega) f g (by omega) (by omega)
  refine ⟨?_, ?_, ?_, ?_, ?_, ?_, ?_, ?_, ?_, yRk_2 r5 (by rw [z2, m2])⟩
  · unfold iDraft
    rw [g1 6 2 (by omega), y1, z4]
    exact ⟨rfl, ⟨by decide, by decide⟩, fun i hi2 => absurd hi2 (by decide +revert)⟩
  · unfold iFoc
    rw [fr, y4]
    exact z3
  · intro t q ht hq
    have k := m4 (16 * t + q) (by omega)
    rw [show (16 * t + q) / 16 = t by omega, show (16 * t + q) % 16 = q by omega] at k
    rw [fr, (r3 t q ht hq).2]
    refine ⟨rEq_i (fun d j x y z u v => z1 d j (by omega) (by omega)) k.1, fun hne => ?_⟩
    rw [z1 _ _ (by omega) (by omega), z1 _ _ (by omega) (by omega), k.2, m1 _ _ (by omega) (by omega) (by omega), (r3 t q ht hq).1, r1 _ _ (by omega) (by omega) (by omega) (by omega) (by omega)]
    exact (hc t q ht hq).2 hne
  · intro t q ht hq
    rw [fr, r2 _ _ (by omega) (by omega)]
    have k := hc t q ht hq
    refine ⟨hre _ _ (by omega) (by omega) k.1, fun hne => ?_⟩
    rw [fi 56 _ (by omega) (by omega) (by omega) (by omega) (by omega) (by omega) (by omega) (by omega) (by omega) (by omega), f0 (18 + 12 * t) _ (by omega) (by omega) (by omega) (by omega) (by omega) (by omega)]
    exact k.2 hne
  · intro s hs
    rw [z1 58 s (by omega) (by omega)]
    refine ⟨?_, (m3 s hs).2⟩
    by_cases e : s = 64
    · rw [e, z3]; exact Or.inl rfl
    · rw [z1 55 s (by omega) (by omega)]; exact (m3 s hs).1
  · unfold iAns
    rw [g1 0 7 (by omega), y2, z5, g1 0 8 (by omega), y3, z6]
    exact ⟨rfl, ⟨by decide, by decide⟩, fun i hi2 => absurd hi2 (by decide +revert), rfl⟩
  · refine ⟨fun p hp2 => ?_, ?_⟩
    · rw [f0 5 p (by omega) (by omega) (by omega) (by omega) (by omega) (by omega), f0 70 p (by omega) (by omega) (by omega) (by omega) (by omega) (by omega)]
      exact hr.1 p hp2
    · rw [f0 70 8 (by omega) (by omega) (by omega) (by omega) (by omega) (by omega)]
      exact hr.2
  · intro j hj
    rw [f0 13 j (by omega) (by omega) (by omega) (by omega) (by omega) (by omega)]
    exact hO j hj
  · intro t ht
    have g2 : ∀ d j, 20 ≤ d → d < 54 → w3.1 d j = w1.1 d j := fun d j a b => g1 d j b
    refine iIxd_eq (g1 _ _ (by omega)) (fun j => g1 _ _ (by omega)) (fun j => g1 _ _ (by omega)) (fun j => g1 _ _ (by omega)) (fun j => g1 _ _ (by omega)) (fun j => g1 _ _ (by omega)) (fun j => fr _ j) ?_ (r4 t ht)
    funext j
    rw [fr]
theorem sim_crash {w : yW} {G : List zC} (h : INV w G) : INV (e_Mo_crash (e_ST_crash G w)) G := by
  obtain ⟨r1, r2, r3, r4, r5⟩ := rb_n h
  unfold e_ST_crash e_ST_clearAnswers e_Dr_clear
  generalize e_ST_rollback G w = w1 at r1 r2 r3 r4 r5
  have a1 : ∀ d j, ¬ (d = 6 ∧ j = 2) → ¬ (d = 0 ∧ (j = 7 ∨ j = 8)) → (wR (wI (wI (wI w1 6 2 0) 0 7 0) 0 8 0) 0 5 none).1 d j = w1.1 d j := fun d j a b => by
    show (wI (wI (wI w1 6 2 0) 0 7 0) 0 8 0).1 d j = w1.1 d j
    rw [wI_nc (by omega), wI_nc (by omega), wI_nc a]
  have a2 : ∀ d j, ¬ (d = 0 ∧ j = 5) → (wR (wI (wI (wI w1 6 2 0) 0 7 0) 0 8 0) 0 5 none).2.2 d j = w1.2.2 d j := fun d j a => by
    rw [wR_r, if_neg a]
    rfl
  have a3 : (wR (wI (wI (wI w1 6 2 0) 0 7 0) 0 8 0) 0 5 none).1 6 2 = 0 := by
    show (wI (wI (wI w1 6 2 0) 0 7 0) 0 8 0).1 6 2 = 0
    rw [wI_nc (by omega), wI_nc (by omega), wI_self]
  have a4 : (wR (wI (wI (wI w1 6 2 0) 0 7 0) 0 8 0) 0 5 none).1 0 7 = 0 := by
    show (wI (wI (wI w1 6 2 0) 0 7 0) 0 8 0).1 0 7 = 0
    rw [wI_nc (by omega), wI_self]
  have a5 : (wR (wI (wI (wI w1 6 2 0) 0 7 0) 0 8 0) 0 5 none).1 0 8 = 0 := by
    show (wI (wI (wI w1 6 2 0) 0 7 0) 0 8 0).1 0 8 = 0
    rw [wI_self]
  have a6 : (wR (wI (wI (wI w1 6 2 0) 0 7 0) 0 8 0) 0 5 none).2.2 0 5 = none := by rw [wR_r, if_pos ⟨rfl, rfl⟩]
  have a7 : yRk (wR (wI (wI (wI w1 6 2 0) 0 7 0) 0 8 0) 0 5 none) G := yRk_R (yRk_I (yRk_I (yRk_I r5))) (fun y hy => by cases hy)
  generalize wR (wI (wI (wI w1 6 2 0) 0 7 0) 0 8 0) 0 5 none = w2 at a1 a2 a3 a4 a5 a6 a7
  refine crash_inv (w1 := w2) h (fun d j a b c e f => by rw [a1 d j e f, r1 d j a b c]) (fun d j a b => by rw [a2 d j b, r2 d j a]) (fun t q ht hq => by rw [a1 _ _ (by omega) (by omega), a2 _ _ (by omega)]; exact r3 t q ht hq) (fun t ht => ?_) a7 (fun d j a b => ?_) ?_ ?_ ?_ ?_ ?_ a3 a4 a5 a6
  · refine iIxd_eq (a1 _ _ (by omega) (by omega)) (fun j => a1 _ _ (by omega) (by omega)) (fun j => a1 _ _ (by omega) (by omega)) (fun j => a1 _ _ (by omega) (by omega)) (fun j => a1 _ _ (by omega) (by omega)) (fun j => a1 _ _ (by omega) (by omega)) (fun j => a2 _ _ (by omega)) ?_ (r4 t ht)
    funext j
    rw [a2 _ _ (by omega)]
  · unfold e_Mo_crash
    generalize e_Mo_rollback w2 = z
    rw [cl64, wI_nc b, wI_nc (by omega), wI_nc (by omega), wI_nc (by omega)]
  · unfold e_Mo_crash
    generalize e_Mo_rollback w2 = z
    rfl
  · unfold e_Mo_crash
    generalize e_Mo_rollback w2 = z
    rw [cl64, wI_self]
    rfl
  · unfold e_Mo_crash
    generalize e_Mo_rollback w2 = z
    rw [cl64, wI_nc (by omega), wI_nc (by omega), wI_nc (by omega), wI_self]
  · unfold e_Mo_crash
    generalize e_Mo_rollback w2 = z
    rw [cl64, wI_nc (by omega), wI_nc (by omega), wI_self]
  · unfold e_Mo_crash
    generalize e_Mo_rollback w2 = z
    rw [cl64, wI_nc (by omega), wI_self]
