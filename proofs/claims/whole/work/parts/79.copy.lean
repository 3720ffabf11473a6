-- the reference's copy of a shape
def mnF (f : Nat → Int32) : Nat → Int32
  | 0 => 255
  | k + 1 => if (f k).toInt < (mnF f k).toInt then f k else mnF f k
def mxF (f : Nat → Int32) : Nat → Int32
  | 0 => 0
  | k + 1 => if (mxF f k).toInt < (f k).toInt then f k else mxF f k
theorem up_n {w : yW} {c j : Nat} {y : Int32} (i : Nat) : (wI w c j y).1 c i = if i = j then y else w.1 c i := by
  by_cases e : i = j
  · rw [if_pos e, e, wI_self]
  · rw [if_neg e, wI_nc (fun h => e h.2)]
theorem b52_n {w : yW} {b k : Nat} (hb : b < 65) (hk : k < 390) : g_Mo_bind_52 (Int32.ofNat b) (Int32.ofNat k) w = wI w 61 b (if (w.1 59 k).toInt < (w.1 61 b).toInt then w.1 59 k else w.1 61 b) := by
  unfold g_Mo_bind_52
  rw [n_clamp (by omega), n_clamp (by omega), zc_ge]
  by_cases h : (w.1 61 b).toInt ≤ (w.1 59 k).toInt
  · rw [decide_eq_true h, if_neg (by omega)]; rfl
  · rw [decide_eq_false h, if_pos (by omega)]; rfl
theorem b88_n {w : yW} {b k : Nat} (hb : b < 65) (hk : k < 390) : g_Mo_bind_88 (Int32.ofNat b) (Int32.ofNat k) w = wI w 62 b (if (w.1 62 b).toInt < (w.1 59 k).toInt then w.1 59 k else w.1 62 b) := by
  unfold g_Mo_bind_88
  rw [n_clamp (by omega), n_clamp (by omega), zc_le]
  by_cases h : (w.1 59 k).toInt ≤ (w.1 62 b).toInt
  · rw [decide_eq_true h, if_neg (by omega)]; rfl
  · rw [decide_eq_false h, if_pos (by omega)]; rfl
theorem b124_n {w : yW} {b k : Nat} (hb : b < 65) (hk : k < 390) : g_Mo_bind_124 (Int32.ofNat b) (Int32.ofNat k) w = wI w 63 b (if (w.1 60 k).toInt < (w.1 63 b).toInt then w.1 60 k else w.1 63 b) := by
  unfold g_Mo_bind_124
  rw [n_clamp (by omega), n_clamp (by omega), zc_ge]
  by_cases h : (w.1 63 b).toInt ≤ (w.1 60 k).toInt
  · rw [decide_eq_true h, if_neg (by omega)]; rfl
  · rw [decide_eq_false h, if_pos (by omega)]; rfl
theorem b160_n {w : yW} {b k : Nat} (hb : b < 65) (hk : k < 390) : g_Mo_bind_160 (Int32.ofNat b) (Int32.ofNat k) w = wI w 64 b (if (w.1 64 b).toInt < (w.1 60 k).toInt then w.1 60 k else w.1 64 b) := by
  unfold g_Mo_bind_160
  rw [n_clamp (by omega), n_clamp (by omega), zc_le]
  by_cases h : (w.1 60 k).toInt ≤ (w.1 64 b).toInt
  · rw [decide_eq_true h, if_neg (by omega)]; rfl
  · rw [decide_eq_false h, if_pos (by omega)]; rfl
theorem bind_L {b n : Nat} {mv : Int32} (hb : b < 65) (hn : n ≤ 6) (W : yW) (hW : W.1 58 b = Int32.ofNat n) : ∀ (f k : Nat) (w : yW), k ≤ n → n < k + f → (∀ c j, ¬ (61 ≤ c ∧ c ≤ 64 ∧ j = b) → w.1 c j = W.1 c j) → w.1 61 b = mnF (fun i => W.1 59 (6 * b + i)) k → w.1 62 b = mxF (fun i => W.1 59 (6 * b + i)) k → w.1 63 b = mnF (fun i => W.1 60 (6 * b + i)) k → w.1 64 b = mxF (fun i => W.1 60 (6 * b + i)) k →
    (∀ c j, ¬ (61 ≤ c ∧ c ≤ 64 ∧ j = b) → (g_Mo_bind_37 (Int32.ofNat b) mv f w (Int32.ofNat (6 * b + k))).1 c j = W.1 c j) ∧ (g_Mo_bind_37 (Int32.ofNat b) mv f w (Int32.ofNat (6 * b + k))).1 61 b = mnF (fun i => W.1 59 (6 * b + i)) n ∧ (g_Mo_bind_37 (Int32.ofNat b) mv f w (Int32.ofNat (6 * b + k))).1 62 b = mxF (fun i => W.1 59 (6 * b + i)) n ∧ (g_Mo_bind_37 (Int32.ofNat b) mv f w (Int32.ofNat (6 * b + k))).1 63 b = mnF (fun i => W.1 60 (6 * b + i)) n ∧ (g_Mo_bind_37 (Int32.ofNat b) mv f w (Int32.ofNat (6 * b + k))).1 64 b = mxF (fun i => W.1 60 (6 * b + i)) n := by
  intro f
  induction f with
  | zero => intro k w h1 h2; exfalso; omega
  | succ f ih =>
    intro k w h1 h2 h3 a1 a2 a3 a4
    rw [g_Mo_bind_37, n_clamp (by omega), h3 58 b (by omega), hW, n_six, zc_ge, z_nat (by omega), z_nat (by omega)]
    by_cases hk : k = n
    · subst hk
      rw [decide_eq_true (by omega)]
      exact ⟨h3, a1, a2, a3, a4⟩
    · rw [decide_eq_false (by omega), b52_n hb (by omega), b88_n hb (by omega), b124_n hb (by omega), b160_n hb (by omega), n_inc2]
      refine ih (k + 1) _ (by omega) (by omega) ?_ ?_ ?_ ?_ ?_
      · intro c j hc
        rw [wI_nc (by omega), wI_nc (by omega), wI_nc (by omega), wI_nc (by omega)]
        exact h3 c j hc
      · rw [wI_ne (by decide), wI_ne (by decide), wI_ne (by decide), wI_self, h3 59 _ (by omega), a1]
        rfl
      · rw [wI_ne (by decide), wI_ne (by decide), wI_self, wI_ne (by decide), wI_ne (by decide), h3 59 _ (by omega), a2]
        rfl
      · rw [wI_ne (by decide), wI_self, wI_ne (by decide), wI_ne (by decide), wI_ne (by decide), wI_ne (by decide), h3 60 _ (by omega), a3]
        rfl
      · rw [wI_self, wI_ne (by decide), wI_ne (by decide), wI_ne (by decide), wI_ne (by decide), wI_ne (by decide), wI_ne (by decide), h3 60 _ (by omega), a4]
        rfl
theorem bind_n {b n : Nat} {mv : Int32} (hb : b < 65) (hn : n ≤ 6) (w : yW) (hw : w.1 58 b = Int32.ofNat n) : (∀ c j, ¬ (61 ≤ c ∧ c ≤ 64 ∧ j = b) → (e_Mo_bind (Int32.ofNat b) mv w).1 c j = w.1 c j) ∧ (e_Mo_bind (Int32.ofNat b) mv w).1 61 b = mnF (fun i => w.1 59 (6 * b + i)) n ∧ (e_Mo_bind (Int32.ofNat b) mv w).1 62 b = mxF (fun i => w.1 59 (6 * b + i)) n ∧ (e_Mo_bind (Int32.ofNat b) mv w).1 63 b = mnF (fun i => w.1 60 (6 * b + i)) n ∧ (e_Mo_bind (Int32.ofNat b) mv w).1 64 b = mxF (fun i => w.1 60 (6 * b + i)) n := by
  unfold e_Mo_bind
  rw [n_clamp (by omega), show 6 * Int32.ofNat b = Int32.ofNat (6 * b + 0) from by rw [← n_six]; exact (Int32.add_zero _).symm]
  refine bind_L hb hn w hw 391 0 _ (by omega) (by omega) ?_ ?_ ?_ ?_ ?_
  · intro c j hc
    rw [wI_nc (by omega), wI_nc (by omega), wI_nc (by omega), wI_nc (by omega)]
  · rw [wI_ne (by decide), wI_ne (by decide), wI_ne (by decide), wI_self]; rfl
  · rw [wI_ne (by decide), wI_ne (by decide), wI_self]; rfl
  · rw [wI_ne (by decide), wI_self]; rfl
  · rw [wI_self]; rfl
theorem cs26_n {a b : Nat} (ha : a < 65) (hb : b < 65) (hab : a ≠ b) (W : yW) : ∀ (f k : Nat) (w : yW), k ≤ 6 → 6 < k + f → (∀ c j, c ≠ 59 → c ≠ 60 → w.1 c j = W.1 c j) → (∀ j, w.1 59 j = if 6 * b ≤ j ∧ j < 6 * b + k then W.1 59 (6 * a + (j - 6 * b)) else W.1 59 j) → (∀ j, w.1 60 j = if 6 * b ≤ j ∧ j < 6 * b + k then W.1 60 (6 * a + (j - 6 * b)) else W.1 60 j) →
    (∀ c j, c ≠ 59 → c ≠ 60 → (g_Mo_copyShape_26 (Int32.ofNat a) (Int32.ofNat b) f w (Int32.ofNat k)).1 c j = W.1 c j) ∧ (∀ j, (g_Mo_copyShape_26 (Int32.ofNat a) (Int32.ofNat b) f w (Int32.ofNat k)).1 59 j = if 6 * b ≤ j ∧ j < 6 * b + 6 then W.1 59 (6 * a + (j - 6 * b)) else W.1 59 j) ∧ (∀ j, (g_Mo_copyShape_26 (Int32.ofNat a) (Int32.ofNat b) f w (Int32.ofNat k)).1 60 j = if 6 * b ≤ j ∧ j < 6 * b + 6 then W.1 60 (6 * a + (j - 6 * b)) else W.1 60 j) := by
  intro f
  induction f with
  | zero => intro k w h1 h2; exfalso; omega
  | succ f ih =>
    intro k w h1 h2 h3 h59 h60
    rw [g_Mo_copyShape_26, zc_ge, z_nat (by omega), show (6 : Int32).toInt = 6 from rfl]
    by_cases hk : k = 6
    · subst hk
      rw [decide_eq_true (by omega)]
      exact ⟨h3, h59, h60⟩
    · rw [decide_eq_false (by omega), n_six, n_six, n_clamp (by omega), n_clamp (by omega), n_inc2]
      refine ih (k + 1) _ (by omega) (by omega) ?_ ?_ ?_
      · intro c j c1 c2
        rw [wI_ne c2, wI_ne c1]
        exact h3 c j c1 c2
      · intro j
        rw [wI_ne (by decide), up_n]
        by_cases hj : j = 6 * b + k
        · subst hj
          rw [if_pos rfl, if_pos (by omega), h59, if_neg (by omega), show 6 * b + k - 6 * b = k by omega]
        · rw [if_neg hj, h59]
          by_cases hc : 6 * b ≤ j ∧ j < 6 * b + k
          · rw [if_pos hc, if_pos (by omega)]
          · rw [if_neg hc, if_neg (by omega)]
      · intro j
        rw [up_n, wI_ne (by decide)]
        by_cases hj : j = 6 * b + k
        · subst hj
          rw [if_pos rfl, if_pos (by omega), h60, if_neg (by omega), show 6 * b + k - 6 * b = k by omega]
        · rw [if_neg hj, wI_ne (by decide), h60]
          by_cases hc : 6 * b ≤ j ∧ j < 6 * b + k
          · rw [if_pos hc, if_pos (by omega)]
          · rw [if_neg hc, if_neg (by omega)]
/-- the copy of a shape, place by place -/
theorem cs_n {a b n : Nat} {mv : Int32} (ha : a < 65) (hb : b < 65) (hab : a ≠ b) (hn : n ≤ 6) (w : yW) (hw : w.1 58 a = Int32.ofNat n) :
    (∀ c j, ¬ (c = 57 ∧ j = b) → ¬ (c = 58 ∧ j = b) → ¬ ((c = 59 ∨ c = 60) ∧ 6 * b ≤ j ∧ j < 6 * b + 6) → ¬ (61 ≤ c ∧ c ≤ 64 ∧ j = b) → (e_Mo_copyShape (Int32.ofNat a) (Int32.ofNat b) mv w).1 c j = w.1 c j)
    ∧ (e_Mo_copyShape (Int32.ofNat a) (Int32.ofNat b) mv w).1 57 b = w.1 57 a ∧ (e_Mo_copyShape (Int32.ofNat a) (Int32.ofNat b) mv w).1 58 b = Int32.ofNat n
    ∧ (∀ i, i < 6 → (e_Mo_copyShape (Int32.ofNat a) (Int32.ofNat b) mv w).1 59 (6 * b + i) = w.1 59 (6 * a + i) ∧ (e_Mo_copyShape (Int32.ofNat a) (Int32.ofNat b) mv w).1 60 (6 * b + i) = w.1 60 (6 * a + i))
    ∧ (e_Mo_copyShape (Int32.ofNat a) (Int32.ofNat b) mv w).1 61 b = mnF (fun i => w.1 59 (6 * a + i)) n ∧ (e_Mo_copyShape (Int32.ofNat a) (Int32.ofNat b) mv w).1 62 b = mxF (fun i => w.1 59 (6 * a + i)) n ∧ (e_Mo_copyShape (Int32.ofNat a) (Int32.ofNat b) mv w).1 63 b = mnF (fun i => w.1 60 (6 * a + i)) n ∧ (e_Mo_copyShape (Int32.ofNat a) (Int32.ofNat b) mv w).1 64 b = mxF (fun i => w.1 60 (6 * a + i)) n := by
  unfold e_Mo_copyShape
  rw [n_clamp (by omega), n_clamp (by omega)]
  have e58 : (wI w 57 b (w.1 57 a)).1 58 a = Int32.ofNat n := by rw [wI_ne (by decide)]; exact hw
  rw [e58]
  obtain ⟨k1, k2, k3⟩ := cs26_n ha hb hab (wI (wI w 57 b (w.1 57 a)) 58 b (Int32.ofNat n)) 7 0 (wI (wI w 57 b (w.1 57 a)) 58 b (Int32.ofNat n)) (by omega) (by omega) (fun _ _ _ _ => rfl) (fun j => (if_neg (by omega)).symm) (fun j => (if_neg (by omega)).symm)
  rw [show g_Mo_copyShape_26 (Int32.ofNat a) (Int32.ofNat b) 7 (wI (wI w 57 b (w.1 57 a)) 58 b (Int32.ofNat n)) 0 = g_Mo_copyShape_26 (Int32.ofNat a) (Int32.ofNat b) 7 (wI (wI w 57 b (w.1 57 a)) 58 b (Int32.ofNat n)) (Int32.ofNat 0) from rfl]
  generalize g_Mo_copyShape_26 (Int32.ofNat a) (Int32.ofNat b) 7 (wI (wI w 57 b (w.1 57 a)) 58 b (Int32.ofNat n)) (Int32.ofNat 0) = w1 at k1 k2 k3
  have c59 : ∀ j, w1.1 59 j = if 6 * b ≤ j ∧ j < 6 * b + 6 then w.1 59 (6 * a + (j - 6 * b)) else w.1 59 j := fun j => by rw [k2 j, wI_ne (by decide), wI_ne (by decide), wI_ne (by decide), wI_ne (by decide)]
  have c60 : ∀ j, w1.1 60 j = if 6 * b ≤ j ∧ j < 6 * b + 6 then w.1 60 (6 * a + (j - 6 * b)) else w.1 60 j := fun j => by rw [k3 j, wI_ne (by decide), wI_ne (by decide), wI_ne (by decide), wI_ne (by decide)]
  have hw1 : w1.1 58 b = Int32.ofNat n := by rw [k1 58 b (by decide) (by decide), wI_self]
  obtain ⟨m1, m2, m3, m4, m5⟩ := bind_n (mv := mv) hb hn w1 hw1
  have q59 : ∀ i, i < 6 → w1.1 59 (6 * b + i) = w.1 59 (6 * a + i) := fun i hi => by rw [c59, if_pos (by omega), show 6 * b + i - 6 * b = i by omega]
  have q60 : ∀ i, i < 6 → w1.1 60 (6 * b + i) = w.1 60 (6 * a + i) := fun i hi => by rw [c60, if_pos (by omega), show 6 * b + i - 6 * b = i by omega]
  have mnE : ∀ {f g : Nat → Int32} (n : Nat), (∀ i, i < n → f i = g i) → mnF f n = mnF g n := by
    intro f g n
    induction n with
    | zero => intro _; rfl
    | succ n ih => intro h; unfold mnF; rw [ih (fun i hi => h i (by omega)), h n (by omega)]
  have mxE : ∀ {f g : Nat → Int32} (n : Nat), (∀ i, i < n → f i = g i) → mxF f n = mxF g n := by
    intro f g n
    induction n with
    | zero => intro _; rfl
    | succ n ih => intro h; unfold mxF; rw [ih (fun i hi => h i (by omega)), h n (by omega)]
  refine ⟨?_, ?_, ?_, ?_, ?_, ?_, ?_, ?_⟩
  · intro c j d1 d2 d3 d4
    rw [m1 c j d4]
    by_cases e1 : c = 59
    · subst e1
      rw [c59, if_neg (by omega)]
    · by_cases e2 : c = 60
      · subst e2
        rw [c60, if_neg (by omega)]
      · rw [k1 c j e1 e2, wI_nc d2, wI_nc d1]
  · rw [m1 57 b (by omega), k1 57 b (by decide) (by decide), wI_ne (by decide), wI_self]
  · rw [m1 58 b (by omega), hw1]
  · intro i hi
    rw [m1 59 _ (by omega), m1 60 _ (by omega), q59 i hi, q60 i hi]
    exact ⟨rfl, rfl⟩
  · rw [m2]; exact mnE n (fun i hi => q59 i (by omega))
  · rw [m3]; exact mxE n (fun i hi => q59 i (by omega))
  · rw [m4]; exact mnE n (fun i hi => q60 i (by omega))
  · rw [m5]; exact mxE n (fun i hi => q60 i (by omega))
