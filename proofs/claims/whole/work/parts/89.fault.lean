-- the faults of a shape
/-- one of n numbers from i on -/
def anF (f : Nat → Bool) : Nat → Nat → Bool
  | 0, _ => false
  | n + 1, i => f i || anF f n (i + 1)
theorem anF_iff (f : Nat → Bool) : ∀ n i, anF f n i = true ↔ ∃ j, i ≤ j ∧ j < i + n ∧ f j = true
  | 0, i => ⟨fun h => (by cases h), fun ⟨j, h1, h2, _⟩ => absurd h1 (by omega)⟩
  | n + 1, i => by
    rw [anF, Bool.or_eq_true, anF_iff f n (i + 1)]
    constructor
    · rintro (h | ⟨j, h1, h2, h3⟩)
      · exact ⟨i, Nat.le_refl _, by omega, h⟩
      · exact ⟨j, by omega, by omega, h3⟩
    · rintro ⟨j, h1, h2, h3⟩
      by_cases e : j = i
      · left; rw [← e]; exact h3
      · right; exact ⟨j, by omega, by omega, h3⟩
def pEq (x y : Nat → Int) (n i : Nat) : Bool := decide (x i = x (pE n i)) && decide (y i = y (pE n i))
theorem heq_L {X Y : List Int32} {kd : Int32} (hn : X.length ≤ 1000) (h1 : 1 ≤ X.length) : ∀ (f i : Nat), i ≤ pSd kd.toInt X.length → pSd kd.toInt X.length < i + f → f_Ge_hasEqualNeighbours_L2 X Y kd f (Int32.ofNat i) = b2 (anF (pEq (xC X) (xC Y) X.length) (pSd kd.toInt X.length - i) i)
  | 0, i, h2, h3 => by omega
  | f + 1, i, h2, h3 => by
    have hs := pSd_le kd.toInt X.length
    rw [f_Ge_hasEqualNeighbours_L2, sides_n hn h1, zc_ge, z_nat (by omega), z_nat (by omega)]
    by_cases e : i = pSd kd.toInt X.length
    · rw [decide_eq_true (by omega), ← e, Nat.sub_self]
      rfl
    · have he := pE_lt (n := X.length) (i := i) (by omega)
      rw [decide_eq_false (by omega), n_inc2, heq_L hn h1 f (i + 1) (by omega) (by omega), end_n hn (by omega), gI_n (by omega), gI_n (by omega), gI_n (by omega), gI_n (by omega), zc_ne, zc_ne, show pSd kd.toInt X.length - i = (pSd kd.toInt X.length - (i + 1)) + 1 by omega]
      rw [anF]
      show (bif decide (¬ xC X i = xC X (pE X.length i)) then _ else (bif decide (¬ xC Y i = xC Y (pE X.length i)) then _ else 1)) = b2 ((decide (xC X i = xC X (pE X.length i)) && decide (xC Y i = xC Y (pE X.length i))) || _)
      by_cases e1 : xC X i = xC X (pE X.length i)
      · rw [decide_eq_false (not_not_intro e1), decide_eq_true e1]
        by_cases e2 : xC Y i = xC Y (pE X.length i)
        · rw [decide_eq_false (not_not_intro e2), decide_eq_true e2]; rfl
        · rw [decide_eq_true (show ¬ xC Y i = xC Y (pE X.length i) from e2), decide_eq_false e2]; rfl
      · rw [decide_eq_true (show ¬ xC X i = xC X (pE X.length i) from e1), decide_eq_false e1]; rfl
/-- two sides that meet as they may not -/
def pCl (x y : Nat → Int) (n i j : Nat) : Bool := if pE n i = j then zSt (x i) (y i) (x j) (y j) (x (pE n j)) (y (pE n j)) else if pE n j = i then zSt (x j) (y j) (x i) (y i) (x (pE n i)) (y (pE n i)) else pMt x y x y n n i j
theorem t14_L {X Y : List Int32} {kd K : Int32} {i : Nat} (hX : zCo X) (hY : zCo Y) (hXY : Y.length = X.length) (hn : X.length ≤ 1000) (hi : i < X.length) : ∀ (f j : Nat), j ≤ pSd kd.toInt X.length → pSd kd.toInt X.length < j + f → f_Ge_touchesItself_L14 X Y kd (Int32.ofNat i) K f (Int32.ofNat j) = bif anF (pCl (xC X) (xC Y) X.length i) (pSd kd.toInt X.length - j) j then 1 else K
  | 0, j, h2, h3 => by omega
  | f + 1, j, h2, h3 => by
    have hs := pSd_le kd.toInt X.length
    rw [f_Ge_touchesItself_L14, sides_n hn (by omega), zc_ge, z_nat (by omega), z_nat (by omega)]
    by_cases e : j = pSd kd.toInt X.length
    · rw [decide_eq_true (by omega), ← e, Nat.sub_self]
      rfl
    · rw [decide_eq_false (by omega), n_inc2, t14_L hX hY hXY hn hi f (j + 1) (by omega) (by omega), may_n hX hY hXY hn hi (by omega), b2_eq, show pSd kd.toInt X.length - j = (pSd kd.toInt X.length - (j + 1)) + 1 by omega]
      rw [anF]
      show (bif !(pCl (xC X) (xC Y) X.length i j) then _ else 1) = _
      cases pCl (xC X) (xC Y) X.length i j <;> rfl
theorem t2_L {X Y : List Int32} {kd : Int32} (hX : zCo X) (hY : zCo Y) (hXY : Y.length = X.length) (hn : X.length ≤ 1000) (h1 : 1 ≤ X.length) : ∀ (f i : Nat), i ≤ pSd kd.toInt X.length → pSd kd.toInt X.length < i + f → f_Ge_touchesItself_L2 X Y kd f (Int32.ofNat i) = b2 (anF (fun i => anF (pCl (xC X) (xC Y) X.length i) (pSd kd.toInt X.length - (i + 1)) (i + 1)) (pSd kd.toInt X.length - i) i)
  | 0, i, h2, h3 => by omega
  | f + 1, i, h2, h3 => by
    have hs := pSd_le kd.toInt X.length
    rw [f_Ge_touchesItself_L2, sides_n hn h1, zc_ge, z_nat (by omega), z_nat (by omega)]
    by_cases e : i = pSd kd.toInt X.length
    · rw [decide_eq_true (by omega), ← e, Nat.sub_self]
      rfl
    · rw [decide_eq_false (by omega), n_inc2, t2_L hX hY hXY hn h1 f (i + 1) (by omega) (by omega), show (Int32.ofNat i + 1 : Int32) = Int32.ofNat (i + 1) from mk_add i 1, t14_L hX hY hXY hn (by omega) (X.length + 1) (i + 1) (by omega) (by omega)]
      have e2 : anF (fun i => anF (pCl (xC X) (xC Y) X.length i) (pSd kd.toInt X.length - (i + 1)) (i + 1)) (pSd kd.toInt X.length - i) i = (anF (pCl (xC X) (xC Y) X.length i) (pSd kd.toInt X.length - (i + 1)) (i + 1) || anF (fun i => anF (pCl (xC X) (xC Y) X.length i) (pSd kd.toInt X.length - (i + 1)) (i + 1)) (pSd kd.toInt X.length - (i + 1)) (i + 1)) := by
        rw [show pSd kd.toInt X.length - i = (pSd kd.toInt X.length - (i + 1)) + 1 by omega, anF]
      rw [e2]
      generalize anF (pCl (xC X) (xC Y) X.length i) (pSd kd.toInt X.length - (i + 1)) (i + 1) = b
      generalize anF (fun i => anF (pCl (xC X) (xC Y) X.length i) (pSd kd.toInt X.length - (i + 1)) (i + 1)) (pSd kd.toInt X.length - (i + 1)) (i + 1) = c
      cases b <;> rfl
/-- the class's fault -/
theorem cfault_n {X Y : List Int32} {kd : Int32} (hX : zCo X) (hY : zCo Y) (hXY : Y.length = X.length) (hn : X.length ≤ 1000) (h1 : 1 ≤ X.length) : f_Ge_fault X Y kd = if ¬ kd.toInt = 0 ∧ anF (pEq (xC X) (xC Y) X.length) (pSd kd.toInt X.length) 0 = true then 2 else if kd.toInt = 2 ∧ anF (fun i => anF (pCl (xC X) (xC Y) X.length i) (pSd kd.toInt X.length - (i + 1)) (i + 1)) (pSd kd.toInt X.length) 0 = true then 3 else 0 := by
  have hs := pSd_le kd.toInt X.length
  have a : f_Ge_hasEqualNeighbours X Y kd = b2 (anF (pEq (xC X) (xC Y) X.length) (pSd kd.toInt X.length) 0) := heq_L hn h1 (X.length + 1) 0 (by omega) (by omega)
  have b : f_Ge_touchesItself X Y kd = b2 (anF (fun i => anF (pCl (xC X) (xC Y) X.length i) (pSd kd.toInt X.length - (i + 1)) (i + 1)) (pSd kd.toInt X.length) 0) := t2_L hX hY hXY hn h1 (X.length + 1) 0 (by omega) (by omega)
  unfold f_Ge_fault f_Ge_fault_16 f_Ge_fault_35
  rw [a, b, b2_eq, b2_eq, zc_eq, zc_ne, z_i0, show (2 : Int32).toInt = 2 from rfl]
  generalize anF (pEq (xC X) (xC Y) X.length) (pSd kd.toInt X.length) 0 = p
  generalize anF (fun i => anF (pCl (xC X) (xC Y) X.length i) (pSd kd.toInt X.length - (i + 1)) (i + 1)) (pSd kd.toInt X.length) 0 = q
  by_cases e0 : kd.toInt = 0
  · rw [decide_eq_true e0, decide_eq_true (show ¬ kd.toInt = 2 by omega), if_neg (by intro h; exact h.1 e0), if_neg (by intro h; omega)]
    rfl
  · rw [decide_eq_false e0]
    by_cases e2 : kd.toInt = 2
    · rw [decide_eq_false (not_not_intro e2)]
      cases p
      · rw [if_neg (by intro h; cases h.2)]
        cases q
        · rw [if_neg (by intro h; cases h.2)]; rfl
        · rw [if_pos ⟨e2, rfl⟩]; rfl
      · rw [if_pos ⟨e0, rfl⟩]; rfl
    · rw [decide_eq_true (show ¬ kd.toInt = 2 from e2)]
      cases p
      · rw [if_neg (by intro h; cases h.2), if_neg (by intro h; exact e2 h.1)]; rfl
      · rw [if_pos ⟨e0, rfl⟩]; rfl
