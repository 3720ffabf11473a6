-- frames: the least free one
def lfr (U : Nat → Bool) : Nat → Nat → Nat
  | 0, f => f
  | n + 1, f => if U f then lfr U n (f + 1) else f
theorem lfr_all {U : Nat → Bool} : ∀ {n f : Nat}, f ≤ lfr U n f ∧ lfr U n f ≤ f + n ∧ (∀ g, f ≤ g → g < lfr U n f → U g = true) ∧ (lfr U n f < f + n → U (lfr U n f) = false)
  | 0, f => ⟨Nat.le_refl _, Nat.le_refl _, fun g h1 h2 => by have h2 : g < f := h2; omega, fun h => by have h : f < f + 0 := h; omega⟩
  | n + 1, f => by
    have ih := @lfr_all U n (f + 1)
    unfold lfr
    split
    · rename_i hf
      refine ⟨by omega, by omega, ?_, ?_⟩
      · intro g h1 h2
        by_cases e : g = f
        · subst e; exact hf
        · exact ih.2.2.1 g (by omega) h2
      · intro h
        exact ih.2.2.2 (by omega)
    · rename_i hf
      refine ⟨Nat.le_refl _, by omega, fun g h1 h2 => by omega, fun _ => ?_⟩
      simpa using hf
def lfC (U : Nat → Bool) (n : Nat) : Nat := (List.range n).countP (fun f => !U f)
theorem lfC_succ (U : Nat → Bool) (n : Nat) : lfC U (n + 1) = lfC U n + (if U n then 0 else 1) := by
  unfold lfC
  rw [List.range_succ, List.countP_append]
  congr 1
  rw [List.countP_singleton]
  cases U n <;> rfl
theorem lfC_0 {U : Nat → Bool} : ∀ {n : Nat}, (∀ f, f < n → U f = true) → lfC U n = 0
  | 0, _ => rfl
  | n + 1, h => by rw [lfC_succ, lfC_0 (fun f hf => h f (by omega)), h n (by omega)]; rfl
theorem lfC_pos {U : Nat → Bool} {f : Nat} (hf : U f = false) : ∀ {n : Nat}, f < n → 0 < lfC U n
  | 0, h => absurd h (Nat.not_lt_zero _)
  | n + 1, h => by
    rw [lfC_succ]
    by_cases e : f = n
    · subst e
      rw [hf]
      exact Nat.succ_pos _
    · have := lfC_pos hf (n := n) (by omega)
      omega
theorem lfC_up {U V : Nat → Bool} {a : Nat} (ha : U a = false) (hV : ∀ f, V f = (U f || f == a)) : ∀ {n : Nat}, lfC V n + (if a < n then 1 else 0) = lfC U n
  | 0 => by rw [if_neg (Nat.not_lt_zero _)]; rfl
  | n + 1 => by
    have ih := lfC_up ha hV (n := n)
    rw [lfC_succ, lfC_succ, hV n]
    by_cases e : n = a
    · subst e
      have q1 : (if n < n then 1 else 0) = 0 := if_neg (by omega)
      have q2 : (if n < n + 1 then 1 else 0) = 1 := if_pos (by omega)
      rw [q1] at ih
      rw [q2, ha, beq_self_eq_true]
      show lfC V n + 0 + 1 = lfC U n + 1
      omega
    · have h1 : (n == a) = false := by simpa using e
      rw [h1, Bool.or_false]
      by_cases h2 : a < n
      · have q1 : (if a < n then 1 else 0) = 1 := if_pos h2
        have q2 : (if a < n + 1 then 1 else 0) = 1 := if_pos (by omega)
        rw [q1] at ih
        rw [q2]
        omega
      · have q1 : (if a < n then 1 else 0) = 0 := if_neg h2
        have q2 : (if a < n + 1 then 1 else 0) = 0 := if_neg (by omega)
        rw [q1] at ih
        rw [q2]
        omega
theorem lf_lt {U : Nat → Bool} : lfr U 16 0 < 16 ↔ 0 < lfC U 16 := by
  have h := @lfr_all U 16 0
  constructor
  · intro hl
    exact lfC_pos (h.2.2.2 (by omega)) hl
  · intro hp
    by_cases hl : lfr U 16 0 < 16
    · exact hl
    · have : lfC U 16 = 0 := lfC_0 (fun f hf => h.2.2.1 f (Nat.zero_le _) (by omega))
      omega
theorem lf_up {U V : Nat → Bool} (hl : lfr U 16 0 < 16) (hV : ∀ f, V f = (U f || f == lfr U 16 0)) : lfC V 16 + 1 = lfC U 16 := by
  have h := @lfr_all U 16 0
  have := lfC_up (h.2.2.2 (by omega)) hV (n := 16)
  rw [if_pos hl] at this
  exact this
theorem lfC_eq {U V : Nat → Bool} {n : Nat} (h : ∀ f, f < n → U f = V f) : lfC U n = lfC V n := by
  unfold lfC
  apply List.countP_congr
  intro f hf
  rw [h f (List.mem_range.mp hf)]
theorem lfr_eq {U V : Nat → Bool} : ∀ {n f : Nat}, (∀ g, f ≤ g → g < f + n → U g = V g) → lfr U n f = lfr V n f
  | 0, _, _ => rfl
  | n + 1, f, h => by
    unfold lfr
    rw [h f (Nat.le_refl _) (by omega), lfr_eq (fun g h1 h2 => h g (by omega) (by omega))]
/-- the class's search looks at one less: the same where there is a free one -/
theorem lfr_15 {U : Nat → Bool} (hl : lfr U 16 0 < 16) : lfr U 15 0 = lfr U 16 0 := by
  have h := @lfr_all U 16 0
  have g := @lfr_all U 15 0
  have a := h.2.2.2 (by omega)
  by_cases e : lfr U 15 0 < 15
  · have b := g.2.2.2 (by omega)
    rcases Nat.lt_trichotomy (lfr U 15 0) (lfr U 16 0) with c | c | c
    · rw [h.2.2.1 _ (Nat.zero_le _) c] at b; cases b
    · exact c
    · rw [g.2.2.1 _ (Nat.zero_le _) c] at a; cases a
  · have e15 : lfr U 15 0 = 15 := by omega
    rcases Nat.lt_trichotomy 15 (lfr U 16 0) with c | c | c
    · omega
    · omega
    · rw [g.2.2.1 _ (Nat.zero_le _) (by omega)] at a; cases a
