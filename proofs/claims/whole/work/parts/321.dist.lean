-- distances as fractions of whole numbers: class and reference alike
def pCd (ax ay bx bz cx cy : Int) : Int × Int :=
  if (bx - ax) * (cx - ax) + (bz - ay) * (cy - ay) ≤ 0 then ((cx - ax) * (cx - ax) + (cy - ay) * (cy - ay), 1)
  else if (bx - ax) * (bx - ax) + (bz - ay) * (bz - ay) ≤ (bx - ax) * (cx - ax) + (bz - ay) * (cy - ay) then ((cx - bx) * (cx - bx) + (cy - bz) * (cy - bz), 1)
  else (((bx - ax) * (cy - ay) - (bz - ay) * (cx - ax)) * ((bx - ax) * (cy - ay) - (bz - ay) * (cx - ax)), (bx - ax) * (bx - ax) + (bz - ay) * (bz - ay))
theorem p_sq (a : Int) : 0 ≤ a * a := by
  by_cases h : 0 ≤ a
  · exact Int.mul_nonneg h h
  · exact Int.mul_nonneg_of_nonpos_of_nonpos (by omega) (by omega)
theorem p_sq0 {a : Int} (h : a * a = 0) : a = 0 := by
  rcases Int.mul_eq_zero.mp h with h | h <;> exact h
theorem p_sqb {a B : Int} (h1 : -B ≤ a) (h2 : a ≤ B) : a * a ≤ B * B := by
  have h : 0 ≤ (B - a) * (B + a) := Int.mul_nonneg (by omega) (by omega)
  grind
theorem p_line {ux uy vx vy : Int} (h : ux * vy - uy * vx = 0) (h1 : 0 < ux * vx + uy * vy) (h2 : ux * vx + uy * vy < ux * ux + uy * uy) : (0 ≤ vx ∧ vx ≤ ux) ∨ (ux ≤ vx ∧ vx ≤ 0) := by
  have e : ux * (ux * vx + uy * vy) = (ux * ux + uy * uy) * vx := by grind
  have hl : 0 < ux * ux + uy * uy := by omega
  by_cases hu : 0 ≤ ux
  · left
    constructor
    · have : 0 ≤ (ux * ux + uy * uy) * vx := by rw [← e]; exact Int.mul_nonneg hu (by omega)
      exact Int.le_of_mul_le_mul_left (a := ux * ux + uy * uy) (by simpa using this) hl
    · have : (ux * ux + uy * uy) * vx ≤ (ux * ux + uy * uy) * ux := by
        rw [← e, Int.mul_comm (ux * ux + uy * uy) ux]
        exact Int.mul_le_mul_of_nonneg_left (by omega) hu
      exact Int.le_of_mul_le_mul_left this hl
  · right
    constructor
    · have : (ux * ux + uy * uy) * ux ≤ (ux * ux + uy * uy) * vx := by
        rw [← e, Int.mul_comm (ux * ux + uy * uy) ux]
        exact Int.mul_le_mul_of_nonpos_left (by omega) (by omega)
      exact Int.le_of_mul_le_mul_left this hl
    · have : (ux * ux + uy * uy) * vx ≤ 0 := by
        rw [← e]
        exact Int.mul_nonpos_of_nonpos_of_nonneg (by omega) (by omega)
      exact Int.le_of_mul_le_mul_left (a := ux * ux + uy * uy) (by simpa using this) hl
theorem pCd_den (ax ay bx bz cx cy : Int) : 0 < (pCd ax ay bx bz cx cy).2 := by
  unfold pCd
  split
  · exact Int.one_pos
  · split
    · exact Int.one_pos
    · show 0 < (bx - ax) * (bx - ax) + (bz - ay) * (bz - ay)
      omega
theorem pCd_nn (ax ay bx bz cx cy : Int) : 0 ≤ (pCd ax ay bx bz cx cy).1 := by
  unfold pCd
  have h1 := p_sq (cx - ax)
  have h2 := p_sq (cy - ay)
  have h3 := p_sq (cx - bx)
  have h4 := p_sq (cy - bz)
  split
  · show 0 ≤ (cx - ax) * (cx - ax) + (cy - ay) * (cy - ay)
    omega
  · split
    · show 0 ≤ (cx - bx) * (cx - bx) + (cy - bz) * (cy - bz)
      omega
    · exact p_sq _
theorem pCd_pos {ax ay bx bz cx cy : Int} (h : zOn ax ay bx bz cx cy = false) : 0 < (pCd ax ay bx bz cx cy).1 := by
  have h0 := pCd_nn ax ay bx bz cx cy
  have : ¬ (pCd ax ay bx bz cx cy).1 = 0 := by
    intro e
    have hon : zOn ax ay bx bz cx cy = true := by
      have g1 := p_sq (cx - ax)
      have g2 := p_sq (cy - ay)
      have g3 := p_sq (cx - bx)
      have g4 := p_sq (cy - bz)
      unfold pCd at e
      unfold zOn zBtw zTurn
      simp only [Bool.and_eq_true, decide_eq_true_eq]
      split at e
      · have e1 : (cx - ax) * (cx - ax) + (cy - ay) * (cy - ay) = 0 := e
        have a1 := p_sq0 (a := cx - ax) (by omega)
        have a2 := p_sq0 (a := cy - ay) (by omega)
        rw [a1, a2]
        refine ⟨by simp, ?_, ?_⟩ <;> omega
      · split at e
        · have e1 : (cx - bx) * (cx - bx) + (cy - bz) * (cy - bz) = 0 := e
          have a1 := p_sq0 (a := cx - bx) (by omega)
          have a2 := p_sq0 (a := cy - bz) (by omega)
          have b1 : cx = bx := by omega
          have b2 : cy = bz := by omega
          subst b1 b2
          refine ⟨by grind, ?_, ?_⟩ <;> omega
        · have a1 := p_sq0 e
          have k1 := p_line a1 (by omega) (by omega)
          have k2 := p_line (ux := bz - ay) (uy := bx - ax) (vx := cy - ay) (vy := cx - ax) (by omega) (by omega) (by omega)
          refine ⟨a1, ?_, ?_⟩ <;> omega
    rw [hon] at h
    cases h
  omega
theorem pCd_far {ax ay bx bz cx cy : Int} (h1 : 0 ≤ ax ∧ ax ≤ 255) (h2 : 0 ≤ ay ∧ ay ≤ 255) (h3 : 0 ≤ bx ∧ bx ≤ 255) (h4 : 0 ≤ bz ∧ bz ≤ 255) (h5 : 0 ≤ cx ∧ cx ≤ 255) (h6 : 0 ≤ cy ∧ cy ≤ 255) : (pCd ax ay bx bz cx cy).1 ≤ 130050 * (pCd ax ay bx bz cx cy).2 := by
  have g1 := p_sqb (a := cx - ax) (B := 255) (by omega) (by omega)
  have g2 := p_sqb (a := cy - ay) (B := 255) (by omega) (by omega)
  have g3 := p_sqb (a := cx - bx) (B := 255) (by omega) (by omega)
  have g4 := p_sqb (a := cy - bz) (B := 255) (by omega) (by omega)
  unfold pCd
  split
  · show (cx - ax) * (cx - ax) + (cy - ay) * (cy - ay) ≤ 130050 * 1
    omega
  · split
    · show (cx - bx) * (cx - bx) + (cy - bz) * (cy - bz) ≤ 130050 * 1
      omega
    · show ((bx - ax) * (cy - ay) - (bz - ay) * (cx - ax)) * ((bx - ax) * (cy - ay) - (bz - ay) * (cx - ax)) ≤ 130050 * ((bx - ax) * (bx - ax) + (bz - ay) * (bz - ay))
      have e : ((bx - ax) * (cy - ay) - (bz - ay) * (cx - ax)) * ((bx - ax) * (cy - ay) - (bz - ay) * (cx - ax)) + ((bx - ax) * (cx - ax) + (bz - ay) * (cy - ay)) * ((bx - ax) * (cx - ax) + (bz - ay) * (cy - ay)) = ((bx - ax) * (bx - ax) + (bz - ay) * (bz - ay)) * ((cx - ax) * (cx - ax) + (cy - ay) * (cy - ay)) := by grind
      have k1 := p_sq ((bx - ax) * (cx - ax) + (bz - ay) * (cy - ay))
      have k2 : ((bx - ax) * (bx - ax) + (bz - ay) * (bz - ay)) * ((cx - ax) * (cx - ax) + (cy - ay) * (cy - ay)) ≤ ((bx - ax) * (bx - ax) + (bz - ay) * (bz - ay)) * 130050 := Int.mul_le_mul_of_nonneg_left (by omega) (by have := p_sq (bx - ax); have := p_sq (bz - ay); omega)
      rw [Int.mul_comm 130050]
      omega
def pLs (p c : Int × Int) : Int × Int := if c.1 * p.2 < p.1 * c.2 then c else p
/-- the end of side i -/
def pE (n i : Nat) : Nat := if i + 1 < n then i + 1 else 0
def pSd (kd : Int) (n : Nat) : Nat := if kd = 1 then n - 1 else n
section PGE
variable (x y x2 y2 : Nat → Int) (n n2 : Nat)
def pMt (i j : Nat) : Bool := zMt (x i) (y i) (x (pE n i)) (y (pE n i)) (x2 j) (y2 j) (x2 (pE n2 j)) (y2 (pE n2 j))
def pPr (i j : Nat) (p : Int × Int) : Int × Int :=
  pLs (pLs (pLs (pLs p (pCd (x i) (y i) (x (pE n i)) (y (pE n i)) (x2 j) (y2 j))) (pCd (x i) (y i) (x (pE n i)) (y (pE n i)) (x2 (pE n2 j)) (y2 (pE n2 j)))) (pCd (x2 j) (y2 j) (x2 (pE n2 j)) (y2 (pE n2 j)) (x i) (y i))) (pCd (x2 j) (y2 j) (x2 (pE n2 j)) (y2 (pE n2 j)) (x (pE n i)) (y (pE n i)))
/-- the class's look at a pair of sides -/
def pBs (i j : Nat) (p : Int × Int) : Int × Int := if p.1 ≤ 0 then p else if pMt x y x2 y2 n n2 i j then (0, 1) else pPr x y x2 y2 n n2 i j p
end PGE
/-- a loop in a loop -/
def pF2 {α : Type} (a b : Nat) (f : Nat → Nat → α → α) (p : α) : α := (List.range a).foldl (fun p i => (List.range b).foldl (fun p j => f i j p) p) p
theorem pF2_inv {α : Type} {a b : Nat} {f : Nat → Nat → α → α} {p : α} (I : α → Prop) (h0 : I p) (hs : ∀ i j p, i < a → j < b → I p → I (f i j p)) : I (pF2 a b f p) := by
  unfold pF2
  have h2 : ∀ i, i < a → ∀ (l : List Nat) (p : α), (∀ j ∈ l, j < b) → I p → I (l.foldl (fun p j => f i j p) p) := by
    intro i hi l
    induction l with
    | nil => intro p _ h; exact h
    | cons j l ih => intro p hl h; exact ih _ (fun k hk => hl k (List.mem_cons_of_mem _ hk)) (hs i j p hi (hl j List.mem_cons_self) h)
  have h1 : ∀ (l : List Nat) (p : α), (∀ i ∈ l, i < a) → I p → I (l.foldl (fun p i => (List.range b).foldl (fun p j => f i j p) p) p) := by
    intro l
    induction l with
    | nil => intro p _ h; exact h
    | cons i l ih => intro p hl h; exact ih _ (fun k hk => hl k (List.mem_cons_of_mem _ hk)) (h2 i (hl i List.mem_cons_self) _ p (fun j hj => List.mem_range.mp hj) h)
  exact h1 _ p (fun i hi => List.mem_range.mp hi) h0
/-- once at a place (i0, j0) the second property holds it stays -/
theorem pF2_hit {α : Type} {a b : Nat} {f : Nat → Nat → α → α} {p : α} (I J : α → Prop) (h0 : I p) (hs : ∀ i j p, i < a → j < b → I p → I (f i j p)) (i0 j0 : Nat) (ha : i0 < a) (hb : j0 < b) (hh : ∀ p, I p → J (f i0 j0 p)) (hj : ∀ i j p, i < a → j < b → J p → J (f i j p)) : J (pF2 a b f p) := by
  unfold pF2
  have g2 : ∀ (K : α → Prop), (∀ i j p, i < a → j < b → K p → K (f i j p)) → ∀ i, i < a → ∀ (l : List Nat) (p : α), (∀ j ∈ l, j < b) → K p → K (l.foldl (fun p j => f i j p) p) := by
    intro K hK i hi l
    induction l with
    | nil => intro p _ h; exact h
    | cons j l ih => intro p hl h; exact ih _ (fun k hk => hl k (List.mem_cons_of_mem _ hk)) (hK i j p hi (hl j List.mem_cons_self) h)
  have g1 : ∀ (K : α → Prop), (∀ i j p, i < a → j < b → K p → K (f i j p)) → ∀ (l : List Nat) (p : α), (∀ i ∈ l, i < a) → K p → K (l.foldl (fun p i => (List.range b).foldl (fun p j => f i j p) p) p) := by
    intro K hK l
    induction l with
    | nil => intro p _ h; exact h
    | cons i l ih => intro p hl h; exact ih _ (fun k hk => hl k (List.mem_cons_of_mem _ hk)) (g2 K hK i (hl i List.mem_cons_self) _ p (fun j hj => List.mem_range.mp hj) h)
  have k2 : ∀ (l : List Nat) (p : α), (∀ j ∈ l, j < b) → j0 ∈ l → I p → J (l.foldl (fun p j => f i0 j p) p) := by
    intro l
    induction l with
    | nil => intro p _ h; cases h
    | cons j l ih =>
      intro p hl hm h
      rcases List.mem_cons.mp hm with e | hm
      · subst e
        exact g2 J hj i0 ha l _ (fun k hk => hl k (List.mem_cons_of_mem _ hk)) (hh p h)
      · exact ih _ (fun k hk => hl k (List.mem_cons_of_mem _ hk)) hm (hs i0 j p ha (hl j List.mem_cons_self) h)
  have k1 : ∀ (l : List Nat) (p : α), (∀ i ∈ l, i < a) → i0 ∈ l → I p → J (l.foldl (fun p i => (List.range b).foldl (fun p j => f i j p) p) p) := by
    intro l
    induction l with
    | nil => intro p _ h; cases h
    | cons i l ih =>
      intro p hl hm h
      rcases List.mem_cons.mp hm with e | hm
      · subst e
        exact g1 J hj l _ (fun k hk => hl k (List.mem_cons_of_mem _ hk)) (k2 _ p (fun j hj => List.mem_range.mp hj) (List.mem_range.mpr hb) h)
      · exact ih _ (fun k hk => hl k (List.mem_cons_of_mem _ hk)) hm (g2 I hs i (hl i List.mem_cons_self) _ p (fun j hj => List.mem_range.mp hj) h)
  exact k1 _ p (fun i hi => List.mem_range.mp hi) (List.mem_range.mpr ha) h0
/-- two loops side by side -/
theorem pF2_rel {α β : Type} {a b : Nat} {f : Nat → Nat → α → α} {g : Nat → Nat → β → β} {p : α} {q : β} (R : α → β → Prop) (h0 : R p q) (hs : ∀ i j p q, i < a → j < b → R p q → R (f i j p) (g i j q)) : R (pF2 a b f p) (pF2 a b g q) := by
  unfold pF2
  have h2 : ∀ i, i < a → ∀ (l : List Nat) (p : α) (q : β), (∀ j ∈ l, j < b) → R p q → R (l.foldl (fun p j => f i j p) p) (l.foldl (fun p j => g i j p) q) := by
    intro i hi l
    induction l with
    | nil => intro p q _ h; exact h
    | cons j l ih => intro p q hl h; exact ih _ _ (fun k hk => hl k (List.mem_cons_of_mem _ hk)) (hs i j p q hi (hl j List.mem_cons_self) h)
  have h1 : ∀ (l : List Nat) (p : α) (q : β), (∀ i ∈ l, i < a) → R p q → R (l.foldl (fun p i => (List.range b).foldl (fun p j => f i j p) p) p) (l.foldl (fun p i => (List.range b).foldl (fun p j => g i j p) p) q) := by
    intro l
    induction l with
    | nil => intro p q _ h; exact h
    | cons i l ih => intro p q hl h; exact ih _ _ (fun k hk => hl k (List.mem_cons_of_mem _ hk)) (h2 i (hl i List.mem_cons_self) _ p q (fun j hj => List.mem_range.mp hj) h)
  exact h1 _ p q (fun i hi => List.mem_range.mp hi) h0
theorem pLs_pos {p c : Int × Int} (h1 : 0 < p.1) (h2 : 0 < c.1) : 0 < (pLs p c).1 := by unfold pLs; split <;> assumption
theorem pLs_den {p c : Int × Int} (h1 : 0 < p.2) (h2 : 0 < c.2) : 0 < (pLs p c).2 := by unfold pLs; split <;> assumption
theorem pLs_0 {c : Int × Int} (h : 0 ≤ c.1) : pLs (0, 1) c = (0, 1) := by
  unfold pLs
  rw [if_neg]
  show ¬ c.1 * 1 < 0 * c.2
  omega
theorem pLs_far {c : Int × Int} (F : Int) (hF : 130050 < F) (h1 : c.1 ≤ 130050 * c.2) (h2 : 0 < c.2) : pLs (F, 1) c = c := by
  unfold pLs
  rw [if_pos]
  show c.1 * 1 < F * c.2
  have : 130050 * c.2 < F * c.2 := Int.mul_lt_mul_of_pos_right hF h2
  omega
def pBox (x : Nat → Int) (n : Nat) : Prop := ∀ i, i < n → 0 ≤ x i ∧ x i ≤ 255
theorem pE_lt {n i : Nat} (h : 0 < n) : pE n i < n := by unfold pE; split <;> omega
theorem pSd_le (kd : Int) (n : Nat) : pSd kd n ≤ n := by unfold pSd; split <;> omega
section PTH
variable {x y x2 y2 : Nat → Int} {n n2 : Nat}
theorem pMt_on {i j : Nat} (h : pMt x y x2 y2 n n2 i j = false) : zOn (x i) (y i) (x (pE n i)) (y (pE n i)) (x2 j) (y2 j) = false ∧ zOn (x i) (y i) (x (pE n i)) (y (pE n i)) (x2 (pE n2 j)) (y2 (pE n2 j)) = false ∧ zOn (x2 j) (y2 j) (x2 (pE n2 j)) (y2 (pE n2 j)) (x i) (y i) = false ∧ zOn (x2 j) (y2 j) (x2 (pE n2 j)) (y2 (pE n2 j)) (x (pE n i)) (y (pE n i)) = false := by
  unfold pMt zMt at h
  simp only [Bool.or_eq_false_iff] at h
  exact h.2
theorem pPr_pos {i j : Nat} {p : Int × Int} (h : pMt x y x2 y2 n n2 i j = false) (hp : 0 < p.1) : 0 < (pPr x y x2 y2 n n2 i j p).1 := by
  have k := pMt_on h
  exact pLs_pos (pLs_pos (pLs_pos (pLs_pos hp (pCd_pos k.1)) (pCd_pos k.2.1)) (pCd_pos k.2.2.1)) (pCd_pos k.2.2.2)
theorem pPr_den {i j : Nat} {p : Int × Int} (hp : 0 < p.2) : 0 < (pPr x y x2 y2 n n2 i j p).2 := by
  exact pLs_den (pLs_den (pLs_den (pLs_den hp (pCd_den ..)) (pCd_den ..)) (pCd_den ..)) (pCd_den ..)
theorem pPr_0 {i j : Nat} : pPr x y x2 y2 n n2 i j (0, 1) = (0, 1) := by
  unfold pPr
  rw [pLs_0 (pCd_nn ..), pLs_0 (pCd_nn ..), pLs_0 (pCd_nn ..), pLs_0 (pCd_nn ..)]
theorem pPr_far {i j : Nat} {F E : Int} (hF : 130050 < F) (hE : 130050 < E) (hx : pBox x n) (hy : pBox y n) (hx2 : pBox x2 n2) (hy2 : pBox y2 n2) (hi : i < n) (hj : j < n2) : pPr x y x2 y2 n n2 i j (F, 1) = pPr x y x2 y2 n n2 i j (E, 1) := by
  have e1 := pE_lt (n := n) (i := i) (by omega)
  have h := pCd_far (hx i hi) (hy i hi) (hx _ e1) (hy _ e1) (hx2 j hj) (hy2 j hj)
  unfold pPr
  rw [pLs_far F hF h (pCd_den ..), pLs_far E hE h (pCd_den ..)]
theorem pBs_0 {i j : Nat} : pBs x y x2 y2 n n2 i j (0, 1) = (0, 1) := by
  unfold pBs
  rw [if_pos (Int.le_refl 0)]
/-- where sides meet both come to (0, 1) -/
theorem p_meet {a b : Nat} {p : Int × Int} (hp : 0 < p.1) {i j : Nat} (hi : i < a) (hj : j < b) (h : pMt x y x2 y2 n n2 i j = true) : pF2 a b (pBs x y x2 y2 n n2) p = (0, 1) := by
  refine pF2_hit (fun p => 0 < p.1 ∨ p = (0, 1)) (fun p => p = (0, 1)) (Or.inl hp) ?_ i j hi hj ?_ ?_
  · intro i j p _ _ h
    rcases h with h | h
    · unfold pBs
      rw [if_neg (by omega)]
      split
      · exact Or.inr rfl
      · rename_i hm
        exact Or.inl (pPr_pos (by simpa using hm) h)
    · rw [h]
      exact Or.inr pBs_0
  · intro p hp
    rcases hp with hp | hp
    · unfold pBs
      rw [if_neg (by omega), if_pos h]
    · rw [hp]
      exact pBs_0
  · intro i j p _ _ h
    rw [h]
    exact pBs_0
theorem p_zero {a b : Nat} : pF2 a b (pPr x y x2 y2 n n2) (0, 1) = (0, 1) :=
  pF2_inv (fun p => p = (0, 1)) rfl (fun i j p _ _ h => by rw [h]; exact pPr_0)
theorem p_apart {a b : Nat} {F E : Int} (hF : 130050 < F) (hE : 130050 < E) (hx : pBox x n) (hy : pBox y n) (hx2 : pBox x2 n2) (hy2 : pBox y2 n2) (ha : 0 < a) (hb : 0 < b) (ha1 : a ≤ n) (hb1 : b ≤ n2) (h : ∀ i j, i < a → j < b → pMt x y x2 y2 n n2 i j = false) : pF2 a b (pBs x y x2 y2 n n2) (F, 1) = pF2 a b (pPr x y x2 y2 n n2) (E, 1) := by
  have k : ∀ p : Int × Int, 0 < p.1 → ∀ i j, i < a → j < b → pBs x y x2 y2 n n2 i j p = pPr x y x2 y2 n n2 i j p := by
    intro p hp i j hi hj
    unfold pBs
    rw [if_neg (by omega), if_neg (by rw [h i j hi hj]; decide)]
  have e1 : pF2 a b (pBs x y x2 y2 n n2) (F, 1) = pF2 a b (pPr x y x2 y2 n n2) (F, 1) := by
    refine (pF2_rel (fun p q => p = q ∧ 0 < p.1) ⟨rfl, by show 0 < F; omega⟩ ?_).1
    intro i j p q hi hj hh
    rw [← hh.1, k p hh.2 i j hi hj]
    exact ⟨rfl, pPr_pos (h i j hi hj) hh.2⟩
  rw [e1]
  unfold pF2
  obtain ⟨a, rfl⟩ : ∃ c, a = c + 1 := ⟨a - 1, by omega⟩
  obtain ⟨b, rfl⟩ : ∃ c, b = c + 1 := ⟨b - 1, by omega⟩
  simp only [List.range_succ_eq_map, List.foldl_cons]
  rw [pPr_far hF hE hx hy hx2 hy2 (by omega) (by omega)]
end PTH
/-- whether side i turns within over: the class's way, the reference's way -/
def pTc (x y : Nat → Int) (n : Nat) (u v : Int) (i : Nat) : Bool := (decide (v < y (pE n i)) != decide (v < y i)) && (decide (v < y (pE n i)) == decide (0 < zTurn (x i) (y i) (x (pE n i)) (y (pE n i)) u v))
def pTr (x y : Nat → Int) (n : Nat) (u v : Int) (i : Nat) : Bool := (decide (v < y i) != decide (v < y (pE n i))) && (if y i < y (pE n i) then decide (0 < zTurn (x i) (y i) (x (pE n i)) (y (pE n i)) u v) else decide (zTurn (x i) (y i) (x (pE n i)) (y (pE n i)) u v < 0))
def pPa (t : Nat → Bool) (n : Nat) : Bool := (List.range n).foldl (fun b i => b ^^ t i) false
theorem pPa_eq {s t : Nat → Bool} {n : Nat} (h : ∀ i, i < n → s i = t i) : pPa s n = pPa t n := by
  unfold pPa
  have : ∀ (l : List Nat) (b : Bool), (∀ i ∈ l, i < n) → l.foldl (fun b i => b ^^ s i) b = l.foldl (fun b i => b ^^ t i) b := by
    intro l
    induction l with
    | nil => intro b _; rfl
    | cons i l ih => intro b hl; simp only [List.foldl_cons]; rw [h i (hl i List.mem_cons_self)]; exact ih _ (fun k hk => hl k (List.mem_cons_of_mem _ hk))
  exact this _ _ (fun i hi => List.mem_range.mp hi)
theorem pPa_succ (t : Nat → Bool) (n : Nat) : pPa t (n + 1) = (pPa t n ^^ t n) := by
  unfold pPa
  rw [List.range_succ, List.foldl_append]
  rfl
theorem pPa_none {t : Nat → Bool} {n : Nat} (h : ∀ i, i < n → t i = false) : pPa t n = false := by
  induction n with
  | zero => rfl
  | succ n ih => rw [pPa_succ, ih (fun i hi => h i (by omega)), h n (by omega)]; rfl
/-- a closed way passes a line an even number of times -/
theorem pPa_cyc (s : Nat → Bool) (n : Nat) : pPa (fun i => s i != s (pE n i)) n = false := by
  have k : ∀ m, m + 1 ≤ n → pPa (fun i => s i != s (pE n i)) m = (s 0 ^^ s m) := by
    intro m
    induction m with
    | zero => intro _; show false = _; cases s 0 <;> rfl
    | succ m ih =>
      intro hm
      rw [pPa_succ, ih (by omega)]
      have : pE n m = m + 1 := by unfold pE; rw [if_pos (by omega)]
      rw [this]
      cases s 0 <;> cases s m <;> cases s (m + 1) <;> rfl
  cases n with
  | zero => rfl
  | succ m =>
    rw [pPa_succ, k m (by omega)]
    have : pE (m + 1) m = 0 := by unfold pE; rw [if_neg (by omega)]
    rw [this]
    cases s 0 <;> cases s m <;> rfl
theorem p_on_t {ax ay bx bz u v : Int} (h : zOn ax ay bx bz u v = false) (hs : ¬ decide (v < bz) = decide (v < ay)) : ¬ zTurn ax ay bx bz u v = 0 := by
  intro e
  have hon : zOn ax ay bx bz u v = true := by
    unfold zOn
    rw [e]
    unfold zBtw
    unfold zTurn at e
    simp only [decide_true, Bool.true_and, Bool.and_eq_true, decide_eq_true_eq]
    have hy : (ay ≤ v ∧ v ≤ bz) ∨ (bz ≤ v ∧ v ≤ ay) := by
      by_cases h1 : v < bz <;> by_cases h2 : v < ay
      · exfalso; apply hs; simp [h1, h2]
      · left; omega
      · right; omega
      · exfalso; apply hs; simp [h1, h2]
    refine ⟨?_, hy⟩
    have hne : ¬ bz = ay := by intro e2; apply hs; rw [e2]
    have e' : (bz - ay) * (u - ax) = (bx - ax) * (v - ay) := by omega
    by_cases hb : ay < bz
    · have hy' : 0 ≤ v - ay ∧ v - ay ≤ bz - ay := by omega
      have hp : 0 < bz - ay := by omega
      by_cases hx : ax ≤ bx
      · left
        have q1 : 0 ≤ (bz - ay) * (u - ax) := by rw [e']; exact Int.mul_nonneg (by omega) (by omega)
        have q2 : (bz - ay) * (u - ax) ≤ (bz - ay) * (bx - ax) := by rw [e', Int.mul_comm (bz - ay)]; exact Int.mul_le_mul_of_nonneg_left (by omega) (by omega)
        have q3 := Int.le_of_mul_le_mul_left (a := bz - ay) (b := 0) (by simpa using q1) hp
        have q4 := Int.le_of_mul_le_mul_left q2 hp
        omega
      · right
        have q1 : (bz - ay) * (u - ax) ≤ 0 := by rw [e']; exact Int.mul_nonpos_of_nonpos_of_nonneg (by omega) (by omega)
        have q2 : (bz - ay) * (bx - ax) ≤ (bz - ay) * (u - ax) := by rw [e', Int.mul_comm (bz - ay)]; exact Int.mul_le_mul_of_nonpos_left (by omega) (by omega)
        have q3 := Int.le_of_mul_le_mul_left (a := bz - ay) (c := 0) (by simpa using q1) hp
        have q4 := Int.le_of_mul_le_mul_left q2 hp
        omega
    · have hp : 0 < ay - bz := by omega
      have e2 : (ay - bz) * (u - ax) = (bx - ax) * (ay - v) := by grind
      by_cases hx : ax ≤ bx
      · left
        have q1 : 0 ≤ (ay - bz) * (u - ax) := by rw [e2]; exact Int.mul_nonneg (by omega) (by omega)
        have q2 : (ay - bz) * (u - ax) ≤ (ay - bz) * (bx - ax) := by rw [e2, Int.mul_comm (ay - bz)]; exact Int.mul_le_mul_of_nonneg_left (by omega) (by omega)
        have q3 := Int.le_of_mul_le_mul_left (a := ay - bz) (b := 0) (by simpa using q1) hp
        have q4 := Int.le_of_mul_le_mul_left q2 hp
        omega
      · right
        have q1 : (ay - bz) * (u - ax) ≤ 0 := by rw [e2]; exact Int.mul_nonpos_of_nonpos_of_nonneg (by omega) (by omega)
        have q2 : (ay - bz) * (bx - ax) ≤ (ay - bz) * (u - ax) := by rw [e2, Int.mul_comm (ay - bz)]; exact Int.mul_le_mul_of_nonpos_left (by omega) (by omega)
        have q3 := Int.le_of_mul_le_mul_left (a := ay - bz) (c := 0) (by simpa using q1) hp
        have q4 := Int.le_of_mul_le_mul_left q2 hp
        omega
  rw [hon] at h
  cases h
theorem pT_eq {x y : Nat → Int} {n : Nat} {u v : Int} {i : Nat} (h : zOn (x i) (y i) (x (pE n i)) (y (pE n i)) u v = false) : pTc x y n u v i = pTr x y n u v i := by
  unfold pTc pTr
  by_cases hs : decide (v < y (pE n i)) = decide (v < y i)
  · rw [hs]
    simp
  · have ht := p_on_t h hs
    generalize zTurn (x i) (y i) (x (pE n i)) (y (pE n i)) u v = t at *
    generalize y (pE n i) = b at *
    generalize y i = a at *
    by_cases h1 : v < b <;> by_cases h2 : v < a
    · exfalso; apply hs; simp [h1, h2]
    · have : a < b := by omega
      simp [h1, h2, this]
    · have : ¬ a < b := by omega
      by_cases h3 : 0 < t
      · have : ¬ t < 0 := by omega
        simp [h1, h2, *]
      · have : t < 0 := by omega
        simp [h1, h2, *]
    · exfalso; apply hs; simp [h1, h2]
theorem p_turn2 (ax ay bx bz u v : Int) : zTurn ax ay bx bz u v = (bx - u) * (v - ay) + (ax - u) * (bz - v) := by unfold zTurn; grind
/-- a point within lies in the box -/
theorem p_within {x y : Nat → Int} {n : Nat} {u v x0 x1 y0 y1 : Int} (hx : ∀ i, i < n → x0 ≤ x i ∧ x i ≤ x1) (hy : ∀ i, i < n → y0 ≤ y i ∧ y i ≤ y1) (h : pPa (pTr x y n u v) n = true) : (x0 ≤ u ∧ u ≤ x1) ∧ (y0 ≤ v ∧ v ≤ y1) := by
  have key : ∀ P : Prop, (¬ P → pPa (pTr x y n u v) n = false) → P := by
    intro P hP
    by_cases hp : P
    · exact hp
    · rw [hP hp] at h; cases h
  have hE : ∀ i, i < n → pE n i < n := fun i hi => pE_lt (by omega)
  refine ⟨⟨key _ ?_, key _ ?_⟩, ⟨key _ ?_, key _ ?_⟩⟩ <;> intro hne
  · have e : pPa (pTr x y n u v) n = pPa (fun i => decide (v < y i) != decide (v < y (pE n i))) n := by
      apply pPa_eq
      intro i hi
      have g1 := hx i hi
      have g2 := hx _ (hE i hi)
      show pTr x y n u v i = (decide (v < y i) != decide (v < y (pE n i)))
      unfold pTr
      rw [p_turn2]
      generalize x (pE n i) = bx at *
      generalize x i = ax at *
      generalize y (pE n i) = b at *
      generalize y i = a at *
      by_cases h1 : v < b <;> by_cases h2 : v < a
      · simp [h1, h2]
      · have h3 : a < b := by omega
        have q1 : 0 ≤ (bx - u) * (v - a) := Int.mul_nonneg (by omega) (by omega)
        have q2 : 0 < (ax - u) * (b - v) := Int.mul_pos (by omega) (by omega)
        have q3 : 0 < (bx - u) * (v - a) + (ax - u) * (b - v) := by omega
        simp [h1, h2, h3, q3]
      · have h3 : ¬ a < b := by omega
        have q1 : (bx - u) * (v - a) < 0 := Int.mul_neg_of_pos_of_neg (by omega) (by omega)
        have q2 : (ax - u) * (b - v) ≤ 0 := Int.mul_nonpos_of_nonneg_of_nonpos (by omega) (by omega)
        have q3 : (bx - u) * (v - a) + (ax - u) * (b - v) < 0 := by omega
        simp [h1, h2, h3, q3]
      · simp [h1, h2]
    rw [e]
    exact pPa_cyc (fun i => decide (v < y i)) n
  · apply pPa_none
    intro i hi
    have g1 := hx i hi
    have g2 := hx _ (hE i hi)
    unfold pTr
    rw [p_turn2]
    generalize x (pE n i) = bx at *
    generalize x i = ax at *
    generalize y (pE n i) = b at *
    generalize y i = a at *
    by_cases h1 : v < b <;> by_cases h2 : v < a
    · simp [h1, h2]
    · have h3 : a < b := by omega
      have q1 : (bx - u) * (v - a) ≤ 0 := Int.mul_nonpos_of_nonpos_of_nonneg (by omega) (by omega)
      have q2 : (ax - u) * (b - v) < 0 := Int.mul_neg_of_neg_of_pos (by omega) (by omega)
      have q3 : ¬ 0 < (bx - u) * (v - a) + (ax - u) * (b - v) := by omega
      simp [h1, h2, h3, q3]
    · have h3 : ¬ a < b := by omega
      have q1 : 0 ≤ (bx - u) * (v - a) := Int.mul_nonneg_of_nonpos_of_nonpos (by omega) (by omega)
      have q2 : 0 ≤ (ax - u) * (b - v) := Int.mul_nonneg_of_nonpos_of_nonpos (by omega) (by omega)
      have q3 : ¬ (bx - u) * (v - a) + (ax - u) * (b - v) < 0 := by omega
      simp [h1, h2, h3, q3]
    · simp [h1, h2]
  · apply pPa_none
    intro i hi
    have g1 := hy i hi
    have g2 := hy _ (hE i hi)
    unfold pTr
    have h1 : v < y i := by omega
    have h2 : v < y (pE n i) := by omega
    simp [h1, h2]
  · apply pPa_none
    intro i hi
    have g1 := hy i hi
    have g2 := hy _ (hE i hi)
    unfold pTr
    have h1 : ¬ v < y i := by omega
    have h2 : ¬ v < y (pE n i) := by omega
    simp [h1, h2]
def pMeet (x y x2 y2 : Nat → Int) (n n2 : Nat) (kd kd2 : Int) : Bool :=
  (List.range (pSd kd n)).any (fun i => (List.range (pSd kd2 n2)).any (fun j => pMt x y x2 y2 n n2 i j)) || ((decide (kd2 = 2) && pPa (pTr x2 y2 n2 (x 0) (y 0)) n2) || (decide (kd = 2) && pPa (pTr x y n (x2 0) (y2 0)) n))
/-- the reference's distance -/
def pOut (x y x2 y2 : Nat → Int) (n n2 : Nat) (kd kd2 : Int) : Int × Int := pF2 (pSd kd n) (pSd kd2 n2) (pPr x y x2 y2 n n2) (if pMeet x y x2 y2 n n2 kd kd2 then (0, 1) else (1000000, 1))
/-- the class's distance -/
def pBet (x y x2 y2 : Nat → Int) (n n2 : Nat) (kd kd2 : Int) : Int × Int :=
  if (decide (kd = 2) && pPa (pTc x y n (x2 0) (y2 0)) n) || (decide (kd2 = 2) && pPa (pTc x2 y2 n2 (x 0) (y 0)) n2) then (0, 1) else pF2 (pSd kd n) (pSd kd2 n2) (pBs x y x2 y2 n n2) (1048576, 1)
theorem pMeet_t {x y x2 y2 : Nat → Int} {n n2 : Nat} {kd kd2 : Int} : (List.range (pSd kd n)).any (fun i => (List.range (pSd kd2 n2)).any (fun j => pMt x y x2 y2 n n2 i j)) = true ↔ ∃ i j, i < pSd kd n ∧ j < pSd kd2 n2 ∧ pMt x y x2 y2 n n2 i j = true := by
  simp only [List.any_eq_true, List.mem_range]
  constructor
  · rintro ⟨i, hi, j, hj, h⟩
    exact ⟨i, j, hi, hj, h⟩
  · rintro ⟨i, j, hi, hj, h⟩
    exact ⟨i, hi, j, hj, h⟩
theorem p_bet_out {x y x2 y2 : Nat → Int} {n n2 : Nat} {kd kd2 : Int} (hx : pBox x n) (hy : pBox y n) (hx2 : pBox x2 n2) (hy2 : pBox y2 n2) (ha : 0 < pSd kd n) (hb : 0 < pSd kd2 n2) : pBet x y x2 y2 n n2 kd kd2 = pOut x y x2 y2 n n2 kd kd2 := by
  unfold pBet pOut pMeet
  by_cases ht : (List.range (pSd kd n)).any (fun i => (List.range (pSd kd2 n2)).any (fun j => pMt x y x2 y2 n n2 i j)) = true
  · rw [ht, Bool.true_or, if_pos rfl, p_zero]
    split
    · rfl
    · obtain ⟨i, j, hi, hj, h⟩ := pMeet_t.mp ht
      exact p_meet (by decide) hi hj h
  · have hno : ∀ i j, i < pSd kd n → j < pSd kd2 n2 → pMt x y x2 y2 n n2 i j = false := by
      intro i j hi hj
      cases hm : pMt x y x2 y2 n n2 i j
      · rfl
      · exact absurd (pMeet_t.mpr ⟨i, j, hi, hj, hm⟩) ht
    have e1 : (decide (kd = 2) && pPa (pTc x y n (x2 0) (y2 0)) n) = (decide (kd = 2) && pPa (pTr x y n (x2 0) (y2 0)) n) := by
      by_cases hk : kd = 2
      · have : pSd kd n = n := by unfold pSd; rw [if_neg (by omega)]
        rw [pPa_eq (fun i hi => pT_eq (pMt_on (hno i 0 (by omega) hb)).1)]
      · simp [hk]
    have e2 : (decide (kd2 = 2) && pPa (pTc x2 y2 n2 (x 0) (y 0)) n2) = (decide (kd2 = 2) && pPa (pTr x2 y2 n2 (x 0) (y 0)) n2) := by
      by_cases hk : kd2 = 2
      · have : pSd kd2 n2 = n2 := by unfold pSd; rw [if_neg (by omega)]
        rw [pPa_eq (fun j hj => pT_eq (pMt_on (hno 0 j ha (by omega))).2.2.1)]
      · simp [hk]
    rw [e1, e2, Bool.eq_false_iff.mpr ht, Bool.false_or, Bool.or_comm]
    split
    · rw [p_zero]
    · exact p_apart (by decide) (by decide) hx hy hx2 hy2 ha hb (pSd_le ..) (pSd_le ..) hno
def pGp (a0 a1 b0 b1 : Int) : Int := if a1 < b0 then b0 - a1 else if b1 < a0 then a0 - b1 else 0
def pGap (x0 x1 y0 y1 u0 u1 v0 v1 : Int) : Int := pGp x0 x1 u0 u1 * pGp x0 x1 u0 u1 + pGp y0 y1 v0 v1 * pGp y0 y1 v0 v1
theorem pGp_nn (a0 a1 b0 b1 : Int) : 0 ≤ pGp a0 a1 b0 b1 := by unfold pGp; repeat' split <;> omega
theorem pGp_sym {a0 a1 b0 b1 : Int} (h1 : a0 ≤ a1) (h2 : b0 ≤ b1) : pGp a0 a1 b0 b1 = pGp b0 b1 a0 a1 := by unfold pGp; repeat' split <;> omega
theorem p_sq_le {g d : Int} (h0 : 0 ≤ g) (h : g ≤ d ∨ g ≤ -d) : g * g ≤ d * d := by
  rcases h with h | h
  · exact Int.mul_le_mul h h h0 (by omega)
  · have := Int.mul_le_mul h h h0 (by omega)
    rwa [Int.neg_mul_neg] at this
theorem pGp_le {a0 a1 b0 b1 a c : Int} (h1 : a0 ≤ a ∧ a ≤ a1) (h2 : b0 ≤ c ∧ c ≤ b1) : pGp a0 a1 b0 b1 ≤ c - a ∨ pGp a0 a1 b0 b1 ≤ -(c - a) := by unfold pGp; repeat' split <;> omega
theorem pGp_mix {a0 a1 b0 b1 a b c l k : Int} (h1 : a0 ≤ a ∧ a ≤ a1) (h3 : a0 ≤ b ∧ b ≤ a1) (h2 : b0 ≤ c ∧ c ≤ b1) (hk : 0 ≤ k) (hl : 0 ≤ l) : (k + l) * pGp a0 a1 b0 b1 ≤ k * (c - a) + l * (c - b) ∨ (k + l) * pGp a0 a1 b0 b1 ≤ -(k * (c - a) + l * (c - b)) := by
  unfold pGp
  split
  · left
    have q1 : k * (b0 - a1) ≤ k * (c - a) := Int.mul_le_mul_of_nonneg_left (by omega) hk
    have q2 : l * (b0 - a1) ≤ l * (c - b) := Int.mul_le_mul_of_nonneg_left (by omega) hl
    rw [Int.add_mul]
    omega
  · split
    · right
      have q1 : k * (a0 - b1) ≤ k * (a - c) := Int.mul_le_mul_of_nonneg_left (by omega) hk
      have q2 : l * (a0 - b1) ≤ l * (b - c) := Int.mul_le_mul_of_nonneg_left (by omega) hl
      have q3 : k * (a - c) = -(k * (c - a)) := by grind
      have q4 : l * (b - c) = -(l * (c - b)) := by grind
      rw [Int.add_mul]
      omega
    · rw [Int.mul_zero]
      omega
theorem p_gap_cd {x0 x1 y0 y1 u0 u1 v0 v1 ax ay bx bz cx cy : Int} (h1 : x0 ≤ ax ∧ ax ≤ x1) (h2 : y0 ≤ ay ∧ ay ≤ y1) (h3 : x0 ≤ bx ∧ bx ≤ x1) (h4 : y0 ≤ bz ∧ bz ≤ y1) (h5 : u0 ≤ cx ∧ cx ≤ u1) (h6 : v0 ≤ cy ∧ cy ≤ v1) : pGap x0 x1 y0 y1 u0 u1 v0 v1 * (pCd ax ay bx bz cx cy).2 ≤ (pCd ax ay bx bz cx cy).1 := by
  unfold pGap pCd
  have gx := pGp_nn x0 x1 u0 u1
  have gy := pGp_nn y0 y1 v0 v1
  split
  · show (_ + _) * 1 ≤ (cx - ax) * (cx - ax) + (cy - ay) * (cy - ay)
    have a1 := p_sq_le gx (pGp_le h1 h5)
    have a2 := p_sq_le gy (pGp_le h2 h6)
    omega
  · split
    · show (_ + _) * 1 ≤ (cx - bx) * (cx - bx) + (cy - bz) * (cy - bz)
      have a1 := p_sq_le gx (pGp_le h3 h5)
      have a2 := p_sq_le gy (pGp_le h4 h6)
      omega
    · rename_i hal hle
      have hal' : 0 < (bx - ax) * (cx - ax) + (bz - ay) * (cy - ay) := by omega
      have hle' : (bx - ax) * (cx - ax) + (bz - ay) * (cy - ay) < (bx - ax) * (bx - ax) + (bz - ay) * (bz - ay) := by omega
      have m1 := pGp_mix (l := (bx - ax) * (cx - ax) + (bz - ay) * (cy - ay)) (k := (bx - ax) * (bx - ax) + (bz - ay) * (bz - ay) - ((bx - ax) * (cx - ax) + (bz - ay) * (cy - ay))) h1 h3 h5 (by omega) (by omega)
      have m2 := pGp_mix (l := (bx - ax) * (cx - ax) + (bz - ay) * (cy - ay)) (k := (bx - ax) * (bx - ax) + (bz - ay) * (bz - ay) - ((bx - ax) * (cx - ax) + (bz - ay) * (cy - ay))) h2 h4 h6 (by omega) (by omega)
      rw [Int.sub_add_cancel] at m1 m2
      have hl : 0 < (bx - ax) * (bx - ax) + (bz - ay) * (bz - ay) := by omega
      have s1 := p_sq_le (Int.mul_nonneg (Int.le_of_lt hl) gx) m1
      have s2 := p_sq_le (Int.mul_nonneg (Int.le_of_lt hl) gy) m2
      show (pGp x0 x1 u0 u1 * pGp x0 x1 u0 u1 + pGp y0 y1 v0 v1 * pGp y0 y1 v0 v1) * ((bx - ax) * (bx - ax) + (bz - ay) * (bz - ay)) ≤ ((bx - ax) * (cy - ay) - (bz - ay) * (cx - ax)) * ((bx - ax) * (cy - ay) - (bz - ay) * (cx - ax))
      generalize pGp x0 x1 u0 u1 = p at *
      generalize pGp y0 y1 v0 v1 = q at *
      have e1 : ((bx - ax) * (bx - ax) + (bz - ay) * (bz - ay)) * ((p * p + q * q) * ((bx - ax) * (bx - ax) + (bz - ay) * (bz - ay))) = ((bx - ax) * (bx - ax) + (bz - ay) * (bz - ay)) * p * (((bx - ax) * (bx - ax) + (bz - ay) * (bz - ay)) * p) + ((bx - ax) * (bx - ax) + (bz - ay) * (bz - ay)) * q * (((bx - ax) * (bx - ax) + (bz - ay) * (bz - ay)) * q) := by grind
      have e2 : ((bx - ax) * (bx - ax) + (bz - ay) * (bz - ay)) * (((bx - ax) * (cy - ay) - (bz - ay) * (cx - ax)) * ((bx - ax) * (cy - ay) - (bz - ay) * (cx - ax))) = ((((bx - ax) * (bx - ax) + (bz - ay) * (bz - ay) - ((bx - ax) * (cx - ax) + (bz - ay) * (cy - ay))) * (cx - ax) + ((bx - ax) * (cx - ax) + (bz - ay) * (cy - ay)) * (cx - bx))) * ((((bx - ax) * (bx - ax) + (bz - ay) * (bz - ay) - ((bx - ax) * (cx - ax) + (bz - ay) * (cy - ay))) * (cx - ax) + ((bx - ax) * (cx - ax) + (bz - ay) * (cy - ay)) * (cx - bx))) + ((((bx - ax) * (bx - ax) + (bz - ay) * (bz - ay) - ((bx - ax) * (cx - ax) + (bz - ay) * (cy - ay))) * (cy - ay) + ((bx - ax) * (cx - ax) + (bz - ay) * (cy - ay)) * (cy - bz))) * ((((bx - ax) * (bx - ax) + (bz - ay) * (bz - ay) - ((bx - ax) * (cx - ax) + (bz - ay) * (cy - ay))) * (cy - ay) + ((bx - ax) * (cx - ax) + (bz - ay) * (cy - ay)) * (cy - bz))) := by grind
      refine Int.le_of_mul_le_mul_left (a := (bx - ax) * (bx - ax) + (bz - ay) * (bz - ay)) ?_ hl
      rw [e1, e2]
      omega
theorem pLs_gap {g : Int} {p c : Int × Int} (h1 : g * p.2 ≤ p.1) (h2 : g * c.2 ≤ c.1) : g * (pLs p c).2 ≤ (pLs p c).1 := by unfold pLs; split <;> assumption
theorem pGp_0 {a0 a1 b0 b1 p : Int} (h1 : a0 ≤ p ∧ p ≤ a1) (h2 : b0 ≤ p ∧ p ≤ b1) : pGp a0 a1 b0 b1 = 0 := by unfold pGp; repeat' split <;> omega
theorem pGap_0 {x0 x1 y0 y1 u0 u1 v0 v1 p q : Int} (h1 : x0 ≤ p ∧ p ≤ x1) (h2 : y0 ≤ q ∧ q ≤ y1) (h3 : u0 ≤ p ∧ p ≤ u1) (h4 : v0 ≤ q ∧ q ≤ v1) : pGap x0 x1 y0 y1 u0 u1 v0 v1 = 0 := by
  unfold pGap
  rw [pGp_0 h1 h3, pGp_0 h2 h4]
  rfl
theorem p_btw {a v b x0 x1 : Int} (h : zBtw a v b = true) (h1 : x0 ≤ a ∧ a ≤ x1) (h2 : x0 ≤ b ∧ b ≤ x1) : x0 ≤ v ∧ v ≤ x1 := by
  unfold zBtw at h
  have := of_decide_eq_true h
  omega
/-- two sides that cross: no gap along an axis -/
theorem p_cross {T1 T2 T3 T4 a b c d x0 x1 u0 u1 : Int} (h1 : zOpp T1 T2 = true) (h2 : zOpp T3 T4 = true) (hs : T4 - T3 = -(T2 - T1)) (he : a * T4 - b * T3 = -(c * T2 - d * T1)) (ha : x0 ≤ a ∧ a ≤ x1) (hb : x0 ≤ b ∧ b ≤ x1) (hc : u0 ≤ c ∧ c ≤ u1) (hd : u0 ≤ d ∧ d ≤ u1) : pGp x0 x1 u0 u1 = 0 := by
  have k1 := of_decide_eq_true h1
  have k2 := of_decide_eq_true h2
  have key : ∀ A B C D l h : Int, 0 < A → 0 < B → A + B = C + D → 0 < C → 0 < D → a * A + b * B = c * C + d * D → a ≤ l → b ≤ l → h ≤ c → h ≤ d → h ≤ l := by
    intro A B C D l h hA hB hAB hC hD e q1 q2 q3 q4
    have r1 : a * A ≤ l * A := Int.mul_le_mul_of_nonneg_right q1 (by omega)
    have r2 : b * B ≤ l * B := Int.mul_le_mul_of_nonneg_right q2 (by omega)
    have r3 : h * C ≤ c * C := Int.mul_le_mul_of_nonneg_right q3 (by omega)
    have r4 : h * D ≤ d * D := Int.mul_le_mul_of_nonneg_right q4 (by omega)
    have r5 : h * (A + B) ≤ l * (A + B) := by
      rw [Int.mul_add l, hAB, Int.mul_add]
      omega
    exact Int.le_of_mul_le_mul_right r5 (by omega)
  have key2 : ∀ A B C D l h : Int, 0 < A → 0 < B → A + B = C + D → 0 < C → 0 < D → a * A + b * B = c * C + d * D → l ≤ a → l ≤ b → c ≤ h → d ≤ h → l ≤ h := by
    intro A B C D l h hA hB hAB hC hD e q1 q2 q3 q4
    have r1 : l * A ≤ a * A := Int.mul_le_mul_of_nonneg_right q1 (by omega)
    have r2 : l * B ≤ b * B := Int.mul_le_mul_of_nonneg_right q2 (by omega)
    have r3 : c * C ≤ h * C := Int.mul_le_mul_of_nonneg_right q3 (by omega)
    have r4 : d * D ≤ h * D := Int.mul_le_mul_of_nonneg_right q4 (by omega)
    have r5 : l * (A + B) ≤ h * (A + B) := by
      rw [Int.mul_add l, hAB, Int.mul_add]
      omega
    exact Int.le_of_mul_le_mul_right r5 (by omega)
  have n1 : a * (-T4) = -(a * T4) := Int.mul_neg ..
  have n2 : b * (-T3) = -(b * T3) := Int.mul_neg ..
  have n3 : c * (-T2) = -(c * T2) := Int.mul_neg ..
  have n4 : d * (-T1) = -(d * T1) := Int.mul_neg ..
  have g1 : u0 ≤ x1 ∧ x0 ≤ u1 := by
    rcases k2 with k2 | k2
    · rcases k1 with k1 | k1
      · exact ⟨by omega, by omega⟩
      · exact ⟨key T4 (-T3) (-T2) T1 x1 u0 (by omega) (by omega) (by omega) (by omega) (by omega) (by omega) (by omega) (by omega) (by omega) (by omega), key2 T4 (-T3) (-T2) T1 x0 u1 (by omega) (by omega) (by omega) (by omega) (by omega) (by omega) (by omega) (by omega) (by omega) (by omega)⟩
    · rcases k1 with k1 | k1
      · exact ⟨key (-T4) T3 T2 (-T1) x1 u0 (by omega) (by omega) (by omega) (by omega) (by omega) (by omega) (by omega) (by omega) (by omega) (by omega), key2 (-T4) T3 T2 (-T1) x0 u1 (by omega) (by omega) (by omega) (by omega) (by omega) (by omega) (by omega) (by omega) (by omega) (by omega)⟩
      · exact ⟨by omega, by omega⟩
  unfold pGp
  rw [if_neg (by omega), if_neg (by omega)]
theorem p_mt_gap {x0 x1 y0 y1 u0 u1 v0 v1 ax ay bx bz cx cy dx dy : Int} (h : zMt ax ay bx bz cx cy dx dy = true) (h1 : x0 ≤ ax ∧ ax ≤ x1) (h2 : y0 ≤ ay ∧ ay ≤ y1) (h3 : x0 ≤ bx ∧ bx ≤ x1) (h4 : y0 ≤ bz ∧ bz ≤ y1) (h5 : u0 ≤ cx ∧ cx ≤ u1) (h6 : v0 ≤ cy ∧ cy ≤ v1) (h7 : u0 ≤ dx ∧ dx ≤ u1) (h8 : v0 ≤ dy ∧ dy ≤ v1) : pGap x0 x1 y0 y1 u0 u1 v0 v1 = 0 := by
  unfold zMt at h
  simp only [Bool.or_eq_true, Bool.and_eq_true] at h
  have on : ∀ {a b c d e f : Int}, zOn a b c d e f = true → zBtw a e c = true ∧ zBtw b f d = true := by
    intro a b c d e f h
    unfold zOn at h
    simp only [Bool.and_eq_true] at h
    exact h.2
  rcases h with ⟨k1, k2⟩ | k | k | k | k
  · unfold pGap
    rw [p_cross k1 k2 (by unfold zTurn; grind) (by unfold zTurn; grind) h1 h3 h5 h7, p_cross k1 k2 (by unfold zTurn; grind) (by unfold zTurn; grind) h2 h4 h6 h8]
    rfl
  · exact pGap_0 (p_btw (on k).1 h1 h3) (p_btw (on k).2 h2 h4) h5 h6
  · exact pGap_0 (p_btw (on k).1 h1 h3) (p_btw (on k).2 h2 h4) h7 h8
  · exact pGap_0 h1 h2 (p_btw (on k).1 h5 h7) (p_btw (on k).2 h6 h8)
  · exact pGap_0 h3 h4 (p_btw (on k).1 h5 h7) (p_btw (on k).2 h6 h8)
theorem pGap_sym {x0 x1 y0 y1 u0 u1 v0 v1 : Int} (h1 : x0 ≤ x1) (h2 : y0 ≤ y1) (h3 : u0 ≤ u1) (h4 : v0 ≤ v1) : pGap x0 x1 y0 y1 u0 u1 v0 v1 = pGap u0 u1 v0 v1 x0 x1 y0 y1 := by
  unfold pGap
  rw [pGp_sym h1 h3, pGp_sym h2 h4]
theorem p_gap {x y x2 y2 : Nat → Int} {n n2 : Nat} {kd kd2 x0 x1 y0 y1 u0 u1 v0 v1 : Int} (hx : ∀ i, i < n → x0 ≤ x i ∧ x i ≤ x1) (hy : ∀ i, i < n → y0 ≤ y i ∧ y i ≤ y1) (hx2 : ∀ i, i < n2 → u0 ≤ x2 i ∧ x2 i ≤ u1) (hy2 : ∀ i, i < n2 → v0 ≤ y2 i ∧ y2 i ≤ v1) (hn : 0 < n) (hn2 : 0 < n2) (b1 : 0 ≤ x0 ∧ x1 ≤ 255) (b2 : 0 ≤ y0 ∧ y1 ≤ 255) (b3 : 0 ≤ u0 ∧ u1 ≤ 255) (b4 : 0 ≤ v0 ∧ v1 ≤ 255) : pGap x0 x1 y0 y1 u0 u1 v0 v1 * (pOut x y x2 y2 n n2 kd kd2).2 ≤ (pOut x y x2 y2 n n2 kd kd2).1 := by
  have o1 := hx 0 hn
  have o2 := hy 0 hn
  have o3 := hx2 0 hn2
  have o4 := hy2 0 hn2
  unfold pOut
  refine pF2_inv (fun p : Int × Int => pGap x0 x1 y0 y1 u0 u1 v0 v1 * p.2 ≤ p.1) ?_ ?_
  · split
    · rename_i hm
      have : pGap x0 x1 y0 y1 u0 u1 v0 v1 = 0 := by
        unfold pMeet at hm
        simp only [Bool.or_eq_true, Bool.and_eq_true, decide_eq_true_eq] at hm
        rcases hm with hm | ⟨_, hm⟩ | ⟨_, hm⟩
        · obtain ⟨i, j, hi, hj, h⟩ := pMeet_t.mp hm
          have i1 : i < n := Nat.lt_of_lt_of_le hi (pSd_le ..)
          have j1 : j < n2 := Nat.lt_of_lt_of_le hj (pSd_le ..)
          have i2 := pE_lt (i := i) hn
          have j2 := pE_lt (i := j) hn2
          exact p_mt_gap h (hx _ i1) (hy _ i1) (hx _ i2) (hy _ i2) (hx2 _ j1) (hy2 _ j1) (hx2 _ j2) (hy2 _ j2)
        · have := p_within hx2 hy2 hm
          exact pGap_0 o1 o2 this.1 this.2
        · have := p_within hx hy hm
          exact pGap_0 this.1 this.2 o3 o4
      rw [this]
      exact Int.le_of_eq (Int.zero_mul _)
    · show pGap x0 x1 y0 y1 u0 u1 v0 v1 * 1 ≤ 1000000
      have k1 : pGp x0 x1 u0 u1 ≤ 255 := by unfold pGp; repeat' split <;> omega
      have k2 : pGp y0 y1 v0 v1 ≤ 255 := by unfold pGp; repeat' split <;> omega
      have k3 := Int.mul_le_mul k1 k1 (pGp_nn ..) (by omega)
      have k4 := Int.mul_le_mul k2 k2 (pGp_nn ..) (by omega)
      unfold pGap
      omega
  · intro i j p hi hj hp
    have i1 : i < n := Nat.lt_of_lt_of_le hi (pSd_le ..)
    have j1 : j < n2 := Nat.lt_of_lt_of_le hj (pSd_le ..)
    have i2 := pE_lt (i := i) hn
    have j2 := pE_lt (i := j) hn2
    have sy := pGap_sym (x0 := x0) (x1 := x1) (y0 := y0) (y1 := y1) (u0 := u0) (u1 := u1) (v0 := v0) (v1 := v1) (by omega) (by omega) (by omega) (by omega)
    refine pLs_gap (pLs_gap (pLs_gap (pLs_gap hp (p_gap_cd (hx _ i1) (hy _ i1) (hx _ i2) (hy _ i2) (hx2 _ j1) (hy2 _ j1))) (p_gap_cd (hx _ i1) (hy _ i1) (hx _ i2) (hy _ i2) (hx2 _ j2) (hy2 _ j2))) ?_) ?_
    · rw [sy]
      exact p_gap_cd (hx2 _ j1) (hy2 _ j1) (hx2 _ j2) (hy2 _ j2) (hx _ i1) (hy _ i1)
    · rw [sy]
      exact p_gap_cd (hx2 _ j1) (hy2 _ j1) (hx2 _ j2) (hy2 _ j2) (hx _ i2) (hy _ i2)
