-- the index of nested squares: nodes against squares of rows
def ixQ (X Y : Nat → Int) (r l : Nat) : Nat × Int × Int := (l, X r / 2 ^ (8 - l), Y r / 2 ^ (8 - l))
/-- row r has square s; d r: how many levels of it are in -/
def ixH (d : Nat → Nat) (X Y : Nat → Int) (s : Nat × Int × Int) (r : Nat) : Prop := s.1 < d r ∧ ixQ X Y r s.1 = s
def ixC (s : Nat × Int × Int) (q : Nat) : Nat × Int × Int := (s.1 + 1, 2 * s.2.1 + ((q % 2 : Nat) : Int), 2 * s.2.2 + ((q / 2 : Nat) : Int))
def ixLo (P : Nat → Prop) (f : Nat → Int) (v : Int) : Prop := (∃ r, r < 16 ∧ P r ∧ f r = v) ∧ ∀ r, r < 16 → P r → v ≤ f r
def ixHi (P : Nat → Prop) (f : Nat → Int) (v : Int) : Prop := (∃ r, r < 16 ∧ P r ∧ f r = v) ∧ ∀ r, r < 16 → P r → f r ≤ v
def ixS (d : Nat → Nat) : Nat → Nat
  | 0 => 0
  | n + 1 => ixS d n + (d n - 1)
def ixI (N : Nat) (sq : Nat → Nat × Int × Int) (pt : Nat → Nat → Nat) (d : Nat → Nat) (X Y : Nat → Int) : Prop :=
  (∀ i j, i < N → j < N → sq i = sq j → i = j) ∧ (∀ i, i < N → ∃ r, r < 16 ∧ ixH d X Y (sq i) r) ∧ (∀ r l, r < 16 → l < d r → ∃ i, i < N ∧ sq i = ixQ X Y r l) ∧ (0 < N → sq 0 = (0, 0, 0)) ∧ (∀ i q, i < N → q < 4 → (pt i q = 0 ∧ ∀ j, j < N → sq j ≠ ixC (sq i) q) ∨ (0 < pt i q ∧ pt i q < N ∧ sq (pt i q) = ixC (sq i) q)) ∧ N ≤ 1 + ixS d 16
def ixR (N : Nat) (sq : Nat → Nat × Int × Int) (x0 y0 x1 y1 : Nat → Int) (d : Nat → Nat) (X Y X1 Y1 : Nat → Int) : Prop :=
  ∀ i, i < N → ixLo (ixH d X Y (sq i)) X (x0 i) ∧ ixLo (ixH d X Y (sq i)) Y (y0 i) ∧ ixHi (ixH d X Y (sq i)) X1 (x1 i) ∧ ixHi (ixH d X Y (sq i)) Y1 (y1 i)
def ixU (d : Nat → Nat) (r k : Nat) : Nat → Nat := fun i => if i = r then k else d i
theorem ixS_ge {d e : Nat → Nat} : ∀ {n : Nat}, (∀ i, i < n → d i ≤ e i) → ixS d n ≤ ixS e n
  | 0, _ => Nat.le_refl _
  | n + 1, h => by
    have h1 := ixS_ge (d := d) (e := e) (n := n) (fun i hi => h i (by omega))
    have h2 := h n (by omega)
    show ixS d n + (d n - 1) ≤ ixS e n + (e n - 1)
    omega
theorem ixS_up {d : Nat → Nat} {r : Nat} (h1 : 1 ≤ d r) : ∀ {n : Nat}, r < n → ixS (ixU d r (d r + 1)) n = ixS d n + 1
  | 0, h => absurd h (Nat.not_lt_zero _)
  | n + 1, h => by
    show ixS (ixU d r (d r + 1)) n + (ixU d r (d r + 1) n - 1) = ixS d n + (d n - 1) + 1
    by_cases e : r = n
    · subst e
      have : ∀ m, m ≤ r → ixS (ixU d r (d r + 1)) m = ixS d m := by
        intro m
        induction m with
        | zero => intro _; rfl
        | succ m ih =>
          intro hm
          show ixS (ixU d r (d r + 1)) m + (ixU d r (d r + 1) m - 1) = ixS d m + (d m - 1)
          rw [ih (by omega)]
          unfold ixU
          rw [if_neg (by omega)]
      rw [this r (Nat.le_refl _)]
      unfold ixU
      rw [if_pos rfl]
      omega
    · rw [ixS_up h1 (n := n) (by omega)]
      unfold ixU
      rw [if_neg (by omega)]
      omega
theorem ixS_max {d : Nat → Nat} {r k : Nat} (hk : d r ≤ k) : ∀ {n : Nat}, r < n → (∀ i, i < n → d i ≤ 9) → 1 ≤ k → k ≤ 9 → ixS d n + 9 ≤ 8 * n + k
  | 0, h, _, _, _ => absurd h (Nat.not_lt_zero _)
  | n + 1, h, h9, hk1, hk9 => by
    show ixS d n + (d n - 1) + 9 ≤ 8 * (n + 1) + k
    by_cases e : r = n
    · subst e
      have : ∀ m, m ≤ r → ixS d m ≤ 8 * m := by
        intro m
        induction m with
        | zero => intro _; exact Nat.le_refl _
        | succ m ih =>
          intro hm
          have := ih (by omega)
          have := h9 m (by omega)
          show ixS d m + (d m - 1) ≤ 8 * (m + 1)
          omega
      have := this r (Nat.le_refl _)
      omega
    · have := ixS_max hk (n := n) (by omega) (fun i hi => h9 i (by omega)) hk1 hk9
      have := h9 n (by omega)
      omega
theorem ixH_up {d : Nat → Nat} {X Y : Nat → Int} {s : Nat × Int × Int} {r k x : Nat} (hr : d r = k) : ixH (ixU d r (k + 1)) X Y s x ↔ ixH d X Y s x ∨ (x = r ∧ s = ixQ X Y r k) := by
  unfold ixH ixU
  by_cases e : x = r
  · subst e
    rw [if_pos rfl, hr]
    constructor
    · rintro ⟨h1, h2⟩
      by_cases h3 : s.1 = k
      · right
        rw [h3] at h2
        exact ⟨rfl, h2.symm⟩
      · left
        exact ⟨by omega, h2⟩
    · rintro (⟨h1, h2⟩ | ⟨_, h2⟩)
      · exact ⟨by omega, h2⟩
      · rw [h2]
        exact ⟨Nat.lt_succ_self k, rfl⟩
  · rw [if_neg e]
    constructor
    · exact fun h => Or.inl h
    · rintro (h | ⟨h, _⟩)
      · exact h
      · exact absurd h e
theorem ixLo_add {P Q : Nat → Prop} {f : Nat → Int} {v : Int} {r : Nat} (hr : r < 16) (h : ixLo P f v) (hQ : ∀ x, Q x ↔ P x ∨ x = r) : ixLo Q f (min v (f r)) := by
  obtain ⟨⟨a, ha, hP, e⟩, hl⟩ := h
  constructor
  · by_cases h2 : v ≤ f r
    · exact ⟨a, ha, (hQ a).mpr (Or.inl hP), by omega⟩
    · exact ⟨r, hr, (hQ r).mpr (Or.inr rfl), by omega⟩
  · intro x hx hq
    rcases (hQ x).mp hq with h3 | h3
    · have := hl x hx h3
      omega
    · subst h3
      omega
theorem ixHi_add {P Q : Nat → Prop} {f : Nat → Int} {v : Int} {r : Nat} (hr : r < 16) (h : ixHi P f v) (hQ : ∀ x, Q x ↔ P x ∨ x = r) : ixHi Q f (max v (f r)) := by
  obtain ⟨⟨a, ha, hP, e⟩, hl⟩ := h
  constructor
  · by_cases h2 : f r ≤ v
    · exact ⟨a, ha, (hQ a).mpr (Or.inl hP), by omega⟩
    · exact ⟨r, hr, (hQ r).mpr (Or.inr rfl), by omega⟩
  · intro x hx hq
    rcases (hQ x).mp hq with h3 | h3
    · have := hl x hx h3
      omega
    · subst h3
      omega
theorem ixLo_eq {P Q : Nat → Prop} {f : Nat → Int} {v : Int} (h : ixLo P f v) (hQ : ∀ x, Q x ↔ P x) : ixLo Q f v := by
  obtain ⟨⟨a, ha, hP, e⟩, hl⟩ := h
  exact ⟨⟨a, ha, (hQ a).mpr hP, e⟩, fun x hx hq => hl x hx ((hQ x).mp hq)⟩
theorem ixHi_eq {P Q : Nat → Prop} {f : Nat → Int} {v : Int} (h : ixHi P f v) (hQ : ∀ x, Q x ↔ P x) : ixHi Q f v := by
  obtain ⟨⟨a, ha, hP, e⟩, hl⟩ := h
  exact ⟨⟨a, ha, (hQ a).mpr hP, e⟩, fun x hx hq => hl x hx ((hQ x).mp hq)⟩
theorem ixLo_uni {P : Nat → Prop} {f : Nat → Int} {v v' : Int} (h : ixLo P f v) (h' : ixLo P f v') : v = v' := by
  obtain ⟨⟨a, ha, hP, e⟩, hl⟩ := h
  obtain ⟨⟨a', ha', hP', e'⟩, hl'⟩ := h'
  have := hl a' ha' hP'
  have := hl' a ha hP
  omega
theorem ixHi_uni {P : Nat → Prop} {f : Nat → Int} {v v' : Int} (h : ixHi P f v) (h' : ixHi P f v') : v = v' := by
  obtain ⟨⟨a, ha, hP, e⟩, hl⟩ := h
  obtain ⟨⟨a', ha', hP', e'⟩, hl'⟩ := h'
  have := hl a' ha' hP'
  have := hl' a ha hP
  omega
/-- a node that stands is stretched to a row's next level -/
theorem ix_old {N : Nat} {sq : Nat → Nat × Int × Int} {pt : Nat → Nat → Nat} {x0 y0 x1 y1 x0' y0' x1' y1' : Nat → Int} {d : Nat → Nat} {X Y X1 Y1 : Nat → Int} {r k m : Nat} (hI : ixI N sq pt d X Y) (hR : ixR N sq x0 y0 x1 y1 d X Y X1 Y1) (hr : r < 16) (hk : d r = k) (hm : m < N) (hq : sq m = ixQ X Y r k)
    (e : ∀ i, i < N → i ≠ m → x0' i = x0 i ∧ y0' i = y0 i ∧ x1' i = x1 i ∧ y1' i = y1 i) (e0 : x0' m = min (x0 m) (X r)) (e1 : y0' m = min (y0 m) (Y r)) (e2 : x1' m = max (x1 m) (X1 r)) (e3 : y1' m = max (y1 m) (Y1 r)) : ixI N sq pt (ixU d r (k + 1)) X Y ∧ ixR N sq x0' y0' x1' y1' (ixU d r (k + 1)) X Y X1 Y1 := by
  obtain ⟨i1, i2, i3, i4, i5, i6⟩ := hI
  refine ⟨⟨i1, ?_, ?_, i4, i5, ?_⟩, ?_⟩
  · intro i hi
    obtain ⟨x, hx, h⟩ := i2 i hi
    exact ⟨x, hx, (ixH_up hk).mpr (Or.inl h)⟩
  · intro x l hx hl
    by_cases h : l < d x
    · exact i3 x l hx h
    · unfold ixU at hl
      by_cases ex : x = r
      · subst ex
        rw [if_pos rfl] at hl
        have : l = k := by omega
        subst this
        exact ⟨m, hm, hq⟩
      · rw [if_neg ex] at hl
        exact absurd hl h
  · have : ixS d 16 ≤ ixS (ixU d r (k + 1)) 16 := ixS_ge (fun i _ => by unfold ixU; split <;> (try subst_vars) <;> omega)
    omega
  · intro i hi
    obtain ⟨r1, r2, r3, r4⟩ := hR i hi
    by_cases him : i = m
    · subst him
      have hQ : ∀ x, ixH (ixU d r (k + 1)) X Y (sq i) x ↔ ixH d X Y (sq i) x ∨ x = r := by
        intro x
        rw [ixH_up hk]
        constructor
        · rintro (h | ⟨h, _⟩)
          · exact Or.inl h
          · exact Or.inr h
        · rintro (h | h)
          · exact Or.inl h
          · exact Or.inr ⟨h, hq⟩
      rw [e0, e1, e2, e3]
      exact ⟨ixLo_add hr r1 hQ, ixLo_add hr r2 hQ, ixHi_add hr r3 hQ, ixHi_add hr r4 hQ⟩
    · have hQ : ∀ x, ixH (ixU d r (k + 1)) X Y (sq i) x ↔ ixH d X Y (sq i) x := by
        intro x
        rw [ixH_up hk]
        constructor
        · rintro (h | ⟨_, h⟩)
          · exact h
          · exact absurd (i1 i m hi hm (h.trans hq.symm)) him
        · exact fun h => Or.inl h
      obtain ⟨f0, f1, f2, f3⟩ := e i hi him
      rw [f0, f1, f2, f3]
      exact ⟨ixLo_eq r1 hQ, ixLo_eq r2 hQ, ixHi_eq r3 hQ, ixHi_eq r4 hQ⟩
theorem ix_one {d : Nat → Nat} {X Y : Nat → Int} {r k : Nat} (hk : d r = k) (hno : ∀ x, x < 16 → ¬ ixH d X Y (ixQ X Y r k) x) (hr : r < 16) (f : Nat → Int) : ixLo (ixH (ixU d r (k + 1)) X Y (ixQ X Y r k)) f (f r) ∧ ixHi (ixH (ixU d r (k + 1)) X Y (ixQ X Y r k)) f (f r) := by
  have : ∀ x, x < 16 → ixH (ixU d r (k + 1)) X Y (ixQ X Y r k) x → x = r := by
    intro x hx h
    rcases (ixH_up hk).mp h with h | ⟨h, _⟩
    · exact absurd h (hno x hx)
    · exact h
  have h1 : ixH (ixU d r (k + 1)) X Y (ixQ X Y r k) r := (ixH_up hk).mpr (Or.inr ⟨rfl, rfl⟩)
  exact ⟨⟨⟨r, hr, h1, rfl⟩, fun x hx h => by rw [this x hx h]; exact Int.le_refl _⟩, ⟨⟨r, hr, h1, rfl⟩, fun x hx h => by rw [this x hx h]; exact Int.le_refl _⟩⟩
/-- the first node of all -/
theorem ix_root {sq : Nat → Nat × Int × Int} {pt : Nat → Nat → Nat} {x0 y0 x1 y1 : Nat → Int} {d : Nat → Nat} {X Y X1 Y1 : Nat → Int} {r : Nat} (hI : ixI 0 sq pt d X Y) (hr : r < 16) (hd : d r = 0) (hs : sq 0 = (0, 0, 0)) (hq : ixQ X Y r 0 = (0, 0, 0)) (hp : ∀ q, q < 4 → pt 0 q = 0) (e0 : x0 0 = X r) (e1 : y0 0 = Y r) (e2 : x1 0 = X1 r) (e3 : y1 0 = Y1 r) : ixI 1 sq pt (ixU d r 1) X Y ∧ ixR 1 sq x0 y0 x1 y1 (ixU d r 1) X Y X1 Y1 := by
  obtain ⟨i1, i2, i3, i4, i5, i6⟩ := hI
  have hz : ∀ x, x < 16 → d x = 0 := by
    intro x hx
    cases h : d x with
    | zero => rfl
    | succ n =>
      obtain ⟨i, hi, _⟩ := i3 x 0 hx (by omega)
      exact absurd hi (Nat.not_lt_zero _)
  have hno : ∀ x, x < 16 → ¬ ixH d X Y (ixQ X Y r 0) x := by
    intro x hx h
    have h1 := h.1
    rw [hz x hx] at h1
    exact absurd h1 (Nat.not_lt_zero _)
  refine ⟨⟨fun i j hi hj _ => by omega, ?_, ?_, fun _ => hs, ?_, by omega⟩, ?_⟩
  · intro i hi
    have : i = 0 := by omega
    subst this
    refine ⟨r, hr, (ixH_up hd).mpr (Or.inr ⟨rfl, ?_⟩)⟩
    rw [hs, hq]
  · intro x l hx hl
    unfold ixU at hl
    by_cases ex : x = r
    · subst ex
      rw [if_pos rfl] at hl
      have : l = 0 := by omega
      subst this
      exact ⟨0, by omega, by rw [hs, hq]⟩
    · rw [if_neg ex, hz x hx] at hl
      exact absurd hl (Nat.not_lt_zero _)
  · intro i q hi hq4
    have : i = 0 := by omega
    subst this
    left
    refine ⟨hp q hq4, ?_⟩
    intro j hj
    have : j = 0 := by omega
    subst this
    rw [hs]
    intro e
    have := congrArg Prod.fst e
    have : 0 = 0 + 1 := this
    omega
  · intro i hi
    have : i = 0 := by omega
    subst this
    rw [e0, e1, e2, e3, hs, ← hq]
    exact ⟨(ix_one hd hno hr X).1, (ix_one hd hno hr Y).1, (ix_one hd hno hr X1).2, (ix_one hd hno hr Y1).2⟩
theorem ix_par (v : Int) {k : Nat} (hk : k < 8) : v / 2 ^ (8 - k) = v / 2 ^ (8 - (k + 1)) / 2 := by
  have h2 : (2 : Int) ^ (8 - k) = 2 ^ (8 - (k + 1)) * 2 := by
    rw [← Int.pow_succ]
    congr 1
    omega
  rw [h2]
  exact (Int.ediv_ediv_of_nonneg (Int.le_of_lt (Int.pow_pos (by decide)))).symm
/-- a new node under a node that stands -/
theorem ix_new {N : Nat} {sq sq' : Nat → Nat × Int × Int} {pt pt' : Nat → Nat → Nat} {x0 y0 x1 y1 x0' y0' x1' y1' : Nat → Int} {d : Nat → Nat} {X Y X1 Y1 : Nat → Int} {r k m q : Nat} (hI : ixI N sq pt d X Y) (hR : ixR N sq x0 y0 x1 y1 d X Y X1 Y1) (hr : r < 16) (hk : d r = k) (hk1 : 1 ≤ k) (hd9 : ∀ x, x < 16 → d x ≤ 9) (hm : m < N) (hq4 : q < 4) (hc : ixC (sq m) q = ixQ X Y r k) (h0 : pt m q = 0)
    (hs : ∀ i, i < N → sq' i = sq i) (hsN : sq' N = ixQ X Y r k) (hp : ∀ i p, i < N → p < 4 → ¬ (i = m ∧ p = q) → pt' i p = pt i p) (hpm : pt' m q = N) (hpN : ∀ p, p < 4 → pt' N p = 0)
    (e : ∀ i, i < N → x0' i = x0 i ∧ y0' i = y0 i ∧ x1' i = x1 i ∧ y1' i = y1 i) (e0 : x0' N = X r) (e1 : y0' N = Y r) (e2 : x1' N = X1 r) (e3 : y1' N = Y1 r) : ixI (N + 1) sq' pt' (ixU d r (k + 1)) X Y ∧ ixR (N + 1) sq' x0' y0' x1' y1' (ixU d r (k + 1)) X Y X1 Y1 := by
  obtain ⟨i1, i2, i3, i4, i5, i6⟩ := hI
  have hno : ∀ j, j < N → sq j ≠ ixQ X Y r k := by
    rcases i5 m q hm hq4 with ⟨_, h⟩ | ⟨h, _⟩
    · rw [hc] at h
      exact h
    · omega
  have hnoH : ∀ x, x < 16 → ¬ ixH d X Y (ixQ X Y r k) x := by
    intro x hx h
    obtain ⟨i, hi, ei⟩ := i3 x k hx h.1
    have h2 : ixQ X Y x k = ixQ X Y r k := h.2
    exact hno i hi (ei.trans h2)
  have hinj : ∀ a b : Nat × Int × Int, ∀ p p' : Nat, p < 4 → p' < 4 → ixC a p = ixC b p' → a = b ∧ p = p' := by
    intro a b p p' h1 h2 e
    unfold ixC at e
    simp only [Prod.mk.injEq] at e
    obtain ⟨ea, eb, ec⟩ := e
    refine ⟨?_, by omega⟩
    refine Prod.ext (by omega) (Prod.ext (by omega) (by omega))
  refine ⟨⟨?_, ?_, ?_, ?_, ?_, ?_⟩, ?_⟩
  · intro i j hi hj eq
    by_cases hi2 : i = N <;> by_cases hj2 : j = N
    · omega
    · subst hi2
      rw [hsN, hs j (by omega)] at eq
      exact absurd eq.symm (hno j (by omega))
    · subst hj2
      rw [hsN, hs i (by omega)] at eq
      exact absurd eq (hno i (by omega))
    · rw [hs i (by omega), hs j (by omega)] at eq
      exact i1 i j (by omega) (by omega) eq
  · intro i hi
    by_cases hi2 : i = N
    · subst hi2
      exact ⟨r, hr, (ixH_up hk).mpr (Or.inr ⟨rfl, hsN⟩)⟩
    · rw [hs i (by omega)]
      obtain ⟨x, hx, h⟩ := i2 i (by omega)
      exact ⟨x, hx, (ixH_up hk).mpr (Or.inl h)⟩
  · intro x l hx hl
    by_cases h : l < d x
    · obtain ⟨i, hi, ei⟩ := i3 x l hx h
      exact ⟨i, by omega, (hs i hi).trans ei⟩
    · unfold ixU at hl
      by_cases ex : x = r
      · subst ex
        rw [if_pos rfl] at hl
        have : l = k := by omega
        subst this
        exact ⟨N, by omega, hsN⟩
      · rw [if_neg ex] at hl
        exact absurd hl h
  · intro _
    rw [hs 0 (by omega)]
    exact i4 (by omega)
  · intro i p hi hp4
    by_cases hi2 : i = N
    · subst hi2
      left
      refine ⟨hpN p hp4, ?_⟩
      intro j hj ej
      rw [hsN] at ej
      by_cases hj2 : j = i
      · subst hj2
        rw [hsN] at ej
        have := congrArg Prod.fst ej
        have : k = k + 1 := this
        omega
      · rw [hs j (by omega)] at ej
        obtain ⟨x, hx, hx1, hx2⟩ := i2 j (by omega)
        have l1 : (sq j).1 = k + 1 := by rw [ej]; rfl
        rw [l1] at hx1 hx2
        have hx3 : ixQ X Y x k = ixQ X Y r k := by
          rw [ej] at hx2
          unfold ixQ ixC at hx2
          unfold ixQ
          simp only [Prod.mk.injEq] at hx2 ⊢
          obtain ⟨_, ea, eb⟩ := hx2
          by_cases hk8 : k < 8
          · have a1 := ix_par (X x) hk8
            have a2 := ix_par (X r) hk8
            have a3 := ix_par (Y x) hk8
            have a4 := ix_par (Y r) hk8
            exact ⟨trivial, by omega, by omega⟩
          · exfalso
            have := hd9 x hx
            omega
        obtain ⟨i, hi, ei⟩ := i3 x k hx (by omega)
        exact hno i hi (ei.trans hx3)
    · rw [hs i (by omega)]
      by_cases hip : i = m ∧ p = q
      · obtain ⟨rfl, rfl⟩ := hip
        right
        rw [hpm]
        exact ⟨by omega, by omega, by rw [hsN, hc]⟩
      · rw [hp i p (by omega) hp4 hip]
        rcases i5 i p (by omega) hp4 with ⟨h1, h2⟩ | ⟨h1, h2, h3⟩
        · left
          refine ⟨h1, ?_⟩
          intro j hj ej
          by_cases hj2 : j = N
          · subst hj2
            rw [hsN, ← hc] at ej
            obtain ⟨ea, eb⟩ := hinj _ _ _ _ hq4 hp4 ej
            exact hip ⟨(i1 m i hm (by omega) ea).symm, eb.symm⟩
          · rw [hs j (by omega)] at ej
            exact h2 j (by omega) ej
        · right
          exact ⟨h1, by omega, by rw [hs _ h2]; exact h3⟩
  · have := ixS_up (d := d) (r := r) (by omega) hr
    rw [hk] at this
    omega
  · intro i hi
    by_cases hi2 : i = N
    · subst hi2
      rw [e0, e1, e2, e3, hsN]
      exact ⟨(ix_one hk hnoH hr X).1, (ix_one hk hnoH hr Y).1, (ix_one hk hnoH hr X1).2, (ix_one hk hnoH hr Y1).2⟩
    · obtain ⟨r1, r2, r3, r4⟩ := hR i (by omega)
      have hQ : ∀ x, ixH (ixU d r (k + 1)) X Y (sq i) x ↔ ixH d X Y (sq i) x := by
        intro x
        rw [ixH_up hk]
        constructor
        · rintro (h | ⟨_, h⟩)
          · exact h
          · exact absurd h (hno i (by omega))
        · exact fun h => Or.inl h
      obtain ⟨f0, f1, f2, f3⟩ := e i (by omega)
      rw [f0, f1, f2, f3, hs i (by omega)]
      exact ⟨ixLo_eq r1 hQ, ixLo_eq r2 hQ, ixHi_eq r3 hQ, ixHi_eq r4 hQ⟩
/-- row r is the first that has its square of level l -/
def ixF (d : Nat → Nat) (X Y : Nat → Int) (r l : Nat) : Bool := (List.range r).all (fun s => !(decide (l < d s) && decide (ixQ X Y s l = ixQ X Y r l)))
def ixL (d : Nat → Nat) (X Y : Nat → Int) : List (Nat × Int × Int) := (List.range 16).flatMap (fun r => ((List.range (d r)).filter (fun l => ixF d X Y r l)).map (ixQ X Y r))
theorem ixF_t {d : Nat → Nat} {X Y : Nat → Int} {r l : Nat} : ixF d X Y r l = true ↔ ∀ s, s < r → l < d s → ixQ X Y s l ≠ ixQ X Y r l := by
  unfold ixF
  rw [List.all_eq_true]
  constructor
  · intro h s hs hl e
    have := h s (List.mem_range.mpr hs)
    simp [hl, e] at this
  · intro h s hs
    have := h s (List.mem_range.mp hs)
    by_cases hl : l < d s
    · simp [hl, this hl]
    · simp [hl]
theorem ixL_mem {d : Nat → Nat} {X Y : Nat → Int} {s : Nat × Int × Int} : s ∈ ixL d X Y ↔ ∃ r, r < 16 ∧ ixH d X Y s r := by
  unfold ixL
  simp only [List.mem_flatMap, List.mem_range, List.mem_map, List.mem_filter]
  constructor
  · rintro ⟨r, hr, l, ⟨hl, hf⟩, e⟩
    subst e
    exact ⟨r, hr, hl, rfl⟩
  · rintro ⟨r, hr, h1, h2⟩
    -- the least such row
    have : ∀ n r, r < n → r < 16 → s.1 < d r → ixQ X Y r s.1 = s → ∃ r, r < 16 ∧ s.1 < d r ∧ ixQ X Y r s.1 = s ∧ ∀ q, q < r → s.1 < d q → ixQ X Y q s.1 ≠ s := by
      intro n
      induction n with
      | zero => intro r h; exact absurd h (Nat.not_lt_zero _)
      | succ n ih =>
        intro r hn hr h1 h2
        by_cases hq : ∃ q, q < r ∧ s.1 < d q ∧ ixQ X Y q s.1 = s
        · obtain ⟨q, hq, hq1, hq2⟩ := hq
          exact ih q (by omega) (by omega) hq1 hq2
        · exact ⟨r, hr, h1, h2, fun q hq0 hq1 hq2 => hq ⟨q, hq0, hq1, hq2⟩⟩
    obtain ⟨r, hr, h1, h2, h3⟩ := this (r + 1) r (by omega) hr h1 h2
    exact ⟨r, hr, s.1, ⟨h1, ixF_t.mpr (by rw [h2]; exact h3)⟩, h2⟩
theorem ixL_nodup {d : Nat → Nat} {X Y : Nat → Int} : (ixL d X Y).Nodup := by
  unfold ixL List.Nodup
  rw [List.pairwise_flatMap]
  constructor
  · intro r hr
    rw [List.pairwise_map]
    have : (List.range (d r)).Pairwise (fun a b => a ≠ b) := List.nodup_range
    refine (this.filter _).imp ?_
    intro a b hab e
    exact hab (congrArg Prod.fst e)
  · have : (List.range 16).Pairwise (fun a b => a < b) := List.pairwise_lt_range
    refine this.imp ?_
    intro a b hab s hs t ht
    simp only [List.mem_map, List.mem_filter, List.mem_range] at hs ht
    obtain ⟨l, ⟨hl, hf⟩, e⟩ := hs
    obtain ⟨m, ⟨hm, hg⟩, e'⟩ := ht
    intro est
    have hlm : l = m := by
      rw [← e, ← e'] at est
      exact congrArg Prod.fst est
    subst hlm
    exact ixF_t.mp hg a hab hl (e.trans (est.trans e'.symm))
/-- the nodes are the squares of which a row is the first -/
theorem ix_perm {N : Nat} {sq : Nat → Nat × Int × Int} {pt : Nat → Nat → Nat} {d : Nat → Nat} {X Y : Nat → Int} (hI : ixI N sq pt d X Y) : ((List.range N).map sq).Perm (ixL d X Y) := by
  obtain ⟨i1, i2, i3, i4, i5, i6⟩ := hI
  refine p_perm ?_ ixL_nodup ?_
  · unfold List.Nodup
    rw [List.pairwise_map]
    have : (List.range N).Pairwise (fun a b => a < b) := List.pairwise_lt_range
    refine this.imp_of_mem ?_
    intro a b ha hb hab e
    have := i1 a b (List.mem_range.mp ha) (List.mem_range.mp hb) e
    omega
  · intro s
    rw [ixL_mem]
    simp only [List.mem_map, List.mem_range]
    constructor
    · rintro ⟨i, hi, e⟩
      subst e
      exact i2 i hi
    · rintro ⟨r, hr, h1, h2⟩
      obtain ⟨i, hi, e⟩ := i3 r s.1 hr h1
      exact ⟨i, hi, e.trans h2⟩
