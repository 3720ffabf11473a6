-- rows in order of distance: insertion against ranks
def pLt (t u : Nat → Int) (a b : Nat) : Bool := decide (t a * u b < t b * u a)
def pNr (t u : Nat → Int) (a b : Nat) : Bool := decide (t a * u b < t b * u a ∨ (t a * u b = t b * u a ∧ a < b))
theorem p_tr1 {t u : Nat → Int} {a b c : Nat} (ha : 0 < u a) (hb : 0 < u b) (hc : 0 < u c) (h1 : t a * u b ≤ t b * u a) (h2 : t b * u c ≤ t c * u b) : t a * u c ≤ t c * u a := by
  have q1 : t a * u b * u c ≤ t b * u a * u c := Int.mul_le_mul_of_nonneg_right h1 (by omega)
  have q2 : t b * u c * u a ≤ t c * u b * u a := Int.mul_le_mul_of_nonneg_right h2 (by omega)
  have q3 : u b * (t a * u c) ≤ u b * (t c * u a) := by
    have e1 : u b * (t a * u c) = t a * u b * u c := by grind
    have e2 : u b * (t c * u a) = t c * u b * u a := by grind
    have e3 : t b * u a * u c = t b * u c * u a := by grind
    omega
  exact Int.le_of_mul_le_mul_left q3 hb
theorem p_tr2 {t u : Nat → Int} {a b c : Nat} (ha : 0 < u a) (hb : 0 < u b) (hc : 0 < u c) (h1 : t a * u b < t b * u a) (h2 : t b * u c ≤ t c * u b) : t a * u c < t c * u a := by
  apply Int.lt_of_not_ge
  intro h
  have := p_tr1 (t := t) hb hc ha h2 h
  omega
theorem p_tr3 {t u : Nat → Int} {a b c : Nat} (ha : 0 < u a) (hb : 0 < u b) (hc : 0 < u c) (h1 : t a * u b ≤ t b * u a) (h2 : t b * u c < t c * u b) : t a * u c < t c * u a := by
  apply Int.lt_of_not_ge
  intro h
  have := p_tr1 (t := t) hc ha hb h h1
  omega
theorem pNr_asym {t u : Nat → Int} {a b : Nat} (h : pNr t u a b = true) : pNr t u b a = false := by
  have := of_decide_eq_true h
  apply decide_eq_false
  omega
theorem pNr_irr {t u : Nat → Int} {a : Nat} : pNr t u a a = false := by
  apply decide_eq_false
  omega
/-- in a list that is in order the one at place i has i before it -/
theorem p_rank {t u : Nat → Int} : ∀ (S : List Nat) (i : Nat) (h : i < S.length), S.Pairwise (fun a b => pNr t u a b = true) → S.countP (fun q => pNr t u q S[i]) = i
  | [], i, h, _ => absurd h (Nat.not_lt_zero _)
  | a :: S, 0, h, hp => by
    have hp := List.pairwise_cons.mp hp
    show (a :: S).countP (fun q => pNr t u q a) = 0
    rw [List.countP_eq_zero]
    intro b hb
    rcases List.mem_cons.mp hb with e | hb
    · subst e
      rw [pNr_irr]
      decide
    · rw [pNr_asym (hp.1 b hb)]
      decide
  | a :: S, i + 1, h, hp => by
    have hp := List.pairwise_cons.mp hp
    have hi : i < S.length := by simpa using h
    show (a :: S).countP (fun q => pNr t u q S[i]) = i + 1
    rw [List.countP_cons, p_rank S i hi hp.2, if_pos (hp.1 _ (List.getElem_mem hi))]
/-- putting a row (greater than all there) where the class does -/
theorem p_put {t u : Nat → Int} {S : List Nat} {r k : Nat} (hk : k ≤ S.length) (hu : ∀ x ∈ S, 0 < u x) (hr : 0 < u r) (hS : S.Pairwise (fun a b => pNr t u a b = true)) (hlt : ∀ x ∈ S, x < r) (h1 : ∀ i (h : i < S.length), k ≤ i → pLt t u r S[i] = true) (h2 : ∀ h : 0 < k, pLt t u r (S[k - 1]'(by omega)) = false) : (S.take k ++ r :: S.drop k).Pairwise (fun a b => pNr t u a b = true) := by
  have hbef : ∀ x ∈ S.take k, pNr t u x r = true := by
    intro x hx
    have hxS : x ∈ S := List.mem_of_mem_take hx
    obtain ⟨i, hi, e⟩ := List.getElem_of_mem hx
    rw [List.length_take] at hi
    rw [List.getElem_take] at e
    have hk0 : 0 < k := by omega
    have hl := of_decide_eq_false (h2 hk0)
    have hkk : k - 1 < S.length := by omega
    have hle : t x * u (S[k - 1]) ≤ t (S[k - 1]) * u x := by
      by_cases hik : i = k - 1
      · subst hik
        rw [e]
        omega
      · have := List.pairwise_iff_getElem.mp hS i (k - 1) (by omega) hkk (by omega)
        have := of_decide_eq_true this
        rw [e] at this
        omega
    have hmem : S[k - 1] ∈ S := List.getElem_mem hkk
    have := p_tr1 (t := t) (hu x hxS) (hu _ hmem) hr hle (by omega)
    have h3 := hlt x hxS
    apply decide_eq_true
    omega
  have haft : ∀ x ∈ S.drop k, pNr t u r x = true := by
    intro x hx
    obtain ⟨i, hi, e⟩ := List.getElem_of_mem hx
    rw [List.length_drop] at hi
    rw [List.getElem_drop] at e
    have := of_decide_eq_true (h1 (k + i) (by omega) (by omega))
    rw [e] at this
    exact decide_eq_true (Or.inl this)
  have hS2 : (S.take k ++ S.drop k).Pairwise (fun a b => pNr t u a b = true) := by rw [List.take_append_drop]; exact hS
  have hS3 := List.pairwise_append.mp hS2
  rw [List.pairwise_append]
  refine ⟨hS3.1, List.pairwise_cons.mpr ⟨haft, hS3.2.1⟩, ?_⟩
  intro a ha b hb
  rcases List.mem_cons.mp hb with e | hb
  · subst e
    exact hbef a ha
  · exact hS3.2.2 a ha b hb
theorem p_put_perm {S L : List Nat} {r k : Nat} (h : S.Perm L) : (S.take k ++ r :: S.drop k).Perm (L ++ [r]) := by
  refine List.perm_middle.trans ?_
  rw [List.take_append_drop]
  exact (h.cons r).trans (List.perm_append_comm (l₁ := [r]) (l₂ := L))
theorem p_rank_perm {t u : Nat → Int} {S L : List Nat} (h : S.Perm L) {i : Nat} (hi : i < S.length) (hS : S.Pairwise (fun a b => pNr t u a b = true)) : L.countP (fun q => pNr t u q S[i]) = i := by
  rw [← h.countP_eq]
  exact p_rank S i hi hS
-- lists without doubles with the same members
theorem p_perm {α : Type} : ∀ {l m : List α}, l.Nodup → m.Nodup → (∀ a, a ∈ l ↔ a ∈ m) → l.Perm m
  | [], [], _, _, _ => List.Perm.refl _
  | [], b :: m, _, _, h => absurd ((h b).mpr List.mem_cons_self) (List.not_mem_nil)
  | a :: l, m, hl, hm, h => by
    have ha : a ∈ m := (h a).mp List.mem_cons_self
    obtain ⟨s, t, e⟩ := List.append_of_mem ha
    subst e
    have hl2 := List.nodup_cons.mp hl
    have hm2 : (a :: (s ++ t)).Nodup := (List.perm_middle.nodup_iff).mp hm
    have hm3 := List.nodup_cons.mp hm2
    have : l.Perm (s ++ t) := by
      refine p_perm hl2.2 hm3.2 (fun b => ?_)
      have hb := h b
      rw [List.perm_middle.mem_iff] at hb
      rw [List.mem_cons, List.mem_cons] at hb
      constructor
      · intro hbl
        rcases hb.mp (Or.inr hbl) with e | e
        · subst e; exact absurd hbl hl2.1
        · exact e
      · intro hbm
        rcases hb.mpr (Or.inr hbm) with e | e
        · subst e; exact absurd hbm hm3.1
        · exact e
    exact (this.cons a).trans List.perm_middle.symm
