-- the class puts rows in order of distance
def dP (w : yW) (G : List zC) (x T r : Nat) : Int64 × Int64 := match w.2.2 (16 + 12 * T) r with
  | none => (0, 1)
  | some y => gD G x y (0, 0)
def dtT (w : yW) (G : List zC) (x T r : Nat) : Int := (dP w G x T r).1.toInt
def dtU (w : yW) (G : List zC) (x T r : Nat) : Int := (dP w G x T r).2.toInt
theorem dP_b {w : yW} {G : List zC} {x T r p : Nat} (h : INV w G) (hT : T < 2) (hr : r < 16) (hp : p < 65) (he : rEq w G p (some x)) : dB (dP w G x T r) := by
  unfold dP
  cases ho : w.2.2 (16 + 12 * T) r with
  | none =>
    show dB (0, 1)
    exact ⟨⟨by decide, by decide⟩, by decide, by decide⟩
  | some y => exact (dist_eq (p0 := (0, 0)) hp (show 16 * T + r < 65 by omega) he (row_e h hT hr ho)).2.1
theorem dB_mul {p q : Int64 × Int64} (hp : dB p) (hq : dB q) : (p.1 * q.2).toInt = p.1.toInt * q.2.toInt := by
  obtain ⟨⟨a1, a2⟩, _⟩ := hp
  obtain ⟨_, b1, b2⟩ := hq
  have m0 : 0 ≤ p.1.toInt * q.2.toInt := Int.mul_nonneg a1 (by omega)
  have m1 : p.1.toInt * q.2.toInt ≤ 34359738368 * 131072 := Int.mul_le_mul a2 b2 (by omega) (by omega)
  exact z_mulL (by omega) (by omega)
theorem below_n {p q : Int64 × Int64} (hp : dB p) (hq : dB q) : f_Di_isBelow p.1 p.2 q.1 q.2 = b2 (decide (p.1.toInt * q.2.toInt < q.1.toInt * p.2.toInt)) := by
  unfold f_Di_isBelow
  rw [lc_ge, dB_mul hp hq, dB_mul hq hp]
  generalize p.1.toInt * q.2.toInt = a
  generalize q.1.toInt * p.2.toInt = b
  by_cases c : a < b
  · rw [decide_eq_true c, decide_eq_false (show ¬ b ≤ a by omega)]
    rfl
  · rw [decide_eq_false c, decide_eq_true (show b ≤ a by omega)]
    rfl
theorem n_dec1 (m : Nat) : Int32.ofNat (m + 1) - 1 = Int32.ofNat m := by
  rw [← n_inc]
  exact Int32.add_sub_cancel _ _
theorem n_dec2 (m : Nat) : Int32.ofNat (m + 1) + Int32.ofInt (-1) = Int32.ofNat m := by
  have e : Int32.ofInt (-1) = -1 := by decide
  rw [e, ← Int32.sub_eq_add_neg]
  exact n_dec1 m
/-- rows S in the order's cells, with a free place at k -/
def oS (w1 : yW) (S : List Nat) (k : Nat) : Prop := (∀ i, i < k → w1.1 13 i = Int32.ofNat (S.getD i 0)) ∧ (∀ i, k ≤ i → i < S.length → w1.1 13 (i + 1) = Int32.ofNat (S.getD i 0))
theorem getD_lt {S : List Nat} {B : Nat} (h : ∀ r, r ∈ S → r < B) {i : Nat} (hi : i < S.length) : S.getD i 0 < B ∧ S.getD i 0 ∈ S := by
  rw [List.getD_eq_getElem?_getD, List.getElem?_eq_getElem hi]
  exact ⟨h _ (List.getElem_mem hi), List.getElem_mem hi⟩
theorem po_L {w : yW} {G : List zC} {x T p q : Nat} {S : List Nat} {od : Int32} (h : INV w G) (hT : T < 2) (hp : p < 65) (he : rEq w G p (some x)) (hq : q < 16) (hS : ∀ r, r ∈ S → r < 16) (hn : S.length ≤ 15) : ∀ (f k : Nat) (w1 : yW), k ≤ S.length → k < f → oS w1 S k → (∀ i, k ≤ i → i < S.length → pLt (dtT w G x T) (dtU w G x T) q (S.getD i 0) = true) → (∀ r, r ∈ S ∨ r = q → w1.2.1 (38 + r) 0 = (dP w G x T r).1 ∧ w1.2.1 (38 + r) 1 = (dP w G x T r).2) →
    ∃ k', k' ≤ S.length ∧ (g_ST_putInOrder_2 (Int32.ofNat q) od f w1 (Int32.ofNat k)).2 = Int32.ofNat k' ∧ oS (g_ST_putInOrder_2 (Int32.ofNat q) od f w1 (Int32.ofNat k)).1 S k' ∧ (∀ i, k' ≤ i → i < S.length → pLt (dtT w G x T) (dtU w G x T) q (S.getD i 0) = true) ∧ (0 < k' → pLt (dtT w G x T) (dtU w G x T) q (S.getD (k' - 1) 0) = false) ∧ (∀ d j, d ≠ 13 → (g_ST_putInOrder_2 (Int32.ofNat q) od f w1 (Int32.ofNat k)).1.1 d j = w1.1 d j) ∧ (g_ST_putInOrder_2 (Int32.ofNat q) od f w1 (Int32.ofNat k)).1.2 = w1.2
  | 0, k, w1, _, a2, _, _, _ => absurd a2 (Nat.not_lt_zero _)
  | f + 1, k, w1, a1, a2, ho, hl, hd => by
    rw [g_ST_putInOrder_2, zc_le, z_nat (by omega), z_i0]
    by_cases e : k = 0
    · rw [decide_eq_true (show (k : Int) ≤ 0 by omega), cond_true]
      exact ⟨k, a1, rfl, ho, hl, fun h => absurd h (by omega), fun _ _ _ => rfl, rfl⟩
    · obtain ⟨m, rfl⟩ : ∃ m, k = m + 1 := ⟨k - 1, by omega⟩
      have g := getD_lt hS (show m < S.length by omega)
      rw [decide_eq_false (show ¬ ((m + 1 : Nat) : Int) ≤ 0 by omega), cond_false, n_dec1, n_dec2, n_clamp (show m < 2147483648 by omega), n_clamp (show m + 1 < 2147483648 by omega), ho.1 m (by omega), n_clamp (show S.getD m 0 < 2147483648 by omega), n_clamp (show q < 2147483648 by omega), (hd q (Or.inr rfl)).1, (hd q (Or.inr rfl)).2, (hd _ (Or.inl g.2)).1, (hd _ (Or.inl g.2)).2, below_n (dP_b h hT hq hp he) (dP_b h hT g.1 hp he), b2_eq]
      show ∃ k', k' ≤ S.length ∧ (bif !pLt (dtT w G x T) (dtU w G x T) q (S.getD m 0) then _ else _ : yW × Int32).2 = Int32.ofNat k' ∧ oS (bif !pLt (dtT w G x T) (dtU w G x T) q (S.getD m 0) then _ else _ : yW × Int32).1 S k' ∧ _ ∧ _ ∧ (∀ d j, d ≠ 13 → (bif !pLt (dtT w G x T) (dtU w G x T) q (S.getD m 0) then _ else _ : yW × Int32).1.1 d j = w1.1 d j) ∧ (bif !pLt (dtT w G x T) (dtU w G x T) q (S.getD m 0) then _ else _ : yW × Int32).1.2 = w1.2
      cases hb : pLt (dtT w G x T) (dtU w G x T) q (S.getD m 0) with
      | false => exact ⟨m + 1, a1, rfl, ho, hl, fun _ => hb, fun _ _ _ => rfl, rfl⟩
      | true =>
        rw [Bool.not_true, cond_false]
        have ho' : oS (wI w1 13 (m + 1) (Int32.ofNat (S.getD m 0))) S m := by
          refine ⟨fun i hi => ?_, fun i h1 h2 => ?_⟩
          · rw [wI_nc (by omega)]
            exact ho.1 i (by omega)
          · by_cases ei : i = m
            · rw [ei, wI_self]
            · rw [wI_nc (by omega)]
              exact ho.2 i (by omega) h2
        obtain ⟨k', c1, c2, c3, c4, c5, c6, c7⟩ := po_L (od := od) h hT hp he hq hS hn f m (wI w1 13 (m + 1) (Int32.ofNat (S.getD m 0))) (by omega) (by omega) ho' (fun i h1 h2 => by
          by_cases ei : i = m
          · rw [ei]; exact hb
          · exact hl i (by omega) h2) hd
        exact ⟨k', c1, c2, c3, c4, c5, fun d j hh => (c6 d j hh).trans (wI_nc (by omega)), c7⟩
theorem ins_getD {S : List Nat} {q k i : Nat} (hk : k ≤ S.length) : (S.take k ++ q :: S.drop k).getD i 0 = if i < k then S.getD i 0 else if i = k then q else S.getD (i - 1) 0 := by
  have hl : (S.take k).length = k := by rw [List.length_take]; omega
  rw [List.getD_eq_getElem?_getD]
  by_cases h1 : i < k
  · rw [if_pos h1, List.getElem?_append_left (by omega), List.getElem?_take_of_lt h1, ← List.getD_eq_getElem?_getD]
  · rw [if_neg h1, List.getElem?_append_right (by omega), hl]
    by_cases h2 : i = k
    · rw [if_pos h2, h2, Nat.sub_self]
      rfl
    · rw [if_neg h2, show i - k = (i - 1 - k) + 1 by omega, List.getElem?_cons_succ, List.getElem?_drop, show k + (i - 1 - k) = i - 1 by omega, ← List.getD_eq_getElem?_getD]
theorem ins_len {S : List Nat} {q k : Nat} (hk : k ≤ S.length) : (S.take k ++ q :: S.drop k).length = S.length + 1 := by
  rw [List.length_append, List.length_take, List.length_cons, List.length_drop]
  omega
theorem wD_0 (w : yW) (d : Nat) (p : Int64 × Int64) : (wD w d p).2.1 d 0 = p.1 := by
  unfold wD
  rw [(ydL (wL w d 0 p.1) d 1 p.2 d 0 (by omega)).2.1, wL_self]
theorem wD_1 (w : yW) (d : Nat) (p : Int64 × Int64) : (wD w d p).2.1 d 1 = p.2 := wL_self ..
theorem wD_nc {w : yW} {d c j : Nat} {p : Int64 × Int64} (h : c ≠ d) : (wD w d p).2.1 c j = w.2.1 c j := by
  unfold wD
  rw [(ydL (wL w d 0 p.1) d 1 p.2 c j (by omega)).2.1, (ydL w d 0 p.1 c j (by omega)).2.1]
/-- the rows before s in order -/
def oR (w1 w : yW) (G : List zC) (x T s : Nat) (S : List Nat) : Prop := (∀ i, i < S.length → w1.1 13 i = Int32.ofNat (S.getD i 0)) ∧ S.Pairwise (fun a b => pNr (dtT w G x T) (dtU w G x T) a b = true) ∧ S.Perm ((List.range s).filter (rowP w T)) ∧ (∀ r, r ∈ S → w1.2.1 (38 + r) 0 = (dP w G x T r).1 ∧ w1.2.1 (38 + r) 1 = (dP w G x T r).2) ∧ (∀ j, j < 16 → zIx (w1.1 13 j) 16)
theorem perm_mem {P : Nat → Bool} {s : Nat} {S : List Nat} (h : S.Perm ((List.range s).filter P)) {r : Nat} : r ∈ S ↔ r < s ∧ P r = true := by
  rw [h.mem_iff, List.mem_filter, List.mem_range]
theorem perm_len {P : Nat → Bool} {s : Nat} {S : List Nat} (h : S.Perm ((List.range s).filter P)) : S.length ≤ s := by
  rw [h.length_eq]
  exact Nat.le_trans (List.length_filter_le _ _) (by rw [List.length_range]; exact Nat.le_refl _)
theorem od_L {w : yW} {G : List zC} {x T p : Nat} (h : INV w G) (hT : T < 2) (hp : p < 65) (he : rEq w G p (some x)) : ∀ (f s : Nat) (w1 : yW) (S : List Nat), s ≤ 16 → 16 < s + f → w1.2.2 = w.2.2 → oR w1 w G x T s S →
    ∃ S', (g_ST_orderByDistance_5 G x (14 + 12 * T) f w1 (Int32.ofNat S.length) (Int32.ofNat s)).2 = Int32.ofNat S'.length ∧ oR (g_ST_orderByDistance_5 G x (14 + 12 * T) f w1 (Int32.ofNat S.length) (Int32.ofNat s)).1 w G x T 16 S' ∧ (∀ d j, d ≠ 13 → (g_ST_orderByDistance_5 G x (14 + 12 * T) f w1 (Int32.ofNat S.length) (Int32.ofNat s)).1.1 d j = w1.1 d j) ∧ (g_ST_orderByDistance_5 G x (14 + 12 * T) f w1 (Int32.ofNat S.length) (Int32.ofNat s)).1.2.2 = w.2.2
  | 0, s, w1, S, _, _, _, _ => by omega
  | f + 1, s, w1, S, a1, a2, hr, hO => by
    rw [g_ST_orderByDistance_5, zc_ge, z_nat (by omega), show (16 : Int32).toInt = 16 from rfl]
    by_cases e : s = 16
    · rw [decide_eq_true (by omega), cond_true]
      rw [e] at hO
      exact ⟨S, rfl, hO, fun _ _ _ => rfl, hr⟩
    · rw [decide_eq_false (by omega), cond_false, placeAt_Q (by omega), n_inc2, n_inc2, show 14 + 12 * T + 2 = 16 + 12 * T by omega, hr, n_clamp (show s < 2147483648 by omega)]
      cases ho : w.2.2 (16 + 12 * T) s with
      | none =>
        have hz : rowP w T s = false := by unfold rowP; rw [ho]; rfl
        obtain ⟨o1, o2, o3, o4, o5⟩ := hO
        rw [show yN none = true from rfl, cond_true]
        exact od_L h hT hp he f (s + 1) w1 S (by omega) (by omega) hr ⟨o1, o2, by
          rw [List.range_succ, List.filter_append, List.filter_cons_of_neg (by rw [hz]; decide), List.filter_nil, List.append_nil]
          exact o3, o4, o5⟩
      | some y =>
        have hz : rowP w T s = true := by unfold rowP; rw [ho]; rfl
        have k := row_e h hT (by omega) ho
        rw [show yN (some y) = false from rfl, cond_false, show yd (some y) = y from rfl, gD_any hp (show 16 * T + s < 65 by omega) he k]
        have hdP : gD G x y (0, 0) = dP w G x T s := by unfold dP; rw [ho]
        rw [hdP]
        obtain ⟨o1, o2, o3, o4, o5⟩ := hO
        have hS : ∀ r, r ∈ S → r < s := fun r hr => ((perm_mem o3).mp hr).1
        have hS16 : ∀ r, r ∈ S → r < 16 := fun r hr => by have := hS r hr; omega
        have hlen := perm_len o3
        have hd : ∀ r, r ∈ S ∨ r = s → (wD w1 (38 + s) (dP w G x T s)).2.1 (38 + r) 0 = (dP w G x T r).1 ∧ (wD w1 (38 + s) (dP w G x T s)).2.1 (38 + r) 1 = (dP w G x T r).2 := fun r hrr => by
          by_cases er : r = s
          · rw [er, wD_0, wD_1]
            exact ⟨rfl, rfl⟩
          · have hrS := hrr.resolve_right er
            rw [wD_nc (by omega), wD_nc (by omega)]
            exact o4 r hrS
        obtain ⟨k', c1, c2, c3, c4, c5, c6, c7⟩ := po_L (od := Int32.ofNat S.length) h hT hp he (show s < 16 by omega) hS16 (by omega) 17 S.length (wD w1 (38 + s) (dP w G x T s)) (Nat.le_refl _) (by omega) ⟨o1, fun i h1 h2 => absurd h2 (by omega)⟩ (fun i h1 h2 => absurd h2 (by omega)) hd
        have hpi := ho_put (q := Int32.ofNat s) (od := Int32.ofNat S.length) (w := wD w1 (38 + s) (dP w G x T s)) ⟨by rw [z_nat (by omega)]; omega, by rw [z_nat (by omega)]; omega⟩ o5 (by rw [z_nat (by omega)]; omega) (by rw [z_nat (by omega)]; omega)
        have eP : e_ST_putInOrder (Int32.ofNat s) (Int32.ofNat S.length) (wD w1 (38 + s) (dP w G x T s)) = wI (g_ST_putInOrder_2 (Int32.ofNat s) (Int32.ofNat S.length) 17 (wD w1 (38 + s) (dP w G x T s)) (Int32.ofNat S.length)).1 13 k' (Int32.ofNat s) := by
          unfold e_ST_putInOrder
          rw [c2, n_clamp (by omega)]
        rw [eP] at hpi ⊢
        generalize (g_ST_putInOrder_2 (Int32.ofNat s) (Int32.ofNat S.length) 17 (wD w1 (38 + s) (dP w G x T s)) (Int32.ofNat S.length)).1 = z at c3 c6 c7 hpi ⊢
        have hnew : oR (wI z 13 k' (Int32.ofNat s)) w G x T (s + 1) (S.take k' ++ s :: S.drop k') := by
          refine ⟨fun i hi => ?_, ?_, ?_, fun r hr2 => ?_, hpi⟩
          · rw [ins_len c1] at hi
            rw [ins_getD c1]
            by_cases h1 : i < k'
            · rw [if_pos h1, wI_nc (by omega)]
              exact c3.1 i h1
            · rw [if_neg h1]
              by_cases h2 : i = k'
              · rw [if_pos h2, h2, wI_self]
              · rw [if_neg h2, wI_nc (by omega), show i = (i - 1) + 1 by omega]
                exact c3.2 (i - 1) (by omega) (by omega)
          · refine p_put c1 (fun r hr2 => ?_) ?_ o2 hS (fun i hi h1 => ?_) (fun h0 => ?_)
            · have := (dP_b h hT (hS16 r hr2) hp he).2.1
              show 0 < (dP w G x T r).2.toInt
              omega
            · have := (dP_b (r := s) h hT (by omega) hp he).2.1
              show 0 < (dP w G x T s).2.toInt
              omega
            · have := c4 i h1 hi
              rw [List.getD_eq_getElem?_getD, List.getElem?_eq_getElem hi] at this
              exact this
            · have := c5 h0
              rw [List.getD_eq_getElem?_getD, List.getElem?_eq_getElem (by omega)] at this
              exact this
          · rw [List.range_succ, List.filter_append, List.filter_cons_of_pos hz, List.filter_nil]
            exact p_put_perm o3
          · have hm := (p_put_perm (r := s) (k := k') o3).mem_iff.mp hr2
            show z.2.1 (38 + r) 0 = _ ∧ z.2.1 (38 + r) 1 = _
            rw [c7]
            refine hd r ?_
            rcases List.mem_append.mp hm with hm | hm
            · exact Or.inl (o3.mem_iff.mpr hm)
            · exact Or.inr (List.mem_singleton.mp hm)
        obtain ⟨S', d1, d2, d3, d4⟩ := od_L h hT hp he f (s + 1) (wI z 13 k' (Int32.ofNat s)) (S.take k' ++ s :: S.drop k') (by omega) (by omega) (by
          show z.2.2 = _
          rw [c7]
          exact hr) hnew
        rw [ins_len c1] at d1 d2 d3 d4
        exact ⟨S', d1, d2, fun d j hh => (d3 d j hh).trans ((wI_nc (by omega)).trans (c6 d j hh)), d4⟩
theorem take_s {S : List Nat} {s : Nat} (h : s < S.length) : (S.take (s + 1)).map Int32.ofNat = (S.take s).map Int32.ofNat ++ [Int32.ofNat (S.getD s 0)] := by
  rw [List.take_succ, List.map_append, List.getElem?_eq_getElem h, List.getD_eq_getElem?_getD, List.getElem?_eq_getElem h]
  rfl
theorem n49_L {S : List Nat} {K m : Nat} {t : Int32} (hK : K ≤ 16) (hm : m = min K S.length) : ∀ (f s : Nat) (w1 : yW), s ≤ m → m < s + f → (∀ i, i < S.length → w1.1 13 i = Int32.ofNat (S.getD i 0)) → S.length ≤ 16 → cA w1 ((S.take s).map Int32.ofNat) →
    cA (g_ST_nearest_49 t (Int32.ofNat K) (Int32.ofNat S.length) f w1 (Int32.ofNat s)) ((S.take m).map Int32.ofNat) ∧ (∀ d j, ¬ (d = 0 ∧ j = 7) → d ≠ 9 → (g_ST_nearest_49 t (Int32.ofNat K) (Int32.ofNat S.length) f w1 (Int32.ofNat s)).1 d j = w1.1 d j) ∧ (g_ST_nearest_49 t (Int32.ofNat K) (Int32.ofNat S.length) f w1 (Int32.ofNat s)).2 = w1.2
  | 0, s, w1, _, _, _, _, _ => by omega
  | f + 1, s, w1, a1, a2, ho, hl, hA => by
    rw [g_ST_nearest_49, zc_ge, zc_ge, z_nat (by omega), z_nat (by omega), z_nat (by omega)]
    by_cases e : s = m
    · rw [e] at hA
      by_cases e2 : K ≤ s
      · rw [decide_eq_true (show (K : Int) ≤ (s : Int) by omega), cond_true]
        exact ⟨hA, fun _ _ _ _ => rfl, rfl⟩
      · rw [decide_eq_false (show ¬ (K : Int) ≤ (s : Int) by omega), cond_false, decide_eq_true (show (S.length : Int) ≤ (s : Int) by omega), cond_true]
        exact ⟨hA, fun _ _ _ _ => rfl, rfl⟩
    · rw [decide_eq_false (show ¬ (K : Int) ≤ (s : Int) by omega), cond_false, decide_eq_false (show ¬ (S.length : Int) ≤ (s : Int) by omega), cond_false, n_clamp (show s < 2147483648 by omega), ho s (by omega), n_inc2]
      obtain ⟨k1, k2, k3⟩ := cA_add (a := Int32.ofNat (S.getD s 0)) hA (by rw [List.length_map, List.length_take]; omega)
      rw [← take_s (by omega)] at k1
      have ih := n49_L (t := t) hK hm f (s + 1) (e_ST_addAnswer (Int32.ofNat (S.getD s 0)) w1) (by omega) (by omega) (fun i hi => (k2 13 i (by omega) (by omega)).trans (ho i hi)) hl k1
      exact ⟨ih.1, fun d j p q => (ih.2.1 d j p q).trans (k2 d j p q), ih.2.2.trans k3⟩
