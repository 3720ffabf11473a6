-- commit: rows that differ, pages that changed
theorem zcE (x y : Int32) : zc .eq x y = decide (x = y) := rfl
theorem zcN (x y : Int32) : zc .ne x y = !decide (x = y) := decide_not
def eqF (X Y X2 Y2 : List Int32) : Nat → Nat → Bool
  | 0, _ => true
  | n + 1, i => (decide (X.getD i 0 = X2.getD i 0) && decide (Y.getD i 0 = Y2.getD i 0)) && eqF X Y X2 Y2 n (i + 1)
theorem same_cL {X Y X2 Y2 : List Int32} {kd kd2 : Int32} (hn : X.length ≤ 1000) : ∀ (f i : Nat), i ≤ X.length → X.length < i + f → f_Ge_isSameAs_L28 X Y X2 Y2 kd kd2 f (Int32.ofNat i) = b2 (eqF X Y X2 Y2 (X.length - i) i)
  | 0, i, h1, h2 => by omega
  | f + 1, i, h1, h2 => by
    rw [f_Ge_isSameAs_L28, List.length_map, zc_ge, z_nat (by omega), z_nat (by omega)]
    by_cases e : i = X.length
    · rw [decide_eq_true (by omega), e, Nat.sub_self]
      rfl
    · rw [decide_eq_false (by omega), cond_false, gI_n (by omega), gI_n (by omega), gI_n (by omega), gI_n (by omega), n_inc2, zcE, zcN, same_cL hn f (i + 1) (by omega) (by omega), show X.length - i = (X.length - (i + 1)) + 1 by omega, eqF]
      cases decide (X.getD i 0 = X2.getD i 0) <;> cases decide (Y.getD i 0 = Y2.getD i 0) <;> rfl
theorem same_c {X Y X2 Y2 : List Int32} {kd kd2 : Int32} (hn : X.length ≤ 1000) : f_Ge_isSameAs X Y X2 Y2 kd kd2 = b2 (decide (kd = kd2) && (decide (Int32.ofNat X.length = Int32.ofNat X2.length) && eqF X Y X2 Y2 X.length 0)) := by
  unfold f_Ge_isSameAs f_Ge_isSameAs_24
  have k := same_cL (Y := Y) (X2 := X2) (Y2 := Y2) (kd := kd) (kd2 := kd2) hn (X.length + 1) 0 (by omega) (by omega)
  have k : f_Ge_isSameAs_L28 X Y X2 Y2 kd kd2 (X.length + 1) 0 = _ := k
  rw [k, List.length_map, List.length_map, zcE, zcN, Nat.sub_zero]
  cases decide (kd = kd2) <;> cases decide (Int32.ofNat X.length = Int32.ofNat X2.length) <;> rfl
theorem same_m0 {a b x : Int32} {w : yW} {f : Nat} : g_Mo_sameRow_82 a b w (f + 1) 0 x = 0 := by
  rw [g_Mo_sameRow_82]
  cases zc .ge x (w.1 58 a.toNatClampNeg) <;> rfl
theorem same_mL {w : yW} {a b : Nat} {X Y X2 Y2 : List Int32} (ha : a < 65) (hb : b < 65) (hn : X.length ≤ 6) (h58 : w.1 58 a = Int32.ofNat X.length) (hp : ∀ i, i < X.length → (w.1 59 (6 * a + i) = X.getD i 0 ∧ w.1 60 (6 * a + i) = Y.getD i 0) ∧ (w.1 59 (6 * b + i) = X2.getD i 0 ∧ w.1 60 (6 * b + i) = Y2.getD i 0)) : ∀ (f i : Nat), i ≤ X.length → X.length < i + f → g_Mo_sameRow_82 (Int32.ofNat a) (Int32.ofNat b) w f 1 (Int32.ofNat i) = b2 (eqF X Y X2 Y2 (X.length - i) i)
  | 0, i, h1, h2 => by omega
  | f + 1, i, h1, h2 => by
    rw [g_Mo_sameRow_82, n_clamp (by omega), h58, zc_ge, z_nat (by omega), z_nat (by omega)]
    by_cases e : i = X.length
    · rw [decide_eq_true (by omega), e, Nat.sub_self]
      rfl
    · rw [decide_eq_false (by omega), cond_false, show zc .eq 1 0 = false from rfl, cond_false, n_inc2]
      have e6 : ∀ s, s < 65 → (6 * Int32.ofNat s + Int32.ofNat i).toNatClampNeg = 6 * s + i := fun s hs => by
        rw [show (6 : Int32) = Int32.ofNat 6 from rfl, ← Int32.ofNat_mul, mk_add]
        exact n_clamp (by omega)
      have k97 : g_Mo_sameRow_97 (Int32.ofNat a) (Int32.ofNat b) (Int32.ofNat i) w = b2 (decide (X.getD i 0 = X2.getD i 0) && decide (Y.getD i 0 = Y2.getD i 0)) := by
        have q := hp i (by omega)
        unfold g_Mo_sameRow_97
        rw [e6 a ha, e6 b hb, q.1.1, q.1.2, q.2.1, q.2.2, zcN, zcN]
        cases decide (X.getD i 0 = X2.getD i 0) <;> cases decide (Y.getD i 0 = Y2.getD i 0) <;> rfl
      rw [k97, show X.length - i = (X.length - (i + 1)) + 1 by omega, eqF]
      cases decide (X.getD i 0 = X2.getD i 0) && decide (Y.getD i 0 = Y2.getD i 0) with
      | false =>
        obtain ⟨g, rfl⟩ : ∃ g, f = g + 1 := ⟨f - 1, by omega⟩
        exact same_m0
      | true => exact same_mL ha hb hn h58 hp f (i + 1) (by omega) (by omega)
/-- row s (of 32) is not as committed -/
def dS (w : yW) (G : List zC) (s : Nat) : Bool := zc .eq (e_Ta_hasSameRow G (14 + 12 * (s / 16)) (17 + 12 * (s / 16)) (Int32.ofNat (s % 16)) w) 0
theorem same_n {w w' : yW} {G : List zC} {s : Nat} (h : INV w G) (hs : sRw w w') (h32 : s < 32) : e_Mo_sameRow (Int32.ofNat s) (Int32.ofNat (s + 32)) w' = b2 (!dS w G s) := by
  have hT : s / 16 < 2 := by omega
  have hQ : s % 16 < 16 := by omega
  have es : 16 * (s / 16) + s % 16 = s := by omega
  obtain ⟨p1, p2⟩ := h.2.2.1 (s / 16) (s % 16) hT hQ
  obtain ⟨c1, c2⟩ := h.2.2.2.1 (s / 16) (s % 16) hT hQ
  rw [es] at p1 p2 c1 c2
  rw [show 32 + s = s + 32 by omega] at c1 c2
  have p1 := rEq_i (fun d j a b _ _ _ => hs d j a b) p1
  have c1 := rEq_i (fun d j a b _ _ _ => hs d j a b) c1
  unfold dS e_Ta_hasSameRow
  rw [placeAt_Q hQ, placeAt_Q hQ, amt_Q hQ, amt_Q hQ, show 14 + 12 * (s / 16) + 2 = 16 + 12 * (s / 16) by omega, show 17 + 12 * (s / 16) + 2 = 19 + 12 * (s / 16) by omega, show 14 + 12 * (s / 16) + 1 = 15 + 12 * (s / 16) by omega, show 17 + 12 * (s / 16) + 1 = 18 + 12 * (s / 16) by omega]
  unfold e_Mo_sameRow
  rw [n_clamp (show s < 2147483648 by omega), n_clamp (show s + 32 < 2147483648 by omega)]
  cases ho : w.2.2 (16 + 12 * (s / 16)) (s % 16) with
  | none =>
    rw [ho] at p1
    have q1 : w'.1 55 s = 0 := p1
    cases hc : w.2.2 (19 + 12 * (s / 16)) (s % 16) with
    | none =>
      rw [hc] at c1
      have q2 : w'.1 55 (s + 32) = 0 := c1
      rw [q1, q2]
      rfl
    | some y =>
      rw [hc] at c1
      have q2 : w'.1 55 (s + 32) = 1 := c1.1
      rw [q1, q2]
      rfl
  | some x =>
    rw [ho] at p1
    have q1 : w'.1 55 s = 1 := p1.1
    cases hc : w.2.2 (19 + 12 * (s / 16)) (s % 16) with
    | none =>
      rw [hc] at c1
      have q2 : w'.1 55 (s + 32) = 0 := c1
      rw [q1, q2]
      rfl
    | some y =>
      rw [hc] at c1
      have q2 : w'.1 55 (s + 32) = 1 := c1.1
      have v1 := p2 (by rw [ho]; exact fun e => by cases e)
      have v2 := c2 (by rw [hc]; exact fun e => by cases e)
      have hx := p1.2.1
      have l6 : (gX G x).length ≤ 6 := hx.2.2.2.2.2.2.2.1
      have ly6 : (gX G y).length ≤ 6 := c1.2.1.2.2.2.2.2.2.2.1
      rw [q1, q2, show yN (some x) = false from rfl, show yN (some y) = false from rfl, show yd (some x) = x from rfl, show yd (some y) = y from rfl, cond_false, cond_false, same_c (by omega), v1, v2, show zc .eq (1 : Int32) 1 = true from rfl, show zc .ne (1 : Int32) 0 = true from rfl, cond_true, cond_true]
      have k28 : g_Mo_sameRow_28 (Int32.ofNat s) (Int32.ofNat (s + 32)) w' = b2 (decide (w.1 56 s = w.1 56 (s + 32)) && (decide (gK G x = gK G y) && decide (Int32.ofNat (gX G x).length = Int32.ofNat (gX G y).length))) := by
        unfold g_Mo_sameRow_28
        rw [n_clamp (show s < 2147483648 by omega), n_clamp (show s + 32 < 2147483648 by omega), hs 56 s (by omega) (by omega), hs 56 (s + 32) (by omega) (by omega), p1.2.2.1, c1.2.2.1, p1.2.2.2.1, c1.2.2.2.1, zcN, zcN, zcN]
        cases decide (w.1 56 s = w.1 56 (s + 32)) <;> cases decide (gK G x = gK G y) <;> cases decide (Int32.ofNat (gX G x).length = Int32.ofNat (gX G y).length) <;> rfl
      rw [k28, zcN, b2_eq]
      cases hv : decide (w.1 56 s = w.1 56 (s + 32)) with
      | false =>
        show g_Mo_sameRow_82 _ _ w' 7 0 0 = _
        rw [same_m0]
        rfl
      | true =>
        cases hk : decide (gK G x = gK G y) with
        | false =>
          show g_Mo_sameRow_82 _ _ w' 7 0 0 = _
          rw [same_m0]
          rfl
        | true =>
          cases hl : decide (Int32.ofNat (gX G x).length = Int32.ofNat (gX G y).length) with
          | false =>
            show g_Mo_sameRow_82 _ _ w' 7 0 0 = _
            rw [same_m0]
            rfl
          | true =>
            have hl2 : (gX G x).length = (gX G y).length := by
              have := congrArg Int32.toInt (of_decide_eq_true hl)
              rw [z_nat (by omega), z_nat (by omega)] at this
              omega
            have km := same_mL (w := w') (a := s) (b := s + 32) (X := gX G x) (Y := gY G x) (X2 := gX G y) (Y2 := gY G y) (by omega) (by omega) l6 p1.2.2.2.1 (fun i hi => ⟨p1.2.2.2.2.1 i hi, c1.2.2.2.2.1 i (by omega)⟩) 7 0 (by omega) (by omega)
            rw [Nat.sub_zero] at km
            show g_Mo_sameRow_82 (Int32.ofNat s) (Int32.ofNat (s + 32)) w' 7 1 (Int32.ofNat 0) = _
            rw [km]
            cases eqF (gX G x) (gY G x) (gX G y) (gY G y) (gX G x).length 0 <;> rfl
/-- a page's rows: one of them satisfies f -/
def pgF (f : Nat → Bool) (p : Nat) : Bool := decide (p < 8) && anF f 4 (4 * p)
def orM (f : Nat → Bool) : Nat → Nat
  | 0 => 0
  | n + 1 => orM f n ||| (if f n then 2 ^ (n / 4) else 0)
theorem orM_tb (f : Nat → Bool) (i : Nat) : ∀ n, (orM f n).testBit i = true ↔ ∃ s, s < n ∧ f s = true ∧ s / 4 = i
  | 0 => by
    unfold orM
    rw [Nat.zero_testBit]
    exact ⟨fun h => (by cases h), fun ⟨s, h, _⟩ => absurd h (Nat.not_lt_zero _)⟩
  | n + 1 => by
    unfold orM
    rw [Nat.testBit_or, Bool.or_eq_true, orM_tb f i n]
    constructor
    · rintro (⟨s, h1, h2, h3⟩ | h)
      · exact ⟨s, by omega, h2, h3⟩
      · by_cases hf : f n = true
        · rw [if_pos hf, Nat.testBit_two_pow] at h
          exact ⟨n, by omega, hf, of_decide_eq_true h⟩
        · rw [if_neg hf, Nat.zero_testBit] at h
          cases h
    · rintro ⟨s, h1, h2, h3⟩
      by_cases e : s = n
      · right
        rw [← e, if_pos h2, Nat.testBit_two_pow, h3]
        exact decide_eq_true rfl
      · exact Or.inl ⟨s, by omega, h2, h3⟩
theorem orM_pg (f : Nat → Bool) : orM f 32 = mkM (pgF f) 16 := by
  apply Nat.eq_of_testBit_eq
  intro i
  apply Bool.eq_iff_iff.mpr
  rw [orM_tb, mkM_tb]
  unfold pgF
  rw [Bool.and_eq_true, Bool.and_eq_true, decide_eq_true_iff, decide_eq_true_iff, anF_iff]
  constructor
  · rintro ⟨s, h1, h2, h3⟩
    exact ⟨by omega, by omega, s, by omega, by omega, h2⟩
  · rintro ⟨h1, h2, s, h3, h4, h5⟩
    exact ⟨s, by omega, h5, by omega⟩
theorem pgb : ∀ T : Fin 2, ∀ Q : Fin 16, e_ST_pageBit (Int32.ofNat T.1) (Int32.ofNat Q.1) = Int32.ofNat (2 ^ ((16 * T.1 + Q.1) / 4)) := by decide +kernel
theorem cp11_L {w : yW} {G : List zC} {T : Nat} (hT : T < 2) : ∀ (f Q : Nat), Q ≤ 16 → 16 < Q + f → g_ST_changedPages_11 G (Int32.ofNat T) w f (Int32.ofNat (orM (dS w G) (16 * T + Q))) (Int32.ofNat Q) = Int32.ofNat (orM (dS w G) (16 * T + 16))
  | 0, Q, h1, h2 => by omega
  | f + 1, Q, h1, h2 => by
    rw [g_ST_changedPages_11, zc_ge, z_nat (by omega), show (16 : Int32).toInt = 16 from rfl]
    by_cases e : Q = 16
    · rw [decide_eq_true (by omega), cond_true, e]
    · rw [decide_eq_false (by omega), cond_false, n_inc2, n_clamp (show T < 2147483648 by omega), pgb ⟨T, hT⟩ ⟨Q, by omega⟩, mk_or]
      have ih := cp11_L (w := w) (G := G) hT f (Q + 1) (by omega) (by omega)
      have ed : dS w G (16 * T + Q) = zc .eq (e_Ta_hasSameRow G (14 + 12 * T) (17 + 12 * T) (Int32.ofNat Q) w) 0 := by
        unfold dS
        rw [show (16 * T + Q) / 16 = T by omega, show (16 * T + Q) % 16 = Q by omega]
      have en : zc .ne (e_Ta_hasSameRow G (14 + 12 * T) (17 + 12 * T) (Int32.ofNat Q) w) 0 = !dS w G (16 * T + Q) := by
        rw [ed, zcE, zcN]
      rw [en]
      rw [show 16 * T + (Q + 1) = (16 * T + Q) + 1 by omega, orM] at ih
      cases hd : dS w G (16 * T + Q) with
      | false =>
        rw [hd, if_neg (by decide), Nat.or_zero] at ih
        exact ih
      | true =>
        rw [hd, if_pos rfl] at ih
        exact ih
theorem cp_n {w : yW} {G : List zC} : e_ST_changedPages G w = Int32.ofNat (mkM (pgF (dS w G)) 16) := by
  have k0 := cp11_L (w := w) (G := G) (T := 0) (by omega) 17 0 (by omega) (by omega)
  have k1 := cp11_L (w := w) (G := G) (T := 1) (by omega) 17 0 (by omega) (by omega)
  have k0 : g_ST_changedPages_11 G 0 w 17 0 0 = Int32.ofNat (orM (dS w G) 16) := k0
  have k1 : g_ST_changedPages_11 G 1 w 17 (Int32.ofNat (orM (dS w G) 16)) 0 = Int32.ofNat (orM (dS w G) 32) := k1
  rw [← orM_pg, ← k1, ← k0]
  unfold e_ST_changedPages
  rw [g_ST_changedPages_4, show zc .ge 0 2 = false from rfl, cond_false, show (0 : Int32) + Int32.ofInt 1 = 1 from rfl, g_ST_changedPages_4, show zc .ge 1 2 = false from rfl, cond_false, show (1 : Int32) + Int32.ofInt 1 = 2 from rfl, g_ST_changedPages_4, show zc .ge 2 2 = true from rfl, cond_true]
def pR (w : yW) (s : Nat) : Bool := rowP w (s / 16) (s % 16)
theorem pw11_L {w : yW} {T : Nat} (hT : T < 2) : ∀ (f Q : Nat), Q ≤ 16 → 16 < Q + f → g_ST_pagesWithRows_11 (Int32.ofNat T) w f (Int32.ofNat (orM (pR w) (16 * T + Q))) (Int32.ofNat Q) = Int32.ofNat (orM (pR w) (16 * T + 16))
  | 0, Q, h1, h2 => by omega
  | f + 1, Q, h1, h2 => by
    rw [g_ST_pagesWithRows_11, zc_ge, z_nat (by omega), show (16 : Int32).toInt = 16 from rfl]
    by_cases e : Q = 16
    · rw [decide_eq_true (by omega), cond_true, e]
    · rw [decide_eq_false (by omega), cond_false, n_inc2, n_clamp (show T < 2147483648 by omega), pgb ⟨T, hT⟩ ⟨Q, by omega⟩, mk_or, placeAt_Q (by omega), show 14 + 12 * T + 2 = 16 + 12 * T by omega, yN_not]
      have ih := pw11_L (w := w) hT f (Q + 1) (by omega) (by omega)
      have ed : pR w (16 * T + Q) = yS (w.2.2 (16 + 12 * T) Q) := by
        unfold pR rowP
        rw [show (16 * T + Q) / 16 = T by omega, show (16 * T + Q) % 16 = Q by omega]
      rw [← ed]
      rw [show 16 * T + (Q + 1) = (16 * T + Q) + 1 by omega, orM] at ih
      cases hd : pR w (16 * T + Q) with
      | false =>
        rw [hd, if_neg (by decide), Nat.or_zero] at ih
        exact ih
      | true =>
        rw [hd, if_pos rfl] at ih
        exact ih
theorem pw_n {w : yW} : e_ST_pagesWithRows w = Int32.ofNat (mkM (pgF (pR w)) 16) := by
  have k0 := pw11_L (w := w) (T := 0) (by omega) 17 0 (by omega) (by omega)
  have k1 := pw11_L (w := w) (T := 1) (by omega) 17 0 (by omega) (by omega)
  have k0 : g_ST_pagesWithRows_11 0 w 17 0 0 = Int32.ofNat (orM (pR w) 16) := k0
  have k1 : g_ST_pagesWithRows_11 1 w 17 (Int32.ofNat (orM (pR w) 16)) 0 = Int32.ofNat (orM (pR w) 32) := k1
  rw [← orM_pg, ← k1, ← k0]
  unfold e_ST_pagesWithRows
  rw [g_ST_pagesWithRows_4, show zc .ge 0 2 = false from rfl, cond_false, show (0 : Int32) + Int32.ofInt 1 = 1 from rfl, g_ST_pagesWithRows_4, show zc .ge 1 2 = false from rfl, cond_false, show (1 : Int32) + Int32.ofInt 1 = 2 from rfl, g_ST_pagesWithRows_4, show zc .ge 2 2 = true from rfl, cond_true]
theorem mkM_and (f g : Nat → Bool) (n : Nat) : mkM f n &&& mkM g n = mkM (fun p => f p && g p) n := by
  apply Nat.eq_of_testBit_eq
  intro i
  rw [Nat.testBit_and, mkM_tb, mkM_tb, mkM_tb]
  cases decide (i < n) <;> cases f i <;> cases g i <;> rfl
theorem mkM_0 (f : Nat → Bool) : ∀ n, mkM f n = 0 ↔ cntM f n = 0
  | 0 => ⟨fun _ => rfl, fun _ => rfl⟩
  | n + 1 => by
    rw [cntM_succ, mkM]
    have ih := mkM_0 f n
    cases hf : f n with
    | false =>
      rw [if_neg (by decide), if_neg (by decide), Nat.or_zero, Nat.add_zero]
      exact ih
    | true =>
      rw [if_pos rfl, if_pos rfl]
      constructor
      · intro h
        have t : (mkM f n ||| 2 ^ n).testBit n = true := by
          rw [Nat.testBit_or, Nat.testBit_two_pow, decide_eq_true rfl, Bool.or_true]
        rw [h, Nat.zero_testBit] at t
        cases t
      · intro h
        omega
theorem cntM_8 {f : Nat → Bool} (h : ∀ p, 8 ≤ p → f p = false) : cntM f 16 = cntM f 8 := by
  rw [cntM_succ, cntM_succ, cntM_succ, cntM_succ, cntM_succ, cntM_succ, cntM_succ, cntM_succ, h 15 (by omega), h 14 (by omega), h 13 (by omega), h 12 (by omega), h 11 (by omega), h 10 (by omega), h 9 (by omega), h 8 (by omega)]
  rfl
theorem chg_L {w w' : yW} {G : List zC} {p : Nat} (h : INV w G) (hs : sRw w w') (hp : p < 8) : ∀ (f s : Nat), 4 * p ≤ s → s ≤ 4 * p + 4 → 4 * p + 4 < s + f → g_Mo_changed_4 (Int32.ofNat p) w' f (Int32.ofNat s) = b2 (anF (dS w G) (4 * p + 4 - s) s)
  | 0, s, h1, h2, h3 => by omega
  | f + 1, s, h1, h2, h3 => by
    have ei : (4 * Int32.ofNat p + 4).toInt = 4 * p + 4 := by
      rw [show (4 : Int32) = Int32.ofNat 4 from rfl, ← Int32.ofNat_mul, mk_add, z_nat (by omega)]
      omega
    rw [g_Mo_changed_4, zc_ge, z_nat (by omega), ei]
    by_cases e : s = 4 * p + 4
    · rw [decide_eq_true (by omega), cond_true, e, Nat.sub_self]
      rfl
    · rw [decide_eq_false (by omega), cond_false, show Int32.ofNat s + 32 = Int32.ofNat (s + 32) from mk_add s 32, same_n h hs (by omega), b2_ne, n_inc2, chg_L h hs hp f (s + 1) (by omega) (by omega) (by omega), show 4 * p + 4 - s = (4 * p + 4 - (s + 1)) + 1 by omega, anF]
      cases dS w G s <;> rfl
theorem chg_n {w w' : yW} {G : List zC} {p : Nat} (h : INV w G) (hs : sRw w w') (hp : p < 8) : e_Mo_changed (Int32.ofNat p) w' = b2 (pgF (dS w G) p) := by
  unfold e_Mo_changed pgF
  rw [show 4 * Int32.ofNat p = Int32.ofNat (4 * p) from by rw [show (4 : Int32) = Int32.ofNat 4 from rfl, ← Int32.ofNat_mul], chg_L h hs hp 5 (4 * p) (Nat.le_refl _) (by omega) (by omega), decide_eq_true hp, Bool.true_and, show 4 * p + 4 - 4 * p = 4 by omega]
theorem thr_s {w w' : yW} {G : List zC} {s : Nat} (h : INV w G) (hs : sRw w w') (h32 : s < 32) : zc .ne (w'.1 55 s) 0 = pR w s := by
  have k := there_s (T := s / 16) (Q := s % 16) h hs (by omega) (by omega)
  rw [show 16 * (s / 16) + s % 16 = s by omega] at k
  exact k
theorem fil_n {w w' : yW} {G : List zC} {p : Nat} (h : INV w G) (hs : sRw w w') (hp : p < 8) : e_Mo_filled (Int32.ofNat p) w' = b2 (pgF (pR w) p) := by
  have a0 : (4 * Int32.ofNat p).toNatClampNeg = 4 * p := by
    rw [show (4 : Int32) = Int32.ofNat 4 from rfl, ← Int32.ofNat_mul]
    exact n_clamp (by omega)
  have a1 : ∀ k : Nat, k < 4 → (4 * Int32.ofNat p + Int32.ofNat k).toNatClampNeg = 4 * p + k := fun k hk => by
    rw [show (4 : Int32) = Int32.ofNat 4 from rfl, ← Int32.ofNat_mul, mk_add]
    exact n_clamp (by omega)
  have b1 : (4 * Int32.ofNat p + 1).toNatClampNeg = 4 * p + 1 := a1 1 (by omega)
  have b2' : (4 * Int32.ofNat p + 2).toNatClampNeg = 4 * p + 2 := a1 2 (by omega)
  have b3 : (4 * Int32.ofNat p + 3).toNatClampNeg = 4 * p + 3 := a1 3 (by omega)
  have e3 : zc .eq (w'.1 55 (4 * p + 3)) 0 = !pR w (4 * p + 3) := by
    rw [← thr_s h hs (by omega), zcN, zcE, Bool.not_not]
  unfold e_Mo_filled pgF
  rw [a0, b1, b2', b3, thr_s h hs (show 4 * p < 32 by omega), thr_s h hs (show 4 * p + 1 < 32 by omega), thr_s h hs (show 4 * p + 2 < 32 by omega), e3, decide_eq_true hp, Bool.true_and]
  show _ = b2 (pR w (4 * p) || (pR w (4 * p + 1) || (pR w (4 * p + 1 + 1) || (pR w (4 * p + 1 + 1 + 1) || false))))
  rw [show 4 * p + 1 + 1 = 4 * p + 2 by omega, show 4 * p + 2 + 1 = 4 * p + 3 by omega]
  cases pR w (4 * p) <;> cases pR w (4 * p + 1) <;> cases pR w (4 * p + 2) <;> cases pR w (4 * p + 3) <;> rfl
