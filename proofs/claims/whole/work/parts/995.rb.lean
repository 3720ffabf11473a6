-- readBy: rows and squares that are read
def kQ (w : yW) (G : List zC) (T r : Nat) (n : Nat) : List (Nat × Int × Int) := ((List.range n).filter (fun l => ixF (tD w G T) (tX w G T) (tY w G T) r l)).map (ixQ (tX w G T) (tY w G T) r)
theorem kQ_s {w : yW} {G : List zC} {T r n : Nat} (φ : Nat × Int × Int → Bool) : (kQ w G T r (n + 1)).countP φ = (kQ w G T r n).countP φ + if ixF (tD w G T) (tX w G T) (tY w G T) r n && φ (ixQ (tX w G T) (tY w G T) r n) then 1 else 0 := by
  unfold kQ
  rw [List.range_succ, List.filter_append, List.map_append, List.countP_append]
  congr 1
  cases hF : ixF (tD w G T) (tX w G T) (tY w G T) r n with
  | false =>
    rw [List.filter_cons_of_neg (by rw [hF]; decide)]
    rfl
  | true =>
    rw [List.filter_cons_of_pos (by rw [hF]), List.filter_nil, List.map_cons, List.map_nil, List.countP_singleton, Bool.true_and]
/-- what is asked of a predicate on squares: it says which are read -/
def sqR (w : yW) (G : List zC) (T p : Nat) (t u : Int) (φ : Nat × Int × Int → Bool) : Prop := ∀ s x0 x1 y0 y1, ixLo (ixH (tD w G T) (tX w G T) (tY w G T) s) (tX w G T) x0 → ixHi (ixH (tD w G T) (tX w G T) (tY w G T) s) (tX1 w G T) x1 → ixLo (ixH (tD w G T) (tX w G T) (tY w G T) s) (tY w G T) y0 → ixHi (ixH (tD w G T) (tX w G T) (tY w G T) s) (tY1 w G T) y1 → φ s = clB w p t u x0 x1 y0 y1
theorem rb72_n {w : yW} {G : List zC} {T r y p : Nat} {t u : Int64} {φ : Nat × Int × Int → Bool} (h : INV w G) (hT : T < 2) (h2 : r < 16) (hy : w.2.2 (16 + 12 * T) r = some y) (hp : p < 65) (hb : u.toInt = 0 ∨ pBd w p) (hu0 : 0 ≤ u.toInt) (hu : u.toInt ≤ 131072) (hφ : sqR w G T p t.toInt u.toInt φ) (h0 : 1 ≤ tD w G T r) (h9 : tD w G T r ≤ 9) (c0 : Nat) (tb : Int32) :
    ∀ (f l : Nat) (w' : yW), l ≤ tD w G T r → tD w G T r < l + f → sRw w w' → (g_Mo_readBy_72 (Int32.ofNat p) tb t u (Int32.ofNat (16 * T + r)) f w' (Int32.ofNat (c0 + (kQ w G T r l).countP φ)) (Int32.ofNat (tD w G T r - 1)) (Int32.ofNat l)).1.2 = w'.2 ∧ (g_Mo_readBy_72 (Int32.ofNat p) tb t u (Int32.ofNat (16 * T + r)) f w' (Int32.ofNat (c0 + (kQ w G T r l).countP φ)) (Int32.ofNat (tD w G T r - 1)) (Int32.ofNat l)).2 = Int32.ofNat (c0 + (kQ w G T r (tD w G T r)).countP φ)
  | 0, l, w', a, b, _ => by omega
  | f + 1, l, w', a, b, hs => by
    rw [g_Mo_readBy_72, zc_gt, z_nat (by omega), z_nat (by omega)]
    by_cases e : l = tD w G T r
    · rw [decide_eq_true (by omega), cond_true, e]
      exact ⟨rfl, rfl⟩
    · rw [decide_eq_false (by omega), cond_false, fore_n h hs hT h2 hy (by omega), b2_ne, n_inc2]
      cases hF : ixF (tD w G T) (tX w G T) (tY w G T) r l with
      | false =>
        rw [cond_false]
        have ih := rb72_n h hT h2 hy hp hb hu0 hu hφ h0 h9 c0 tb f (l + 1) w' (by omega) (by omega) hs
        rw [kQ_s, hF, Bool.false_and, if_neg (by decide), Nat.add_zero] at ih
        exact ih
      | true =>
        rw [cond_true]
        obtain ⟨n1, n2, n3⟩ := nodeB_n h hs hT h2 hy (l := l) (by omega) (by omega)
        generalize e_Mo_nodeBound (Int32.ofNat (16 * T + r)) (Int32.ofNat l) w' = w1 at n1 n2 n3
        have hs1 : sRw w w1 := fun d j p q => by rw [n1 d j (by omega)]; exact hs d j p q
        have bb := nB_b h n3
        rw [rb101_n hp hs1 hb bb.1 bb.2.1 bb.2.2.1 bb.2.2.2 hu0 hu]
        have ih := rb72_n h hT h2 hy hp hb hu0 hu hφ h0 h9 c0 tb f (l + 1) w1 (by omega) (by omega) hs1
        rw [kQ_s, hF, Bool.true_and, hφ _ _ _ _ _ n3.1 n3.2.1 n3.2.2.1 n3.2.2.2, ← Nat.add_assoc] at ih
        exact ⟨ih.1.trans n2, ih.2⟩
def rwB (w : yW) (G : List zC) (T p : Nat) (t u : Int) (r : Nat) : Bool := rowP w T r && clB w p t u (tX w G T r) (tX1 w G T r) (tY w G T r) (tY1 w G T r)
def kR (w : yW) (G : List zC) (T p : Nat) (t u : Int) (φ : Nat × Int × Int → Bool) (n : Nat) : Nat := cntM (rwB w G T p t u) n + ((List.range n).flatMap (fun r => kQ w G T r (tD w G T r))).countP φ
theorem kR_s {w : yW} {G : List zC} {T p n : Nat} {t u : Int} {φ : Nat × Int × Int → Bool} : kR w G T p t u φ (n + 1) = kR w G T p t u φ n + (if rwB w G T p t u n then 1 else 0) + (kQ w G T n (tD w G T n)).countP φ := by
  unfold kR
  rw [cntM_succ, List.range_succ, List.flatMap_append, List.countP_append, List.flatMap_cons, List.flatMap_nil, List.append_nil]
  omega
theorem tD_0 {w : yW} {G : List zC} {T r : Nat} (h : w.2.2 (16 + 12 * T) r = none) : tD w G T r = 0 := by
  unfold tD
  rw [h]
  rfl
theorem there_s {w w' : yW} {G : List zC} (h : INV w G) (hs : sRw w w') {T Q : Nat} (hT : T < 2) (hQ : Q < 16) : zc .ne (w'.1 55 (16 * T + Q)) 0 = rowP w T Q := by
  have k := there_n h hT hQ
  rw [hs 55 _ (by omega) (by omega)]
  rw [yN_not] at k
  unfold rowP
  have e : zc .ne (w.1 55 (16 * T + Q)) 0 = !zc .eq (w.1 55 (16 * T + Q)) 0 := by
    rw [zc_ne, zc_eq, decide_not]
  rw [e, k, Bool.not_not]
theorem nb_f {a b : Nat} (h : a ≠ b) : Nat.beq a b = false := by
  cases e : Nat.beq a b
  · rfl
  · exact absurd (Nat.eq_of_beq_eq_true e) h
theorem ySt_54 {d j : Nat} (h : ¬ (d = 54 ∧ 17 ≤ j ∧ j ≤ 20)) : ySt [(54, some 17), (54, some 18), (54, some 19), (54, some 20)] d j = false := by
  show ((Nat.beq d 54 && Nat.beq j 17) || ((Nat.beq d 54 && Nat.beq j 18) || ((Nat.beq d 54 && Nat.beq j 19) || ((Nat.beq d 54 && Nat.beq j 20) || false)))) = false
  by_cases e : d = 54
  · rw [nb_f (show j ≠ 17 by omega), nb_f (show j ≠ 18 by omega), nb_f (show j ≠ 19 by omega), nb_f (show j ≠ 20 by omega)]
    cases Nat.beq d 54 <;> rfl
  · rw [nb_f e]
    rfl
theorem rb9_n {w : yW} {G : List zC} {T p : Nat} {t u : Int64} {φ : Nat × Int × Int → Bool} (h : INV w G) (hT : T < 2) (hp : p < 65) (hb : u.toInt = 0 ∨ pBd w p) (hu0 : 0 ≤ u.toInt) (hu : u.toInt ≤ 131072) (hφ : sqR w G T p t.toInt u.toInt φ) :
    ∀ (f s : Nat) (w' : yW), s ≤ 16 → 16 < s + f → sRw w w' → (g_Mo_readBy_9 (Int32.ofNat p) (Int32.ofNat T) t u f w' (Int32.ofNat (kR w G T p t.toInt u.toInt φ s)) (Int32.ofNat (16 * T + s))).1.2 = w'.2 ∧ (g_Mo_readBy_9 (Int32.ofNat p) (Int32.ofNat T) t u f w' (Int32.ofNat (kR w G T p t.toInt u.toInt φ s)) (Int32.ofNat (16 * T + s))).2 = Int32.ofNat (kR w G T p t.toInt u.toInt φ 16)
  | 0, s, w', a, b, _ => by omega
  | f + 1, s, w', a, b, hs => by
    have ei : (16 * Int32.ofNat T + 16).toInt = 16 * T + 16 := by
      rw [show (16 : Int32) = Int32.ofNat 16 from rfl, ← Int32.ofNat_mul, mk_add, z_nat (by omega)]
      omega
    rw [g_Mo_readBy_9, zc_ge, z_nat (by omega), ei]
    by_cases e : s = 16
    · rw [decide_eq_true (by omega), cond_true, e]
      exact ⟨rfl, rfl⟩
    · rw [decide_eq_false (by omega), cond_false, n_clamp (by omega), there_s h hs hT (by omega), n_inc2, show 16 * T + s + 1 = 16 * T + (s + 1) by omega]
      cases ho : w.2.2 (16 + 12 * T) s with
      | none =>
        have hr : rowP w T s = false := by unfold rowP; rw [ho]; rfl
        rw [hr, cond_false]
        have ih := rb9_n h hT hp hb hu0 hu hφ f (s + 1) w' (by omega) (by omega) hs
        rw [kR_s, tD_0 ho] at ih
        unfold rwB at ih
        rw [hr, Bool.false_and, if_neg (by decide), Nat.add_zero] at ih
        exact ih
      | some y =>
        have hr : rowP w T s = true := by unfold rowP; rw [ho]; rfl
        rw [hr, cond_true]
        obtain ⟨a1, a2, a3, a4, a5, a6⟩ := around_n (w := w') (s := 16 * T + s) (by omega)
        obtain ⟨b1, b2, b3, b4⟩ := row_b h hT (by omega) ho
        generalize e_Mo_around (Int32.ofNat (16 * T + s)) w' = w1 at a1 a2 a3 a4 a5 a6
        have hs1 : sRw w w1 := fun d j p q => by rw [a1 d j (by omega)]; exact hs d j p q
        rw [hs 61 _ (by omega) (by omega)] at a3
        rw [hs 62 _ (by omega) (by omega)] at a4
        rw [hs 63 _ (by omega) (by omega)] at a5
        rw [hs 64 _ (by omega) (by omega)] at a6
        have tb := tb_b (T := T) s h
        have k40 : ∀ c, g_Mo_readBy_40 (Int32.ofNat p) (Int32.ofNat T) t u (Int32.ofNat (16 * T + s)) w1 (Int32.ofNat c) = (w1, Int32.ofNat (c + if clB w p t.toInt u.toInt (tX w G T s) (tX1 w G T s) (tY w G T s) (tY1 w G T s) then 1 else 0)) := fun c => by
          have k := rb101_n (w := w) (w' := w1) (c := c) (tb := Int32.ofNat T) (q := Int32.ofNat (16 * T + s)) (dp := 0) (l := 0) (t := t) (u := u) hp hs1 hb (by rw [a3, b1]; exact tb.1) (by rw [a4, b2]; exact tb.2.2.1) (by rw [a5, b3]; exact tb.2.1) (by rw [a6, b4]; exact tb.2.2.2.1) hu0 hu
          rw [a3, a4, a5, a6, b1, b2, b3, b4] at k
          exact k
        rw [k40]
        have hd : tD w G T s = (f_Bo_homeLevel (gB G y 0) (gB G y 1) (gB G y 2) (gB G y 3)).toInt.toNat + 1 := by
          unfold tD
          rw [ho]
          rfl
        have hm : (e_Mo_home (Int32.ofNat (16 * T + s)) w1).2 = Int32.ofNat (tD w G T s - 1) := by
          rw [hom_e h hs1 hT (by omega) ho, hd, Nat.add_sub_cancel]
        have h9 : tD w G T s ≤ 9 := oH_9 _ _
        simp only [hm]
        have k72 := rb72_n h hT (by omega) ho hp hb hu0 hu hφ (by omega) h9 (kR w G T p t.toInt u.toInt φ s + if clB w p t.toInt u.toInt (tX w G T s) (tX1 w G T s) (tY w G T s) (tY1 w G T s) then 1 else 0) (Int32.ofNat T) 10 0 w1 (by omega) (by omega) hs1
        have kf := kf_Mo_readBy_72 (Int32.ofNat p) (Int32.ofNat T) t u (Int32.ofNat (16 * T + s)) 10 w1 (Int32.ofNat (kR w G T p t.toInt u.toInt φ s + if clB w p t.toInt u.toInt (tX w G T s) (tX1 w G T s) (tY w G T s) (tY1 w G T s) then 1 else 0)) (Int32.ofNat (tD w G T s - 1)) 0
        have e0 : (Int32.ofNat 0) = 0 := rfl
        rw [e0] at k72
        rw [show (kQ w G T s 0).countP φ = 0 from rfl, Nat.add_zero] at k72
        generalize g_Mo_readBy_72 (Int32.ofNat p) (Int32.ofNat T) t u (Int32.ofNat (16 * T + s)) 10 w1 (Int32.ofNat (kR w G T p t.toInt u.toInt φ s + if clB w p t.toInt u.toInt (tX w G T s) (tX1 w G T s) (tY w G T s) (tY1 w G T s) then 1 else 0)) (Int32.ofNat (tD w G T s - 1)) 0 = z at k72 kf ⊢
        rw [k72.2]
        have ih := rb9_n h hT hp hb hu0 hu hφ f (s + 1) z.1 (by omega) (by omega) (fun d j p q => (yKi kf (ySt_54 (by omega))).trans (hs1 d j p q))
        rw [kR_s] at ih
        unfold rwB at ih
        rw [hr, Bool.true_and] at ih
        exact ⟨ih.1.trans (k72.1.trans a2), ih.2⟩
theorem rdb_n {w w' : yW} {G : List zC} {T p : Nat} {t u : Int64} {φ : Nat × Int × Int → Bool} (h : INV w G) (hs : sRw w w') (hT : T < 2) (hp : p < 65) (hb : u.toInt = 0 ∨ pBd w p) (hu0 : 0 ≤ u.toInt) (hu : u.toInt ≤ 131072) (hφ : sqR w G T p t.toInt u.toInt φ) : (e_Mo_readBy (Int32.ofNat p) (Int32.ofNat T) t u w').1.2 = w'.2 ∧ (e_Mo_readBy (Int32.ofNat p) (Int32.ofNat T) t u w').2 = Int32.ofNat (cntM (rwB w G T p t.toInt u.toInt) 16 + (ixL (tD w G T) (tX w G T) (tY w G T)).countP φ) := by
  have k := rb9_n h hT hp hb hu0 hu hφ 17 0 w' (by omega) (by omega) hs
  unfold e_Mo_readBy
  rw [show 16 * Int32.ofNat T = Int32.ofNat (16 * T + 0) from by rw [show (16 : Int32) = Int32.ofNat 16 from rfl, ← Int32.ofNat_mul, Nat.add_zero]]
  exact k
