-- join
def pL (F : Nat → Bool) (A n : Nat) : List Int32 := ((List.range n).filter F).map (fun b => Int32.ofNat (16 * A + b))
theorem pL_0 {F : Nat → Bool} {A n : Nat} (h : F n = false) : pL F A (n + 1) = pL F A n := by
  unfold pL
  rw [List.range_succ, List.filter_append, List.filter_cons_of_neg (by rw [h]; decide), List.filter_nil, List.append_nil]
theorem pL_1 {F : Nat → Bool} {A n : Nat} (h : F n = true) : pL F A (n + 1) = pL F A n ++ [Int32.ofNat (16 * A + n)] := by
  unfold pL
  rw [List.range_succ, List.filter_append, List.filter_cons_of_pos h, List.filter_nil, List.map_append]
  rfl
theorem pL_le (F : Nat → Bool) (A n : Nat) : (pL F A n).length ≤ n := by
  unfold pL
  rw [List.length_map]
  exact Nat.le_trans (List.length_filter_le _ _) (by rw [List.length_range]; exact Nat.le_refl _)
def jF (w : yW) (G : List zC) (li : Int32) (A : Nat) : Nat → Bool := match w.2.2 16 A with
  | none => fun _ => false
  | some y => fF w G y 1 li
def jL (w : yW) (G : List zC) (li : Int32) (n : Nat) : List Int32 := (List.range n).flatMap (fun A => pL (jF w G li A) A 16)
theorem jL_s {w : yW} {G : List zC} {li : Int32} {n : Nat} : jL w G li (n + 1) = jL w G li n ++ pL (jF w G li n) n 16 := by
  unfold jL
  rw [List.range_succ, List.flatMap_append, List.flatMap_cons, List.flatMap_nil, List.append_nil]
theorem jL_le (w : yW) (G : List zC) (li : Int32) : ∀ n, (jL w G li n).length ≤ 16 * n
  | 0 => Nat.le_refl _
  | n + 1 => by
    rw [jL_s, List.length_append]
    have := jL_le w G li n
    have := pL_le (jF w G li n) n 16
    omega
def jS (w : yW) (li : Int32) : Nat → Int32
  | 0 => 0
  | n + 1 => bif rowP w 0 n then jS w li n + (e_Mo_searchReads (Int32.ofNat n) (Int32.ofNat 1) li w).2 else jS w li n
theorem ap_L {F : Nat → Bool} {A : Nat} {L0 : List Int32} (hA : A < 16) (hL : L0.length ≤ 16 * A) : ∀ (f s : Nat) (w1 : yW), s ≤ 16 → 16 < s + f → cA w1 (L0 ++ pL F A s) →
    cA (g_ST_addPairs_2 (Int32.ofNat A) (Int32.ofNat (mkM F 16)) f w1 (Int32.ofNat s)) (L0 ++ pL F A 16) ∧ (∀ d j, ¬ (d = 0 ∧ j = 7) → d ≠ 9 → (g_ST_addPairs_2 (Int32.ofNat A) (Int32.ofNat (mkM F 16)) f w1 (Int32.ofNat s)).1 d j = w1.1 d j) ∧ (g_ST_addPairs_2 (Int32.ofNat A) (Int32.ofNat (mkM F 16)) f w1 (Int32.ofNat s)).2 = w1.2
  | 0, s, w1, _, _, _ => by omega
  | f + 1, s, w1, a1, a2, hc => by
    rw [g_ST_addPairs_2, zc_ge, z_nat (by omega), show (16 : Int32).toInt = 16 from rfl]
    by_cases e : s = 16
    · rw [decide_eq_true (by omega), cond_true]
      rw [e] at hc
      exact ⟨hc, fun _ _ _ _ => rfl, rfl⟩
    · rw [decide_eq_false (by omega), cond_false, hb_n (by omega), b2_eq, n_inc2, show 16 * Int32.ofNat A + Int32.ofNat s = Int32.ofNat (16 * A + s) from by rw [show (16 : Int32) = Int32.ofNat 16 from rfl, ← Int32.ofNat_mul, mk_add]]
      cases hF : F s with
      | false =>
        rw [Bool.not_false, cond_true]
        exact ap_L hA hL f (s + 1) w1 (by omega) (by omega) (by rw [pL_0 hF]; exact hc)
      | true =>
        rw [Bool.not_true, cond_false]
        have hl := pL_le F A s
        obtain ⟨k1, k2, k3⟩ := cA_add (a := Int32.ofNat (16 * A + s)) hc (by rw [List.length_append]; omega)
        rw [List.append_assoc, ← pL_1 hF] at k1
        have ih := ap_L hA hL f (s + 1) (e_ST_addAnswer (Int32.ofNat (16 * A + s)) w1) (by omega) (by omega) k1
        exact ⟨ih.1, fun d j p q => (ih.2.1 d j p q).trans (k2 d j p q), ih.2.2.trans k3⟩
theorem jb_L {w : yW} {G : List zC} {li : Int32} {A y : Nat} {L0 : List Int32} (h : INV w G) (hA : A < 16) (hL : L0.length ≤ 16 * A) (he : rEq w G A (some y)) : ∀ (f s : Nat) (w1 : yW), s ≤ 16 → 16 < s + f → sRw w w1 → rA w1 (L0 ++ pL (fF w G y 1 li) A s) →
    rA (g_Mo_join_38 li (Int32.ofNat A) f w1 (Int32.ofNat s)) (L0 ++ pL (fF w G y 1 li) A 16) ∧ (∀ d j, ¬ (d = 54 ∧ j = 21) → d ≠ 69 → (g_Mo_join_38 li (Int32.ofNat A) f w1 (Int32.ofNat s)).1 d j = w1.1 d j) ∧ (g_Mo_join_38 li (Int32.ofNat A) f w1 (Int32.ofNat s)).2.2 = w1.2.2
  | 0, s, w1, _, _, _, _ => by omega
  | f + 1, s, w1, a1, a2, hs, hr => by
    rw [g_Mo_join_38, zc_ge, z_nat (by omega), show (16 : Int32).toInt = 16 from rfl]
    by_cases e : s = 16
    · rw [decide_eq_true (by omega), cond_true]
      rw [e] at hr
      exact ⟨hr, fun _ _ _ _ => rfl, rfl⟩
    · rw [decide_eq_false (by omega), cond_false, show 16 + Int32.ofNat s = Int32.ofNat (16 * 1 + s) from mk_add 16 s, n_inc2]
      obtain ⟨f1, f2, f3⟩ := finds_n (li := li) h hs (show 1 < 2 by omega) (show s < 16 by omega) (show A < 65 by omega) he
      rw [f1, b2_ne]
      generalize (e_Mo_finds (Int32.ofNat A) (Int32.ofNat (16 * 1 + s)) li w1).1 = z at f2 f3 ⊢
      have hsz : sRw w z := fun d j p q => by rw [f2]; exact hs d j p q
      have hrz : rA z (L0 ++ pL (fF w G y 1 li) A s) := rA_i (by rw [f2]) (fun j => by rw [f2]) hr
      cases hF : fF w G y 1 li s with
      | false =>
        rw [cond_false]
        have ih := jb_L h hA hL he f (s + 1) z (by omega) (by omega) hsz (by rw [pL_0 hF]; exact hrz)
        rw [f2, f3] at ih
        exact ih
      | true =>
        rw [cond_true]
        unfold g_Mo_join_60
        rw [show 16 * Int32.ofNat A + Int32.ofNat s = Int32.ofNat (16 * A + s) from by rw [show (16 : Int32) = Int32.ofNat 16 from rfl, ← Int32.ofNat_mul, mk_add]]
        have hl := pL_le (fF w G y 1 li) A s
        obtain ⟨k1, k2, k3⟩ := rA_add (a := Int32.ofNat (16 * A + s)) hrz (by rw [List.length_append]; omega)
        rw [List.append_assoc, ← pL_1 hF] at k1
        generalize wI (wI z 69 (z.1 54 21).toNatClampNeg (Int32.ofNat (16 * A + s))) 54 21 (((wI z 69 (z.1 54 21).toNatClampNeg (Int32.ofNat (16 * A + s))).1 54 21) + 1) = z1 at k1 k2 k3 ⊢
        have ih := jb_L h hA hL he f (s + 1) z1 (by omega) (by omega) (fun d j p q => (k2 d j (by omega) (by omega)).trans (hsz d j p q)) k1
        exact ⟨ih.1, fun d j p q => (ih.2.1 d j p q).trans ((k2 d j p q).trans (by rw [f2])), ih.2.2.trans (by rw [k3, f3])⟩
theorem row_0 {w : yW} {G : List zC} {A y : Nat} (h : INV w G) (hA : A < 16) (hy : w.2.2 16 A = some y) : rEq w G A (some y) := by
  have k := row_e (T := 0) h (by omega) hA hy
  rw [show 16 * 0 + A = A by omega] at k
  exact k
theorem jc_L {w : yW} {G : List zC} {li : Int32} (h : INV w G) (hli : 0 ≤ li.toInt) : ∀ (f s : Nat) (w1 : yW), s ≤ 16 → 16 < s + f → cRw w w1 → cA w1 (jL w G li s) → w1.1 0 8 = jS w li s →
    cA (g_ST_join_12 G li f w1 (Int32.ofNat s)) (jL w G li 16) ∧ (g_ST_join_12 G li f w1 (Int32.ofNat s)).1 0 8 = jS w li 16 ∧ (∀ d j, ¬ (d = 0 ∧ (j = 7 ∨ j = 8)) → d ≠ 9 → (g_ST_join_12 G li f w1 (Int32.ofNat s)).1 d j = w1.1 d j) ∧ (g_ST_join_12 G li f w1 (Int32.ofNat s)).2.2 = w.2.2
  | 0, s, w1, _, _, _, _, _ => by omega
  | f + 1, s, w1, a1, a2, hc, hA, h8 => by
    rw [g_ST_join_12, zc_ge, z_nat (by omega), show (16 : Int32).toInt = 16 from rfl]
    by_cases e : s = 16
    · rw [decide_eq_true (by omega), cond_true]
      rw [e] at hA h8
      exact ⟨hA, h8, fun _ _ _ _ => rfl, hc.2⟩
    · rw [decide_eq_false (by omega), cond_false, show 14 + 12 * (0 : Int32).toNatClampNeg = 14 from rfl, placeAt_Q (by omega), n_inc2, hc.2, show (1 : Int32) = Int32.ofNat 1 from rfl]
      show cA (bif yN (w.2.2 16 s) then _ else _ : yW) _ ∧ (bif yN (w.2.2 16 s) then _ else _ : yW).1 0 8 = _ ∧ (∀ d j, _ → _ → (bif yN (w.2.2 16 s) then _ else _ : yW).1 d j = _) ∧ (bif yN (w.2.2 16 s) then _ else _ : yW).2.2 = _
      cases ho : w.2.2 16 s with
      | none =>
        rw [show yN none = true from rfl, cond_true]
        refine jc_L h hli f (s + 1) w1 (by omega) (by omega) hc ?_ ?_
        · rw [jL_s, show jF w G li s = fun _ => false by unfold jF; rw [ho], show pL (fun _ => false) s 16 = [] from rfl, List.append_nil]
          exact hA
        · rw [jS, show rowP w 0 s = false by unfold rowP; rw [show w.2.2 (16 + 12 * 0) s = none from ho]; rfl]
          exact h8
      | some y =>
        have he := row_0 h (by omega) ho
        rw [show yN (some y) = false from rfl, cond_false, show yd (some y) = y from rfl]
        obtain ⟨s1, ⟨s2, s3⟩, _⟩ := srch_n (w1 := w1) (w' := w) (li := li) h hc (fun _ _ _ _ => rfl) (show 1 < 2 by omega) (show s < 65 by omega) he
        generalize e_ST_searchReads G y (Int32.ofNat 1) li w1 = S at s1 s2 s3 ⊢
        have b1 : ∀ d j, ¬ (d = 0 ∧ j = 8) → (wI S.1 0 8 (w1.1 0 8 + S.2)).1 d j = w1.1 d j := fun d j p => by rw [wI_nc p, s2]
        have b2 : (wI S.1 0 8 (w1.1 0 8 + S.2)).1 0 8 = w1.1 0 8 + S.2 := wI_self ..
        have b3 : (wI S.1 0 8 (w1.1 0 8 + S.2)).2.2 = w1.2.2 := s3
        generalize wI S.1 0 8 (w1.1 0 8 + S.2) = B at b1 b2 b3 ⊢
        obtain ⟨r1, r2, r3⟩ := rf_n (w1 := B) (li := li) h (show 1 < 2 by omega) (show s < 65 by omega) he hli (b3.trans hc.2)
        generalize e_ST_rowsFound G y (Int32.ofNat 1) li B = R at r1 r2 r3 ⊢
        rw [r1]
        unfold e_ST_addPairs
        have hl := jL_le w G li s
        obtain ⟨z1, z2, z3⟩ := ap_L (F := fF w G y 1 li) (A := s) (L0 := jL w G li s) (by omega) hl 17 0 R.1 (by omega) (by omega) (by
          rw [show pL (fF w G y 1 li) s 0 = [] from rfl, List.append_nil]
          exact cA_i (by rw [r2, b1 0 7 (by omega)]) (fun j => by rw [r2, b1 9 j (by omega)]) hA)
        rw [show Int32.ofNat 0 = 0 from rfl] at z1 z2 z3
        generalize g_ST_addPairs_2 (Int32.ofNat s) (Int32.ofNat (mkM (fF w G y 1 li) 16)) 17 R.1 0 = Z at z1 z2 z3 ⊢
        have fZ : ∀ d j, ¬ (d = 0 ∧ (j = 7 ∨ j = 8)) → d ≠ 9 → Z.1 d j = w1.1 d j := fun d j p q => by rw [z2 d j (by omega) q, r2, b1 d j (by omega)]
        have fr : Z.2.2 = w.2.2 := by rw [z3, r3]
        have ih := jc_L h hli f (s + 1) Z (by omega) (by omega) ⟨fun d j p q => (fZ d j (by omega) (by omega)).trans (hc.1 d j p q), fr⟩ (by
          rw [jL_s, show jF w G li s = fF w G y 1 li by unfold jF; rw [ho]]
          exact z1) (by
          rw [z2 0 8 (by omega) (by omega), r2, b2, h8, s1, jS, show rowP w 0 s = true by unfold rowP; rw [show w.2.2 (16 + 12 * 0) s = some y from ho]; rfl]
          rfl)
        exact ⟨ih.1, ih.2.1, fun d j p q => (ih.2.2.1 d j p q).trans (fZ d j p q), ih.2.2.2⟩
theorem jm_L {w : yW} {G : List zC} {li : Int32} (h : INV w G) : ∀ (f s : Nat) (w1 : yW), s ≤ 16 → 16 < s + f → sRw w w1 → rA w1 (jL w G li s) → w1.1 54 22 = jS w li s →
    rA (g_Mo_join_18 li f w1 (Int32.ofNat s)) (jL w G li 16) ∧ (g_Mo_join_18 li f w1 (Int32.ofNat s)).1 54 22 = jS w li 16 ∧ (∀ d j, ¬ (d = 54 ∧ 17 ≤ j ∧ j ≤ 22) → d ≠ 69 → (g_Mo_join_18 li f w1 (Int32.ofNat s)).1 d j = w1.1 d j) ∧ (g_Mo_join_18 li f w1 (Int32.ofNat s)).2.2 = w1.2.2
  | 0, s, w1, _, _, _, _, _ => by omega
  | f + 1, s, w1, a1, a2, hs, hA, h8 => by
    rw [g_Mo_join_18, zc_ge, z_nat (by omega), show (16 : Int32).toInt = 16 from rfl]
    by_cases e : s = 16
    · rw [decide_eq_true (by omega), cond_true]
      rw [e] at hA h8
      exact ⟨hA, h8, fun _ _ _ _ => rfl, rfl⟩
    · have ht := there_s (T := 0) h hs (by omega) (show s < 16 by omega)
      rw [show 16 * 0 + s = s by omega] at ht
      rw [decide_eq_false (by omega), cond_false, n_clamp (by omega), ht, n_inc2]
      cases ho : w.2.2 16 s with
      | none =>
        have hr : rowP w 0 s = false := by unfold rowP; rw [show w.2.2 (16 + 12 * 0) s = none from ho]; rfl
        rw [hr, cond_false]
        refine jm_L h f (s + 1) w1 (by omega) (by omega) hs ?_ ?_
        · rw [jL_s, show jF w G li s = fun _ => false by unfold jF; rw [ho], show pL (fun _ => false) s 16 = [] from rfl, List.append_nil]
          exact hA
        · rw [jS, hr]
          exact h8
      | some y =>
        have he := row_0 h (by omega) ho
        have hr : rowP w 0 s = true := by unfold rowP; rw [show w.2.2 (16 + 12 * 0) s = some y from ho]; rfl
        rw [hr, cond_true]
        have hl := jL_le w G li s
        obtain ⟨z1, z2, z3⟩ := jb_L (li := li) (L0 := jL w G li s) h (show s < 16 by omega) hl he 17 0 w1 (by omega) (by omega) hs (by
          rw [show pL (fF w G y 1 li) s 0 = [] from rfl, List.append_nil]
          exact hA)
        rw [show Int32.ofNat 0 = 0 from rfl] at z1 z2 z3
        generalize g_Mo_join_38 li (Int32.ofNat s) 17 w1 0 = Z at z1 z2 z3 ⊢
        have hsZ : sRw w Z := fun d j p q => (z2 d j (by omega) (by omega)).trans (hs d j p q)
        obtain ⟨s1, _, _⟩ := srch_n (w1 := w) (w' := w) (li := li) h ⟨fun _ _ _ _ => rfl, rfl⟩ (fun _ _ _ _ => rfl) (show 1 < 2 by omega) (show s < 65 by omega) he
        obtain ⟨t1, _, t2, t3⟩ := srch_n (w1 := w) (w' := Z) (li := li) h ⟨fun _ _ _ _ => rfl, rfl⟩ hsZ (show 1 < 2 by omega) (show s < 65 by omega) he
        have q1 : (e_Mo_searchReads (Int32.ofNat s) (Int32.ofNat 1) li Z).2 = (e_Mo_searchReads (Int32.ofNat s) (Int32.ofNat 1) li w).2 := t1.symm.trans s1
        unfold g_Mo_join_91
        rw [show (1 : Int32) = Int32.ofNat 1 from rfl]
        generalize e_Mo_searchReads (Int32.ofNat s) (Int32.ofNat 1) li Z = S at q1 t2 t3 ⊢
        have b1 : ∀ d j, ¬ (d = 54 ∧ 17 ≤ j ∧ j ≤ 22) → d ≠ 69 → (wI S.1 54 22 (S.1.1 54 22 + S.2)).1 d j = w1.1 d j := fun d j p q => by rw [wI_nc (by omega), t2 d j (by omega), z2 d j (by omega) q]
        have b2 : (wI S.1 54 22 (S.1.1 54 22 + S.2)).1 54 22 = jS w li (s + 1) := by
          rw [wI_self, t2 54 22 (by omega), z2 54 22 (by omega) (by omega), h8, q1, jS, hr]
          rfl
        have b3 : (wI S.1 54 22 (S.1.1 54 22 + S.2)).2.2 = w1.2.2 := by
          show S.1.2.2 = _
          rw [t3, z3]
        have b4 : rA (wI S.1 54 22 (S.1.1 54 22 + S.2)) (jL w G li (s + 1)) := by
          rw [jL_s, show jF w G li s = fF w G y 1 li by unfold jF; rw [ho]]
          exact rA_i (by rw [wI_nc (by omega), t2 54 21 (by omega)]) (fun j => by rw [wI_nc (by omega), t2 69 j (by omega)]) z1
        generalize wI S.1 54 22 (S.1.1 54 22 + S.2) = W at b1 b2 b3 b4 ⊢
        have ih := jm_L h f (s + 1) W (by omega) (by omega) (fun d j p q => (b1 d j (by omega) (by omega)).trans (hs d j p q)) b4 b2
        exact ⟨ih.1, ih.2.1, fun d j p q => (ih.2.2.1 d j p q).trans (b1 d j p q), ih.2.2.2.trans b3⟩
theorem sim_join {w : yW} {G : List zC} (h : INV w G) (li : Int32) : (e_ST_join G li w).2 = (e_Mo_join li (e_ST_join G li w).1).2 ∧ INV (e_Mo_join li (e_ST_join G li w).1).1 G := by
  unfold e_ST_join e_Mo_join
  cases hl : zc .ge li 0 with
  | false => exact ⟨rfl, h⟩
  | true =>
    rw [cond_true, cond_true]
    have hli : 0 ≤ li.toInt := by
      rw [zc_ge] at hl
      exact of_decide_eq_true hl
    obtain ⟨a1, a2, a3, a4⟩ := ca_f w
    generalize e_ST_clearAnswers w = A at a1 a2 a3 a4 ⊢
    obtain ⟨z1, z2, z3, z4⟩ := jc_L h hli 17 0 A (by omega) (by omega) ⟨fun d j p q => a1 d j (by omega), by rw [a2]⟩ (cA_nil a3) a4
    rw [show Int32.ofNat 0 = 0 from rfl] at z1 z2 z3 z4
    generalize g_ST_join_12 G li 17 A 0 = Z at z1 z2 z3 z4 ⊢
    have fZ : ∀ d j, ¬ (d = 0 ∧ (j = 7 ∨ j = 8)) → d ≠ 9 → Z.1 d j = w.1 d j := fun d j p q => (z3 d j p q).trans (a1 d j p)
    show Z.1 0 7 = (g_Mo_join_18 li 17 (wI (wI Z 54 21 0) 54 22 0) 0).1 54 21 ∧ INV (g_Mo_join_18 li 17 (wI (wI Z 54 21 0) 54 22 0) 0) G
    have m0 : ∀ d j, ¬ (d = 54 ∧ (j = 21 ∨ j = 22)) → (wI (wI Z 54 21 0) 54 22 0).1 d j = Z.1 d j := fun d j p => by rw [wI_nc (by omega), wI_nc (by omega)]
    obtain ⟨m1, m2, m3, m4⟩ := jm_L (li := li) h 17 0 (wI (wI Z 54 21 0) 54 22 0) (by omega) (by omega) (fun d j p q => by rw [m0 d j (by omega), fZ d j (by omega) (by omega)]) (rA_nil (by rw [wI_nc (by omega), wI_self])) (wI_self ..)
    rw [show Int32.ofNat 0 = 0 from rfl] at m1 m2 m3 m4
    generalize g_Mo_join_18 li 17 (wI (wI Z 54 21 0) 54 22 0) 0 = W at m1 m2 m3 m4 ⊢
    have fW : ∀ d j, ¬ (d = 54 ∧ 17 ≤ j ∧ j ≤ 22) → d ≠ 69 → W.1 d j = Z.1 d j := fun d j p q => by rw [m3 d j p q, m0 d j (by omega)]
    have wr : W.2.2 = w.2.2 := by
      rw [m4]
      show Z.2.2 = _
      exact z4
    refine ⟨by rw [z1.1, m1.1], ?_⟩
    refine INV_ans h ⟨fun d j p q r u v => by rw [fW d j (by omega) v, fZ d j p q], wr⟩ (iAns_n (L := jL w G li 16) (cA_i (fW 0 7 (by omega) (by omega)) (fun j => fW 9 j (by omega) (by omega)) z1) m1 (by rw [m2, fW 0 8 (by omega) (by omega), z2])) ?_
    intro j hj
    rw [fW 13 j (by omega) (by omega), fZ 13 j (by omega) (by omega)]
    exact h.2.2.2.2.2.2.2.1 j hj
