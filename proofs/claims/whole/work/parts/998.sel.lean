-- select
theorem amt_Q {w : yW} {e Q : Nat} (hQ : Q < 16) : e_Ta_amountOf e (Int32.ofNat Q) w = w.1 (e + 1) Q := by
  unfold e_Ta_amountOf
  rw [zc_lt, zc_ge, z_nat (by omega), z_i0, show (16 : Int32).toInt = 16 from rfl, decide_eq_false (show ¬ (Q : Int) < 0 by omega), decide_eq_false (show ¬ (16 : Int) ≤ (Q : Int) by omega), n_clamp (by omega)]
  rfl
def sP (w : yW) (G : List zC) (x T : Nat) (li a b : Int32) (r : Nat) : Bool := fF w G x T li r && (!zc .gt a (w.1 56 (16 * T + r)) && !zc .gt (w.1 56 (16 * T + r)) b)
def sL (P : Nat → Bool) (n : Nat) : List Int32 := ((List.range n).filter P).map Int32.ofNat
theorem sL_0 {P : Nat → Bool} {n : Nat} (h : P n = false) : sL P (n + 1) = sL P n := by
  unfold sL
  rw [List.range_succ, List.filter_append, List.filter_cons_of_neg (by rw [h]; decide), List.filter_nil, List.append_nil]
theorem sL_1 {P : Nat → Bool} {n : Nat} (h : P n = true) : sL P (n + 1) = sL P n ++ [Int32.ofNat n] := by
  unfold sL
  rw [List.range_succ, List.filter_append, List.filter_cons_of_pos h, List.filter_nil, List.map_append]
  rfl
theorem sL_le (P : Nat → Bool) (n : Nat) : (sL P n).length ≤ n := by
  unfold sL
  rw [List.length_map]
  exact Nat.le_trans (List.length_filter_le _ _) (by rw [List.length_range]; exact Nat.le_refl _)
theorem fF_some {w : yW} {G : List zC} {x T : Nat} {li : Int32} {r : Nat} (h : fF w G x T li r = true) : w.2.2 (16 + 12 * T) r ≠ none := fun e => by
  unfold fF at h
  rw [e] at h
  cases h
theorem se_L {w : yW} {G : List zC} {T x : Nat} {li a b : Int32} (h : INV w G) (hT : T < 2) : ∀ (f s : Nat) (w1 : yW), s ≤ 16 → 16 < s + f → cRw w w1 → cA w1 (sL (sP w G x T li a b) s) →
    cA (g_ST_select_53 (Int32.ofNat T) li a b (Int32.ofNat (mkM (fF w G x T li) 16)) f w1 (Int32.ofNat s)) (sL (sP w G x T li a b) 16) ∧ (∀ d j, ¬ (d = 0 ∧ j = 7) → d ≠ 9 → (g_ST_select_53 (Int32.ofNat T) li a b (Int32.ofNat (mkM (fF w G x T li) 16)) f w1 (Int32.ofNat s)).1 d j = w1.1 d j) ∧ (g_ST_select_53 (Int32.ofNat T) li a b (Int32.ofNat (mkM (fF w G x T li) 16)) f w1 (Int32.ofNat s)).2 = w1.2
  | 0, s, w1, _, _, _, _ => by omega
  | f + 1, s, w1, a1, a2, hc, hA => by
    rw [g_ST_select_53, zc_ge, z_nat (by omega), show (16 : Int32).toInt = 16 from rfl]
    by_cases e : s = 16
    · rw [decide_eq_true (by omega), cond_true]
      rw [e] at hA
      exact ⟨hA, fun _ _ _ _ => rfl, rfl⟩
    · rw [decide_eq_false (by omega), cond_false, hb_n (by omega), b2_eq, n_inc2, amt_Q (by omega), n_clamp (show T < 2147483648 by omega), show 14 + 12 * T + 1 = 15 + 12 * T by omega, hc.1 (15 + 12 * T) s (by omega) (by omega)]
      have same : sP w G x T li a b s = false → cA (g_ST_select_53 (Int32.ofNat T) li a b (Int32.ofNat (mkM (fF w G x T li) 16)) f w1 (Int32.ofNat (s + 1))) (sL (sP w G x T li a b) 16) ∧ (∀ d j, ¬ (d = 0 ∧ j = 7) → d ≠ 9 → (g_ST_select_53 (Int32.ofNat T) li a b (Int32.ofNat (mkM (fF w G x T li) 16)) f w1 (Int32.ofNat (s + 1))).1 d j = w1.1 d j) ∧ (g_ST_select_53 (Int32.ofNat T) li a b (Int32.ofNat (mkM (fF w G x T li) 16)) f w1 (Int32.ofNat (s + 1))).2 = w1.2 := fun hz =>
        se_L h hT f (s + 1) w1 (by omega) (by omega) hc (by rw [sL_0 hz]; exact hA)
      cases hF : fF w G x T li s with
      | false =>
        rw [Bool.not_false, cond_true]
        exact same (by unfold sP; rw [hF]; rfl)
      | true =>
        rw [Bool.not_true, cond_false, (h.2.2.1 T s hT (by omega)).2 (fF_some hF)]
        have hP : sP w G x T li a b s = (!zc .gt a (w.1 56 (16 * T + s)) && !zc .gt (w.1 56 (16 * T + s)) b) := by
          unfold sP
          rw [hF, Bool.true_and]
        cases c1 : zc .gt a (w.1 56 (16 * T + s)) with
        | true =>
          rw [cond_true]
          exact same (by rw [hP, c1]; rfl)
        | false =>
          rw [cond_false]
          cases c2 : zc .gt (w.1 56 (16 * T + s)) b with
          | true =>
            rw [cond_true]
            exact same (by rw [hP, c1, c2]; rfl)
          | false =>
            rw [cond_false]
            have hz : sP w G x T li a b s = true := by rw [hP, c1, c2]; rfl
            have hl := sL_le (sP w G x T li a b) s
            obtain ⟨k1, k2, k3⟩ := cA_add (a := Int32.ofNat s) hA (by omega)
            rw [← sL_1 hz] at k1
            have ih := se_L (x := x) (li := li) (a := a) (b := b) h hT f (s + 1) (e_ST_addAnswer (Int32.ofNat s) w1) (by omega) (by omega) ⟨fun d j p q => (k2 d j (by omega) (by omega)).trans (hc.1 d j p q), by rw [k3]; exact hc.2⟩ k1
            exact ⟨ih.1, fun d j p q => (ih.2.1 d j p q).trans (k2 d j p q), ih.2.2.trans k3⟩
theorem sr_L {w : yW} {G : List zC} {T x : Nat} {li a b : Int32} (h : INV w G) (hT : T < 2) (he : rEq w G 64 (some x)) : ∀ (f s : Nat) (w1 : yW), s ≤ 16 → 16 < s + f → sRw w w1 → rA w1 (sL (sP w G x T li a b) s) →
    rA (g_Mo_select_31 (Int32.ofNat T) li a b f w1 (Int32.ofNat s)) (sL (sP w G x T li a b) 16) ∧ (∀ d j, ¬ (d = 54 ∧ j = 21) → d ≠ 69 → (g_Mo_select_31 (Int32.ofNat T) li a b f w1 (Int32.ofNat s)).1 d j = w1.1 d j) ∧ (g_Mo_select_31 (Int32.ofNat T) li a b f w1 (Int32.ofNat s)).2.2 = w1.2.2
  | 0, s, w1, _, _, _, _ => by omega
  | f + 1, s, w1, a1, a2, hs, hA => by
    rw [g_Mo_select_31, zc_ge, z_nat (by omega), show (16 : Int32).toInt = 16 from rfl]
    by_cases e : s = 16
    · rw [decide_eq_true (by omega), cond_true]
      rw [e] at hA
      exact ⟨hA, fun _ _ _ _ => rfl, rfl⟩
    · rw [decide_eq_false (by omega), cond_false, show 16 * Int32.ofNat T + Int32.ofNat s = Int32.ofNat (16 * T + s) from by rw [show (16 : Int32) = Int32.ofNat 16 from rfl, ← Int32.ofNat_mul, mk_add], foc_n, n_inc2]
      obtain ⟨f1, f2, f3⟩ := finds_n (li := li) h hs hT (show s < 16 by omega) (show 64 < 65 by omega) he
      rw [f1, b2_eq]
      generalize (e_Mo_finds (Int32.ofNat 64) (Int32.ofNat (16 * T + s)) li w1).1 = z at f2 f3 ⊢
      have hsz : sRw w z := fun d j p q => by rw [f2]; exact hs d j p q
      have hAz : rA z (sL (sP w G x T li a b) s) := rA_i (by rw [f2]) (fun j => by rw [f2]) hA
      have same : sP w G x T li a b s = false → rA (g_Mo_select_31 (Int32.ofNat T) li a b f z (Int32.ofNat (s + 1))) (sL (sP w G x T li a b) 16) ∧ (∀ d j, ¬ (d = 54 ∧ j = 21) → d ≠ 69 → (g_Mo_select_31 (Int32.ofNat T) li a b f z (Int32.ofNat (s + 1))).1 d j = w1.1 d j) ∧ (g_Mo_select_31 (Int32.ofNat T) li a b f z (Int32.ofNat (s + 1))).2.2 = w1.2.2 := fun hz => by
        have ih := sr_L h hT he f (s + 1) z (by omega) (by omega) hsz (by rw [sL_0 hz]; exact hAz)
        rw [f2, f3] at ih
        exact ih
      cases hF : fF w G x T li s with
      | false =>
        rw [Bool.not_false, cond_true]
        exact same (by unfold sP; rw [hF]; rfl)
      | true =>
        rw [Bool.not_true, cond_false]
        unfold g_Mo_select_59
        have hP : sP w G x T li a b s = (!zc .gt a (w.1 56 (16 * T + s)) && !zc .gt (w.1 56 (16 * T + s)) b) := by
          unfold sP
          rw [hF, Bool.true_and]
        rw [n_clamp (show 16 * T + s < 2147483648 by omega), hsz 56 (16 * T + s) (by omega) (by omega)]
        cases c1 : zc .gt a (w.1 56 (16 * T + s)) with
        | true =>
          rw [cond_true]
          exact same (by rw [hP, c1]; rfl)
        | false =>
          rw [cond_false]
          cases c2 : zc .gt (w.1 56 (16 * T + s)) b with
          | true =>
            rw [cond_true]
            exact same (by rw [hP, c1, c2]; rfl)
          | false =>
            rw [cond_false]
            have hz : sP w G x T li a b s = true := by rw [hP, c1, c2]; rfl
            have hl := sL_le (sP w G x T li a b) s
            obtain ⟨k1, k2, k3⟩ := rA_add (a := Int32.ofNat s) hAz (by omega)
            rw [← sL_1 hz] at k1
            generalize wI (wI z 69 (z.1 54 21).toNatClampNeg (Int32.ofNat s)) 54 21 (((wI z 69 (z.1 54 21).toNatClampNeg (Int32.ofNat s)).1 54 21) + 1) = z1 at k1 k2 k3 ⊢
            have ih := sr_L (li := li) (a := a) (b := b) h hT he f (s + 1) z1 (by omega) (by omega) (fun d j p q => (k2 d j (by omega) (by omega)).trans (hsz d j p q)) k1
            exact ⟨ih.1, fun d j p q => (ih.2.1 d j p q).trans ((k2 d j p q).trans (by rw [f2])), ih.2.2.trans (by rw [k3, f3])⟩
theorem sel_c {w A B Z : yW} {S R : yW × Int32} {G : List zC} {t li a b : Int32} (h1 : zc .eq (e_ST_isTable t) 0 = false) (h2 : yN (w.2.2 0 5) = false) (h3 : zc .ge li 0 = true) (eA : e_ST_clearAnswers w = A) (eS : e_ST_searchReads G (yd (A.2.2 0 5)) t li A = S) (eB : wI S.1 0 8 S.2 = B) (eR : e_ST_rowsFound G (yd (B.2.2 0 5)) t li B = R) (eZ : g_ST_select_53 t li a b R.2 17 R.1 0 = Z) : e_ST_select G t li a b w = (Z, Z.1 0 7) := by
  subst eA
  subst eS
  subst eB
  subst eR
  subst eZ
  unfold e_ST_select
  rw [h1, h2, h3]
  rfl
theorem sel_m {w Z : yW} {S : yW × Int32} {t li a b : Int32} (h1 : zc .eq (f_Mo_isTable t) 0 = false) (h2 : zc .eq (w.1 55 64) 0 = false) (h3 : zc .ge li 0 = true) (eZ : g_Mo_select_31 t li a b 17 (wI w 54 21 0) 0 = Z) (eS : e_Mo_searchReads foc t li Z = S) : e_Mo_select t li a b w = (wI S.1 54 22 S.2, (wI S.1 54 22 S.2).1 54 21) := by
  subst eZ
  subst eS
  have h2 : zc .eq (w.1 55 (64 : Int32).toNatClampNeg) 0 = false := h2
  unfold e_Mo_select g_Mo_select_121
  rw [h1, h2, h3]
  rfl
theorem ca_f (w : yW) : (∀ d j, ¬ (d = 0 ∧ (j = 7 ∨ j = 8)) → (e_ST_clearAnswers w).1 d j = w.1 d j) ∧ (e_ST_clearAnswers w).2 = w.2 ∧ (e_ST_clearAnswers w).1 0 7 = 0 ∧ (e_ST_clearAnswers w).1 0 8 = 0 := by
  unfold e_ST_clearAnswers
  refine ⟨fun d j p => ?_, rfl, ?_, ?_⟩
  · rw [wI_nc (by omega), wI_nc (by omega)]
  · rw [wI_nc (by omega), wI_self]
  · rw [wI_self]
theorem cA_nil {w : yW} (h : w.1 0 7 = 0) : cA w [] := ⟨h, Nat.zero_le _, fun i hi => absurd hi (Nat.not_lt_zero _)⟩
theorem rA_nil {w : yW} (h : w.1 54 21 = 0) : rA w [] := ⟨h, fun i hi => absurd hi (Nat.not_lt_zero _)⟩
theorem sim_select {w : yW} {G : List zC} (h : INV w G) (t li a b : Int32) : (e_ST_select G t li a b w).2 = (e_Mo_select t li a b (e_ST_select G t li a b w).1).2 ∧ INV (e_Mo_select t li a b (e_ST_select G t li a b w).1).1 G := by
  have same : (e_ST_select G t li a b w) = (w, -1) → e_Mo_select t li a b w = (w, -1) → (e_ST_select G t li a b w).2 = (e_Mo_select t li a b (e_ST_select G t li a b w).1).2 ∧ INV (e_Mo_select t li a b (e_ST_select G t li a b w).1).1 G := by
    intro e1 e2
    rw [e1]
    show -1 = (e_Mo_select t li a b w).2 ∧ INV (e_Mo_select t li a b w).1 G
    rw [e2]
    exact ⟨rfl, h⟩
  rcases isT_cases t with ⟨T, hT, e, k1, k2⟩ | ⟨k1, k2⟩
  · cases hx : w.2.2 0 5 with
    | none =>
      have hf := h.2.1
      unfold iFoc at hf
      rw [hx] at hf
      have hf : w.1 55 64 = 0 := hf
      refine same ?_ ?_
      · unfold e_ST_select
        rw [k1, hx]
        rfl
      · unfold e_Mo_select
        rw [k2, show w.1 55 (64 : Int32).toNatClampNeg = 0 from hf]
        rfl
    | some x =>
      have he := h.2.1
      unfold iFoc at he
      rw [hx] at he
      have hf : w.1 55 64 = 1 := he.1
      cases hl : zc .ge li 0 with
      | false =>
        refine same ?_ ?_
        · unfold e_ST_select
          rw [k1, hx, hl]
          rfl
        · unfold e_Mo_select
          rw [k2, show w.1 55 (64 : Int32).toNatClampNeg = 1 from hf, hl]
          rfl
      | true =>
        have hli : 0 ≤ li.toInt := by
          rw [zc_ge] at hl
          exact of_decide_eq_true hl
        subst e
        obtain ⟨a1, a2, a3, a4⟩ := ca_f w
        have hkc := sel_c (w := w) (G := G) (t := Int32.ofNat T) (li := li) (a := a) (b := b) (by rw [k1]; rfl) (by rw [hx]; rfl) hl rfl rfl rfl rfl rfl
        generalize e_ST_clearAnswers w = A at a1 a2 a3 a4 hkc
        have hcA : cRw w A := ⟨fun d j p q => a1 d j (by omega), by rw [a2]⟩
        rw [show yd (A.2.2 0 5) = x by rw [a2, hx]; rfl] at hkc
        have ks : ∀ w', sRw w w' → _ := fun w' hs => srch_n (x := x) (p := 64) (li := li) h hcA hs hT (by omega) he
        have ks0 := (ks w (fun _ _ _ _ => rfl)).2.1
        generalize e_ST_searchReads G x (Int32.ofNat T) li A = S at hkc ks ks0
        have b1 : ∀ d j, ¬ (d = 0 ∧ j = 8) → (wI S.1 0 8 S.2).1 d j = A.1 d j := fun d j p => by rw [wI_nc p, ks0.1]
        have b2 : (wI S.1 0 8 S.2).1 0 8 = S.2 := wI_self ..
        have b3 : (wI S.1 0 8 S.2).2.2 = w.2.2 := by
          show S.1.2.2 = _
          rw [ks0.2, a2]
        generalize wI S.1 0 8 S.2 = B at hkc b1 b2 b3
        rw [show yd (B.2.2 0 5) = x by rw [b3, hx]; rfl] at hkc
        obtain ⟨r1, r2, r3⟩ := rf_n (w1 := B) (li := li) h hT (show 64 < 65 by omega) he hli b3
        generalize e_ST_rowsFound G x (Int32.ofNat T) li B = R at hkc r1 r2 r3
        rw [r1] at hkc
        obtain ⟨z1, z2, z3⟩ := se_L (x := x) (li := li) (a := a) (b := b) h hT 17 0 R.1 (by omega) (by omega) ⟨fun d j p q => by rw [r2, b1 d j (by omega), a1 d j (by omega)], r3⟩ (cA_nil (by rw [r2, b1 0 7 (by omega), a3]))
        rw [show Int32.ofNat 0 = 0 from rfl] at z1 z2 z3
        generalize g_ST_select_53 (Int32.ofNat T) li a b (Int32.ofNat (mkM (fF w G x T li) 16)) 17 R.1 0 = Z at hkc z1 z2 z3
        have fZ : ∀ d j, ¬ (d = 0 ∧ (j = 7 ∨ j = 8)) → d ≠ 9 → Z.1 d j = w.1 d j := fun d j p q => by rw [z2 d j (by omega) q, r2, b1 d j (by omega), a1 d j p]
        have fZ8 : Z.1 0 8 = S.2 := by rw [z2 0 8 (by omega) (by omega), r2, b2]
        have fZr : Z.2.2 = w.2.2 := by rw [z3, r3]
        rw [hkc]
        show Z.1 0 7 = (e_Mo_select (Int32.ofNat T) li a b Z).2 ∧ INV (e_Mo_select (Int32.ofNat T) li a b Z).1 G
        have hkm := sel_m (w := Z) (t := Int32.ofNat T) (li := li) (a := a) (b := b) (by rw [k2]; rfl) (by rw [fZ 55 64 (by omega) (by omega), hf]; rfl) hl rfl rfl
        obtain ⟨m1, m2, m3⟩ := sr_L (li := li) (a := a) (b := b) h hT he 17 0 (wI Z 54 21 0) (by omega) (by omega) (fun d j p q => by rw [wI_nc (by omega), fZ d j (by omega) (by omega)]) (rA_nil (wI_self ..))
        rw [show Int32.ofNat 0 = 0 from rfl] at m1 m2 m3
        generalize g_Mo_select_31 (Int32.ofNat T) li a b 17 (wI Z 54 21 0) 0 = M at hkm m1 m2 m3
        have fM : ∀ d j, ¬ (d = 54 ∧ j = 21) → d ≠ 69 → M.1 d j = Z.1 d j := fun d j p q => by rw [m2 d j p q, wI_nc p]
        have hsM : sRw w M := fun d j p q => by rw [fM d j (by omega) (by omega), fZ d j (by omega) (by omega)]
        obtain ⟨s1, _, s2, s3⟩ := ks M hsM
        rw [foc_n] at hkm
        generalize e_Mo_searchReads (Int32.ofNat 64) (Int32.ofNat T) li M = N at hkm s1 s2 s3
        rw [hkm]
        have w21 : (wI N.1 54 22 N.2).1 54 21 = M.1 54 21 := by rw [wI_nc (by omega), s2 54 21 (by omega)]
        have fW : ∀ d j, ¬ (d = 54 ∧ 17 ≤ j ∧ j ≤ 22) → d ≠ 69 → (wI N.1 54 22 N.2).1 d j = Z.1 d j := fun d j p q => by rw [wI_nc (by omega), s2 d j (by omega), fM d j (by omega) q]
        have w22 : (wI N.1 54 22 N.2).1 54 22 = S.2 := by rw [wI_self, s1]
        have w69 : ∀ j, (wI N.1 54 22 N.2).1 69 j = M.1 69 j := fun j => by rw [wI_nc (by omega), s2 69 j (by omega)]
        have wr : (wI N.1 54 22 N.2).2.2 = w.2.2 := by
          show N.1.2.2 = _
          rw [s3, m3]
          exact fZr
        refine ⟨?_, ?_⟩
        · show _ = (wI N.1 54 22 N.2).1 54 21
          rw [w21, z1.1, m1.1]
        · show INV (wI N.1 54 22 N.2) G
          generalize wI N.1 54 22 N.2 = W at w21 fW w22 w69 wr
          refine INV_ans h ⟨fun d j p q r u v => by rw [fW d j (by omega) v, fZ d j p q], wr⟩ (iAns_n (L := sL (sP w G x T li a b) 16) (cA_i (fW 0 7 (by omega) (by omega)) (fun j => fW 9 j (by omega) (by omega)) z1) (rA_i w21 w69 m1) (by rw [w22, fW 0 8 (by omega) (by omega), fZ8])) ?_
          intro j hj
          rw [fW 13 j (by omega) (by omega), fZ 13 j (by omega) (by omega)]
          exact h.2.2.2.2.2.2.2.1 j hj
  · refine same ?_ ?_
    · unfold e_ST_select
      rw [k1]
      rfl
    · unfold e_Mo_select
      rw [k2]
      rfl
