-- commit
def c34R (w0 : yW) (U W C : Nat → Bool) (Z : yW × Int32 × Int32 × Int32) : Prop := Z.2.1 = Int32.ofNat (cntM W 8) ∧ Z.2.2.1 = b2 (decide (0 < cntM C 8)) ∧ Z.2.2.2 = b2 (decide (cntM W 8 ≤ lfC U 16)) ∧ (∀ d j, d ≠ 71 → Z.1.1 d j = w0.1 d j) ∧ Z.1.2 = w0.2 ∧ (cntM W 8 ≤ lfC U 16 → RIx Z.1 U W 8)
theorem e49 (mo wr ro p : Int32) (c a : Bool) (w : yW) : g_Mo_commit_49 mo wr ro p (b2 c) w (b2 a) = (w, b2 (a || c)) := by
  unfold g_Mo_commit_49
  cases a <;> cases c <;> rfl
theorem an_s (C : Nat → Bool) (k : Nat) : (decide (0 < cntM C k) || C k) = decide (0 < cntM C (k + 1)) := by
  rw [cntM_succ]
  cases C k with
  | false => rw [if_neg (by decide), Nat.add_zero, Bool.or_false]
  | true => rw [if_pos rfl, Bool.or_true, decide_eq_true (by omega)]
theorem c34_L {w w0 : yW} {G : List zC} {mo : Int32} {U W C : Nat → Bool} (h : INV w G) (hs0 : sRw w w0) (hC : C = pgF (dS w G)) (hW : ∀ p, p < 8 → W p = (C p && pgF (pR w) p)) : ∀ (n k : Nat) (w1 : yW), k ≤ 8 → 8 < k + n → (∀ d j, d ≠ 71 → w1.1 d j = w0.1 d j) → w1.2 = w0.2 → (cntM W k ≤ lfC U 16 → RIx w1 U W k) →
    c34R w0 U W C (g_Mo_commit_34 mo n w1 (Int32.ofNat (cntM W k)) (b2 (decide (0 < cntM C k))) (b2 (decide (cntM W k ≤ lfC U 16))) (Int32.ofNat k))
  | 0, k, w1, h1, h2, _, _, _ => by omega
  | n + 1, k, w1, h1, h2, f1, f2, hI => by
    rw [g_Mo_commit_34, zc_ge, z_nat (by omega), show (8 : Int32).toInt = 8 from rfl]
    by_cases e : k = 8
    · rw [decide_eq_true (by omega), cond_true]
      rw [e] at hI ⊢
      exact ⟨rfl, rfl, rfl, f1, f2, hI⟩
    · have hs1 : sRw w w1 := fun d j a b => (f1 d j (by omega)).trans (hs0 d j a b)
      have ec : e_Mo_changed (Int32.ofNat k) w1 = b2 (C k) := by rw [hC]; exact chg_n h hs1 (by omega)
      rw [decide_eq_false (by omega), cond_false, ec, e49, an_s]
      show c34R w0 U W C (bif zc .eq (b2 (C k)) 0 then g_Mo_commit_34 mo n w1 (Int32.ofNat (cntM W k)) (b2 (decide (0 < cntM C (k + 1)))) (b2 (decide (cntM W k ≤ lfC U 16))) (Int32.ofNat k + Int32.ofInt 1) else (bif zc .ne (e_Mo_filled (Int32.ofNat k) w1) 0 then g_Mo_commit_34 mo n ((g_Mo_commit_81 mo (Int32.ofNat (cntM W k)) (b2 (decide (0 < cntM C (k + 1)))) (Int32.ofNat k) w1 (b2 (decide (cntM W k ≤ lfC U 16)))).1) (Int32.ofNat (cntM W k) + Int32.ofInt 1) (b2 (decide (0 < cntM C (k + 1)))) ((g_Mo_commit_81 mo (Int32.ofNat (cntM W k)) (b2 (decide (0 < cntM C (k + 1)))) (Int32.ofNat k) w1 (b2 (decide (cntM W k ≤ lfC U 16)))).2) (Int32.ofNat k + Int32.ofInt 1) else g_Mo_commit_34 mo n w1 (Int32.ofNat (cntM W k)) (b2 (decide (0 < cntM C (k + 1)))) (b2 (decide (cntM W k ≤ lfC U 16))) (Int32.ofNat k + Int32.ofInt 1)))
      rw [fil_n h hs1 (by omega), b2_eq, b2_ne, n_inc2, n_inc2]
      have skip : W k = false → c34R w0 U W C (g_Mo_commit_34 mo n w1 (Int32.ofNat (cntM W k)) (b2 (decide (0 < cntM C (k + 1)))) (b2 (decide (cntM W k ≤ lfC U 16))) (Int32.ofNat (k + 1))) := fun hWk => by
        have hcn : cntM W (k + 1) = cntM W k := by rw [cntM_succ, hWk, if_neg (by decide), Nat.add_zero]
        have ih := c34_L (mo := mo) (U := U) h hs0 hC hW n (k + 1) w1 (by omega) (by omega) f1 f2 (fun hc => skp hWk (hI (by omega)))
        rw [hcn] at ih
        exact ih
      have hWk := hW k (by omega)
      cases hCk : C k with
      | false =>
        rw [Bool.not_false, cond_true]
        exact skip (by rw [hWk, hCk]; rfl)
      | true =>
        rw [Bool.not_true, cond_false]
        cases hP : pgF (pR w) k with
        | false =>
          rw [cond_false]
          exact skip (by rw [hWk, hCk, hP]; rfl)
        | true =>
          rw [cond_true]
          have hWt : W k = true := by rw [hWk, hCk, hP]; rfl
          have hcn : cntM W (k + 1) = cntM W k + 1 := by rw [cntM_succ, hWt, if_pos rfl]
          by_cases hc : cntM W k ≤ lfC U 16
          · obtain ⟨k1, k2⟩ := wst (show k < 9 by omega) hWt hc (hI hc)
            have e81 : g_Mo_commit_81 mo (Int32.ofNat (cntM W k)) (b2 (decide (0 < cntM C (k + 1)))) (Int32.ofNat k) w1 (b2 (decide (cntM W k ≤ lfC U 16))) = (wI w1 71 k (Int32.ofNat (lfr (uS U W k) 16 0)), b2 (decide (cntM W (k + 1) ≤ lfC U 16))) := by
              unfold g_Mo_commit_81
              rw [decide_eq_true hc, k1]
              cases decide (cntM W (k + 1) ≤ lfC U 16) <;> rfl
            rw [e81]
            have ih := c34_L (mo := mo) (U := U) h hs0 hC hW n (k + 1) (wI w1 71 k (Int32.ofNat (lfr (uS U W k) 16 0))) (by omega) (by omega) (fun d j hd => (wI_nc (by omega)).trans (f1 d j hd)) f2 k2
            rw [← hcn]
            exact ih
          · have e81 : g_Mo_commit_81 mo (Int32.ofNat (cntM W k)) (b2 (decide (0 < cntM C (k + 1)))) (Int32.ofNat k) w1 (b2 (decide (cntM W k ≤ lfC U 16))) = (w1, b2 (decide (cntM W (k + 1) ≤ lfC U 16))) := by
              unfold g_Mo_commit_81
              rw [decide_eq_false hc, decide_eq_false (show ¬ cntM W (k + 1) ≤ lfC U 16 by omega)]
              rfl
            rw [e81]
            have ih := c34_L (mo := mo) (U := U) h hs0 hC hW n (k + 1) w1 (by omega) (by omega) f1 f2 (fun hc2 => absurd hc2 (by omega))
            rw [← hcn]
            exact ih
theorem c166_L {w : yW} {G : List zC} {mo wr : Int32} {U W C : Nat → Bool} (h : INV w G) (hC : C = pgF (dS w G)) (hW : ∀ p, p < 8 → W p = (C p && pgF (pR w) p)) (h8 : W 8 = true) : ∀ (n p : Nat) (w1 : yW), p ≤ 9 → 9 < p + n → sRw w w1 → (∀ q, q < 9 → w1.1 71 q = if W q then Int32.ofNat (lfr (uS U W q) 16 0) else -1) → (∀ q, q < p → w1.1 70 q = nFr U W C w q) → (∀ q, p ≤ q → w1.1 70 q = w.1 70 q) →
    (∀ q, q < 9 → (g_Mo_commit_166 mo wr n w1 (Int32.ofNat p)).1 70 q = nFr U W C w q) ∧ (∀ d j, d ≠ 70 → (g_Mo_commit_166 mo wr n w1 (Int32.ofNat p)).1 d j = w1.1 d j) ∧ (g_Mo_commit_166 mo wr n w1 (Int32.ofNat p)).2 = w1.2
  | 0, p, w1, h1, h2, _, _, _, _ => by omega
  | n + 1, p, w1, h1, h2, hs, h71, ha, hb => by
    rw [g_Mo_commit_166, zc_ge, z_nat (by omega), show (9 : Int32).toInt = 9 from rfl]
    by_cases e : p = 9
    · rw [decide_eq_true (by omega), cond_true]
      rw [e] at ha
      exact ⟨ha, fun _ _ _ => rfl, rfl⟩
    · rw [decide_eq_false (by omega), cond_false, n_inc2]
      have e189 : g_Mo_commit_189 mo wr (Int32.ofNat p) w1 = wI w1 70 p (w1.1 71 p) := by
        unfold g_Mo_commit_189
        rw [n_clamp (by omega)]
      have put : nFr U W C w p = w1.1 71 p → (∀ q, q < 9 → (g_Mo_commit_166 mo wr n (wI w1 70 p (w1.1 71 p)) (Int32.ofNat (p + 1))).1 70 q = nFr U W C w q) ∧ (∀ d j, d ≠ 70 → (g_Mo_commit_166 mo wr n (wI w1 70 p (w1.1 71 p)) (Int32.ofNat (p + 1))).1 d j = w1.1 d j) ∧ (g_Mo_commit_166 mo wr n (wI w1 70 p (w1.1 71 p)) (Int32.ofNat (p + 1))).2 = w1.2 := fun hv => by
        have ih := c166_L (mo := mo) (wr := wr) (U := U) h hC hW h8 n (p + 1) (wI w1 70 p (w1.1 71 p)) (by omega) (by omega) (fun d j a b => (wI_nc (by omega)).trans (hs d j a b)) (fun q hq => (wI_nc (by omega)).trans (h71 q hq)) (fun q hq => by
          by_cases eq : q = p
          · rw [eq, wI_self, hv]
          · rw [wI_nc (by omega)]
            exact ha q (by omega)) (fun q hq => by
          rw [wI_nc (by omega)]
          exact hb q (by omega))
        exact ⟨ih.1, fun d j hd => (ih.2.1 d j hd).trans (wI_nc (by omega)), ih.2.2⟩
      rw [e189, zc_eq, z_nat (by omega), show (8 : Int32).toInt = 8 from rfl]
      by_cases e8 : p = 8
      · rw [decide_eq_true (by omega), cond_true]
        refine put ?_
        rw [h71 p (by omega), e8]
        unfold nFr
        rw [h8, if_pos rfl, if_pos rfl]
      · have ec : e_Mo_changed (Int32.ofNat p) w1 = b2 (C p) := by rw [hC]; exact chg_n h hs (by omega)
        rw [decide_eq_false (by omega), cond_false, ec, b2_eq]
        have hWp := hW p (by omega)
        cases hCp : C p with
        | true =>
          rw [Bool.not_true, cond_false]
          refine put ?_
          rw [h71 p (by omega)]
          unfold nFr
          rw [hCp, if_pos rfl]
        | false =>
          rw [Bool.not_false, cond_true]
          refine c166_L h hC hW h8 n (p + 1) w1 (by omega) (by omega) hs h71 (fun q hq => ?_) (fun q hq => hb q (by omega))
          by_cases eq : q = p
          · rw [eq]
            unfold nFr
            rw [hCp, hWp, hCp, Bool.false_and, if_neg (by decide), if_neg (by decide)]
            exact hb p (Nat.le_refl _)
          · exact ha q (by omega)
theorem mcom_L {G : List zC} {mo wr : Int32} {o : Nat → Option Nat} : ∀ (n S : Nat) (w : yW), S ≤ 32 → 32 < S + n → iMany w → (∀ r, r < 32 → rEq w G r (o r)) → (∀ r, r < S → rEq w G (32 + r) (o r) ∧ w.1 56 (32 + r) = w.1 56 r) →
    (∀ c j, ¬ (55 ≤ c ∧ c ≤ 58 ∧ 32 ≤ j ∧ j < 64) → ¬ ((c = 59 ∨ c = 60) ∧ 192 ≤ j ∧ j < 384) → ¬ (61 ≤ c ∧ c ≤ 64 ∧ 32 ≤ j ∧ j < 64) → (g_Mo_commit_212 mo wr n w (Int32.ofNat S)).1 c j = w.1 c j) ∧ (g_Mo_commit_212 mo wr n w (Int32.ofNat S)).2 = w.2 ∧ iMany (g_Mo_commit_212 mo wr n w (Int32.ofNat S)) ∧ (∀ r, r < 32 → rEq (g_Mo_commit_212 mo wr n w (Int32.ofNat S)) G (32 + r) (o r) ∧ (g_Mo_commit_212 mo wr n w (Int32.ofNat S)).1 56 (32 + r) = w.1 56 r)
  | 0, S, w, h1, h2, hm, hc, hp => by omega
  | n + 1, S, w, h1, h2, hm, hc, hp => by
    rw [g_Mo_commit_212, zc_ge, z_nat (by omega), show (32 : Int32).toInt = 32 from rfl]
    by_cases hS : S = 32
    · subst hS
      rw [decide_eq_true (by omega)]
      exact ⟨fun _ _ _ _ _ => rfl, rfl, hm, fun r hr => hp r hr⟩
    · rw [decide_eq_false (by omega), cond_false, n_inc2, show Int32.ofNat S + 32 = Int32.ofNat (S + 32) from mk_add S 32, n_clamp (by omega)]
      generalize w.1 58 S = mv
      have hm0 := hm S (by omega)
      have hc0 := hc S (by omega)
      obtain ⟨f1, f2, f3, f4, f5⟩ := row_cp (mv := mv) (b := S + 32) (by omega) (by omega) (by omega) hm0 hc0
      generalize e_Mo_copyRow (Int32.ofNat S) (Int32.ofNat (S + 32)) mv w = w1 at f1 f2 f3 f4 f5 ⊢
      have hre : ∀ s o, s < 65 → s ≠ S + 32 → rEq w G s o → rEq w1 G s o := fun s o hs hne hq => rEq_i (fun d j x y z u v => f1 d j (by omega) (by omega) (by omega)) hq
      obtain ⟨k1, k2, k3, k4⟩ := mcom_L (mo := mo) (wr := wr) (o := o) n (S + 1) w1 (by omega) (by omega) (fun s hs => by
        by_cases e : s = S + 32
        · rw [e]; exact f5
        · rw [f1 55 s (by omega) (by omega) (by omega), f1 58 s (by omega) (by omega) (by omega)]; exact hm s hs) (fun r hr => hre _ _ (by omega) (by omega) (hc r hr)) (fun r hr => by
        by_cases e : r = S
        · rw [e, show 32 + S = S + 32 by omega]
          refine ⟨f3, ?_⟩
          rw [f4, f1 _ _ (by omega) (by omega) (by omega)]
        · rw [f1 56 r (by omega) (by omega) (by omega), f1 56 (32 + r) (by omega) (by omega) (by omega)]
          exact ⟨hre _ _ (by omega) (by omega) (hp r (by omega)).1, (hp r (by omega)).2⟩)
      refine ⟨fun c j x y z => ?_, k2.trans f2, k3, fun r hr => ⟨(k4 r hr).1, ?_⟩⟩
      · rw [k1 c j x y z, f1 c j (by omega) (by omega) (by omega)]
      · rw [(k4 r hr).2, f1 _ _ (by omega) (by omega) (by omega)]
theorem kp_eq (w : yW) : e_ST_keepPresentTables w = e_Ta_copy (17 + 12 * 1) (14 + 12 * 1) (e_Ta_copy (17 + 12 * 0) (14 + 12 * 0) w) := by
  unfold e_ST_keepPresentTables
  rw [g_ST_keepPresentTables_2, show zc .ge 0 2 = false from rfl, cond_false, show (0 : Int32) + Int32.ofInt 1 = 1 from rfl, g_ST_keepPresentTables_2, show zc .ge 1 2 = false from rfl, cond_false, show (1 : Int32) + Int32.ofInt 1 = 2 from rfl, g_ST_keepPresentTables_2, show zc .ge 2 2 = true from rfl, cond_true, show (0 : Int32).toNatClampNeg = 0 from rfl, show (1 : Int32).toNatClampNeg = 1 from rfl]
theorem kp_step {w : yW} {G : List zC} {T : Nat} (hk : yRk w G) : (∀ d j, ¬ (d = 18 + 12 * T ∧ j < 16) → (e_Ta_copy (17 + 12 * T) (14 + 12 * T) w).1 d j = w.1 d j) ∧ (∀ d j, ¬ (d = 19 + 12 * T ∧ j < 16) → (e_Ta_copy (17 + 12 * T) (14 + 12 * T) w).2.2 d j = w.2.2 d j) ∧ (∀ q, q < 16 → (e_Ta_copy (17 + 12 * T) (14 + 12 * T) w).1 (18 + 12 * T) q = w.1 (15 + 12 * T) q ∧ (e_Ta_copy (17 + 12 * T) (14 + 12 * T) w).2.2 (19 + 12 * T) q = w.2.2 (16 + 12 * T) q) ∧ yRk (e_Ta_copy (17 + 12 * T) (14 + 12 * T) w) G := by
  obtain ⟨k1, k2, k3⟩ := tcp_L (c := 17 + 12 * T) (e := 14 + 12 * T) (by omega) 17 0 w (by omega) (by omega) (fun q hq => absurd hq (Nat.not_lt_zero _))
  have hk1 : yRk (e_Ta_copy (17 + 12 * T) (14 + 12 * T) w) G := yRk_2c 17 w 0 hk
  rw [show 14 + 12 * T + 1 = 15 + 12 * T by omega, show 14 + 12 * T + 2 = 16 + 12 * T by omega, show 17 + 12 * T + 1 = 18 + 12 * T by omega, show 17 + 12 * T + 2 = 19 + 12 * T by omega] at *
  have ee : e_Ta_copy (17 + 12 * T) (14 + 12 * T) w = g_Ta_copy_2 (17 + 12 * T) (14 + 12 * T) 17 w (Int32.ofNat 0) := rfl
  rw [← ee] at k1 k2 k3
  exact ⟨k1, k2, k3, hk1⟩
theorem kp_n {w : yW} {G : List zC} (hk : yRk w G) : (∀ d j, ¬ ((d = 18 ∨ d = 30) ∧ j < 16) → (e_ST_keepPresentTables w).1 d j = w.1 d j) ∧ (∀ d j, ¬ ((d = 19 ∨ d = 31) ∧ j < 16) → (e_ST_keepPresentTables w).2.2 d j = w.2.2 d j) ∧ (∀ t q, t < 2 → q < 16 → (e_ST_keepPresentTables w).1 (18 + 12 * t) q = w.1 (15 + 12 * t) q ∧ (e_ST_keepPresentTables w).2.2 (19 + 12 * t) q = w.2.2 (16 + 12 * t) q) ∧ yRk (e_ST_keepPresentTables w) G := by
  rw [kp_eq]
  obtain ⟨a1, a2, a3, a4⟩ := kp_step (T := 0) hk
  generalize e_Ta_copy (17 + 12 * 0) (14 + 12 * 0) w = w1 at a1 a2 a3 a4
  obtain ⟨b1, b2, b3, b4⟩ := kp_step (T := 1) a4
  generalize e_Ta_copy (17 + 12 * 1) (14 + 12 * 1) w1 = w2 at b1 b2 b3 b4
  refine ⟨fun d j x => ?_, fun d j x => ?_, fun t q ht hq => ?_, b4⟩
  · rw [b1 d j (by omega), a1 d j (by omega)]
  · rw [b2 d j (by omega), a2 d j (by omega)]
  · by_cases e : t = 0
    · rw [e, b1 _ _ (by omega), b2 _ _ (by omega)]
      exact a3 q hq
    · rw [show t = 1 by omega, (b3 q hq).1, (b3 q hq).2, a1 _ _ (by omega), a2 _ _ (by omega)]
      exact ⟨rfl, rfl⟩
theorem commit_inv {w v : yW} {G : List zC} (h : INV w G)
    (f1 : ∀ d j, d ≠ 5 → ¬ ((d = 18 ∨ d = 30) ∧ j < 16) → d ≠ 70 → d ≠ 71 → ¬ (55 ≤ d ∧ d ≤ 58 ∧ 32 ≤ j ∧ j < 64) → ¬ ((d = 59 ∨ d = 60) ∧ 192 ≤ j ∧ j < 384) → ¬ (61 ≤ d ∧ d ≤ 64 ∧ 32 ≤ j ∧ j < 64) → v.1 d j = w.1 d j)
    (f2 : ∀ d j, ¬ ((d = 19 ∨ d = 31) ∧ j < 16) → v.2.2 d j = w.2.2 d j) (f3 : ∀ t q, t < 2 → q < 16 → v.1 (18 + 12 * t) q = w.1 (15 + 12 * t) q ∧ v.2.2 (19 + 12 * t) q = w.2.2 (16 + 12 * t) q) (f4 : ∀ r, r < 32 → rEq v G (32 + r) (w.2.2 (16 + 12 * (r / 16)) (r % 16)) ∧ v.1 56 (32 + r) = w.1 56 r) (f5 : iMany v) (f6 : iFr v) (f7 : yRk v G) : INV v G := by
  obtain ⟨hd, hf0, hp, hc, hm, ha, hr, hO, hi, hk⟩ := h
  have hre : ∀ s o, s < 32 ∨ s = 64 → rEq w G s o → rEq v G s o := fun s o hs hq => rEq_i (fun d j x y z u t => f1 d j (by omega) (by omega) (by omega) (by omega) (by omega) (by omega) (by omega)) hq
  have f0 : ∀ d j, d ≠ 5 → ¬ ((d = 18 ∨ d = 30) ∧ j < 16) → d ≠ 70 → d ≠ 71 → ¬ (55 ≤ d ∧ d ≤ 64) → v.1 d j = w.1 d j := fun d j a b c e g => f1 d j a b c e (by omega) (by omega) (by omega)
  refine ⟨?_, ?_, ?_, ?_, f5, ?_, f6, ?_, ?_, f7⟩
  · unfold iDraft
    rw [f0 6 2 (by omega) (by omega) (by omega) (by omega) (by omega), f0 54 10 (by omega) (by omega) (by omega) (by omega) (by omega)]
    refine ⟨hd.1, hd.2.1, fun i hi2 => ?_⟩
    rw [f0 7 i (by omega) (by omega) (by omega) (by omega) (by omega), f0 8 i (by omega) (by omega) (by omega) (by omega) (by omega), f0 65 i (by omega) (by omega) (by omega) (by omega) (by omega), f0 66 i (by omega) (by omega) (by omega) (by omega) (by omega)]
    exact hd.2.2 i hi2
  · unfold iFoc
    rw [f2 _ _ (by omega)]
    exact hre _ _ (Or.inr rfl) hf0
  · intro t q ht hq
    rw [f2 _ _ (by omega)]
    refine ⟨hre _ _ (by omega) (hp t q ht hq).1, fun hne => ?_⟩
    rw [f1 56 _ (by omega) (by omega) (by omega) (by omega) (by omega) (by omega) (by omega), f0 (15 + 12 * t) _ (by omega) (by omega) (by omega) (by omega) (by omega)]
    exact (hp t q ht hq).2 hne
  · intro t q ht hq
    have k := f4 (16 * t + q) (by omega)
    rw [show (16 * t + q) / 16 = t by omega, show (16 * t + q) % 16 = q by omega] at k
    rw [(f3 t q ht hq).2, (f3 t q ht hq).1, k.2]
    exact ⟨k.1, fun hne => (hp t q ht hq).2 hne⟩
  · unfold iAns
    rw [f0 0 7 (by omega) (by omega) (by omega) (by omega) (by omega), f0 54 21 (by omega) (by omega) (by omega) (by omega) (by omega), f0 0 8 (by omega) (by omega) (by omega) (by omega) (by omega), f0 54 22 (by omega) (by omega) (by omega) (by omega) (by omega)]
    refine ⟨ha.1, ha.2.1, fun i hi2 => ?_, ha.2.2.2⟩
    rw [f0 9 i (by omega) (by omega) (by omega) (by omega) (by omega), f0 69 i (by omega) (by omega) (by omega) (by omega) (by omega)]
    exact ha.2.2.1 i hi2
  · intro j hj
    rw [f0 13 j (by omega) (by omega) (by omega) (by omega) (by omega)]
    exact hO j hj
  · intro t ht
    refine iIxd_eq (f0 _ _ (by omega) (by omega) (by omega) (by omega) (by omega)) (fun j => f0 _ _ (by omega) (by omega) (by omega) (by omega) (by omega)) (fun j => f0 _ _ (by omega) (by omega) (by omega) (by omega) (by omega)) (fun j => f0 _ _ (by omega) (by omega) (by omega) (by omega) (by omega)) (fun j => f0 _ _ (by omega) (by omega) (by omega) (by omega) (by omega)) (fun j => f0 _ _ (by omega) (by omega) (by omega) (by omega) (by omega)) (fun j => f2 _ _ (by omega)) ?_ (hi t ht)
    funext j
    rw [f2 _ _ (by omega)]
theorem INV_71 {w v : yW} {G : List zC} (h : INV w G) (f : ∀ d j, d ≠ 71 → v.1 d j = w.1 d j) (fr : v.2.2 = w.2.2) : INV v G := by
  have hk := h.2.2.2.2.2.2.2.2.2
  have hi := h.2.2.2.2.2.2.2.2.1
  obtain ⟨hd, hf0, hp, hc, hm, ha, hr, hO, _, _⟩ := h
  have hre : ∀ s o, rEq w G s o → rEq v G s o := fun s o hq => rEq_i (fun d j x y z u t => f d j (by omega)) hq
  refine ⟨?_, ?_, ?_, ?_, ?_, ?_, ?_, ?_, ?_, yRk_2 hk fr⟩
  · unfold iDraft
    rw [f 6 2 (by omega), f 54 10 (by omega)]
    refine ⟨hd.1, hd.2.1, fun i hi2 => ?_⟩
    rw [f 7 i (by omega), f 8 i (by omega), f 65 i (by omega), f 66 i (by omega)]
    exact hd.2.2 i hi2
  · unfold iFoc
    rw [fr]
    exact hre _ _ hf0
  · intro t q ht hq
    rw [fr]
    refine ⟨hre _ _ (hp t q ht hq).1, fun hne => ?_⟩
    rw [f 56 _ (by omega), f (15 + 12 * t) _ (by omega)]
    exact (hp t q ht hq).2 hne
  · intro t q ht hq
    rw [fr]
    refine ⟨hre _ _ (hc t q ht hq).1, fun hne => ?_⟩
    rw [f 56 _ (by omega), f (18 + 12 * t) _ (by omega)]
    exact (hc t q ht hq).2 hne
  · intro s hs
    rw [f 55 _ (by omega), f 58 _ (by omega)]
    exact hm s hs
  · unfold iAns
    rw [f 0 7 (by omega), f 54 21 (by omega), f 0 8 (by omega), f 54 22 (by omega)]
    refine ⟨ha.1, ha.2.1, fun i hi2 => ?_, ha.2.2.2⟩
    rw [f 9 i (by omega), f 69 i (by omega)]
    exact ha.2.2.1 i hi2
  · refine ⟨fun p hp2 => ?_, ?_⟩
    · rw [f 5 _ (by omega), f 70 _ (by omega)]
      exact hr.1 p hp2
    · rw [f 70 _ (by omega)]
      exact hr.2
  · intro j hj
    rw [f 13 j (by omega)]
    exact hO j hj
  · intro t ht
    exact iIxd_eq (f _ _ (by omega)) (fun j => f _ _ (by omega)) (fun j => f _ _ (by omega)) (fun j => f _ _ (by omega)) (fun j => f _ _ (by omega)) (fun j => f _ _ (by omega)) (fun j => by rw [fr]) (by rw [fr]) (hi t ht)
