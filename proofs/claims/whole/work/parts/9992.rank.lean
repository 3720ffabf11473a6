-- the reference's ranks
theorem n32_L {w : yW} {G : List zC} {x T : Nat} {ka : Int32} (h : INV w G) (hT : T < 2) (he : rEq w G 64 (some x)) : ∀ (f s : Nat) (w1 : yW), s ≤ 16 → 16 < s + f → sRw w w1 → (∀ r, r < s → rowP w T r = true → w1.2.1 67 r = (dP w G x T r).1 ∧ w1.2.1 68 r = (dP w G x T r).2) →
    (g_Mo_nearest_32 (Int32.ofNat T) ka f w1 (Int32.ofNat s)).1 = w1.1 ∧ (g_Mo_nearest_32 (Int32.ofNat T) ka f w1 (Int32.ofNat s)).2.2 = w1.2.2 ∧ (∀ r, r < 16 → rowP w T r = true → (g_Mo_nearest_32 (Int32.ofNat T) ka f w1 (Int32.ofNat s)).2.1 67 r = (dP w G x T r).1 ∧ (g_Mo_nearest_32 (Int32.ofNat T) ka f w1 (Int32.ofNat s)).2.1 68 r = (dP w G x T r).2)
  | 0, s, w1, _, _, _, _ => by omega
  | f + 1, s, w1, a1, a2, hs, hd => by
    rw [g_Mo_nearest_32, zc_ge, z_nat (by omega), show (16 : Int32).toInt = 16 from rfl]
    by_cases e : s = 16
    · rw [decide_eq_true (by omega), cond_true]
      rw [e] at hd
      exact ⟨rfl, rfl, hd⟩
    · rw [decide_eq_false (by omega), cond_false, show 16 * Int32.ofNat T + Int32.ofNat s = Int32.ofNat (16 * T + s) from by rw [show (16 : Int32) = Int32.ofNat 16 from rfl, ← Int32.ofNat_mul, mk_add], foc_n, n_inc2, n_clamp (show 16 * T + s < 2147483648 by omega), there_s h hs hT (by omega)]
      cases ho : w.2.2 (16 + 12 * T) s with
      | none =>
        have hr : rowP w T s = false := by unfold rowP; rw [ho]; rfl
        rw [hr, cond_false]
        refine n32_L h hT he f (s + 1) w1 (by omega) (by omega) hs (fun r h1 h2 => ?_)
        by_cases er : r = s
        · rw [er, hr] at h2
          cases h2
        · exact hd r (by omega) h2
      | some y =>
        have hr : rowP w T s = true := by unfold rowP; rw [ho]; rfl
        rw [hr, cond_true]
        have k := row_e h hT (by omega) ho
        have he1 : rEq w1 G 64 (some x) := rEq_i (fun d j a b _ _ _ => hs d j a b) he
        have k1 : rEq w1 G (16 * T + s) (some y) := rEq_i (fun d j a b _ _ _ => hs d j a b) k
        have dd := (dist_eq (p0 := (0, 0)) (show 64 < 65 by omega) (show 16 * T + s < 65 by omega) he1 k1).1
        have m := mo_22 (Int32.ofNat 64) (Int32.ofNat (16 * T + s)) w1
        have kf := kf_Mo_measureOut (Int32.ofNat 64) (Int32.ofNat (16 * T + s)) w1
        have hdP : gD G x y (0, 0) = dP w G x T s := by unfold dP; rw [ho]
        rw [hdP] at dd
        generalize e_Mo_measureOut (Int32.ofNat 64) (Int32.ofNat (16 * T + s)) w1 = z at dd m kf ⊢
        have z67 : ∀ r, z.2.1 67 r = w1.2.1 67 r := fun r => (kf.1 67 r rfl).2.1
        have z68 : ∀ r, z.2.1 68 r = w1.2.1 68 r := fun r => (kf.1 68 r rfl).2.1
        have d1 : z.2.1 54 13 = (dP w G x T s).1 := congrArg Prod.fst dd
        have d2 : z.2.1 54 14 = (dP w G x T s).2 := congrArg Prod.snd dd
        have en : g_Mo_nearest_67 (Int32.ofNat T) ka (Int32.ofNat s) z = wL (wL z 67 s (dP w G x T s).1) 68 s (dP w G x T s).2 := by
          unfold g_Mo_nearest_67
          rw [n_clamp (by omega), (ydL z 67 s (z.2.1 54 13) 54 14 (by omega)).2.1, d1, d2]
        rw [en]
        have ih := n32_L (ka := ka) h hT he f (s + 1) (wL (wL z 67 s (dP w G x T s).1) 68 s (dP w G x T s).2) (by omega) (by omega) (fun d j p q => by
          show z.1 d j = _
          rw [m.1]
          exact hs d j p q) (fun r h1 h2 => by
          by_cases er : r = s
          · rw [er, wL_self, (ydL _ 68 s _ 67 s (by omega)).2.1, wL_self]
            exact ⟨rfl, rfl⟩
          · rw [(ydL _ 68 s _ 67 r (by omega)).2.1, (ydL _ 67 s _ 67 r (by omega)).2.1, (ydL _ 68 s _ 68 r (by omega)).2.1, (ydL _ 67 s _ 68 r (by omega)).2.1, z67, z68]
            exact hd r (by omega) h2)
        exact ⟨ih.1.trans m.1, ih.2.1.trans m.2, ih.2.2⟩
theorem nearer_n {w w1 : yW} {G : List zC} {x T a b : Nat} (ha : a < 16) (hb : b < 16) (hda : dB (dP w G x T a)) (hdb : dB (dP w G x T b)) (h1 : w1.2.1 67 a = (dP w G x T a).1 ∧ w1.2.1 68 a = (dP w G x T a).2) (h2 : w1.2.1 67 b = (dP w G x T b).1 ∧ w1.2.1 68 b = (dP w G x T b).2) : e_Mo_nearer (Int32.ofNat a) (Int32.ofNat b) w1 = b2 (pNr (dtT w G x T) (dtU w G x T) a b) := by
  unfold e_Mo_nearer pNr dtT dtU
  rw [n_clamp (by omega), n_clamp (by omega), h1.1, h1.2, h2.1, h2.2, lc_lt, lc_ne, zc_ge, z_nat (by omega), z_nat (by omega), dB_mul hda hdb, dB_mul hdb hda]
  generalize (dP w G x T a).1.toInt * (dP w G x T b).2.toInt = u
  generalize (dP w G x T b).1.toInt * (dP w G x T a).2.toInt = v
  by_cases c1 : u < v
  · rw [decide_eq_true c1, decide_eq_true (show u < v ∨ (u = v ∧ a < b) from Or.inl c1)]
    rfl
  · rw [decide_eq_false c1, cond_false]
    by_cases c2 : u = v
    · rw [decide_eq_false (show ¬ ¬ u = v from fun hh => hh c2), cond_false]
      by_cases c3 : a < b
      · rw [decide_eq_false (show ¬ (b : Int) ≤ (a : Int) by omega), decide_eq_true (show u < v ∨ (u = v ∧ a < b) from Or.inr ⟨c2, c3⟩)]
        rfl
      · rw [decide_eq_true (show (b : Int) ≤ (a : Int) by omega), decide_eq_false (show ¬ (u < v ∨ (u = v ∧ a < b)) from fun hh => hh.elim c1 (fun hh => c3 hh.2))]
        rfl
    · rw [decide_eq_true c2, cond_true, decide_eq_false (show ¬ (u < v ∨ (u = v ∧ a < b)) from fun hh => hh.elim c1 (fun hh => c2 hh.1))]
      rfl
theorem fc_0 {P φ : Nat → Bool} {s : Nat} (h : P s = false) : ((List.range (s + 1)).filter P).countP φ = ((List.range s).filter P).countP φ := by
  rw [List.range_succ, List.filter_append, List.filter_cons_of_neg (by rw [h]; decide), List.filter_nil, List.append_nil]
theorem fc_1 {P φ : Nat → Bool} {s : Nat} (h : P s = true) : ((List.range (s + 1)).filter P).countP φ = ((List.range s).filter P).countP φ + if φ s then 1 else 0 := by
  rw [List.range_succ, List.filter_append, List.filter_cons_of_pos h, List.filter_nil, List.countP_append, List.countP_singleton]
theorem n147_L {w w1 : yW} {G : List zC} {x T q : Nat} {ka nn : Int32} (h : INV w G) (hT : T < 2) (he : rEq w G 64 (some x)) (hq : q < 16) (hqr : rowP w T q = true) (hs : sRw w w1) (hd : ∀ r, r < 16 → rowP w T r = true → w1.2.1 67 r = (dP w G x T r).1 ∧ w1.2.1 68 r = (dP w G x T r).2) : ∀ (f s : Nat), s ≤ 16 → 16 < s + f →
    g_Mo_nearest_147 (Int32.ofNat T) ka nn (Int32.ofNat q) f w1 (Int32.ofNat (((List.range s).filter (rowP w T)).countP (fun u => pNr (dtT w G x T) (dtU w G x T) u q))) (Int32.ofNat s) = (w1, Int32.ofNat (((List.range 16).filter (rowP w T)).countP (fun u => pNr (dtT w G x T) (dtU w G x T) u q)))
  | 0, s, _, _ => by omega
  | f + 1, s, a1, a2 => by
    rw [g_Mo_nearest_147, zc_ge, z_nat (by omega), show (16 : Int32).toInt = 16 from rfl]
    by_cases e : s = 16
    · rw [decide_eq_true (by omega), cond_true, e]
    · have ht := there_s h hs hT (show s < 16 by omega)
      have hte : zc .eq (w1.1 55 (16 * T + s)) 0 = !rowP w T s := by
        rw [← ht, zc_ne, zc_eq, decide_not, Bool.not_not]
      rw [decide_eq_false (by omega), cond_false, show 16 * Int32.ofNat T + Int32.ofNat s = Int32.ofNat (16 * T + s) from by rw [show (16 : Int32) = Int32.ofNat 16 from rfl, ← Int32.ofNat_mul, mk_add], n_inc2, n_clamp (show 16 * T + s < 2147483648 by omega), hte, n_inc, Int32.add_zero]
      have ih := n147_L (ka := ka) (nn := nn) h hT he hq hqr hs hd f (s + 1) (by omega) (by omega)
      cases hr : rowP w T s with
      | false =>
        rw [fc_0 hr] at ih
        exact ih
      | true =>
        rw [nearer_n (show s < 16 by omega) hq (dP_b h hT (by omega) (show 64 < 65 by omega) he) (dP_b h hT hq (show 64 < 65 by omega) he) (hd s (by omega) hr) (hd q hq hqr), b2_eq]
        rw [fc_1 hr] at ih
        cases hz : pNr (dtT w G x T) (dtU w G x T) s q with
        | false =>
          rw [hz] at ih
          exact ih
        | true =>
          rw [hz] at ih
          exact ih
theorem rank_S {t u : Nat → Int} {P : Nat → Bool} {S : List Nat} (hp : S.Pairwise (fun a b => pNr t u a b = true)) (hS : S.Perm ((List.range 16).filter P)) {j : Nat} (hj : j < S.length) : ((List.range 16).filter P).countP (fun q => pNr t u q (S.getD j 0)) = j := by
  rw [List.getD_eq_getElem?_getD, List.getElem?_eq_getElem hj]
  exact p_rank_perm hS hj hp
theorem n116_L {w : yW} {G : List zC} {x T m : Nat} {ka nn : Int32} {S : List Nat} (h : INV w G) (hT : T < 2) (he : rEq w G 64 (some x)) (hp : S.Pairwise (fun a b => pNr (dtT w G x T) (dtU w G x T) a b = true)) (hS : S.Perm ((List.range 16).filter (rowP w T))) (hm : m ≤ S.length) : ∀ (f s : Nat) (w1 : yW), s ≤ 16 → 16 < s + f → sRw w w1 → w1.1 54 21 = Int32.ofNat m → (∀ r, r < 16 → rowP w T r = true → w1.2.1 67 r = (dP w G x T r).1 ∧ w1.2.1 68 r = (dP w G x T r).2) → (∀ i, i < m → S.getD i 0 < s → w1.1 69 i = Int32.ofNat (S.getD i 0)) →
    (∀ i, i < m → (g_Mo_nearest_116 (Int32.ofNat T) ka nn f w1 (Int32.ofNat s)).1 69 i = Int32.ofNat (S.getD i 0)) ∧ (∀ d j, d ≠ 69 → (g_Mo_nearest_116 (Int32.ofNat T) ka nn f w1 (Int32.ofNat s)).1 d j = w1.1 d j) ∧ (g_Mo_nearest_116 (Int32.ofNat T) ka nn f w1 (Int32.ofNat s)).2 = w1.2
  | 0, s, w1, _, _, _, _, _, _ => by omega
  | f + 1, s, w1, a1, a2, hs, h21, hd, hi => by
    have hl := perm_len hS
    have hlt : ∀ i, i < m → S.getD i 0 < 16 ∧ rowP w T (S.getD i 0) = true := fun i hi2 => by
      have g := getD_lt (S := S) (B := 16) (fun r hr => ((perm_mem hS).mp hr).1) (show i < S.length by omega)
      exact (perm_mem hS).mp g.2
    rw [g_Mo_nearest_116, zc_ge, z_nat (by omega), show (16 : Int32).toInt = 16 from rfl]
    by_cases e : s = 16
    · rw [decide_eq_true (by omega), cond_true]
      exact ⟨fun i hi2 => hi i hi2 (by have := (hlt i hi2).1; omega), fun _ _ _ => rfl, rfl⟩
    · rw [decide_eq_false (by omega), cond_false, show 16 * Int32.ofNat T + Int32.ofNat s = Int32.ofNat (16 * T + s) from by rw [show (16 : Int32) = Int32.ofNat 16 from rfl, ← Int32.ofNat_mul, mk_add], n_inc2, n_clamp (show 16 * T + s < 2147483648 by omega), there_s h hs hT (by omega)]
      cases hr : rowP w T s with
      | false =>
        rw [cond_false]
        refine n116_L h hT he hp hS hm f (s + 1) w1 (by omega) (by omega) hs h21 hd (fun i h1 h2 => hi i h1 ?_)
        have := (hlt i h1).2
        by_cases es : S.getD i 0 = s
        · rw [es, hr] at this
          cases this
        · omega
      | true =>
        have hms : s ∈ S := (perm_mem hS).mpr ⟨by omega, hr⟩
        obtain ⟨j, hj, ej⟩ := List.getElem_of_mem hms
        have ejD : S.getD j 0 = s := by
          rw [List.getD_eq_getElem?_getD, List.getElem?_eq_getElem hj]
          exact ej
        have rk := rank_S hp hS hj
        rw [ejD] at rk
        have k147 := n147_L (ka := ka) (nn := nn) h hT he (show s < 16 by omega) hr hs hd 17 0 (by omega) (by omega)
        have k147 : g_Mo_nearest_147 (Int32.ofNat T) ka nn (Int32.ofNat s) 17 w1 0 0 = _ := k147
        rw [rk] at k147
        have inj : ∀ i, i < m → S.getD i 0 = s → i = j := fun i h1 h2 => by
          have r2 := rank_S hp hS (show i < S.length by omega)
          rw [h2, rk] at r2
          exact r2.symm
        rw [cond_true, k147]
        show (∀ i, i < m → (bif zc .ge (Int32.ofNat j) (w1.1 54 21) then _ else _ : yW).1 69 i = _) ∧ (∀ d k, d ≠ 69 → (bif zc .ge (Int32.ofNat j) (w1.1 54 21) then _ else _ : yW).1 d k = w1.1 d k) ∧ (bif zc .ge (Int32.ofNat j) (w1.1 54 21) then _ else _ : yW).2 = w1.2
        rw [h21, zc_ge, z_nat (by omega), z_nat (by omega)]
        by_cases c : m ≤ j
        · rw [decide_eq_true (show (m : Int) ≤ (j : Int) by omega), cond_true]
          refine n116_L h hT he hp hS hm f (s + 1) w1 (by omega) (by omega) hs h21 hd (fun i h1 h2 => hi i h1 ?_)
          by_cases es : S.getD i 0 = s
          · have := inj i h1 es
            omega
          · omega
        · rw [decide_eq_false (show ¬ (m : Int) ≤ (j : Int) by omega), cond_false]
          show (∀ i, i < m → (g_Mo_nearest_116 (Int32.ofNat T) ka nn f (wI w1 69 (Int32.ofNat j).toNatClampNeg (Int32.ofNat s)) (Int32.ofNat (s + 1))).1 69 i = _) ∧ (∀ d k, d ≠ 69 → (g_Mo_nearest_116 (Int32.ofNat T) ka nn f (wI w1 69 (Int32.ofNat j).toNatClampNeg (Int32.ofNat s)) (Int32.ofNat (s + 1))).1 d k = w1.1 d k) ∧ (g_Mo_nearest_116 (Int32.ofNat T) ka nn f (wI w1 69 (Int32.ofNat j).toNatClampNeg (Int32.ofNat s)) (Int32.ofNat (s + 1))).2 = w1.2
          rw [n_clamp (show j < 2147483648 by omega)]
          have ih := n116_L (ka := ka) (nn := nn) h hT he hp hS hm f (s + 1) (wI w1 69 j (Int32.ofNat s)) (by omega) (by omega) (fun d k p q => (wI_nc (by omega)).trans (hs d k p q)) ((wI_nc (by omega)).trans h21) hd (fun i h1 h2 => by
            by_cases ei : i = j
            · rw [ei, wI_self, ejD]
            · rw [wI_nc (by omega)]
              refine hi i h1 ?_
              by_cases es : S.getD i 0 = s
              · exact absurd (inj i h1 es) ei
              · omega)
          exact ⟨ih.1, fun d k p => (ih.2.1 d k p).trans (wI_nc (by omega)), ih.2.2⟩
theorem cnt_len (P : Nat → Bool) : cntM P 16 = ((List.range 16).filter P).length := by
  unfold cntM
  exact List.countP_eq_length_filter ..
theorem near_r {w Z : yW} {G : List zC} {x T K : Nat} {S : List Nat} (h : INV w G) (hsZ : sRw w Z) (hT : T < 2) (he : rEq w G 64 (some x)) (hK : K ≤ 16) (hp : S.Pairwise (fun a b => pNr (dtT w G x T) (dtU w G x T) a b = true)) (hS : S.Perm ((List.range 16).filter (rowP w T))) :
    N_Mo_nearest (Int32.ofNat T) (Int32.ofNat K) Z = Int32.ofNat S.length ∧ (W_Mo_nearest (Int32.ofNat T) (Int32.ofNat K) Z).1 54 21 = Int32.ofNat (min K S.length) ∧ (∀ i, i < min K S.length → (W_Mo_nearest (Int32.ofNat T) (Int32.ofNat K) Z).1 69 i = Int32.ofNat (S.getD i 0)) ∧ (∀ r, r < 16 → rowP w T r = true → (W_Mo_nearest (Int32.ofNat T) (Int32.ofNat K) Z).2.1 67 r = (dP w G x T r).1 ∧ (W_Mo_nearest (Int32.ofNat T) (Int32.ofNat K) Z).2.1 68 r = (dP w G x T r).2) ∧ (∀ d j, ¬ (d = 54 ∧ j = 21) → d ≠ 69 → (W_Mo_nearest (Int32.ofNat T) (Int32.ofNat K) Z).1 d j = Z.1 d j) ∧ (W_Mo_nearest (Int32.ofNat T) (Int32.ofNat K) Z).2.2 = Z.2.2 := by
  have hl := perm_len hS
  obtain ⟨p1, p2, p3⟩ := n32_L (ka := Int32.ofNat K) h hT he 17 0 Z (by omega) (by omega) hsZ (fun r hr => absurd hr (Nat.not_lt_zero _))
  rw [show Int32.ofNat 0 = 0 from rfl] at p1 p2 p3
  have hN : N_Mo_nearest (Int32.ofNat T) (Int32.ofNat K) Z = Int32.ofNat S.length := by
    unfold N_Mo_nearest
    rw [size_55 (w := w) (by rw [p1]; exact funext fun j => hsZ 55 j (by omega) (by omega)), size_n h hT, cnt_len, hS.length_eq]
  refine ⟨hN, ?_⟩
  have hW : W_Mo_nearest (Int32.ofNat T) (Int32.ofNat K) Z = g_Mo_nearest_116 (Int32.ofNat T) (Int32.ofNat K) (N_Mo_nearest (Int32.ofNat T) (Int32.ofNat K) Z) 17 (g_Mo_nearest_99 (Int32.ofNat T) (Int32.ofNat K) (N_Mo_nearest (Int32.ofNat T) (Int32.ofNat K) Z) (g_Mo_nearest_32 (Int32.ofNat T) (Int32.ofNat K) 17 Z 0)) 0 := rfl
  rw [hW, hN]
  generalize g_Mo_nearest_32 (Int32.ofNat T) (Int32.ofNat K) 17 Z 0 = P at p1 p2 p3
  have h99 : g_Mo_nearest_99 (Int32.ofNat T) (Int32.ofNat K) (Int32.ofNat S.length) P = wI P 54 21 (Int32.ofNat (min K S.length)) := by
    unfold g_Mo_nearest_99
    rw [zc_ge, z_nat (by omega), z_nat (by omega)]
    by_cases c : K ≤ S.length
    · rw [decide_eq_true (show (K : Int) ≤ (S.length : Int) by omega), cond_true, Nat.min_eq_left c]
    · rw [decide_eq_false (show ¬ (K : Int) ≤ (S.length : Int) by omega), cond_false, Nat.min_eq_right (by omega)]
  rw [h99]
  have hQs : sRw w (wI P 54 21 (Int32.ofNat (min K S.length))) := fun d j a b => by
    rw [wI_nc (by omega), p1]
    exact hsZ d j a b
  have q1 : (wI P 54 21 (Int32.ofNat (min K S.length))).1 54 21 = Int32.ofNat (min K S.length) := wI_self ..
  have q2 : ∀ d j, ¬ (d = 54 ∧ j = 21) → (wI P 54 21 (Int32.ofNat (min K S.length))).1 d j = Z.1 d j := fun d j a => by rw [wI_nc a, p1]
  have q3 : (wI P 54 21 (Int32.ofNat (min K S.length))).2.2 = Z.2.2 := p2
  have q4 : ∀ r, r < 16 → rowP w T r = true → (wI P 54 21 (Int32.ofNat (min K S.length))).2.1 67 r = (dP w G x T r).1 ∧ (wI P 54 21 (Int32.ofNat (min K S.length))).2.1 68 r = (dP w G x T r).2 := p3
  generalize wI P 54 21 (Int32.ofNat (min K S.length)) = Q at hQs q1 q2 q3 q4
  obtain ⟨r1, r2, r3⟩ := n116_L (ka := Int32.ofNat K) (nn := Int32.ofNat S.length) h hT he hp hS (Nat.min_le_right K S.length) 17 0 Q (by omega) (by omega) hQs q1 q4 (fun i _ hh => absurd hh (Nat.not_lt_zero _))
  rw [show Int32.ofNat 0 = 0 from rfl] at r1 r2 r3
  generalize g_Mo_nearest_116 (Int32.ofNat T) (Int32.ofNat K) (Int32.ofNat S.length) 17 Q 0 = R at r1 r2 r3
  refine ⟨(r2 54 21 (by omega)).trans q1, r1, fun r a b => by rw [r3]; exact q4 r a b, fun d j a b => (r2 d j b).trans (q2 d j a), by rw [r3, q3]⟩
