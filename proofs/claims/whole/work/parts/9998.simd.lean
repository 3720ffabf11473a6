-- commit: class and reference
theorem nFr_ok {w : yW} {U W C : Nat → Bool} (hr : iFr w) (hf : cntM W 9 ≤ lfC U 16) (h8 : W 8 = true) : (∀ p, p < 9 → nFr U W C w p = -1 ∨ (0 ≤ (nFr U W C w p).toInt ∧ (nFr U W C w p).toInt < 16)) ∧ ¬ nFr U W C w 8 = -1 := by
  have hw : ∀ p, p < 9 → W p = true → nFr U W C w p = Int32.ofNat (lfr (uS U W p) 16 0) ∧ lfr (uS U W p) 16 0 < 16 := fun p hp hW => by
    refine ⟨by unfold nFr; rw [hW, if_pos rfl], uS_lt hW (Nat.le_trans (cntM_mono W (show p + 1 ≤ 9 by omega)) hf)⟩
  refine ⟨fun p hp => ?_, fun e => ?_⟩
  · cases hW : W p with
    | true =>
      obtain ⟨a, b⟩ := hw p hp hW
      right
      rw [a, z_nat (by omega)]
      omega
    | false =>
      unfold nFr
      rw [hW, if_neg (by decide)]
      cases C p with
      | true => rw [if_pos rfl]; exact Or.inl rfl
      | false => rw [if_neg (by decide)]; exact (hr.1 p hp).2
  · obtain ⟨a, b⟩ := hw 8 (by omega) h8
    rw [a] at e
    exact nn1 b e.symm
theorem fin_inv {w K F v : yW} {G : List zC} (h : INV w G) (hf : cntM (cW w G) 9 ≤ lfC (uF w) 16)
    (k1 : ∀ q, q < 9 → K.1 5 q = nFr (uF w) (cW w G) (pgF (dS w G)) w q) (k2 : ∀ d j, d ≠ 5 → ¬ ((d = 18 ∨ d = 30) ∧ j < 16) → K.1 d j = w.1 d j) (k3 : ∀ d j, ¬ ((d = 19 ∨ d = 31) ∧ j < 16) → K.2.2 d j = w.2.2 d j) (k4 : ∀ t q, t < 2 → q < 16 → K.1 (18 + 12 * t) q = w.1 (15 + 12 * t) q ∧ K.2.2 (19 + 12 * t) q = w.2.2 (16 + 12 * t) q) (k5 : yRk K G)
    (g1 : ∀ q, q < 9 → F.1 70 q = nFr (uF w) (cW w G) (pgF (dS w G)) w q) (g2 : ∀ d j, 54 ≤ d → d ≠ 70 → d ≠ 71 → ¬ (55 ≤ d ∧ d ≤ 58 ∧ 32 ≤ j ∧ j < 64) → ¬ ((d = 59 ∨ d = 60) ∧ 192 ≤ j ∧ j < 384) → ¬ (61 ≤ d ∧ d ≤ 64 ∧ 32 ≤ j ∧ j < 64) → F.1 d j = w.1 d j) (g3 : iMany F) (g4 : ∀ r, r < 32 → rEq F G (32 + r) (w.2.2 (16 + 12 * (r / 16)) (r % 16)) ∧ F.1 56 (32 + r) = w.1 56 r)
    (v1 : ∀ d j, d < 54 → v.1 d j = K.1 d j) (v2 : ∀ d j, 54 ≤ d → v.1 d j = F.1 d j) (v3 : v.2.2 = K.2.2) : INV v G := by
  have hr := h.2.2.2.2.2.2.1
  have ok := nFr_ok (C := pgF (dS w G)) hr hf rfl
  refine commit_inv h (fun d j a b c e x y z => ?_) (fun d j a => by rw [v3, k3 d j a]) (fun t q ht hq => ?_) (fun r hr2 => ?_) (fun s hs => ?_) ⟨fun p hp => ?_, ?_⟩ (yRk_2 k5 v3)
  · by_cases hd : d < 54
    · rw [v1 d j hd, k2 d j a b]
    · rw [v2 d j (by omega), g2 d j (by omega) c e x y z]
  · rw [v1 _ _ (by omega), v3]
    exact k4 t q ht hq
  · rw [v2 56 _ (by omega)]
    exact ⟨rEq_i (fun d j x y z u t => v2 d j (by omega)) (g4 r hr2).1, (g4 r hr2).2⟩
  · rw [v2 55 s (by omega), v2 58 s (by omega)]
    exact g3 s hs
  · rw [v1 5 p (by omega), v2 70 p (by omega), k1 p hp, g1 p hp]
    exact ⟨rfl, ok.1 p hp⟩
  · rw [v2 70 8 (by omega), g1 8 (by omega)]
    exact ok.2
theorem cW_8 (w : yW) (G : List zC) : cntM (cW w G) 8 = cntM (fun p => pgF (dS w G) p && pgF (pR w) p) 16 := by
  rw [cntM_8 (fun p hp => by
    show (pgF (dS w G) p && pgF (pR w) p) = false
    unfold pgF
    rw [decide_eq_false (by omega)]
    rfl)]
  unfold cntM
  apply List.countP_congr
  intro p hp
  have hp : p < 8 := List.mem_range.mp hp
  unfold cW
  rw [show (p == 8) = false from beq_eq_false_iff_ne.mpr (by omega), Bool.false_or]
theorem sim_commit {w : yW} {G : List zC} (h : INV w G) (mo : Int32) : (e_ST_commit G mo w).2 = (e_Mo_commit mo (e_ST_commit G mo w).1).2 ∧ INV (e_Mo_commit mo (e_ST_commit G mo w).1).1 G := by
  have hr := h.2.2.2.2.2.2.1
  have hy : ∀ t, t < 2 → yIn w (20 + 12 * t) := fun t ht => (h.2.2.2.2.2.2.2.2.1 t ht).1
  have hk := h.2.2.2.2.2.2.2.2.2
  have hcn : cntM (cW w G) 9 = cntM (cW w G) 8 + 1 := by rw [cntM_succ, show cW w G 8 = true from rfl, if_pos rfl]
  have hcl : cntM (cW w G) 8 ≤ 8 := cntM_le _ _
  have hll : lfC (uF w) 16 ≤ 16 := by have := cl_16 (uF w) 16; omega
  have eW : Int32.ofNat (mkM (pgF (dS w G)) 16) &&& e_ST_pagesWithRows w = Int32.ofNat (mkM (fun p => pgF (dS w G) p && pgF (pR w) p) 16) := by rw [pw_n, mk_and, mkM_and]
  have eF : e_Ig_bitCount (Int32.ofNat (mkM (fun p => pgF (dS w G) p && pgF (pR w) p) 16)) + 1 = Int32.ofNat (cntM (cW w G) 8 + 1) := by rw [bits_n, n_inc, cW_8]
  have eS : Int32.ofNat (cntM (cW w G) 8 + 1) + 1 = Int32.ofNat (cntM (cW w G) 8 + 2) := n_inc _
  have hne : zc .ne (Int32.ofNat (mkM (pgF (dS w G)) 16)) 0 = decide (0 < cntM (pgF (dS w G)) 8) := by
    have hl := mkM_lt (pgF (dS w G)) 16
    have hl : mkM (pgF (dS w G)) 16 < 65536 := hl
    have h8 := cntM_8 (f := pgF (dS w G)) (fun p hp => by
      unfold pgF
      rw [decide_eq_false (by omega)]
      rfl)
    have h0 := mkM_0 (pgF (dS w G)) 16
    rw [h8] at h0
    apply decide_eq_decide.mpr
    rw [show (0 : Int32) = Int32.ofNat 0 from rfl, nnE (by omega) (by omega), h0]
    omega
  have hle : zc .le (Int32.ofNat (cntM (cW w G) 8 + 1)) (e_Fr_countFree w) = decide (cntM (cW w G) 9 ≤ lfC (uF w) 16) := by
    rw [(free_c hr).2, zc_le, z_nat (by omega), z_nat (by omega)]
    apply decide_eq_decide.mpr
    omega
  by_cases hch : 0 < cntM (pgF (dS w G)) 8
  · by_cases hf : cntM (cW w G) 9 ≤ lfC (uF w) 16
    · -- frames for all
      obtain ⟨s1, s2, s3⟩ := sw_n (w := w) (W := cW w G) (C := pgF (dS w G)) (V := fun p => pgF (dS w G) p && pgF (pR w) p) hr (fun p hp => by
        unfold cW
        rw [show (p == 8) = false from beq_eq_false_iff_ne.mpr (by omega), Bool.false_or]) rfl hf
      have hcm := fun a b c ea eb ec => cm_c (a := a) (b := b) (c := c) (mo := mo) (cp_n (w := w) (G := G)) eW eF eS ea eb ec
      rw [hne, hle, decide_eq_true hch, decide_eq_true hf] at hcm
      have e63 : ∀ mo ws, g_ST_commit_63 G mo (Int32.ofNat (mkM (pgF (dS w G)) 16)) (Int32.ofNat (mkM (fun p => pgF (dS w G) p && pgF (pR w) p) 16)) (Int32.ofNat (cntM (cW w G) 8 + 1)) ws w 1 = (e_ST_keepPresentTables (e_Fr_switchTo (Int32.ofNat (mkM (pgF (dS w G)) 16)) (Int32.ofNat (mkM (fun p => pgF (dS w G) p && pgF (pR w) p) 16)) w), 1) := fun _ _ => rfl
      have e63' : ∀ mo ws, g_ST_commit_63 G mo (Int32.ofNat (mkM (pgF (dS w G)) 16)) (Int32.ofNat (mkM (fun p => pgF (dS w G) p && pgF (pR w) p) 16)) (Int32.ofNat (cntM (cW w G) 8 + 1)) ws w 0 = (w, 0) := fun _ _ => rfl
      obtain ⟨p1, p2, p3, p4⟩ := kp_n (w := e_Fr_switchTo (Int32.ofNat (mkM (pgF (dS w G)) 16)) (Int32.ofNat (mkM (fun p => pgF (dS w G) p && pgF (pR w) p) 16)) w) (G := G) (yRk_2 hk (by rw [s3]))
      have k1 : ∀ q, q < 9 → (e_ST_keepPresentTables (e_Fr_switchTo (Int32.ofNat (mkM (pgF (dS w G)) 16)) (Int32.ofNat (mkM (fun p => pgF (dS w G) p && pgF (pR w) p) 16)) w)).1 5 q = nFr (uF w) (cW w G) (pgF (dS w G)) w q := fun q hq => by rw [p1 5 q (by omega), s1 q hq]
      have k2 : ∀ d j, d ≠ 5 → ¬ ((d = 18 ∨ d = 30) ∧ j < 16) → (e_ST_keepPresentTables (e_Fr_switchTo (Int32.ofNat (mkM (pgF (dS w G)) 16)) (Int32.ofNat (mkM (fun p => pgF (dS w G) p && pgF (pR w) p) 16)) w)).1 d j = w.1 d j := fun d j a b => by rw [p1 d j b, s2 d j a]
      have k3 : ∀ d j, ¬ ((d = 19 ∨ d = 31) ∧ j < 16) → (e_ST_keepPresentTables (e_Fr_switchTo (Int32.ofNat (mkM (pgF (dS w G)) 16)) (Int32.ofNat (mkM (fun p => pgF (dS w G) p && pgF (pR w) p) 16)) w)).2.2 d j = w.2.2 d j := fun d j a => by rw [p2 d j a, s3]
      have k4 : ∀ t q, t < 2 → q < 16 → (e_ST_keepPresentTables (e_Fr_switchTo (Int32.ofNat (mkM (pgF (dS w G)) 16)) (Int32.ofNat (mkM (fun p => pgF (dS w G) p && pgF (pR w) p) 16)) w)).1 (18 + 12 * t) q = w.1 (15 + 12 * t) q ∧ (e_ST_keepPresentTables (e_Fr_switchTo (Int32.ofNat (mkM (pgF (dS w G)) 16)) (Int32.ofNat (mkM (fun p => pgF (dS w G) p && pgF (pR w) p) 16)) w)).2.2 (19 + 12 * t) q = w.2.2 (16 + 12 * t) q := fun t q ht hq => by
        rw [(p3 t q ht hq).1, (p3 t q ht hq).2, s2 _ _ (by omega), s3]
        exact ⟨rfl, rfl⟩
      generalize e_ST_keepPresentTables (e_Fr_switchTo (Int32.ofNat (mkM (pgF (dS w G)) 16)) (Int32.ofNat (mkM (fun p => pgF (dS w G) p && pgF (pR w) p) 16)) w) = K at e63 k1 k2 k3 k4 p4
      have hKZ : ∀ d j, 54 ≤ d → K.1 d j = w.1 d j := fun d j a => k2 d j (by omega) (by omega)
      have hwr : Int32.ofNat (cntM (cW w G) 8) + Int32.ofInt 2 = Int32.ofNat (cntM (cW w G) 8 + 2) := mk_add _ 2
      have hws : (Int32.ofNat (cntM (cW w G) 8 + 2)).toInt = cntM (cW w G) 8 + 2 := by rw [z_nat (by omega)]; omega
      -- a commit that goes through
      have through : zc .ne mo (Int32.ofNat (cntM (cW w G) 8 + 2)) = true → (zc .lt mo 0 = true ∨ zc .ge mo (Int32.ofNat (cntM (cW w G) 8 + 2)) = true) → e_ST_commit G mo w = (K, Int32.ofNat (cntM (cW w G) 8 + 2)) → (e_ST_commit G mo w).2 = (e_Mo_commit mo (e_ST_commit G mo w).1).2 ∧ INV (e_Mo_commit mo (e_ST_commit G mo w).1).1 G := fun hn ho hcl2 => by
        rw [hcl2]
        show Int32.ofNat (cntM (cW w G) 8 + 2) = (e_Mo_commit mo K).2 ∧ INV (e_Mo_commit mo K).1 G
        obtain ⟨B, D, eM, b1, b2', _, d1, ⟨d2, d3⟩, d4⟩ := crun (mo := mo) h hKZ
        obtain ⟨F, eF2, g1, g2, g3, g4, g5⟩ := crun2 (mo := mo) (wr := Int32.ofNat (cntM (cW w G) 8 + 2)) h hKZ d2 d3 (d4 hf)
        have e138 : g_Mo_commit_138 mo B.2.1 D.1 D.2 = g_Mo_commit_163 mo (Int32.ofNat (cntM (cW w G) 8 + 2)) D.1 := by
          unfold g_Mo_commit_138
          rw [b1, d1, hwr, decide_eq_true hf]
          rcases ho with ho | ho
          · rw [ho]; rfl
          · rw [ho]; cases zc .lt mo 0 <;> rfl
        rw [eM, b2', decide_eq_true hch, e138, eF2, hn]
        show Int32.ofNat (cntM (cW w G) 8 + 2) = Int32.ofNat (cntM (cW w G) 8 + 2) ∧ INV F G
        refine ⟨rfl, fin_inv h hf k1 k2 k3 k4 p4 g1 (fun d j a b c x y z => by rw [g2 d j b c x y z, hKZ d j a]) g4 g5 (fun d j a => g2 d j (by omega) (by omega) (by omega) (by omega) (by omega)) (fun _ _ _ => rfl) (by rw [g3])⟩
      cases c1 : zc .lt mo 0 with
      | true =>
        have hm := of_decide_eq_true ((zc_lt mo 0).symm.trans c1)
        rw [z_i0] at hm
        refine through ?_ (Or.inl c1) ?_
        · rw [zc_ne, hws]
          apply decide_eq_true
          omega
        · refine (hcm (w, 1) (K, 1) (K, 1) ?_ ?_ ?_)
          · unfold g_ST_commit_46
            rw [c1]
            rfl
          · exact e63 _ _
          · unfold g_ST_commit_81
            rw [c1]
            rfl
      | false =>
        have hm := of_decide_eq_false ((zc_lt mo 0).symm.trans c1)
        rw [z_i0] at hm
        cases c2 : zc .lt mo (Int32.ofNat (cntM (cW w G) 8 + 2)) with
        | true =>
          have hm2 := of_decide_eq_true ((zc_lt mo _).symm.trans c2)
          rw [hws] at hm2
          have hgt : zc .gt mo (Int32.ofNat (cntM (cW w G) 8 + 2)) = false := by
            rw [zc_gt, hws]
            apply decide_eq_false
            omega
          have hcc := hcm (w, 0) (w, 0) (e_ST_crash G w, 0) (by
            unfold g_ST_commit_46
            rw [c1, c2]
            rfl) (e63' _ _) (by
            unfold g_ST_commit_81
            rw [c1, hgt]
            rfl)
          obtain ⟨q1, q2, q3, q4, q5, q6, q7, q8, q9⟩ := cr_n hy hk
          have hZZ : ∀ d j, 54 ≤ d → (e_ST_crash G w).1 d j = w.1 d j := fun d j a => q1 d j (by omega) (by omega) (by omega) (by omega) (by omega)
          rw [hcc]
          show mo = (e_Mo_commit mo (e_ST_crash G w)).2 ∧ INV (e_Mo_commit mo (e_ST_crash G w)).1 G
          obtain ⟨B, D, eM, b1, b2', _, d1, ⟨d2, d3⟩, d4⟩ := crun (mo := mo) h hZZ
          have hge : zc .ge mo (Int32.ofNat (cntM (cW w G) 8 + 2)) = false := by
            rw [zc_ge, hws]
            apply decide_eq_false
            omega
          have e138 : g_Mo_commit_138 mo B.2.1 D.1 D.2 = (e_Mo_crash D.1, mo) := by
            unfold g_Mo_commit_138
            rw [b1, d1, hwr, decide_eq_true hf, c1, hge]
            rfl
          rw [eM, b2', decide_eq_true hch, e138]
          refine ⟨rfl, ?_⟩
          show INV (e_Mo_crash D.1) G
          refine crashX (v := (fun d j => if d < 54 then w.1 d j else D.1.1 d j, w.2.1, w.2.2)) (c1 := w) (INV_71 h (fun d j a => ?_) rfl) (fun d j a => if_pos a) rfl (fun d j a => d2 d j (by omega)) (by rw [d3]) (fun d j a => (if_neg (by omega)).symm)
          show (if d < 54 then w.1 d j else D.1.1 d j) = _
          by_cases hd : d < 54
          · rw [if_pos hd]
          · rw [if_neg hd, d2 d j a, hZZ d j (by omega)]
        | false =>
          have hm2 := of_decide_eq_false ((zc_lt mo _).symm.trans c2)
          rw [hws] at hm2
          have hge : zc .ge mo (Int32.ofNat (cntM (cW w G) 8 + 2)) = true := by
            rw [zc_ge, hws]
            apply decide_eq_true
            omega
          cases c3 : zc .gt mo (Int32.ofNat (cntM (cW w G) 8 + 2)) with
          | true =>
            have hm3 := of_decide_eq_true ((zc_gt mo _).symm.trans c3)
            rw [hws] at hm3
            refine through ?_ (Or.inr hge) ?_
            · rw [zc_ne, hws]
              apply decide_eq_true
              omega
            · refine (hcm (w, 1) (K, 1) (K, 1) ?_ ?_ ?_)
              · unfold g_ST_commit_46
                rw [c1, c2]
                rfl
              · exact e63 _ _
              · unfold g_ST_commit_81
                rw [c1, c3]
                rfl
          | false =>
            have hm3 := of_decide_eq_false ((zc_gt mo _).symm.trans c3)
            rw [hws] at hm3
            have hne2 : zc .ne mo (Int32.ofNat (cntM (cW w G) 8 + 2)) = false := by
              rw [zc_ne, hws]
              apply decide_eq_false
              omega
            have hcc := hcm (w, 1) (K, 1) (e_ST_crash G K, 1) (by
              unfold g_ST_commit_46
              rw [c1, c2]
              rfl) (e63 _ _) (by
              unfold g_ST_commit_81
              rw [c1, c3]
              rfl)
            have hyK : ∀ t, t < 2 → yIn K (20 + 12 * t) := fun t ht => ⟨fun j hj => by rw [k2 _ _ (by omega) (by omega)]; exact (hy t ht).1 j hj, by rw [k2 _ _ (by omega) (by omega)]; exact (hy t ht).2⟩
            obtain ⟨q1, q2, q3, q4, q5, q6, q7, q8, q9⟩ := cr_n hyK p4
            have hZZ : ∀ d j, 54 ≤ d → (e_ST_crash G K).1 d j = w.1 d j := fun d j a => by rw [q1 d j (by omega) (by omega) (by omega) (by omega) (by omega), hKZ d j a]
            rw [hcc]
            show Int32.ofNat (cntM (cW w G) 8 + 2) = (e_Mo_commit mo (e_ST_crash G K)).2 ∧ INV (e_Mo_commit mo (e_ST_crash G K)).1 G
            obtain ⟨B, D, eM, b1, b2', _, d1, ⟨d2, d3⟩, d4⟩ := crun (mo := mo) h hZZ
            obtain ⟨F, eF2, g1, g2, g3, g4, g5⟩ := crun2 (mo := mo) (wr := Int32.ofNat (cntM (cW w G) 8 + 2)) h hZZ d2 d3 (d4 hf)
            have e138 : g_Mo_commit_138 mo B.2.1 D.1 D.2 = g_Mo_commit_163 mo (Int32.ofNat (cntM (cW w G) 8 + 2)) D.1 := by
              unfold g_Mo_commit_138
              rw [b1, d1, hwr, decide_eq_true hf, hge, c1]
              rfl
            rw [eM, b2', decide_eq_true hch, e138, eF2, hne2]
            refine ⟨rfl, ?_⟩
            show INV (e_Mo_crash F) G
            refine crashX (v := (fun d j => if d < 54 then K.1 d j else F.1 d j, K.2.1, K.2.2)) (c1 := K) (fin_inv h hf k1 k2 k3 k4 p4 g1 (fun d j a b c x y z => by rw [g2 d j b c x y z, hZZ d j a]) g4 g5 (fun d j a => if_pos a) (fun d j a => if_neg (by omega)) rfl) (fun d j a => if_pos a) rfl (fun d j a => g2 d j (by omega) (by omega) (by omega) (by omega) (by omega)) (by rw [g3]) (fun d j a => (if_neg (by omega)).symm)
    · have hcc := cm_c (mo := mo) (cp_n (w := w) (G := G)) eW eF eS rfl rfl rfl
      rw [hne, hle, decide_eq_true hch, decide_eq_false hf] at hcc
      rw [hcc]
      show -1 = (e_Mo_commit mo w).2 ∧ INV (e_Mo_commit mo w).1 G
      obtain ⟨B, D, eM, b1, b2', _, d1, ⟨d2, d3⟩, d4⟩ := crun (Z := w) (mo := mo) h (fun _ _ _ => rfl)
      rw [eM, b2', decide_eq_true hch, d1, decide_eq_false hf]
      exact ⟨rfl, (show INV D.1 G from INV_71 h d2 (by rw [d3]))⟩
  · have hcc := cm_c (mo := mo) (cp_n (w := w) (G := G)) eW eF eS rfl rfl rfl
    rw [hne, decide_eq_false hch] at hcc
    rw [hcc]
    show 0 = (e_Mo_commit mo w).2 ∧ INV (e_Mo_commit mo w).1 G
    obtain ⟨B, D, eM, b1, b2', ⟨b4, b5⟩, _⟩ := crun (Z := w) (mo := mo) h (fun _ _ _ => rfl)
    rw [eM, b2', decide_eq_false hch]
    exact ⟨rfl, (show INV B.1 G from INV_71 h b4 (by rw [b5]))⟩
