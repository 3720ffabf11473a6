-- the class's counts of what is read
def cRw (w w1 : yW) : Prop := (∀ d j, 14 ≤ d → d ≤ 37 → w1.1 d j = w.1 d j) ∧ w1.2.2 = w.2.2
theorem mapc_s {sq : Nat → Nat × Int × Int} {φ : Nat × Int × Int → Bool} {n : Nat} : ((List.range (n + 1)).map sq).countP φ = ((List.range n).map sq).countP φ + if φ (sq n) then 1 else 0 := by
  rw [List.range_succ, List.map_append, List.countP_append, List.map_cons, List.map_nil, List.countP_singleton]
theorem cwI_n {w w1 : yW} {G : List zC} {T x p dd N : Nat} {t u : Int64} {φ : Nat × Int × Int → Bool} {sq : Nat → Nat × Int × Int} (h : INV w G) (hc : cRw w w1) (hT : T < 2) (he : rEq w G p (some x)) (ht : w1.2.1 dd 0 = t) (hu : w1.2.1 dd 1 = u) (hu0 : 1 ≤ u.toInt) (hu1 : u.toInt ≤ 131072) (hφ : sqR w G T p t.toInt u.toInt φ) (hN : (w.1 (20 + 12 * T) 5).toInt = N) (hN9 : N ≤ 129) (hR : ixR N sq (fun i => (w.1 (20 + 12 * T + 2) i).toInt) (fun i => (w.1 (20 + 12 * T + 3) i).toInt) (fun i => (w.1 (20 + 12 * T + 4) i).toInt) (fun i => (w.1 (20 + 12 * T + 5) i).toInt) (tD w G T) (tX w G T) (tY w G T) (tX1 w G T) (tY1 w G T)) :
    ∀ (f s : Nat), s ≤ N → N < s + f → g_In_countWithin_5 G (20 + 12 * T) x dd w1 f (Int32.ofNat (((List.range s).map sq).countP φ)) (Int32.ofNat s) = Int32.ofNat (((List.range N).map sq).countP φ)
  | 0, s, a, b => by omega
  | f + 1, s, a, b => by
    rw [g_In_countWithin_5, zc_ge, z_nat (by omega), hc.1 (20 + 12 * T) 5 (by omega) (by omega), hN]
    by_cases e : s = N
    · rw [decide_eq_true (by omega), cond_true, e]
    · rw [decide_eq_false (by omega), cond_false, n_clamp (by omega), hc.1 (20 + 12 * T + 2) s (by omega) (by omega), hc.1 (20 + 12 * T + 3) s (by omega) (by omega), hc.1 (20 + 12 * T + 4) s (by omega) (by omega), hc.1 (20 + 12 * T + 5) s (by omega) (by omega), ht, hu]
      obtain ⟨r1, r2, r3, r4⟩ := hR s (by omega)
      have hf := hφ (sq s) _ _ _ _ r1 r3 r2 r4
      obtain ⟨⟨i1, l1, p1, q1⟩, m1⟩ := r1
      obtain ⟨⟨i2, l2, p2, q2⟩, m2⟩ := r2
      obtain ⟨⟨i3, l3, p3, q3⟩, m3⟩ := r3
      obtain ⟨⟨i4, l4, p4, q4⟩, m4⟩ := r4
      have b1 := tb_b (T := T) i1 h
      have b2 := tb_b (T := T) i2 h
      have b3 := tb_b (T := T) i3 h
      have b4 := tb_b (T := T) i4 h
      have c1 := m3 i1 l1 p1
      have c2 := m4 i2 l2 p2
      have q1 : tX w G T i1 = (w.1 (20 + 12 * T + 2) s).toInt := q1
      have q2 : tY w G T i2 = (w.1 (20 + 12 * T + 3) s).toInt := q2
      have q3 : tX1 w G T i3 = (w.1 (20 + 12 * T + 4) s).toInt := q3
      have q4 : tY1 w G T i4 = (w.1 (20 + 12 * T + 5) s).toInt := q4
      have c1 : tX1 w G T i1 ≤ (w.1 (20 + 12 * T + 4) s).toInt := c1
      have c2 : tY1 w G T i2 ≤ (w.1 (20 + 12 * T + 5) s).toInt := c2
      rw [q1] at b1
      rw [q2] at b2
      rw [q3] at b3
      rw [q4] at b4
      have o := yOk_bd he.2.1
      rw [least_n o.1 o.2.2.1 o.2.1 o.2.2.2.1 b1.1 b3.2.2.1 b2.2.1 b4.2.2.2.1 o.2.2.2.2.1 o.2.2.2.2.2 (Int.le_trans b1.2.2.2.2.1 c1) (Int.le_trans b2.2.2.2.2.2 c2) (by omega) hu1, b2_eq, n_inc2, n_inc2]
      have ih := cwI_n h hc hT he ht hu hu0 hu1 hφ hN hN9 hR f (s + 1) (by omega) (by omega)
      unfold clB at hf
      rw [decide_eq_false (show ¬ u.toInt = 0 by omega), Bool.false_or, he.2.2.2.2.2.1, he.2.2.2.2.2.2.1, he.2.2.2.2.2.2.2.1, he.2.2.2.2.2.2.2.2] at hf
      rw [mapc_s, hf] at ih
      generalize decide (pGap (gB G x 0).toInt (gB G x 2).toInt (gB G x 1).toInt (gB G x 3).toInt (w.1 (20 + 12 * T + 2) s).toInt (w.1 (20 + 12 * T + 4) s).toInt (w.1 (20 + 12 * T + 3) s).toInt (w.1 (20 + 12 * T + 5) s).toInt * u.toInt ≤ t.toInt) = z at ih ⊢
      cases z
      · exact ih
      · exact ih
theorem cwT_n {w w1 : yW} {G : List zC} {T x p dd : Nat} {t u : Int64} (h : INV w G) (hc : cRw w w1) (he : rEq w G p (some x)) (ht : w1.2.1 dd 0 = t) (hu : w1.2.1 dd 1 = u) (hu0 : 1 ≤ u.toInt) (hu1 : u.toInt ≤ 131072) :
    ∀ (f s : Nat), s ≤ 16 → 16 < s + f → g_Ta_countWithin_5 G (14 + 12 * T) x dd w1 f (Int32.ofNat (cntM (rwB w G T p t.toInt u.toInt) s)) (Int32.ofNat s) = Int32.ofNat (cntM (rwB w G T p t.toInt u.toInt) 16)
  | 0, s, a, b => by omega
  | f + 1, s, a, b => by
    rw [g_Ta_countWithin_5, zc_ge, z_nat (by omega), show (16 : Int32).toInt = 16 from rfl]
    by_cases e : s = 16
    · rw [decide_eq_true (by omega), cond_true, e]
    · rw [decide_eq_false (by omega), cond_false, n_clamp (by omega), show 14 + 12 * T + 2 = 16 + 12 * T by omega, hc.2, ht, hu, n_inc2, n_inc2]
      have ih := cwT_n (T := T) h hc he ht hu hu0 hu1 f (s + 1) (by omega) (by omega)
      rw [cntM_succ] at ih
      cases ho : w.2.2 (16 + 12 * T) s with
      | none =>
        rw [show rwB w G T p t.toInt u.toInt s = false by unfold rwB rowP; rw [ho]; rfl, if_neg (by decide), Nat.add_zero] at ih
        exact ih
      | some y =>
        have hR : yRk w G := h.2.2.2.2.2.2.2.2.2
        have oy := yOk_bd (hR _ _ _ ho)
        have o := yOk_bd he.2.1
        show (bif yN (some y) then _ else _) = _
        rw [show yN (some y) = false from rfl, cond_false, show yd (some y) = y from rfl]
        unfold f_Bo_gapTo
        rw [least_n o.1 o.2.2.1 o.2.1 o.2.2.2.1 oy.1 oy.2.2.1 oy.2.1 oy.2.2.2.1 o.2.2.2.2.1 o.2.2.2.2.2 oy.2.2.2.2.1 oy.2.2.2.2.2 (by omega) hu1, b2_eq]
        have er : rwB w G T p t.toInt u.toInt s = decide (pGap (gB G x 0).toInt (gB G x 2).toInt (gB G x 1).toInt (gB G x 3).toInt (gB G y 0).toInt (gB G y 2).toInt (gB G y 1).toInt (gB G y 3).toInt * u.toInt ≤ t.toInt) := by
          unfold rwB rowP clB tX tX1 tY tY1
          rw [ho, decide_eq_false (show ¬ u.toInt = 0 by omega), Bool.false_or, he.2.2.2.2.2.1, he.2.2.2.2.2.2.1, he.2.2.2.2.2.2.2.1, he.2.2.2.2.2.2.2.2]
          rfl
        rw [er] at ih
        generalize decide (pGap (gB G x 0).toInt (gB G x 2).toInt (gB G x 1).toInt (gB G x 3).toInt (gB G y 0).toInt (gB G y 2).toInt (gB G y 1).toInt (gB G y 3).toInt * u.toInt ≤ t.toInt) = z at ih ⊢
        cases z
        · exact ih
        · exact ih
theorem sqR_ex (w : yW) (G : List zC) (T p : Nat) (t u : Int) : ∃ φ, sqR w G T p t u φ :=
  ⟨fun s => @decide (∃ x0 x1 y0 y1, (ixLo (ixH (tD w G T) (tX w G T) (tY w G T) s) (tX w G T) x0 ∧ ixHi (ixH (tD w G T) (tX w G T) (tY w G T) s) (tX1 w G T) x1 ∧ ixLo (ixH (tD w G T) (tX w G T) (tY w G T) s) (tY w G T) y0 ∧ ixHi (ixH (tD w G T) (tX w G T) (tY w G T) s) (tY1 w G T) y1) ∧ clB w p t u x0 x1 y0 y1 = true) (Classical.propDecidable _), fun s x0 x1 y0 y1 a b c d => by
    apply Bool.eq_iff_iff.mpr
    rw [@decide_eq_true_iff _ (Classical.propDecidable _)]
    constructor
    · rintro ⟨x0', x1', y0', y1', ⟨a', b', c', d'⟩, e⟩
      rw [ixLo_uni a a', ixHi_uni b b', ixLo_uni c c', ixHi_uni d d']
      exact e
    · intro e
      exact ⟨x0, x1, y0, y1, ⟨a, b, c, d⟩, e⟩⟩
theorem reads_n {w w1 w' : yW} {G : List zC} {T x p dd : Nat} {t u : Int64} (h : INV w G) (hc : cRw w w1) (hs : sRw w w') (hT : T < 2) (hp : p < 65) (he : rEq w G p (some x)) (ht : w1.2.1 dd 0 = t) (hu : w1.2.1 dd 1 = u) (hu0 : 1 ≤ u.toInt) (hu1 : u.toInt ≤ 131072) : e_ST_readsWithin G x (Int32.ofNat T) dd w1 = (e_Mo_readBy (Int32.ofNat p) (Int32.ofNat T) t u w').2 ∧ (e_Mo_readBy (Int32.ofNat p) (Int32.ofNat T) t u w').1.2 = w'.2 := by
  obtain ⟨hy, sq, hI, hR⟩ := h.2.2.2.2.2.2.2.2.1 T hT
  obtain ⟨φ, hφ⟩ := sqR_ex w G T p t.toInt u.toInt
  have hN0 := hy.2
  have o := yOk_bd he.2.1
  have hb : pBd w p := by
    unfold pBd
    rw [he.2.2.2.2.2.1, he.2.2.2.2.2.2.1, he.2.2.2.2.2.2.2.1, he.2.2.2.2.2.2.2.2]
    exact ⟨o.1, o.2.2.1, o.2.1, o.2.2.2.1⟩
  have k := rdb_n h hs hT hp (Or.inr hb) (by omega) hu1 hφ
  refine ⟨?_, k.1⟩
  rw [k.2]
  unfold e_ST_readsWithin e_In_countWithin e_Ta_countWithin
  rw [n_clamp (by omega)]
  have k1 := cwI_n h hc hT he ht hu hu0 hu1 hφ (N := (w.1 (20 + 12 * T) 5).toInt.toNat) (by omega) (by omega) hR 130 0 (by omega) (by omega)
  have k2 := cwT_n (T := T) h hc he ht hu hu0 hu1 17 0 (by omega) (by omega)
  have k1 : g_In_countWithin_5 G (20 + 12 * T) x dd w1 130 0 0 = _ := k1
  have k2 : g_Ta_countWithin_5 G (14 + 12 * T) x dd w1 17 0 0 = _ := k2
  rw [k1, k2, mk_add, List.Perm.countP_eq φ (ix_perm hI), Nat.add_comm]
  rfl
/-- class and reference write only answers, reads and what they work with -/
def aF (w w' : yW) : Prop := (∀ d j, ¬ (d = 0 ∧ (j = 7 ∨ j = 8)) → d ≠ 9 → d ≠ 13 → ¬ (d = 54 ∧ 13 ≤ j ∧ j ≤ 22) → d ≠ 69 → w'.1 d j = w.1 d j) ∧ w'.2.2 = w.2.2
theorem INV_ans {w w' : yW} {G : List zC} (h : INV w G) (f : aF w w') (ha : iAns w') (hO : iOrd w') : INV w' G := by
  obtain ⟨hd, hf0, hp, hc, hm, _, hr, _, hi, hk⟩ := h
  obtain ⟨fi, fr⟩ := f
  have hre : ∀ s o, rEq w G s o → rEq w' G s o := fun s o hq => rEq_i (fun d j x y z u v => fi d j (by omega) (by omega) (by omega) (by omega) (by omega)) hq
  refine ⟨?_, ?_, ?_, ?_, ?_, ha, ?_, hO, ?_, yRk_2 hk fr⟩
  · unfold iDraft
    rw [fi 6 2 (by omega) (by omega) (by omega) (by omega) (by omega), fi 54 10 (by omega) (by omega) (by omega) (by omega) (by omega)]
    refine ⟨hd.1, hd.2.1, fun i hi2 => ?_⟩
    rw [fi 7 i (by omega) (by omega) (by omega) (by omega) (by omega), fi 8 i (by omega) (by omega) (by omega) (by omega) (by omega), fi 65 i (by omega) (by omega) (by omega) (by omega) (by omega), fi 66 i (by omega) (by omega) (by omega) (by omega) (by omega)]
    exact hd.2.2 i hi2
  · unfold iFoc
    rw [fr]
    exact hre _ _ hf0
  · intro t q ht hq
    rw [fr]
    refine ⟨hre _ _ (hp t q ht hq).1, fun hne => ?_⟩
    rw [fi 56 _ (by omega) (by omega) (by omega) (by omega) (by omega), fi (15 + 12 * t) _ (by omega) (by omega) (by omega) (by omega) (by omega)]
    exact (hp t q ht hq).2 hne
  · intro t q ht hq
    rw [fr]
    refine ⟨hre _ _ (hc t q ht hq).1, fun hne => ?_⟩
    rw [fi 56 _ (by omega) (by omega) (by omega) (by omega) (by omega), fi (18 + 12 * t) _ (by omega) (by omega) (by omega) (by omega) (by omega)]
    exact (hc t q ht hq).2 hne
  · intro s hs
    rw [fi 55 _ (by omega) (by omega) (by omega) (by omega) (by omega), fi 58 _ (by omega) (by omega) (by omega) (by omega) (by omega)]
    exact hm s hs
  · refine ⟨fun p hp2 => ?_, ?_⟩
    · rw [fi 5 _ (by omega) (by omega) (by omega) (by omega) (by omega), fi 70 _ (by omega) (by omega) (by omega) (by omega) (by omega)]
      exact hr.1 p hp2
    · rw [fi 70 _ (by omega) (by omega) (by omega) (by omega) (by omega)]
      exact hr.2
  · intro t ht
    exact iIxd_eq (fi _ _ (by omega) (by omega) (by omega) (by omega) (by omega)) (fun j => fi _ _ (by omega) (by omega) (by omega) (by omega) (by omega)) (fun j => fi _ _ (by omega) (by omega) (by omega) (by omega) (by omega)) (fun j => fi _ _ (by omega) (by omega) (by omega) (by omega) (by omega)) (fun j => fi _ _ (by omega) (by omega) (by omega) (by omega) (by omega)) (fun j => fi _ _ (by omega) (by omega) (by omega) (by omega) (by omega)) (fun j => by rw [fr]) (by rw [fr]) (hi t ht)
theorem rb0_n {w w' : yW} {G : List zC} {T : Nat} (h : INV w G) (hs : sRw w w') (hT : T < 2) : (e_Mo_readBy (Int32.ofNat 64) (Int32.ofNat T) 0 0 w').2 = w.1 (20 + 12 * T) 5 + Int32.ofNat (cntM (rowP w T) 16) ∧ (e_Mo_readBy (Int32.ofNat 64) (Int32.ofNat T) 0 0 w').1.2 = w'.2 := by
  have hφ : sqR w G T 64 (0 : Int64).toInt (0 : Int64).toInt (fun _ => true) := fun _ _ _ _ _ _ _ _ _ => rfl
  have k := rdb_n h hs hT (by omega) (Or.inl rfl) (by decide) (by decide) hφ
  refine ⟨?_, k.1⟩
  rw [k.2]
  have e1 : cntM (rwB w G T 64 (0 : Int64).toInt (0 : Int64).toInt) 16 = cntM (rowP w T) 16 := by
    unfold cntM
    congr 1
    funext r
    unfold rwB
    show (rowP w T r && true) = _
    rw [Bool.and_true]
  obtain ⟨hy, sq, hI2, _⟩ := h.2.2.2.2.2.2.2.2.1 T hT
  have e2 : (ixL (tD w G T) (tX w G T) (tY w G T)).countP (fun _ => true) = (w.1 (20 + 12 * T) 5).toInt.toNat := by
    have pm : ((List.range (w.1 (20 + 12 * T) 5).toInt.toNat).map sq).Perm (ixL (tD w G T) (tX w G T) (tY w G T)) := ix_perm hI2
    rw [← List.Perm.countP_eq _ pm, List.countP_true, List.length_map, List.length_range]
  have e3 : Int32.ofNat (w.1 (20 + 12 * T) 5).toInt.toNat = w.1 (20 + 12 * T) 5 := by
    apply Int32.toInt_inj.mp
    have := hy.2
    rw [z_nat (by omega)]
    omega
  rw [e1, e2, Nat.add_comm, ← mk_add, e3]
theorem sim_nodes {w : yW} {G : List zC} (h : INV w G) (t : Int32) : e_ST_nodes t w = (e_Mo_nodes t w).2 ∧ INV (e_Mo_nodes t w).1 G := by
  unfold e_ST_nodes e_Mo_nodes
  rcases isT_cases t with ⟨T, hT, e, k1, k2⟩ | ⟨k1, k2⟩
  · rw [k1, k2, e, n_clamp (by omega), show zc .eq (1 : Int32) 0 = false from rfl, show zc .ne (1 : Int32) 0 = true from rfl, cond_false, cond_true, show (64 : Int32) = Int32.ofNat 64 from rfl]
    show e_In_size (20 + 12 * T) w = (e_Mo_readBy (Int32.ofNat 64) (Int32.ofNat T) 0 0 w).2 - (e_Mo_size (Int32.ofNat T) (e_Mo_readBy (Int32.ofNat 64) (Int32.ofNat T) 0 0 w).1).2 ∧ INV (e_Mo_readBy (Int32.ofNat 64) (Int32.ofNat T) 0 0 w).1 G
    have k := rb0_n (w' := w) h (fun _ _ _ _ => rfl) hT
    have kf := kf_Mo_readBy (Int32.ofNat 64) (Int32.ofNat T) 0 0 w
    generalize e_Mo_readBy (Int32.ofNat 64) (Int32.ofNat T) 0 0 w = z at k kf ⊢
    have f : aF w z.1 := ⟨fun d j a b c e g => yKi kf (ySt_54 (by omega)), by rw [k.2]⟩
    have hI : INV z.1 G := INV_ans h f (iAns_K kf rfl rfl (fun _ => rfl) (fun _ => rfl) rfl rfl h.2.2.2.2.2.1) (iOrd_K kf (fun _ => rfl) h.2.2.2.2.2.2.2.1)
    refine ⟨?_, hI⟩
    rw [size_n hI hT, k.1]
    have e1 : rowP z.1 T = rowP w T := by
      funext r
      unfold rowP
      rw [f.2]
    rw [e1, Int32.add_sub_cancel]
    rfl
  · rw [k1, k2]
    exact ⟨rfl, h⟩
