-- insert
theorem cs26_2 (a b : Int32) : ∀ (n : Nat) (w : yW) (i : Int32), (g_Mo_copyShape_26 a b n w i).2 = w.2
  | 0, w, i => rfl
  | n + 1, w, i => by
    rw [g_Mo_copyShape_26]
    exact yJ_if rfl ((cs26_2 a b n _ _).trans rfl)
theorem b52_2 (s i : Int32) (w : yW) : (g_Mo_bind_52 s i w).2 = w.2 := by unfold g_Mo_bind_52; exact yJ_if rfl rfl
theorem b88_2 (s i : Int32) (w : yW) : (g_Mo_bind_88 s i w).2 = w.2 := by unfold g_Mo_bind_88; exact yJ_if rfl rfl
theorem b124_2 (s i : Int32) (w : yW) : (g_Mo_bind_124 s i w).2 = w.2 := by unfold g_Mo_bind_124; exact yJ_if rfl rfl
theorem b160_2 (s i : Int32) (w : yW) : (g_Mo_bind_160 s i w).2 = w.2 := by unfold g_Mo_bind_160; exact yJ_if rfl rfl
theorem b37_2 (s mv : Int32) : ∀ (n : Nat) (w : yW) (i : Int32), (g_Mo_bind_37 s mv n w i).2 = w.2
  | 0, w, i => rfl
  | n + 1, w, i => by
    rw [g_Mo_bind_37]
    exact yJ_if rfl ((b37_2 s mv n _ _).trans ((b160_2 ..).trans ((b124_2 ..).trans ((b88_2 ..).trans (b52_2 ..)))))
theorem cs_2 (a b mv : Int32) (w : yW) : (e_Mo_copyShape a b mv w).2 = w.2 := by
  unfold e_Mo_copyShape e_Mo_bind
  exact (b37_2 ..).trans ((cs26_2 ..).trans rfl)
theorem add_1 {G : List zC} {c x d j : Nat} {w : yW} (h0 : d ≠ c ∨ j ≠ 5) (h1 : d ≠ c + 1) (h2 : d ≠ c + 2) (h3 : d ≠ c + 3) (h4 : d ≠ c + 4) (h5 : d ≠ c + 5) : (e_In_add G c x w).1 d j = w.1 d j := by
  refine yKi (kf_In_add ..) ?_
  simp only [ySt]
  rw [show Nat.beq d (c + 1) = false from nbe h1, show Nat.beq d (c + 2) = false from nbe h2, show Nat.beq d (c + 3) = false from nbe h3, show Nat.beq d (c + 4) = false from nbe h4, show Nat.beq d (c + 5) = false from nbe h5]
  rcases h0 with h0 | h0
  · rw [show Nat.beq d c = false from nbe h0]
    rfl
  · rw [show Nat.beq j 5 = false from nbe h0, Bool.and_false]
    rfl
/-- a row that gets a shape -/
theorem cs_row {w : yW} {G : List zC} {a s x : Nat} {mv : Int32} (ha : a < 65) (hs : s < 65) (hne : a ≠ s) (h : rEq w G a (some x)) (h55 : w.1 55 s = 1) : (∀ c j, ¬ (c = 57 ∧ j = s) → ¬ (c = 58 ∧ j = s) → ¬ ((c = 59 ∨ c = 60) ∧ 6 * s ≤ j ∧ j < 6 * s + 6) → ¬ (61 ≤ c ∧ c ≤ 64 ∧ j = s) → (e_Mo_copyShape (Int32.ofNat a) (Int32.ofNat s) mv w).1 c j = w.1 c j) ∧ rEq (e_Mo_copyShape (Int32.ofNat a) (Int32.ofNat s) mv w) G s (some x) ∧ (0 ≤ ((e_Mo_copyShape (Int32.ofNat a) (Int32.ofNat s) mv w).1 58 s).toInt ∧ ((e_Mo_copyShape (Int32.ofNat a) (Int32.ofNat s) mv w).1 58 s).toInt ≤ 6) := by
  have n6 : (gX G x).length ≤ 6 := h.2.1.2.2.2.2.2.2.2.1
  have n4 := h.2.2.2.1
  obtain ⟨c1, c2, c3, c4, c5, c6, c7, c8⟩ := cs_n (mv := mv) ha hs hne n6 w n4
  refine ⟨c1, rEq_cs n6 n4 h ((c1 55 s (by omega) (by omega) (by omega) (by omega)).trans h55) c2 c3 c4 c5 c6 c7 c8, ?_⟩
  rw [c3, z_nat (by omega)]
  omega
theorem cl64 : (64 : Int32).toNatClampNeg = 64 := by decide
theorem sim_insert {w : yW} {G : List zC} (h : INV w G) (t v : Int32) : (e_ST_insert G t v w).2 = (e_Mo_insert t v (e_ST_insert G t v w).1).2 ∧ INV (e_Mo_insert t v (e_ST_insert G t v w).1).1 G := by
  have same : (e_ST_insert G t v w) = (w, -1) → e_Mo_insert t v w = (w, -1) → (e_ST_insert G t v w).2 = (e_Mo_insert t v (e_ST_insert G t v w).1).2 ∧ INV (e_Mo_insert t v (e_ST_insert G t v w).1).1 G := by
    intro e1 e2
    rw [e1]
    show -1 = (e_Mo_insert t v w).2 ∧ INV (e_Mo_insert t v w).1 G
    rw [e2]
    exact ⟨rfl, h⟩
  rcases isT_cases t with ⟨T, hT, et, k1, k2⟩ | ⟨k1, k2⟩
  · have eT : t.toNatClampNeg = T := by rw [et]; exact n_clamp (by omega)
    have hf := h.2.1
    unfold iFoc at hf
    cases ho : w.2.2 0 5 with
    | none =>
      rw [ho] at hf
      have hf : w.1 55 64 = 0 := hf
      refine same ?_ ?_
      · unfold e_ST_insert
        rw [k1, ho]
        rfl
      · unfold e_Mo_insert
        rw [k2, cl64, hf]
        rfl
    | some x =>
      rw [ho] at hf
      have h55 : w.1 55 64 = 1 := hf.1
      have hsz := size_n h hT
      rw [← et] at hsz
      have hla := @lfr_all (rowP w T) 16 0
      by_cases hl : lfr (rowP w T) 16 0 < 16
      · have hlf := @lfRow_n w T
        have hi31 := fun (w' : yW) (e : w'.1 55 = w.1 55) => ins31_n h (v := v) e hT hl
        have hnul : w.2.2 (16 + 12 * T) (lfr (rowP w T) 16 0) = none := by
          have := hla.2.2.2 (by omega)
          have hh : yS (w.2.2 (16 + 12 * T) (lfr (rowP w T) 16 0)) = false := this
          cases hz : w.2.2 (16 + 12 * T) (lfr (rowP w T) 16 0) with
          | none => rfl
          | some y => rw [hz] at hh; cases hh
        have hcn : ¬ cntM (rowP w T) 16 = 16 := fun hc => by have := (cnt_16 _).mp hc; omega
        have hcl := cntM_le (rowP w T) 16
        generalize lfr (rowP w T) 16 0 = Q at hl hlf hi31 hnul
        have ec : e_ST_insert G t v w = (e_In_add G (20 + 12 * T) x (wR (wI w (15 + 12 * T) Q v) (16 + 12 * T) Q (some x)), Int32.ofNat Q) := by
          unfold e_ST_insert
          rw [k1, ho, eT, hlf, put_Q hl, show 14 + 12 * T + 1 = 15 + 12 * T by omega, show 14 + 12 * T + 2 = 16 + 12 * T by omega, wR_r, if_neg (by omega)]
          rw [show (wI w (15 + 12 * T) Q v).2.2 0 5 = some x from ho]
          rw [show zc .ne (Int32.ofNat Q) 16 = true by
            rw [zc_ne]
            exact decide_eq_true (fun hh => by
              have := hh
              rw [z_nat (by omega)] at this
              have e16 : (16 : Int32).toInt = 16 := rfl
              omega)]
          rfl
        obtain ⟨hd, hf0, hp, hc, hm, ha, hr, hO, hi, hk⟩ := id h
        have okx := hf.2.1
        have hk1 : yRk (wR (wI w (15 + 12 * T) Q v) (16 + 12 * T) Q (some x)) G := yRk_R (yRk_I hk) (fun y hy => by cases hy; exact okx)
        have hyT := (hi T hT).1
        have hy1 : yIn (wR (wI w (15 + 12 * T) Q v) (16 + 12 * T) Q (some x)) (20 + 12 * T) := ⟨fun j hj => by
          show 0 ≤ ((wI w (15 + 12 * T) Q v).1 _ j).toInt ∧ ((wI w (15 + 12 * T) Q v).1 _ j).toInt ≤ 128
          rw [wI_ne (by omega)]; exact hyT.1 j hj, by
          show 0 ≤ ((wI w (15 + 12 * T) Q v).1 _ 5).toInt ∧ ((wI w (15 + 12 * T) Q v).1 _ 5).toInt ≤ 129
          rw [wI_ne (by omega)]; exact hyT.2⟩
        have hrl : ∀ c' j', (wR (wI w (15 + 12 * T) Q v) (16 + 12 * T) Q (some x)).2.2 c' j' = if c' = 16 + 12 * T ∧ j' = Q then some x else w.2.2 c' j' := fun c' j' => wR_r (w := wI w (15 + 12 * T) Q v) c' j'
        have hil : ∀ d j, ¬ (d = 15 + 12 * T ∧ j = Q) → (wR (wI w (15 + 12 * T) Q v) (16 + 12 * T) Q (some x)).1 d j = w.1 d j := fun d j hdj => wI_nc hdj
        have hiv : (wR (wI w (15 + 12 * T) Q v) (16 + 12 * T) Q (some x)).1 (15 + 12 * T) Q = v := wI_self ..
        rw [ec]
        generalize wR (wI w (15 + 12 * T) Q v) (16 + 12 * T) Q (some x) = w1 at hk1 hy1 hrl hil hiv
        have hins : iIxd (e_In_add G (20 + 12 * T) x w1) G (20 + 12 * T) (16 + 12 * T) (fun i => oH G (w1.2.2 (16 + 12 * T) i)) := by
          obtain ⟨sq, hW⟩ := (hi T hT).2
          have hW1 : ixW w1 (20 + 12 * T) sq (fun r => oH G (w.2.2 (16 + 12 * T) r)) (fun r => oB G 0 (w.2.2 (16 + 12 * T) r)) (fun r => oB G 1 (w.2.2 (16 + 12 * T) r)) (fun r => oB G 2 (w.2.2 (16 + 12 * T) r)) (fun r => oB G 3 (w.2.2 (16 + 12 * T) r)) := by
            unfold ixW
            rw [hil (20 + 12 * T) 5 (by omega), show (w1.1 (20 + 12 * T + 1)) = w.1 (20 + 12 * T + 1) from funext fun j => hil _ j (by omega), show (w1.1 (20 + 12 * T + 2)) = w.1 (20 + 12 * T + 2) from funext fun j => hil _ j (by omega), show (w1.1 (20 + 12 * T + 3)) = w.1 (20 + 12 * T + 3) from funext fun j => hil _ j (by omega), show (w1.1 (20 + 12 * T + 4)) = w.1 (20 + 12 * T + 4) from funext fun j => hil _ j (by omega), show (w1.1 (20 + 12 * T + 5)) = w.1 (20 + 12 * T + 5) from funext fun j => hil _ j (by omega)]
            exact hW
          refine ins_n (r := Q) hy1 hk1 hl hW1 (fun i hi2 hne => ?_) ?_ (fun i hi2 hne => ?_) ?_
          · rw [hrl, if_neg (by omega)]
          · show oH G (w.2.2 (16 + 12 * T) Q) = 0
            rw [hnul]
            rfl
          · rw [hrl, if_neg (by omega)]
            exact ⟨rfl, rfl, rfl, rfl⟩
          · rw [hrl, if_pos ⟨rfl, rfl⟩]
        have ej : (e_In_add G (20 + 12 * T) x w1).2.2 = w1.2.2 := congrArg Prod.snd (jf_In_add ..)
        have hout : ∀ d j, ¬ (20 + 12 * T ≤ d ∧ d ≤ 25 + 12 * T) → (e_In_add G (20 + 12 * T) x w1).1 d j = w1.1 d j := fun d j hdj => add_1 (Or.inl (by omega)) (by omega) (by omega) (by omega) (by omega) (by omega)
        show Int32.ofNat Q = (e_Mo_insert t v (e_In_add G (20 + 12 * T) x w1)).2 ∧ INV (e_Mo_insert t v (e_In_add G (20 + 12 * T) x w1)).1 G
        generalize e_In_add G (20 + 12 * T) x w1 = w2 at hins ej hout
        have e55 : w2.1 55 = w.1 55 := funext fun j => by rw [hout 55 j (by omega), hil 55 j (by omega)]
        have h31 := hi31 w2 e55
        rw [← et] at h31
        have esz : (e_Mo_size t w2).2 = Int32.ofNat (cntM (rowP w T) 16) := (size_55 e55 t).trans hsz
        have esl : 16 * t + Int32.ofNat Q = Int32.ofNat (16 * T + Q) := by
          rw [et, show (16 : Int32) = Int32.ofNat 16 from rfl, ← Int32.ofNat_mul, mk_add]
        have em : e_Mo_insert t v w2 = (e_Mo_copyShape (Int32.ofNat 64) (Int32.ofNat (16 * T + Q)) ((wI (wI w2 55 (16 * T + Q) 1) 56 (16 * T + Q) v).1 58 64) (wI (wI w2 55 (16 * T + Q) 1) 56 (16 * T + Q) v), Int32.ofNat Q) := by
          unfold e_Mo_insert
          rw [k2, cl64, h31, show w2.1 55 64 = 1 from (congrFun e55 64).trans h55, esz]
          rw [show zc .ne (Int32.ofNat (cntM (rowP w T) 16)) 16 = true by
            rw [zc_ne]
            exact decide_eq_true (fun hh => by
              have := hh
              rw [z_nat (by omega)] at this
              have e16 : (16 : Int32).toInt = 16 := rfl
              omega)]
          show (e_Mo_copyShape 64 (16 * t + Int32.ofNat Q) _ _, _) = _
          rw [show (w2, Int32.ofNat Q).2 = Int32.ofNat Q from rfl, show (w2, Int32.ofNat Q).1 = w2 from rfl, esl, n_clamp (by omega)]
          rfl
        rw [em]
        refine ⟨rfl, ?_⟩
        show INV (e_Mo_copyShape (Int32.ofNat 64) (Int32.ofNat (16 * T + Q)) ((wI (wI w2 55 (16 * T + Q) 1) 56 (16 * T + Q) v).1 58 64) (wI (wI w2 55 (16 * T + Q) 1) 56 (16 * T + Q) v)) G
        generalize ((wI (wI w2 55 (16 * T + Q) 1) 56 (16 * T + Q) v).1 58 64) = mv
        have f3 : ∀ d j, ¬ (20 + 12 * T ≤ d ∧ d ≤ 25 + 12 * T) → ¬ (d = 15 + 12 * T ∧ j = Q) → ¬ (d = 55 ∧ j = 16 * T + Q) → ¬ (d = 56 ∧ j = 16 * T + Q) → (wI (wI w2 55 (16 * T + Q) 1) 56 (16 * T + Q) v).1 d j = w.1 d j := fun d j a b c e => by rw [wI_nc e, wI_nc c, hout d j a, hil d j b]
        have r3 : (wI (wI w2 55 (16 * T + Q) 1) 56 (16 * T + Q) v).2 = w2.2 := rfl
        have i3 : ∀ d j, d ≠ 55 → d ≠ 56 → (wI (wI w2 55 (16 * T + Q) 1) 56 (16 * T + Q) v).1 d j = w2.1 d j := fun d j a b => by rw [wI_ne b, wI_ne a]
        have v55 : (wI (wI w2 55 (16 * T + Q) 1) 56 (16 * T + Q) v).1 55 (16 * T + Q) = 1 := by rw [wI_ne (by decide), wI_self]
        have v56 : (wI (wI w2 55 (16 * T + Q) 1) 56 (16 * T + Q) v).1 56 (16 * T + Q) = v := wI_self ..
        generalize wI (wI w2 55 (16 * T + Q) 1) 56 (16 * T + Q) v = w3 at f3 r3 i3 v55 v56
        have hr64 : rEq w3 G 64 (some x) := by
          obtain ⟨a1, a2, a3, a4, a5, a6, a7, a8, a9⟩ := hf
          exact ⟨(f3 _ _ (by omega) (by omega) (by omega) (by omega)).trans a1, a2, (f3 _ _ (by omega) (by omega) (by omega) (by omega)).trans a3, (f3 _ _ (by omega) (by omega) (by omega) (by omega)).trans a4, fun i hi2 => ⟨(f3 _ _ (by omega) (by omega) (by omega) (by omega)).trans (a5 i hi2).1, (f3 _ _ (by omega) (by omega) (by omega) (by omega)).trans (a5 i hi2).2⟩, (f3 _ _ (by omega) (by omega) (by omega) (by omega)).trans a6, (f3 _ _ (by omega) (by omega) (by omega) (by omega)).trans a7, (f3 _ _ (by omega) (by omega) (by omega) (by omega)).trans a8, (f3 _ _ (by omega) (by omega) (by omega) (by omega)).trans a9⟩
        obtain ⟨c1, c2, c3⟩ := cs_row (mv := mv) (a := 64) (s := 16 * T + Q) (by omega) (by omega) (by omega) hr64 v55
        have cj := cs_2 (Int32.ofNat 64) (Int32.ofNat (16 * T + Q)) mv w3
        generalize e_Mo_copyShape (Int32.ofNat 64) (Int32.ofNat (16 * T + Q)) mv w3 = w4 at c1 c2 c3 cj
        have fr : ∀ c' j', w4.2.2 c' j' = if c' = 16 + 12 * T ∧ j' = Q then some x else w.2.2 c' j' := fun c' j' => by
          rw [cj, r3, ej]
          exact hrl c' j'
        have h4 : w4.2.2 (16 + 12 * T) Q = some x := by rw [fr, if_pos ⟨rfl, rfl⟩]
        refine INV_upd h hT hl (fun d j b1 b2 b3 b4 b5 b6 => ?_) (fun c' j' hcj => by rw [fr, if_neg hcj]) ?_ ?_ ?_ c3 ?_ ?_
        · rw [c1 d j (by omega) (by omega) (by omega) (by omega), f3 d j b1 b2 (by omega) (by omega)]
        · rw [h4]; exact c2
        · intro _
          rw [c1 _ _ (by omega) (by omega) (by omega) (by omega), c1 _ _ (by omega) (by omega) (by omega) (by omega), v56, i3 _ _ (by omega) (by omega), hout _ _ (by omega), hiv]
        · exact Or.inr c2.1
        · refine iIdx_upd hT hi ?_ (fun d j hdj => ?_) (fun j => by rw [fr, if_neg (by omega)])
          · refine iIxd_eq ?_ (fun j => ?_) (fun j => ?_) (fun j => ?_) (fun j => ?_) (fun j => ?_) (fun j => ?_) ?_ hins
            · rw [c1 _ _ (by omega) (by omega) (by omega) (by omega), i3 _ _ (by omega) (by omega)]
            · rw [c1 _ _ (by omega) (by omega) (by omega) (by omega), i3 _ _ (by omega) (by omega)]
            · rw [c1 _ _ (by omega) (by omega) (by omega) (by omega), i3 _ _ (by omega) (by omega)]
            · rw [c1 _ _ (by omega) (by omega) (by omega) (by omega), i3 _ _ (by omega) (by omega)]
            · rw [c1 _ _ (by omega) (by omega) (by omega) (by omega), i3 _ _ (by omega) (by omega)]
            · rw [c1 _ _ (by omega) (by omega) (by omega) (by omega), i3 _ _ (by omega) (by omega)]
            · rw [cj, r3]
            · funext j
              rw [cj, r3, ej]
          · rw [c1 d j (by omega) (by omega) (by omega) (by omega), f3 d j (by omega) (by omega) (by omega) (by omega)]
        · intro c' j' y hy2
          rw [fr] at hy2
          split at hy2
          · cases hy2; exact okx
          · exact hk c' j' y hy2
      · have e16 : lfr (rowP w T) 16 0 = 16 := by omega
        have hcn := (cnt_16 (rowP w T)).mpr e16
        refine same ?_ ?_
        · unfold e_ST_insert
          rw [k1, ho, eT, lfRow_n, e16]
          rfl
        · unfold e_Mo_insert
          rw [k2, cl64, h55, hsz, hcn]
          rfl
  · refine same ?_ ?_
    · unfold e_ST_insert
      rw [k1]
      rfl
    · unfold e_Mo_insert
      rw [k2]
      rfl
