-- update
theorem zc_ne2 {a : Nat} {x : Int32} {b : Int} (hx : x.toInt = b) (ha : a < 2147483648) (h : (a : Int) ≠ b) : zc .ne (Int32.ofNat a) x = true := by
  rw [zc_ne]
  exact decide_eq_true (fun hh => by rw [z_nat ha, hx] at hh; exact h hh)
theorem rEq_i {w w' : yW} {G : List zC} {s : Nat} {o : Option Nat} (f : ∀ d j, 55 ≤ d → d ≤ 64 → d ≠ 56 → ((d = 59 ∨ d = 60) → 6 * s ≤ j ∧ j < 6 * s + 6) → (¬ (d = 59 ∨ d = 60) → j = s) → w'.1 d j = w.1 d j) (h : rEq w G s o) : rEq w' G s o := by
  cases o with
  | none => exact (f 55 s (by omega) (by omega) (by omega) (by omega) (by omega)).trans h
  | some y =>
    obtain ⟨a1, a2, a3, a4, a5, a6, a7, a8, a9⟩ := h
    have n6 := a2.2.2.2.2.2.2.2.1
    exact ⟨(f _ _ (by omega) (by omega) (by omega) (by omega) (by omega)).trans a1, a2, (f _ _ (by omega) (by omega) (by omega) (by omega) (by omega)).trans a3, (f _ _ (by omega) (by omega) (by omega) (by omega) (by omega)).trans a4, fun i hi => ⟨(f _ _ (by omega) (by omega) (by omega) (by omega) (by omega)).trans (a5 i hi).1, (f _ _ (by omega) (by omega) (by omega) (by omega) (by omega)).trans (a5 i hi).2⟩, (f _ _ (by omega) (by omega) (by omega) (by omega) (by omega)).trans a6, (f _ _ (by omega) (by omega) (by omega) (by omega) (by omega)).trans a7, (f _ _ (by omega) (by omega) (by omega) (by omega) (by omega)).trans a8, (f _ _ (by omega) (by omega) (by omega) (by omega) (by omega)).trans a9⟩
theorem slot_i {w w' : yW} (h : w'.1 55 = w.1 55) (t q : Int32) : e_Mo_slot t q w' = e_Mo_slot t q w := by
  unfold e_Mo_slot
  rw [h]
theorem sim_update {w : yW} {G : List zC} (h : INV w G) (t q v mv : Int32) : (e_ST_update G t q v mv w).2 = (e_Mo_update t q v mv (e_ST_update G t q v mv w).1).2 ∧ INV (e_Mo_update t q v mv (e_ST_update G t q v mv w).1).1 G := by
  have same : (e_ST_update G t q v mv w) = (w, 0) → e_Mo_update t q v mv w = (w, 0) → (e_ST_update G t q v mv w).2 = (e_Mo_update t q v mv (e_ST_update G t q v mv w).1).2 ∧ INV (e_Mo_update t q v mv (e_ST_update G t q v mv w).1).1 G := by
    intro e1 e2
    rw [e1]
    show 0 = (e_Mo_update t q v mv w).2 ∧ INV (e_Mo_update t q v mv w).1 G
    rw [e2]
    exact ⟨rfl, h⟩
  rcases tq_cases h t q with ⟨T, Q, hT, hQ, et, eq, e1, e2, e3⟩ | ⟨e1, e2⟩
  · cases ho : w.2.2 (16 + 12 * T) Q with
    | none =>
      refine same ?_ ?_
      · unfold e_ST_update
        rw [e1, ho]
        rfl
      · unfold e_Mo_update
        rw [e2 ho]
        rfl
    | some x0 =>
      obtain ⟨k1, k2, k3⟩ := e3 x0 ho
      have eT : t.toNatClampNeg = T := by rw [et]; exact n_clamp (by omega)
      have hsl : ∀ w' : yW, w'.1 55 = w.1 55 → zc .lt (e_Mo_slot t q w') 0 = false ∧ e_Mo_slot t q w' = Int32.ofNat (16 * T + Q) := fun w' e => by
        rw [slot_i e, k1]
        refine ⟨?_, rfl⟩
        rw [zc_lt, z_nat (by omega)]
        exact decide_eq_false (by show ¬ ((16 * T + Q : Nat) : Int) < 0; omega)
      obtain ⟨hd, hf0, hp, hc, hm, ha, hr, hO, hi, hk⟩ := id h
      have hyT := (hi T hT).1
      have okx0 := k2.2.1
      cases hmv : zc .eq mv 0 with
      | true =>
        have ec : e_ST_update G t q v mv w = (wR (wI w (15 + 12 * T) Q v) (16 + 12 * T) Q (some x0), 1) := by
          unfold e_ST_update
          rw [e1, ho, hmv, eT, eq, put_Q hQ, show 14 + 12 * T + 1 = 15 + 12 * T by omega, show 14 + 12 * T + 2 = 16 + 12 * T by omega]
          rfl
        rw [ec]
        show 1 = (e_Mo_update t q v mv (wR (wI w (15 + 12 * T) Q v) (16 + 12 * T) Q (some x0))).2 ∧ INV (e_Mo_update t q v mv (wR (wI w (15 + 12 * T) Q v) (16 + 12 * T) Q (some x0))).1 G
        have hrl : ∀ c' j', (wR (wI w (15 + 12 * T) Q v) (16 + 12 * T) Q (some x0)).2.2 c' j' = w.2.2 c' j' := fun c' j' => by
          rw [wR_r]
          by_cases e : c' = 16 + 12 * T ∧ j' = Q
          · rw [if_pos e, e.1, e.2, ho]
          · rw [if_neg e]; rfl
        have hil : ∀ d j, ¬ (d = 15 + 12 * T ∧ j = Q) → (wR (wI w (15 + 12 * T) Q v) (16 + 12 * T) Q (some x0)).1 d j = w.1 d j := fun d j hdj => wI_nc hdj
        have hiv : (wR (wI w (15 + 12 * T) Q v) (16 + 12 * T) Q (some x0)).1 (15 + 12 * T) Q = v := wI_self ..
        generalize wR (wI w (15 + 12 * T) Q v) (16 + 12 * T) Q (some x0) = w1 at hrl hil hiv
        obtain ⟨s1, s2⟩ := hsl w1 (funext fun j => hil 55 j (by omega))
        have em : e_Mo_update t q v mv w1 = (wI w1 56 (16 * T + Q) v, 1) := by
          unfold e_Mo_update
          rw [s1, s2, hmv, n_clamp (by omega)]
          rfl
        rw [em]
        refine ⟨rfl, ?_⟩
        show INV (wI w1 56 (16 * T + Q) v) G
        have fi : ∀ d j, ¬ (d = 15 + 12 * T ∧ j = Q) → ¬ (d = 56 ∧ j = 16 * T + Q) → (wI w1 56 (16 * T + Q) v).1 d j = w.1 d j := fun d j a b => by rw [wI_nc b, hil d j a]
        have fr : ∀ c' j', (wI w1 56 (16 * T + Q) v).2.2 c' j' = w.2.2 c' j' := hrl
        have g56 : (wI w1 56 (16 * T + Q) v).1 56 (16 * T + Q) = v := wI_self ..
        have g15 : (wI w1 56 (16 * T + Q) v).1 (15 + 12 * T) Q = v := by rw [wI_ne (by omega), hiv]
        generalize wI w1 56 (16 * T + Q) v = w2 at fi fr g56 g15
        have f0 : ∀ d j, 55 ≤ d → d ≠ 56 → w2.1 d j = w.1 d j := fun d j a b => fi d j (by omega) (by omega)
        refine INV_upd h hT hQ (fun d j b1 b2 b3 b4 b5 b6 => fi d j b2 (by omega)) (fun c' j' _ => fr c' j') ?_ ?_ ?_ ?_ ?_ ?_
        · rw [fr, ho]
          exact rEq_i (fun d j a b c _ _ => f0 d j a c) k2
        · intro _
          rw [g56, g15]
        · rw [f0 55 _ (by omega) (by omega)]; exact (hm _ (by omega)).1
        · rw [f0 58 _ (by omega) (by omega)]; exact (hm _ (by omega)).2
        · refine iIdx_upd hT hi ?_ (fun d j hdj => fi d j (by omega) (by omega)) (fun j => fr _ j)
          refine iIxd_eq (fi _ _ (by omega) (by omega)) (fun j => fi _ _ (by omega) (by omega)) (fun j => fi _ _ (by omega) (by omega)) (fun j => fi _ _ (by omega) (by omega)) (fun j => fi _ _ (by omega) (by omega)) (fun j => fi _ _ (by omega) (by omega)) (fun j => fr _ j) ?_ (hi T hT)
          funext j
          rw [fr]
        · intro c' j' y hy2
          rw [fr] at hy2
          exact hk c' j' y hy2
      | false =>
        have hf := hf0
        unfold iFoc at hf
        cases hof : w.2.2 0 5 with
        | none =>
          rw [hof] at hf
          have hf : w.1 55 64 = 0 := hf
          refine same ?_ ?_
          · unfold e_ST_update
            rw [e1, ho, hmv, hof]
            rfl
          · unfold e_Mo_update
            rw [(hsl w rfl).1, hmv, cl64, hf]
            rfl
        | some x =>
          rw [hof] at hf
          have h55 : w.1 55 64 = 1 := hf.1
          have ec : e_ST_update G t q v mv w = (e_In_rebuild G (20 + 12 * T) (14 + 12 * T) (wR (wI w (15 + 12 * T) Q v) (16 + 12 * T) Q (some x)), 1) := by
            unfold e_ST_update
            rw [e1, ho, hmv, hof, eT, eq, put_Q hQ, put_Q hQ, show 14 + 12 * T + 1 = 15 + 12 * T by omega, show 14 + 12 * T + 2 = 16 + 12 * T by omega]
            rfl
          have okx := hf.2.1
          have hk1 : yRk (wR (wI w (15 + 12 * T) Q v) (16 + 12 * T) Q (some x)) G := yRk_R (yRk_I hk) (fun y hy => by cases hy; exact okx)
          have hy1 : yIn (wR (wI w (15 + 12 * T) Q v) (16 + 12 * T) Q (some x)) (20 + 12 * T) := ⟨fun j hj => by
            show 0 ≤ ((wI w (15 + 12 * T) Q v).1 _ j).toInt ∧ ((wI w (15 + 12 * T) Q v).1 _ j).toInt ≤ 128
            rw [wI_ne (by omega)]; exact hyT.1 j hj, by
            show 0 ≤ ((wI w (15 + 12 * T) Q v).1 _ 5).toInt ∧ ((wI w (15 + 12 * T) Q v).1 _ 5).toInt ≤ 129
            rw [wI_ne (by omega)]; exact hyT.2⟩
          have hrl : ∀ c' j', (wR (wI w (15 + 12 * T) Q v) (16 + 12 * T) Q (some x)).2.2 c' j' = if c' = 16 + 12 * T ∧ j' = Q then some x else w.2.2 c' j' := fun c' j' => wR_r (w := wI w (15 + 12 * T) Q v) c' j'
          have hil : ∀ d j, ¬ (d = 15 + 12 * T ∧ j = Q) → (wR (wI w (15 + 12 * T) Q v) (16 + 12 * T) Q (some x)).1 d j = w.1 d j := fun d j hdj => wI_nc hdj
          have hiv : (wR (wI w (15 + 12 * T) Q v) (16 + 12 * T) Q (some x)).1 (15 + 12 * T) Q = v := wI_self ..
          rw [ec]
          generalize wR (wI w (15 + 12 * T) Q v) (16 + 12 * T) Q (some x) = w1 at hk1 hy1 hrl hil hiv
          have hins := reb_n (c := 20 + 12 * T) (e := 14 + 12 * T) hy1 hk1
          rw [show 14 + 12 * T + 2 = 16 + 12 * T by omega] at hins
          have ej : (e_In_rebuild G (20 + 12 * T) (14 + 12 * T) w1).2.2 = w1.2.2 := congrArg Prod.snd (jf_In_rebuild ..)
          have hout : ∀ d j, ¬ (20 + 12 * T ≤ d ∧ d ≤ 25 + 12 * T) → (e_In_rebuild G (20 + 12 * T) (14 + 12 * T) w1).1 d j = w1.1 d j := fun d j hdj => reb_1 (Or.inl (by omega)) (by omega) (by omega) (by omega) (by omega) (by omega)
          show 1 = (e_Mo_update t q v mv (e_In_rebuild G (20 + 12 * T) (14 + 12 * T) w1)).2 ∧ INV (e_Mo_update t q v mv (e_In_rebuild G (20 + 12 * T) (14 + 12 * T) w1)).1 G
          generalize e_In_rebuild G (20 + 12 * T) (14 + 12 * T) w1 = w2 at hins ej hout
          have e55 : w2.1 55 = w.1 55 := funext fun j => by rw [hout 55 j (by omega), hil 55 j (by omega)]
          obtain ⟨s1, s2⟩ := hsl w2 e55
          have em : e_Mo_update t q v mv w2 = (e_Mo_copyShape (Int32.ofNat 64) (Int32.ofNat (16 * T + Q)) ((wI w2 56 (16 * T + Q) v).1 58 64) (wI w2 56 (16 * T + Q) v), 1) := by
            unfold e_Mo_update
            rw [s1, s2, hmv, cl64, n_clamp (by omega), show w2.1 55 64 = 1 from (congrFun e55 64).trans h55]
            rfl
          rw [em]
          refine ⟨rfl, ?_⟩
          show INV (e_Mo_copyShape (Int32.ofNat 64) (Int32.ofNat (16 * T + Q)) ((wI w2 56 (16 * T + Q) v).1 58 64) (wI w2 56 (16 * T + Q) v)) G
          generalize ((wI w2 56 (16 * T + Q) v).1 58 64) = mv2
          have f3 : ∀ d j, ¬ (20 + 12 * T ≤ d ∧ d ≤ 25 + 12 * T) → ¬ (d = 15 + 12 * T ∧ j = Q) → ¬ (d = 56 ∧ j = 16 * T + Q) → (wI w2 56 (16 * T + Q) v).1 d j = w.1 d j := fun d j a b e => by rw [wI_nc e, hout d j a, hil d j b]
          have r3 : (wI w2 56 (16 * T + Q) v).2 = w2.2 := rfl
          have i3 : ∀ d j, d ≠ 56 → (wI w2 56 (16 * T + Q) v).1 d j = w2.1 d j := fun d j b => wI_ne b
          have v55 : (wI w2 56 (16 * T + Q) v).1 55 (16 * T + Q) = 1 := by rw [f3 _ _ (by omega) (by omega) (by omega)]; exact k2.1
          have v56 : (wI w2 56 (16 * T + Q) v).1 56 (16 * T + Q) = v := wI_self ..
          generalize wI w2 56 (16 * T + Q) v = w3 at f3 r3 i3 v55 v56
          have hr64 : rEq w3 G 64 (some x) := rEq_i (fun d j a b c _ _ => f3 d j (by omega) (by omega) (by omega)) hf
          obtain ⟨c1, c2, c3⟩ := cs_row (mv := mv2) (a := 64) (s := 16 * T + Q) (by omega) (by omega) (by omega) hr64 v55
          have cj := cs_2 (Int32.ofNat 64) (Int32.ofNat (16 * T + Q)) mv2 w3
          generalize e_Mo_copyShape (Int32.ofNat 64) (Int32.ofNat (16 * T + Q)) mv2 w3 = w4 at c1 c2 c3 cj
          have fr : ∀ c' j', w4.2.2 c' j' = if c' = 16 + 12 * T ∧ j' = Q then some x else w.2.2 c' j' := fun c' j' => by
            rw [cj, r3, ej]
            exact hrl c' j'
          have h4 : w4.2.2 (16 + 12 * T) Q = some x := by rw [fr, if_pos ⟨rfl, rfl⟩]
          refine INV_upd h hT hQ (fun d j b1 b2 b3 b4 b5 b6 => ?_) (fun c' j' hcj => by rw [fr, if_neg hcj]) ?_ ?_ ?_ c3 ?_ ?_
          · rw [c1 d j (by omega) (by omega) (by omega) (by omega), f3 d j b1 b2 (by omega)]
          · rw [h4]; exact c2
          · intro _
            rw [c1 _ _ (by omega) (by omega) (by omega) (by omega), c1 _ _ (by omega) (by omega) (by omega) (by omega), v56, i3 _ _ (by omega), hout _ _ (by omega), hiv]
          · exact Or.inr c2.1
          · refine iIdx_upd hT hi ?_ (fun d j hdj => ?_) (fun j => by rw [fr, if_neg (by omega)])
            · refine iIxd_eq ?_ (fun j => ?_) (fun j => ?_) (fun j => ?_) (fun j => ?_) (fun j => ?_) (fun j => ?_) ?_ hins
              · rw [c1 _ _ (by omega) (by omega) (by omega) (by omega), i3 _ _ (by omega)]
              · rw [c1 _ _ (by omega) (by omega) (by omega) (by omega), i3 _ _ (by omega)]
              · rw [c1 _ _ (by omega) (by omega) (by omega) (by omega), i3 _ _ (by omega)]
              · rw [c1 _ _ (by omega) (by omega) (by omega) (by omega), i3 _ _ (by omega)]
              · rw [c1 _ _ (by omega) (by omega) (by omega) (by omega), i3 _ _ (by omega)]
              · rw [c1 _ _ (by omega) (by omega) (by omega) (by omega), i3 _ _ (by omega)]
              · rw [cj, r3]
              · funext j
                rw [cj, r3, ej]
            · rw [c1 d j (by omega) (by omega) (by omega) (by omega), f3 d j (by omega) (by omega) (by omega)]
          · intro c' j' y hy2
            rw [fr] at hy2
            split at hy2
            · cases hy2; exact okx
            · exact hk c' j' y hy2
  · refine same ?_ ?_
    · unfold e_ST_update
      rw [e1]
      rfl
    · unfold e_Mo_update
      rw [e2]
      rfl
