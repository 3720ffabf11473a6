-- delete
/-- which cells a table's index and places have -/
theorem put_Q {w : yW} {c Q : Nat} {v : Int32} {o : Option Nat} (hQ : Q < 16) : e_Ta_put c (Int32.ofNat Q) v o w = wR (wI w (c + 1) Q v) (c + 2) Q o := by
  unfold e_Ta_put
  rw [zc_lt, zc_ge, z_nat (by omega), decide_eq_false (by show ¬ (Q : Int) < 0; omega), decide_eq_false (by show ¬ (16 : Int) ≤ Q; omega), n_clamp (by omega)]
  rfl
theorem wR_r {w : yW} {c j : Nat} {o : Option Nat} (c' j' : Nat) : (wR w c j o).2.2 c' j' = if c' = c ∧ j' = j then o else w.2.2 c' j' := by
  by_cases h : c' = c ∧ j' = j
  · rw [if_pos h, h.1, h.2, wR_self]
  · rw [if_neg h]
    exact (ydR w c j o c' j' h).2.2
/-- a state after a change of one present row and its table's index -/
theorem iIdx_upd {w w' : yW} {G : List zC} {T : Nat} (hT : T < 2) (h : iIdx w G) (h1 : iIxd w' G (20 + 12 * T) (16 + 12 * T) (fun r => oH G (w'.2.2 (16 + 12 * T) r))) (h2 : ∀ d j, (20 + 12 * (1 - T) ≤ d ∧ d ≤ 25 + 12 * (1 - T)) → w'.1 d j = w.1 d j) (h3 : ∀ j, w'.2.2 (16 + 12 * (1 - T)) j = w.2.2 (16 + 12 * (1 - T)) j) : iIdx w' G := by
  intro t ht
  by_cases e : t = T
  · rw [e]; exact h1
  · have e1 : t = 1 - T := by omega
    rw [← e1] at h2 h3
    refine iIxd_eq (h2 _ _ (by omega)) (fun j => h2 _ _ (by omega)) (fun j => h2 _ _ (by omega)) (fun j => h2 _ _ (by omega)) (fun j => h2 _ _ (by omega)) (fun j => h2 _ _ (by omega)) h3 ?_ (h t ht)
    funext j
    rw [h3 j]
theorem sim_delete {w : yW} {G : List zC} (h : INV w G) (t q : Int32) : (e_ST_delete G t q w).2 = (e_Mo_delete t q (e_ST_delete G t q w).1).2 ∧ INV (e_Mo_delete t q (e_ST_delete G t q w).1).1 G := by
  rcases tq_cases h t q with ⟨T, Q, hT, hQ, et, eq, e1, e2, e3⟩ | ⟨e1, e2⟩
  · cases ho : w.2.2 (16 + 12 * T) Q with
    | none =>
      have ec : e_ST_delete G t q w = (w, 0) := by
        unfold e_ST_delete
        rw [e1, ho]
        rfl
      rw [ec]
      have em : e_Mo_delete t q w = (w, 0) := by
        unfold e_Mo_delete
        rw [e2 ho]
        rfl
      show 0 = (e_Mo_delete t q w).2 ∧ INV (e_Mo_delete t q w).1 G
      rw [em]
      exact ⟨rfl, h⟩
    | some x =>
      obtain ⟨k1, k2, k3⟩ := e3 x ho
      obtain ⟨hd, hf, hp, hc, hm, ha, hr, hO, hi, hk⟩ := h
      have eT : t.toNatClampNeg = T := by rw [et]; exact n_clamp (by omega)
      have ec : e_ST_delete G t q w = (e_In_rebuild G (20 + 12 * T) (14 + 12 * T) (wR (wI w (15 + 12 * T) Q 0) (16 + 12 * T) Q none), 1) := by
        unfold e_ST_delete
        rw [e1, ho, eT, eq, put_Q hQ, show 14 + 12 * T + 1 = 15 + 12 * T by omega, show 14 + 12 * T + 2 = 16 + 12 * T by omega]
        rfl
      have hk1 : yRk (wR (wI w (15 + 12 * T) Q 0) (16 + 12 * T) Q none) G := yRk_R (yRk_I hk) (fun x hx => by cases hx)
      have hyT := (hi T hT).1
      have hy1 : yIn (wR (wI w (15 + 12 * T) Q 0) (16 + 12 * T) Q none) (20 + 12 * T) := ⟨fun j hj => by
        show 0 ≤ ((wI w (15 + 12 * T) Q 0).1 _ j).toInt ∧ ((wI w (15 + 12 * T) Q 0).1 _ j).toInt ≤ 128
        rw [wI_ne (by omega)]; exact hyT.1 j hj, by
        show 0 ≤ ((wI w (15 + 12 * T) Q 0).1 _ 5).toInt ∧ ((wI w (15 + 12 * T) Q 0).1 _ 5).toInt ≤ 129
        rw [wI_ne (by omega)]; exact hyT.2⟩
      have hreb := reb_n (c := 20 + 12 * T) (e := 14 + 12 * T) hy1 hk1
      have ej : (e_In_rebuild G (20 + 12 * T) (14 + 12 * T) (wR (wI w (15 + 12 * T) Q 0) (16 + 12 * T) Q none)).2.2 = (wR (wI w (15 + 12 * T) Q 0) (16 + 12 * T) Q none).2.2 := congrArg Prod.snd (jf_In_rebuild ..)
      have hout : ∀ d j, ¬ (20 + 12 * T ≤ d ∧ d ≤ 25 + 12 * T) → (e_In_rebuild G (20 + 12 * T) (14 + 12 * T) (wR (wI w (15 + 12 * T) Q 0) (16 + 12 * T) Q none)).1 d j = (wI w (15 + 12 * T) Q 0).1 d j := fun d j hdj => reb_1 (Or.inl (by omega)) (by omega) (by omega) (by omega) (by omega) (by omega)
      rw [ec]
      show (1 = (e_Mo_delete t q (e_In_rebuild G (20 + 12 * T) (14 + 12 * T) (wR (wI w (15 + 12 * T) Q 0) (16 + 12 * T) Q none))).2) ∧ INV (e_Mo_delete t q (e_In_rebuild G (20 + 12 * T) (14 + 12 * T) (wR (wI w (15 + 12 * T) Q 0) (16 + 12 * T) Q none))).1 G
      rw [show 14 + 12 * T + 2 = 16 + 12 * T by omega] at hreb
      have hrl : ∀ c' j', (wR (wI w (15 + 12 * T) Q 0) (16 + 12 * T) Q none).2.2 c' j' = if c' = 16 + 12 * T ∧ j' = Q then none else w.2.2 c' j' := fun c' j' => wR_r (w := wI w (15 + 12 * T) Q 0) c' j'
      generalize wR (wI w (15 + 12 * T) Q 0) (16 + 12 * T) Q none = w1 at *
      generalize e_In_rebuild G (20 + 12 * T) (14 + 12 * T) w1 = w2 at *
      have h55 : w2.1 55 (16 * T + Q) = w.1 55 (16 * T + Q) := by rw [hout 55 _ (by omega), wI_ne (by omega)]
      have es : e_Mo_slot t q w2 = Int32.ofNat (16 * T + Q) := by
        have : e_Mo_slot t q w2 = e_Mo_slot t q w := by
          have ei : (16 * t + q).toNatClampNeg = 16 * T + Q := by
            rw [et, eq, show (16 : Int32) = Int32.ofNat 16 from rfl, ← Int32.ofNat_mul, mk_add]
            exact n_clamp (by omega)
          unfold e_Mo_slot
          rw [ei, h55]
        rw [this, k1]
      have em : e_Mo_delete t q w2 = (wI w2 55 (16 * T + Q) 0, 1) := by
        unfold e_Mo_delete
        rw [es, zc_ge, z_nat (by omega), decide_eq_true (by show (0 : Int) ≤ _; omega), n_clamp (by omega)]
        rfl
      rw [em]
      refine ⟨rfl, ?_⟩
      show INV (wI w2 55 (16 * T + Q) 0) G
      have fi : ∀ d j, ¬ (20 + 12 * T ≤ d ∧ d ≤ 25 + 12 * T) → ¬ (d = 15 + 12 * T) → ¬ (d = 55 ∧ j = 16 * T + Q) → (wI w2 55 (16 * T + Q) 0).1 d j = w.1 d j := fun d j a b c => by
        rw [wI_nc c, hout d j a, wI_ne b]
      have fr : ∀ c' j', (wI w2 55 (16 * T + Q) 0).2.2 c' j' = if c' = 16 + 12 * T ∧ j' = Q then none else w.2.2 c' j' := fun c' j' => by
        show w2.2.2 c' j' = _
        rw [ej]
        exact hrl c' j'
      have f55 : (wI w2 55 (16 * T + Q) 0).1 55 (16 * T + Q) = 0 := wI_self ..
      have hre : ∀ s o, s ≠ 16 * T + Q → rEq w G s o → rEq (wI w2 55 (16 * T + Q) 0) G s o := by
        intro s o hs hq
        cases o with
        | none => exact (fi 55 s (by omega) (by omega) (fun hh => hs hh.2)).trans hq
        | some y =>
          obtain ⟨a1, a2, a3, a4, a5, a6, a7, a8, a9⟩ := hq
          exact ⟨(fi 55 s (by omega) (by omega) (fun hh => hs hh.2)).trans a1, a2, (fi 57 s (by omega) (by omega) (by omega)).trans a3, (fi 58 s (by omega) (by omega) (by omega)).trans a4, fun i hi2 => ⟨(fi 59 _ (by omega) (by omega) (by omega)).trans (a5 i hi2).1, (fi 60 _ (by omega) (by omega) (by omega)).trans (a5 i hi2).2⟩, (fi 61 s (by omega) (by omega) (by omega)).trans a6, (fi 63 s (by omega) (by omega) (by omega)).trans a7, (fi 62 s (by omega) (by omega) (by omega)).trans a8, (fi 64 s (by omega) (by omega) (by omega)).trans a9⟩
      have hI3 : iIdx (wI w2 55 (16 * T + Q) 0) G := by
        refine iIdx_upd hT hi ?_ (fun d j hdj => fi d j (by omega) (by omega) (by omega)) (fun j => by rw [fr, if_neg (by omega)])
        refine iIxd_eq (wI_ne (by omega)) (fun j => wI_ne (by omega)) (fun j => wI_ne (by omega)) (fun j => wI_ne (by omega)) (fun j => wI_ne (by omega)) (fun j => wI_ne (by omega)) (fun j => rfl) ?_ hreb
        funext j
        show oH G (w2.2.2 _ j) = oH G (w1.2.2 _ j)
        rw [ej]
      have hk3 : yRk (wI w2 55 (16 * T + Q) 0) G := fun c' j' y hy2 => by
        rw [fr] at hy2
        split at hy2
        · cases hy2
        · exact hk c' j' y hy2
      refine ⟨?_, ?_, ?_, ?_, ?_, ?_, ?_, ?_, hI3, hk3⟩
      · obtain ⟨d1, d2, d3⟩ := hd
        unfold iDraft
        rw [fi 6 2 (by omega) (by omega) (by omega), fi 54 10 (by omega) (by omega) (by omega)]
        refine ⟨d1, d2, fun i hi2 => ?_⟩
        rw [fi 7 i (by omega) (by omega) (by omega), fi 8 i (by omega) (by omega) (by omega), fi 65 i (by omega) (by omega) (by omega), fi 66 i (by omega) (by omega) (by omega)]
        exact d3 i hi2
      · unfold iFoc
        rw [fr, if_neg (by omega)]
        exact hre 64 _ (by omega) hf
      · intro t' q' ht' hq'
        rw [fr]
        by_cases e : t' = T ∧ q' = Q
        · rw [if_pos (by omega), e.1, e.2]
          exact ⟨f55, fun hh => absurd rfl hh⟩
        · have k := hp t' q' ht' hq'
          rw [if_neg (by omega)]
          refine ⟨hre _ _ (by omega) k.1, fun hne => ?_⟩
          have ka := k.2 hne
          rw [fi 56 _ (by omega) (by omega) (by omega), wI_ne (by omega), hout _ _ (by omega)]
          rw [wI_nc (by omega)]
          exact ka
      · intro t' q' ht' hq'
        rw [fr, if_neg (by omega)]
        have k := hc t' q' ht' hq'
        refine ⟨hre _ _ (by omega) k.1, fun hne => ?_⟩
        rw [fi 56 _ (by omega) (by omega) (by omega), fi (18 + 12 * t') _ (by omega) (by omega) (by omega)]
        exact k.2 hne
      · intro s hs
        rw [fi 58 s (by omega) (by omega) (by omega)]
        refine ⟨?_, (hm s hs).2⟩
        by_cases e : s = 16 * T + Q
        · rw [e, f55]; exact Or.inl rfl
        · rw [fi 55 s (by omega) (by omega) (fun hh => e hh.2)]; exact (hm s hs).1
      · obtain ⟨a1, a2, a3, a4⟩ := ha
        unfold iAns
        rw [fi 0 7 (by omega) (by omega) (by omega), fi 54 21 (by omega) (by omega) (by omega), fi 0 8 (by omega) (by omega) (by omega), fi 54 22 (by omega) (by omega) (by omega)]
        refine ⟨a1, a2, fun i hi2 => ?_, a4⟩
        rw [fi 9 i (by omega) (by omega) (by omega), fi 69 i (by omega) (by omega) (by omega)]
        exact a3 i hi2
      · refine ⟨fun p hp2 => ?_, ?_⟩
        · rw [fi 5 p (by omega) (by omega) (by omega), fi 70 p (by omega) (by omega) (by omega)]
          exact hr.1 p hp2
        · rw [fi 70 8 (by omega) (by omega) (by omega)]
          exact hr.2
      · intro j hj
        rw [fi 13 j (by omega) (by omega) (by omega)]
        exact hO j hj
  · have ec : e_ST_delete G t q w = (w, 0) := by
      unfold e_ST_delete
      rw [e1]
      rfl
    rw [ec]
    have em : e_Mo_delete t q w = (w, 0) := by
      unfold e_Mo_delete
      rw [e2]
      rfl
    show 0 = (e_Mo_delete t q w).2 ∧ INV (e_Mo_delete t q w).1 G
    rw [em]
    exact ⟨rfl, h⟩
