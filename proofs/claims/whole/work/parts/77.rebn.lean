-- an index made anew holds the table's rows
theorem oH_9 (G : List zC) (o : Option Nat) : oH G o ≤ 9 := by
  cases o with
  | none => show 0 ≤ 9; omega
  | some x =>
    have := (homeN (gB G x 0) (gB G x 1) (gB G x 2) (gB G x 3)).2
    show _ + 1 ≤ 9
    omega
theorem placeAt_Q {w : yW} {e Q : Nat} (hQ : Q < 16) : e_Ta_placeAt e (Int32.ofNat Q) w = w.2.2 (e + 2) Q := by
  unfold e_Ta_placeAt
  rw [zc_lt, zc_ge, z_nat (by omega), decide_eq_false (by show ¬ (Q : Int) < 0; omega), decide_eq_false (by show ¬ (16 : Int) ≤ Q; omega), n_clamp (by omega)]
  rfl
theorem reb_L {G : List zC} {c e : Nat} : ∀ (n Q : Nat) (w : yW), Q ≤ 16 → 16 < Q + n → yIn w c → yRk w G → (∃ sq, ixW w c sq (fun r => if r < Q then oH G (w.2.2 (e + 2) r) else 0) (fun r => oB G 0 (w.2.2 (e + 2) r)) (fun r => oB G 1 (w.2.2 (e + 2) r)) (fun r => oB G 2 (w.2.2 (e + 2) r)) (fun r => oB G 3 (w.2.2 (e + 2) r))) →
    ∃ sq, ixW (g_In_rebuild_7 G c e n w (Int32.ofNat Q)) c sq (fun r => oH G (w.2.2 (e + 2) r)) (fun r => oB G 0 (w.2.2 (e + 2) r)) (fun r => oB G 1 (w.2.2 (e + 2) r)) (fun r => oB G 2 (w.2.2 (e + 2) r)) (fun r => oB G 3 (w.2.2 (e + 2) r)) := by
  intro n
  induction n with
  | zero => intro Q w h1 h2; exfalso; omega
  | succ n ih =>
    intro Q w h1 h2 hy hk hW
    obtain ⟨sq, hW⟩ := hW
    rw [g_In_rebuild_7, zc_ge, z_nat (by omega), show (16 : Int32).toInt = 16 from rfl]
    by_cases hQ : Q = 16
    · subst hQ
      rw [decide_eq_true (by omega)]
      exact ⟨sq, ixW_cg (fun r hr => (if_pos hr).symm) (fun r hr _ => ⟨rfl, rfl, rfl, rfl⟩) hW⟩
    · rw [decide_eq_false (by omega), placeAt_Q (by omega), n_inc2]
      cases ho : w.2.2 (e + 2) Q with
      | none =>
        refine ih (Q + 1) w (by omega) (by omega) hy hk ⟨sq, ixW_cg (fun r hr => ?_) (fun r hr _ => ⟨rfl, rfl, rfl, rfl⟩) hW⟩
        by_cases hr1 : r < Q
        · rw [if_pos hr1, if_pos (by omega)]
        · by_cases hr2 : r = Q
          · subst hr2
            rw [if_pos (by omega), if_neg hr1, ho]
            rfl
          · rw [if_neg hr1, if_neg (by omega)]
      | some x =>
        have hx := hk _ _ _ ho
        have hb := ok_b hx
        obtain ⟨hh, h8⟩ := homeN (gB G x 0) (gB G x 1) (gB G x 2) (gB G x 3)
        obtain ⟨sq', hA⟩ := add_n (G := G) (x := x) (r := Q) hy hW (by omega) (if_neg (by omega)) (fun i hi => by
          by_cases hi2 : i < Q
          · rw [if_pos hi2]; exact oH_9 ..
          · rw [if_neg hi2]; omega) h8 hh (by rw [ho]; rfl) (by rw [ho]; rfl) (by rw [ho]; rfl) (by rw [ho]; rfl) (by rw [ho]; exact hb.1) (by rw [ho]; exact hb.2.1) (by rw [ho]; exact hb.2.2.1.1) (by rw [ho]; exact hb.2.2.2.1)
        have ej : (e_In_add G c x w).2.2 = w.2.2 := congrArg Prod.snd (jf_In_add G c x w)
        have k := ih (Q + 1) (e_In_add G c x w) (by omega) (by omega) (yIn_add hy) (yRk_2 hk ej) ⟨sq', by
          rw [ej]
          refine ixW_cg (fun r hr => ?_) (fun r hr _ => ⟨rfl, rfl, rfl, rfl⟩) hA
          by_cases hr2 : r = Q
          · subst hr2
            rw [if_pos (by omega), ixU_r, ho]
            rfl
          · rw [ixU_ne hr2]
            by_cases hr1 : r < Q
            · rw [if_pos hr1, if_pos (by omega)]
            · rw [if_neg hr1, if_neg (by omega)]⟩
        rw [ej] at k
        exact k
theorem reb_n {G : List zC} {w : yW} {c e : Nat} (hy : yIn w c) (hk : yRk w G) : iIxd (e_In_rebuild G c e w) G c (e + 2) (fun r => oH G (w.2.2 (e + 2) r)) := by
  have ej : (e_In_rebuild G c e w).2.2 = w.2.2 := congrArg Prod.snd (jf_In_rebuild G c e w)
  refine ⟨yIn_reb hy, ?_⟩
  have hy0 : yIn (wI w c 5 0) c := ⟨fun j hj => by rw [wI_nc (fun e => by have := e.1; omega)]; exact hy.1 j hj, by rw [wI_self]; decide⟩
  have k := reb_L (G := G) (c := c) (e := e) 17 0 (wI w c 5 0) (by omega) (by omega) hy0 (yRk_I hk) ⟨fun _ => (0, 0, 0), by
    unfold ixW
    rw [wI_self]
    exact ⟨⟨fun i j hi => absurd hi (Nat.not_lt_zero _), fun i hi => absurd hi (Nat.not_lt_zero _), fun r l hr hl => by
      have h3 : l < (if r < 0 then oH G ((wI w c 5 0).2.2 (e + 2) r) else 0) := hl
      rw [if_neg (Nat.not_lt_zero _)] at h3
      exact absurd h3 (Nat.not_lt_zero _), fun h => absurd h (Nat.lt_irrefl _), fun i q hi => absurd hi (Nat.not_lt_zero _), Nat.zero_le _⟩, fun i hi => absurd hi (Nat.not_lt_zero _)⟩⟩
  obtain ⟨sq, h⟩ := k
  refine ⟨sq, ?_⟩
  rw [ej]
  exact h
/-- a row that goes into its index -/
theorem ins_n {G : List zC} {w : yW} {c e r x : Nat} {sq : Nat → Nat × Int × Int} {d : Nat → Nat} {X Y X1 Y1 : Nat → Int} (hy : yIn w c) (hk : yRk w G) (hr : r < 16) (hW : ixW w c sq d X Y X1 Y1) (hd : ∀ i, i < 16 → i ≠ r → d i = oH G (w.2.2 e i)) (hdr : d r = 0) (hX : ∀ i, i < 16 → i ≠ r → X i = oB G 0 (w.2.2 e i) ∧ Y i = oB G 1 (w.2.2 e i) ∧ X1 i = oB G 2 (w.2.2 e i) ∧ Y1 i = oB G 3 (w.2.2 e i)) (hx : w.2.2 e r = some x) : iIxd (e_In_add G c x w) G c e (fun i => oH G (w.2.2 e i)) := by
  have ok := hk _ _ _ hx
  have hb := ok_b ok
  obtain ⟨hh, h8⟩ := homeN (gB G x 0) (gB G x 1) (gB G x 2) (gB G x 3)
  have ej : (e_In_add G c x w).2.2 = w.2.2 := congrArg Prod.snd (jf_In_add G c x w)
  have hW1 : ixW w c sq d (fun i => oB G 0 (w.2.2 e i)) (fun i => oB G 1 (w.2.2 e i)) (fun i => oB G 2 (w.2.2 e i)) (fun i => oB G 3 (w.2.2 e i)) := by
    refine ixW_cg (fun _ _ => rfl) (fun i hi hp => ?_) hW
    have hne : i ≠ r := fun e2 => by rw [e2, hdr] at hp; omega
    have := hX i hi hne
    exact ⟨this.1.symm, this.2.1.symm, this.2.2.1.symm, this.2.2.2.symm⟩
  obtain ⟨sq', hA⟩ := add_n (G := G) (x := x) (r := r) hy hW1 hr hdr (fun i hi => by
    by_cases e2 : i = r
    · rw [e2, hdr]; omega
    · rw [hd i hi e2]; exact oH_9 ..) h8 hh (by rw [hx]; rfl) (by rw [hx]; rfl) (by rw [hx]; rfl) (by rw [hx]; rfl) (by rw [hx]; exact hb.1) (by rw [hx]; exact hb.2.1) (by rw [hx]; exact hb.2.2.1.1) (by rw [hx]; exact hb.2.2.2.1)
  refine ⟨yIn_add hy, sq', ?_⟩
  rw [ej]
  refine ixW_cg (fun i hi => ?_) (fun _ _ _ => ⟨rfl, rfl, rfl, rfl⟩) hA
  by_cases e2 : i = r
  · rw [e2, ixU_r, hx]
    rfl
  · rw [ixU_ne e2, hd i hi e2]
