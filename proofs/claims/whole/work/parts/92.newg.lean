-- a new geometry
theorem INV_app {w : yW} {G H : List zC} (h : INV w G) : INV w (G ++ H) := by
  obtain ⟨hd, hf0, hp, hc, hm, ha, hr, hO, hi, hk⟩ := h
  have hre : ∀ s o, rEq w G s o → rEq w (G ++ H) s o := by
    intro s o hq
    cases o with
    | none => exact hq
    | some x =>
      obtain ⟨a1, a2, a3, a4, a5, a6, a7, a8, a9⟩ := hq
      obtain ⟨o1, o2, o3, o4, o5⟩ := yOk_app (H := H) a2
      exact ⟨a1, o1, by rw [o2]; exact a3, by rw [o3]; exact a4, by rw [o3, o4]; exact a5, by rw [o5]; exact a6, by rw [o5]; exact a7, by rw [o5]; exact a8, by rw [o5]; exact a9⟩
  refine ⟨hd, hre _ _ hf0, fun t q ht hq => ⟨hre _ _ (hp t q ht hq).1, (hp t q ht hq).2⟩, fun t q ht hq => ⟨hre _ _ (hc t q ht hq).1, (hc t q ht hq).2⟩, hm, ha, hr, hO, ?_, fun c j x hx => (yOk_app (hk c j x hx)).1⟩
  intro t ht
  have eB : ∀ k j, oB (G ++ H) k (w.2.2 (16 + 12 * t) j) = oB G k (w.2.2 (16 + 12 * t) j) := fun k j => by
    cases e : w.2.2 (16 + 12 * t) j with
    | none => rfl
    | some x =>
      show (gB (G ++ H) x k).toInt = (gB G x k).toInt
      rw [(yOk_app (hk _ _ _ e)).2.2.2.2]
  have eH : ∀ j, oH (G ++ H) (w.2.2 (16 + 12 * t) j) = oH G (w.2.2 (16 + 12 * t) j) := fun j => by
    cases e : w.2.2 (16 + 12 * t) j with
    | none => rfl
    | some x =>
      have o5 := (yOk_app (H := H) (hk _ _ _ e)).2.2.2.2
      show (f_Bo_homeLevel (gB (G ++ H) x 0) (gB (G ++ H) x 1) (gB (G ++ H) x 2) (gB (G ++ H) x 3)).toInt.toNat + 1 = _
      rw [o5, o5, o5, o5]
      rfl
  have k := hi t ht
  unfold iIxd at k ⊢
  rw [show (fun r => oB (G ++ H) 0 (w.2.2 (16 + 12 * t) r)) = (fun r => oB G 0 (w.2.2 (16 + 12 * t) r)) from funext (eB 0), show (fun r => oB (G ++ H) 1 (w.2.2 (16 + 12 * t) r)) = (fun r => oB G 1 (w.2.2 (16 + 12 * t) r)) from funext (eB 1), show (fun r => oB (G ++ H) 2 (w.2.2 (16 + 12 * t) r)) = (fun r => oB G 2 (w.2.2 (16 + 12 * t) r)) from funext (eB 2), show (fun r => oB (G ++ H) 3 (w.2.2 (16 + 12 * t) r)) = (fun r => oB G 3 (w.2.2 (16 + 12 * t) r)) from funext (eB 3), show (fun r => oH (G ++ H) (w.2.2 (16 + 12 * t) r)) = (fun r => oH G (w.2.2 (16 + 12 * t) r)) from funext eH]
  exact k
theorem mn_i (a b : Int32) : (if a < b then a else b) = if a.toInt < b.toInt then a else b := by
  by_cases h : a < b
  · rw [if_pos h, if_pos (Int32.lt_iff_toInt_lt.mp h)]
  · rw [if_neg h, if_neg (fun e => h (Int32.lt_iff_toInt_lt.mpr e))]
theorem mx_i (a b : Int32) : (if b < a then a else b) = if b.toInt < a.toInt then a else b := by
  by_cases h : b < a
  · rw [if_pos h, if_pos (Int32.lt_iff_toInt_lt.mp h)]
  · rw [if_neg h, if_neg (fun e => h (Int32.lt_iff_toInt_lt.mpr e))]
theorem bo22_L {X Y : List Int32} {b px py : Nat} (hn : X.length ≤ 1000) : ∀ (f i : Nat), i ≤ X.length → X.length < i + f → g_Bo_init_22 X Y b px py f (mnF (fun i => X.getD i 0) i) (mxF (fun i => X.getD i 0) i) (Int32.ofNat i) = (mnF (fun i => X.getD i 0) X.length, mxF (fun i => X.getD i 0) X.length)
  | 0, i, h1, h2 => by omega
  | f + 1, i, h1, h2 => by
    rw [g_Bo_init_22, List.length_map, zc_ge, z_nat (by omega), z_nat (by omega)]
    by_cases e : i = X.length
    · rw [decide_eq_true (by omega), e]
      rfl
    · rw [decide_eq_false (by omega), n_inc2, gI_n (by omega), mn_i, mx_i]
      exact bo22_L hn f (i + 1) (by omega) (by omega)
theorem bo77_L {X Y : List Int32} {b px py : Nat} {lf rg : Int32} (hn : Y.length ≤ 1000) : ∀ (f i : Nat), i ≤ Y.length → Y.length < i + f → g_Bo_init_77 X Y b px py lf rg f (mnF (fun i => Y.getD i 0) i) (mxF (fun i => Y.getD i 0) i) (Int32.ofNat i) = (mnF (fun i => Y.getD i 0) Y.length, mxF (fun i => Y.getD i 0) Y.length)
  | 0, i, h1, h2 => by omega
  | f + 1, i, h1, h2 => by
    rw [g_Bo_init_77, List.length_map, zc_ge, z_nat (by omega), z_nat (by omega)]
    by_cases e : i = Y.length
    · rw [decide_eq_true (by omega), e]
      rfl
    · rw [decide_eq_false (by omega), n_inc2, gI_n (by omega), mn_i, mx_i]
      exact bo77_L hn f (i + 1) (by omega) (by omega)
theorem bo_n {X Y : List Int32} {b px py : Nat} (hn : X.length ≤ 1000) (hm : Y.length ≤ 1000) : g_Bo_init_0 X Y b px py = (mnF (fun i => X.getD i 0) X.length, mxF (fun i => X.getD i 0) X.length, mnF (fun i => Y.getD i 0) Y.length, mxF (fun i => Y.getD i 0) Y.length) := by
  have a : g_Bo_init_22 X Y b px py (X.length + 1) 255 0 0 = _ := bo22_L hn (X.length + 1) 0 (by omega) (by omega)
  have c : ∀ lf rg, g_Bo_init_77 X Y b px py lf rg (Y.length + 1) 255 0 0 = _ := fun lf rg => bo77_L (lf := lf) (rg := rg) hm (Y.length + 1) 0 (by omega) (by omega)
  unfold g_Bo_init_0
  rw [a, c]
theorem mem_getD {X : List Int32} {i : Nat} (hi : i < X.length) : X.getD i 0 ∈ X := by
  have e : X.getD i 0 = X[i] := by simp [List.getD, hi]
  rw [e]
  exact List.getElem_mem hi
theorem low_n {X : List Int32} (hX : zCo X) (h1 : 1 ≤ X.length) : zLow X (mnF (fun i => X.getD i 0) X.length) := by
  obtain ⟨_, h2, h3⟩ := mnF_p (f := fun i => X.getD i 0) X.length (fun i hi => hX _ (mem_getD hi))
  obtain ⟨i, hi, e⟩ := h3 (by omega)
  refine ⟨⟨_, mem_getD hi, e⟩, fun a ha => ?_⟩
  obtain ⟨j, hj, e2⟩ := List.mem_iff_getElem.mp ha
  have := h2 j hj
  have e3 : X.getD j 0 = a := by rw [← e2]; simp [List.getD, hj]
  rw [e3] at this
  exact this
theorem hgh_n {X : List Int32} (hX : zCo X) (h1 : 1 ≤ X.length) : zHgh X (mxF (fun i => X.getD i 0) X.length) := by
  obtain ⟨_, h2, h3⟩ := mxF_p (f := fun i => X.getD i 0) X.length (fun i hi => hX _ (mem_getD hi))
  obtain ⟨i, hi, e⟩ := h3 (by omega)
  refine ⟨⟨_, mem_getD hi, e⟩, fun a ha => ?_⟩
  obtain ⟨j, hj, e2⟩ := List.mem_iff_getElem.mp ha
  have := h2 j hj
  have e3 : X.getD j 0 = a := by rw [← e2]; simp [List.getD, hj]
  rw [e3] at this
  exact this
