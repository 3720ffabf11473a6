-- the drawn geometry
theorem app_i {G H : List zC} (i : Nat) : (G ++ H)[G.length + i]? = H[i]? := by
  rw [List.getElem?_append_right (by omega), show G.length + i - G.length = i by omega]
theorem gL_i (l : List Int32) : gL (some (.inl (0, l.map Value.int))) = l := by
  show (l.map Value.int).map gInt = l
  rw [List.map_map]
  exact List.map_id l
theorem drw_n {w : yW} {G : List zC} {k g : Nat} {kd : Int32} (hg : g = 72 + G.length) (hk : k ≤ 6) : gK (G ++ dCells w k g kd) g = kd ∧ gX (G ++ dCells w k g kd) g = (yA w 7 6).take k ∧ gY (G ++ dCells w k g kd) g = (yA w 8 6).take k ∧ gB (G ++ dCells w k g kd) g 0 = mnF (fun i => ((yA w 7 6).take k).getD i 0) ((yA w 7 6).take k).length ∧ gB (G ++ dCells w k g kd) g 1 = mnF (fun i => ((yA w 8 6).take k).getD i 0) ((yA w 8 6).take k).length ∧ gB (G ++ dCells w k g kd) g 2 = mxF (fun i => ((yA w 7 6).take k).getD i 0) ((yA w 7 6).take k).length ∧ gB (G ++ dCells w k g kd) g 3 = mxF (fun i => ((yA w 8 6).take k).getD i 0) ((yA w 8 6).take k).length := by
  have l7 : ((yA w 7 6).take k).length ≤ 1000 := by rw [List.length_take]; omega
  have l8 : ((yA w 8 6).take k).length ≤ 1000 := by rw [List.length_take]; omega
  unfold gK gX gY gB
  rw [show g - 72 = G.length + 0 by omega, show g - 71 = G.length + 1 by omega, show g - 70 = G.length + 2 by omega, show g - 69 = G.length + 3 by omega, app_i, app_i, app_i, app_i]
  unfold dCells
  rw [bo_n l7 l8]
  refine ⟨rfl, gL_i _, gL_i _, rfl, rfl, rfl, rfl⟩
theorem ok_new {w : yW} {G : List zC} {k g : Nat} {kd : Int32} (hg : g = 72 + G.length) (h1 : 1 ≤ k) (hk : k ≤ 6) (hX : zCo ((yA w 7 6).take k)) (hY : zCo ((yA w 8 6).take k)) (kk : 0 ≤ kd.toInt ∧ kd.toInt ≤ 2) (k1 : kd.toInt = 1 → 2 ≤ k) : yOk (G ++ dCells w k g kd) g := by
  obtain ⟨a1, a2, a3, a4, a5, a6, a7⟩ := drw_n (w := w) (kd := kd) hg hk
  have l7 : ((yA w 7 6).take k).length = k := by rw [List.length_take, yA_len]; omega
  have l8 : ((yA w 8 6).take k).length = k := by rw [List.length_take, yA_len]; omega
  unfold yOk
  rw [a1, a2, a3, a4, a5, a6, a7, l7, l8]
  have i0 : (G ++ dCells w k g kd)[g - 72]? = some (.inr (6, [.int kd, .ref (g + 1), .ref (g + 2), .ref (g + 3)])) := by
    rw [show g - 72 = G.length + 0 by omega, app_i]; rfl
  have i1 : (G ++ dCells w k g kd)[g - 71]? = some (.inl (0, ((yA w 7 6).take k).map Value.int)) := by
    rw [show g - 71 = G.length + 1 by omega, app_i]; rfl
  have i2 : (G ++ dCells w k g kd)[g - 70]? = some (.inl (0, ((yA w 8 6).take k).map Value.int)) := by
    rw [show g - 70 = G.length + 2 by omega, app_i]; rfl
  have i3 : (G ++ dCells w k g kd)[g - 69]? = some (.inr (7, [.int (mnF (fun i => ((yA w 7 6).take k).getD i 0) k), .int (mnF (fun i => ((yA w 8 6).take k).getD i 0) k), .int (mxF (fun i => ((yA w 7 6).take k).getD i 0) k), .int (mxF (fun i => ((yA w 8 6).take k).getD i 0) k)])) := by
    rw [show g - 69 = G.length + 3 by omega, app_i]
    unfold dCells
    rw [bo_n (by omega) (by omega), l7, l8]
    rfl
  have q1 := low_n hX (by omega)
  have q2 := low_n hY (by omega)
  have q3 := hgh_n hX (by omega)
  have q4 := hgh_n hY (by omega)
  rw [l7] at q1 q3
  rw [l8] at q2 q4
  exact ⟨by omega, i0, i1, i2, i3, rfl, h1, hk, hX, hY, q1, q2, q3, q4, kk, k1⟩
