-- the bound of a square's rows
theorem nb_mn {w : yW} {c j d : Nat} : (bif zc .ge (w.1 c j) (w.1 54 d) then wI w 54 d (w.1 54 d) else wI w 54 d (w.1 c j)) = wI w 54 d (if (w.1 c j).toInt < (w.1 54 d).toInt then w.1 c j else w.1 54 d) := by
  rw [zc_ge]
  by_cases h : (w.1 c j).toInt < (w.1 54 d).toInt
  · rw [decide_eq_false (by omega), if_pos h]; rfl
  · rw [decide_eq_true (by omega), if_neg h]; rfl
theorem nb_mx {w : yW} {c j d : Nat} : (bif zc .le (w.1 c j) (w.1 54 d) then wI w 54 d (w.1 54 d) else wI w 54 d (w.1 c j)) = wI w 54 d (if (w.1 54 d).toInt < (w.1 c j).toInt then w.1 c j else w.1 54 d) := by
  rw [zc_le]
  by_cases h : (w.1 54 d).toInt < (w.1 c j).toInt
  · rw [decide_eq_false (by omega), if_pos h]; rfl
  · rw [decide_eq_true (by omega), if_neg h]; rfl
theorem mn_t (a b : Int32) : (if a.toInt < b.toInt then a else b).toInt = min b.toInt a.toInt := by split <;> omega
theorem mx_t (a b : Int32) : (if b.toInt < a.toInt then a else b).toInt = max b.toInt a.toInt := by split <;> omega
/-- one row joins the bound -/
theorem nb_step {w : yW} {q l : Int32} {S : Nat} (hS : S < 65) :
    (∀ d j, ¬ (d = 54 ∧ 17 ≤ j ∧ j ≤ 20) → (g_Mo_nodeBound_130 q l (Int32.ofNat S) (g_Mo_nodeBound_100 q l (Int32.ofNat S) (g_Mo_nodeBound_70 q l (Int32.ofNat S) (g_Mo_nodeBound_40 q l (Int32.ofNat S) w)))).1 d j = w.1 d j)
    ∧ (g_Mo_nodeBound_130 q l (Int32.ofNat S) (g_Mo_nodeBound_100 q l (Int32.ofNat S) (g_Mo_nodeBound_70 q l (Int32.ofNat S) (g_Mo_nodeBound_40 q l (Int32.ofNat S) w)))).2 = w.2
    ∧ ((g_Mo_nodeBound_130 q l (Int32.ofNat S) (g_Mo_nodeBound_100 q l (Int32.ofNat S) (g_Mo_nodeBound_70 q l (Int32.ofNat S) (g_Mo_nodeBound_40 q l (Int32.ofNat S) w)))).1 54 17).toInt = min (w.1 54 17).toInt (w.1 61 S).toInt
    ∧ ((g_Mo_nodeBound_130 q l (Int32.ofNat S) (g_Mo_nodeBound_100 q l (Int32.ofNat S) (g_Mo_nodeBound_70 q l (Int32.ofNat S) (g_Mo_nodeBound_40 q l (Int32.ofNat S) w)))).1 54 18).toInt = max (w.1 54 18).toInt (w.1 62 S).toInt
    ∧ ((g_Mo_nodeBound_130 q l (Int32.ofNat S) (g_Mo_nodeBound_100 q l (Int32.ofNat S) (g_Mo_nodeBound_70 q l (Int32.ofNat S) (g_Mo_nodeBound_40 q l (Int32.ofNat S) w)))).1 54 19).toInt = min (w.1 54 19).toInt (w.1 63 S).toInt
    ∧ ((g_Mo_nodeBound_130 q l (Int32.ofNat S) (g_Mo_nodeBound_100 q l (Int32.ofNat S) (g_Mo_nodeBound_70 q l (Int32.ofNat S) (g_Mo_nodeBound_40 q l (Int32.ofNat S) w)))).1 54 20).toInt = max (w.1 54 20).toInt (w.1 64 S).toInt := by
  unfold g_Mo_nodeBound_130 g_Mo_nodeBound_100 g_Mo_nodeBound_70 g_Mo_nodeBound_40
  rw [n_clamp (by omega), nb_mn, nb_mx, nb_mn, nb_mx]
  refine ⟨fun d j a => ?_, rfl, ?_, ?_, ?_, ?_⟩
  · rw [wI_nc (by omega), wI_nc (by omega), wI_nc (by omega), wI_nc (by omega)]
  · rw [wI_nc (by omega), wI_nc (by omega), wI_nc (by omega), wI_self, mn_t]
  · rw [wI_nc (by omega), wI_nc (by omega), wI_self, mx_t, wI_nc (by omega), wI_nc (by omega)]
  · rw [wI_nc (by omega), wI_self, mn_t, wI_nc (by omega), wI_nc (by omega), wI_nc (by omega), wI_nc (by omega)]
  · rw [wI_self, mx_t, wI_nc (by omega), wI_nc (by omega), wI_nc (by omega), wI_nc (by omega), wI_nc (by omega), wI_nc (by omega)]
