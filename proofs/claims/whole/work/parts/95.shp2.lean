-- shape: counts
def pCn (kd : Int) (k : Nat) : Bool := if kd = 0 then decide (k = 1) else if kd = 1 then decide (2 ≤ k) else decide (3 ≤ k)
theorem cnt_c {w : yW} {kd : Int32} {k : Nat} (hk : k ≤ 6) (hw : w.1 6 2 = Int32.ofNat k) : e_Dr_hasCountFor kd w = b2 (pCn kd.toInt k) := by
  unfold e_Dr_hasCountFor pCn
  rw [hw, zc_ne, zc_ne, zc_ne, zc_lt, zc_lt, z_nat (by omega), z_i0, show (1 : Int32).toInt = 1 from rfl, show (2 : Int32).toInt = 2 from rfl, show (3 : Int32).toInt = 3 from rfl]
  by_cases e0 : kd.toInt = 0
  · rw [decide_eq_false (not_not_intro e0), if_pos e0]
    by_cases e : k = 1
    · rw [decide_eq_true e, decide_eq_false (show ¬ ¬ (k : Int) = 1 by omega)]; rfl
    · rw [decide_eq_false e, decide_eq_true (show ¬ (k : Int) = 1 by omega)]; rfl
  · rw [decide_eq_true (show ¬ kd.toInt = 0 from e0), if_neg e0]
    by_cases e1 : kd.toInt = 1
    · rw [decide_eq_false (not_not_intro e1), if_pos e1]
      by_cases e : 2 ≤ k
      · rw [decide_eq_true e, decide_eq_false (show ¬ (k : Int) < 2 by omega)]; rfl
      · rw [decide_eq_false e, decide_eq_true (show (k : Int) < 2 by omega)]; rfl
    · rw [decide_eq_true (show ¬ kd.toInt = 1 from e1), if_neg e1]
      by_cases e : 3 ≤ k
      · rw [decide_eq_true e, decide_eq_false (show ¬ (k : Int) < 3 by omega)]; rfl
      · rw [decide_eq_false e, decide_eq_true (show (k : Int) < 3 by omega)]; rfl
theorem cnt_m {w : yW} {kd : Int32} {k : Nat} (hk : k ≤ 6) (hw : w.1 54 10 = Int32.ofNat k) : e_Mo_fault kd w = bif pCn kd.toInt k then g_Mo_fault_39 kd (Int32.ofNat k) w 7 0 else 1 := by
  unfold e_Mo_fault pCn
  rw [hw, zc_ne, zc_ne, zc_eq, zc_ge, zc_ge, z_nat (by omega), z_i0, show (1 : Int32).toInt = 1 from rfl, show (2 : Int32).toInt = 2 from rfl, show (3 : Int32).toInt = 3 from rfl]
  generalize g_Mo_fault_39 kd (Int32.ofNat k) w 7 0 = z
  by_cases e0 : kd.toInt = 0
  · rw [decide_eq_false (not_not_intro e0), if_pos e0]
    by_cases e : k = 1
    · rw [decide_eq_true e, decide_eq_true (show (k : Int) = 1 by omega)]; rfl
    · rw [decide_eq_false e, decide_eq_false (show ¬ (k : Int) = 1 by omega)]; rfl
  · rw [decide_eq_true (show ¬ kd.toInt = 0 from e0), if_neg e0]
    by_cases e1 : kd.toInt = 1
    · rw [decide_eq_false (not_not_intro e1), if_pos e1]
      by_cases e : 2 ≤ k
      · rw [decide_eq_true e, decide_eq_true (show 2 ≤ (k : Int) by omega)]; rfl
      · rw [decide_eq_false e, decide_eq_false (show ¬ 2 ≤ (k : Int) by omega)]; rfl
    · rw [decide_eq_true (show ¬ kd.toInt = 1 from e1), if_neg e1]
      by_cases e : 3 ≤ k
      · rw [decide_eq_true e, decide_eq_true (show 3 ≤ (k : Int) by omega)]; rfl
      · rw [decide_eq_false e, decide_eq_false (show ¬ 3 ≤ (k : Int) by omega)]; rfl
/-- the count is wrong -/
theorem sim_shape_c {w : yW} {G : List zC} (h : INV w G) (kd : Int32) (h1 : zc .lt kd 0 = false) (h2 : zc .le kd 2 = true) (h3 : zc .ne (e_Dr_hasCountFor kd w) 0 = false) : (e_Mo_shape kd (e_Dr_clear w)).2 = 1 ∧ INV (e_Mo_shape kd (e_Dr_clear w)).1 G := by
  obtain ⟨d1, d2, d3⟩ := h.1
  have hw := z_ofn (x := w.1 54 10) d2.1
  have hk : (w.1 54 10).toInt.toNat ≤ 6 := by omega
  generalize (w.1 54 10).toInt.toNat = k at hw hk
  rw [cnt_c hk (d1.trans hw), b2_ne] at h3
  have ef : e_Mo_fault kd (e_Dr_clear w) = 1 := by
    rw [cnt_m (w := e_Dr_clear w) hk (by unfold e_Dr_clear; rw [wI_ne (by decide)]; exact hw), h3]
    rfl
  have em : e_Mo_shape kd (e_Dr_clear w) = (wI (e_Dr_clear w) 54 10 0, 1) := by
    unfold e_Mo_shape
    rw [h1, h2, ef]
    rfl
  rw [em]
  exact ⟨rfl, INV_clr h⟩
theorem sim_shape_a {w : yW} {G : List zC} (h : INV w G) (kd : Int32) (h1 : zc .lt kd 0 = true ∨ (zc .lt kd 0 = false ∧ zc .le kd 2 = false)) : e_Mo_shape kd w = (w, -1) := by
  unfold e_Mo_shape
  rcases h1 with h1 | ⟨h1, h2⟩
  · rw [h1]; rfl
  · rw [h1, h2]; rfl
