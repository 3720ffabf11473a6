-- what answers alike: the calls that only read
theorem zc_ltge (x y : Int32) : zc .lt x y = !zc .ge x y := by
  rw [zc_lt, zc_ge]
  by_cases h : x.toInt < y.toInt
  · rw [decide_eq_true h, decide_eq_false (by omega)]; rfl
  · rw [decide_eq_false h, decide_eq_true (by omega)]; rfl
theorem n_in {x : Int32} (h : 0 ≤ x.toInt) : x.toNatClampNeg = x.toInt.toNat := rfl
theorem sim_result {w : yW} {G : List zC} (h : INV w G) (x : Int32) : e_ST_result x w = e_Mo_result x w := by
  obtain ⟨_, _, _, _, _, ⟨a1, a2, a3, a4⟩, _⟩ := h
  unfold e_ST_result e_Mo_result
  rw [a1, zc_ltge x (w.1 54 21)]
  cases c0 : zc .lt x 0
  · cases c1 : zc .ge x (w.1 54 21)
    · have h0 := of_decide_eq_false ((zc_lt x 0).symm.trans c0)
      have h1 := of_decide_eq_false ((zc_ge x (w.1 54 21)).symm.trans c1)
      have e0 : (0 : Int32).toInt = 0 := rfl
      exact a3 _ (by rw [n_in (by omega)]; omega)
    · rfl
  · rfl
theorem sim_reads {w : yW} {G : List zC} (h : INV w G) : e_ST_reads w = e_Mo_reads w := h.2.2.2.2.2.1.2.2.2
theorem sim_frame {w : yW} {G : List zC} (h : INV w G) (x : Int32) : e_ST_frame x w = e_Mo_frame x w := by
  obtain ⟨_, _, _, _, _, _, hf, _⟩ := h
  unfold e_ST_frame e_Fr_frameOf e_Mo_frame
  cases c0 : zc .lt x 0
  · cases c1 : zc .gt x 8
    · have h0 := of_decide_eq_false ((zc_lt x 0).symm.trans c0)
      have h1 := of_decide_eq_false ((zc_gt x 8).symm.trans c1)
      have e0 : (0 : Int32).toInt = 0 := rfl
      have e8 : (8 : Int32).toInt = 8 := rfl
      exact (hf.1 _ (by rw [n_in (by omega)]; omega)).1
    · rfl
  · rfl
/-- a number names a table, for both or for none -/
theorem isT_cases (t : Int32) : (∃ T, T < 2 ∧ t = Int32.ofNat T ∧ e_ST_isTable t = 1 ∧ f_Mo_isTable t = 1) ∨ (e_ST_isTable t = 0 ∧ f_Mo_isTable t = 0) := by
  by_cases h0 : t = 0
  · left; exact ⟨0, by decide, h0, by rw [h0]; decide, by rw [h0]; decide⟩
  · by_cases h1 : t = 1
    · left; exact ⟨1, by decide, h1, by rw [h1]; decide, by rw [h1]; decide⟩
    · right
      constructor
      · cases c : zc .eq (e_ST_isTable t) 0
        · exfalso
          have hz := z_sTn (b := true) c
          have e := z_ofn hz.1
          have hlt := hz.2
          have hge := hz.1
          rcases (show t.toInt.toNat = 0 ∨ t.toInt.toNat = 1 by omega) with k | k
          · rw [k] at e; exact h0 e
          · rw [k] at e; exact h1 e
        · exact of_decide_eq_true c
      · unfold f_Mo_isTable
        rw [show zc .eq t 0 = false from decide_eq_false h0, show zc .ne t 1 = true from decide_eq_true h1]
        rfl
/-- table and row: the class's place and the reference's slot -/
theorem tq_cases {w : yW} {G : List zC} (h : INV w G) (t q : Int32) :
    (∃ T Q, T < 2 ∧ Q < 16 ∧ t = Int32.ofNat T ∧ q = Int32.ofNat Q ∧ e_ST_placeOf t q w = w.2.2 (16 + 12 * T) Q ∧ (w.2.2 (16 + 12 * T) Q = none → e_Mo_slot t q w = -1) ∧ (∀ x, w.2.2 (16 + 12 * T) Q = some x → e_Mo_slot t q w = Int32.ofNat (16 * T + Q) ∧ rEq w G (16 * T + Q) (some x) ∧ w.1 (15 + 12 * T) Q = w.1 56 (16 * T + Q)))
    ∨ (e_ST_placeOf t q w = none ∧ e_Mo_slot t q w = -1) := by
  have hp := h.2.2.1
  unfold e_ST_placeOf e_Mo_slot e_Ta_placeAt
  rcases isT_cases t with ⟨T, hT, e, k1, k2⟩ | ⟨k1, k2⟩
  · rw [k1, k2]
    cases c0 : zc .lt q 0
    · have h0 := of_decide_eq_false ((zc_lt q 0).symm.trans c0)
      have e0 : (0 : Int32).toInt = 0 := rfl
      have eq := z_ofn (x := q) (by omega)
      by_cases h16 : q.toInt < 16
      · left
        have c1 : zc .ge q 16 = false := by rw [zc_ge]; exact decide_eq_false (by have : (16 : Int32).toInt = 16 := rfl; omega)
        have c2 : zc .gt q 15 = false := by rw [zc_gt]; exact decide_eq_false (by have : (15 : Int32).toInt = 15 := rfl; omega)
        have eT : t.toNatClampNeg = T := by rw [e]; exact n_clamp (by omega)
        have eQ : q.toNatClampNeg = q.toInt.toNat := rfl
        have ei : (16 * t + q) = Int32.ofNat (16 * T + q.toInt.toNat) := by
          rw [e]
          conv => lhs; rw [eq]
          rw [← mk_add, show (16 : Int32) = Int32.ofNat 16 from rfl, ← Int32.ofNat_mul]
        have en : (16 * t + q).toNatClampNeg = 16 * T + q.toInt.toNat := by rw [ei]; exact n_clamp (by omega)
        refine ⟨T, q.toInt.toNat, hT, by omega, e, eq, ?_, ?_, ?_⟩
        · rw [c1, eT, eQ, show 14 + 12 * T + 2 = 16 + 12 * T by omega]
          rfl
        · intro hn
          have := (hp T q.toInt.toNat hT (by omega)).1
          rw [hn] at this
          have this : w.1 55 (16 * T + q.toInt.toNat) = 0 := this
          rw [c2, en, this]
          rfl
        · intro x hx
          have k := hp T q.toInt.toNat hT (by omega)
          rw [hx] at k
          refine ⟨?_, k.1, k.2 (by intro hh; cases hh)⟩
          have k3 : w.1 55 (16 * T + q.toInt.toNat) = 1 := k.1.1
          rw [c2, en, k3]
          exact ei
      · right
        have c1 : zc .ge q 16 = true := by rw [zc_ge]; exact decide_eq_true (by have : (16 : Int32).toInt = 16 := rfl; omega)
        have c2 : zc .gt q 15 = true := by rw [zc_gt]; exact decide_eq_true (by have : (15 : Int32).toInt = 15 := rfl; omega)
        rw [c1, c2]
        exact ⟨rfl, rfl⟩
    · right; exact ⟨rfl, rfl⟩
  · rw [k1, k2]
    right; exact ⟨rfl, rfl⟩
theorem sim_value {w : yW} {G : List zC} (h : INV w G) (t q : Int32) : e_ST_value t q w = e_Mo_value t q w := by
  unfold e_ST_value e_Mo_value
  rcases tq_cases h t q with ⟨T, Q, hT, hQ, et, eq, e1, e2, e3⟩ | ⟨e1, e2⟩
  · rw [e1]
    cases ho : w.2.2 (16 + 12 * T) Q with
    | none =>
      rw [e2 ho]
      rfl
    | some x =>
      obtain ⟨k1, k2, k3⟩ := e3 x ho
      rw [k1]
      show e_Ta_amountOf (14 + 12 * t.toNatClampNeg) q w = (bif zc .ge (Int32.ofNat (16 * T + Q)) 0 then w.1 56 (Int32.ofNat (16 * T + Q)).toNatClampNeg else 0)
      rw [zc_ge, z_nat (by omega), decide_eq_true (show (0 : Int32).toInt ≤ ((16 * T + Q : Nat) : Int) by have : (0 : Int32).toInt = 0 := rfl; omega), n_clamp (by omega)]
      unfold e_Ta_amountOf
      have c0 : zc .lt q 0 = false := by rw [zc_lt, eq, z_nat (by omega)]; exact decide_eq_false (by have : (0 : Int32).toInt = 0 := rfl; omega)
      have c1 : zc .ge q 16 = false := by rw [zc_ge, eq, z_nat (by omega)]; exact decide_eq_false (by have : (16 : Int32).toInt = 16 := rfl; omega)
      rw [c0, c1, et, n_clamp (by omega), eq, n_clamp (by omega), show 14 + 12 * T + 1 = 15 + 12 * T by omega]
      exact k3
  · rw [e1, e2]
    rfl
theorem coord_n (x : Int32) : e_Dr_isCoordinate x = b2 (decide (0 ≤ x.toInt ∧ x.toInt ≤ 255)) := by
  unfold e_Dr_isCoordinate
  have e0 : (0 : Int32).toInt = 0 := rfl
  have e1 : (255 : Int32).toInt = 255 := rfl
  rw [zc_lt, zc_gt, e0, e1]
  by_cases h0 : x.toInt < 0
  · rw [decide_eq_true h0, decide_eq_false (show ¬ (0 ≤ x.toInt ∧ x.toInt ≤ 255) by omega)]; rfl
  · by_cases h1 : 255 < x.toInt
    · rw [decide_eq_false h0, decide_eq_true h1, decide_eq_false (show ¬ (0 ≤ x.toInt ∧ x.toInt ≤ 255) by omega)]; rfl
    · rw [decide_eq_false h0, decide_eq_false h1, decide_eq_true (show 0 ≤ x.toInt ∧ x.toInt ≤ 255 by omega)]; rfl
/-- the class's vertex, the reference's vertex -/
theorem app_n (x y : Int32) (w : yW) : e_Dr_append x y w = if (w.1 6 2).toInt < 6 ∧ (0 ≤ x.toInt ∧ x.toInt ≤ 255) ∧ (0 ≤ y.toInt ∧ y.toInt ≤ 255) then (wI (wI (wI w 7 (w.1 6 2).toNatClampNeg x) 8 (w.1 6 2).toNatClampNeg y) 6 2 (w.1 6 2 + 1), w.1 6 2 + 1) else (w, -1) := by
  unfold e_Dr_append
  have e6 : (6 : Int32).toInt = 6 := rfl
  rw [coord_n, coord_n, b2_eq, b2_ne, zc_ge, e6, wI_ne (by decide), wI_ne (by decide), wI_ne (by decide), wI_self]
  by_cases h1 : (w.1 6 2).toInt < 6
  · rw [decide_eq_false (show ¬ (6 : Int) ≤ (w.1 6 2).toInt by omega)]
    by_cases h2 : 0 ≤ x.toInt ∧ x.toInt ≤ 255
    · rw [decide_eq_true h2]
      by_cases h3 : 0 ≤ y.toInt ∧ y.toInt ≤ 255
      · rw [decide_eq_true h3, if_pos ⟨h1, h2, h3⟩]; rfl
      · rw [decide_eq_false h3, if_neg (fun h => h3 h.2.2)]; rfl
    · rw [decide_eq_false h2, if_neg (fun h => h2 h.2.1)]; rfl
  · rw [decide_eq_true (show (6 : Int) ≤ (w.1 6 2).toInt by omega), if_neg (fun h => h1 h.1)]; rfl
theorem ver_n (x y : Int32) (w : yW) : e_Mo_vertex x y w = if (w.1 54 10).toInt < 6 ∧ (0 ≤ x.toInt ∧ x.toInt ≤ 255) ∧ (0 ≤ y.toInt ∧ y.toInt ≤ 255) then (wI (wI (wI w 65 (w.1 54 10).toNatClampNeg x) 66 (w.1 54 10).toNatClampNeg y) 54 10 (w.1 54 10 + 1), w.1 54 10 + 1) else (w, -1) := by
  unfold e_Mo_vertex
  have e0 : (0 : Int32).toInt = 0 := rfl
  have e6 : (6 : Int32).toInt = 6 := rfl
  have e1 : (255 : Int32).toInt = 255 := rfl
  rw [zc_lt, zc_lt, zc_lt, zc_gt, zc_gt, e0, e1, e6, wI_ne (by decide), wI_ne (by decide), wI_ne (by decide), wI_self]
  by_cases h1 : x.toInt < 0
  · rw [decide_eq_true h1, if_neg (fun h => by omega)]; rfl
  · rw [decide_eq_false h1]
    by_cases h2 : 255 < x.toInt
    · rw [decide_eq_true h2, if_neg (fun h => by omega)]; rfl
    · rw [decide_eq_false h2]
      by_cases h3 : y.toInt < 0
      · rw [decide_eq_true h3, if_neg (fun h => by omega)]; rfl
      · rw [decide_eq_false h3]
        by_cases h4 : 255 < y.toInt
        · rw [decide_eq_true h4, if_neg (fun h => by omega)]; rfl
        · rw [decide_eq_false h4]
          by_cases h5 : (w.1 54 10).toInt < 6
          · rw [decide_eq_true h5, if_pos ⟨h5, by omega, by omega⟩]; rfl
          · rw [decide_eq_false h5, if_neg (fun h => h5 h.1)]; rfl
theorem sim_vertex {w : yW} {G : List zC} (h : INV w G) (x y : Int32) : (e_ST_vertex x y w).2 = (e_Mo_vertex x y (e_ST_vertex x y w).1).2 ∧ INV (e_Mo_vertex x y (e_ST_vertex x y w).1).1 G := by
  obtain ⟨⟨d1, d2, d3⟩, hf, hp, hc, hm, ha, hr, ho, hi, hk⟩ := h
  unfold e_ST_vertex
  rw [app_n, ver_n, d1]
  by_cases hx : (w.1 54 10).toInt < 6 ∧ (0 ≤ x.toInt ∧ x.toInt ≤ 255) ∧ (0 ≤ y.toInt ∧ y.toInt ≤ 255)
  · rw [if_pos hx]
    have e54 : (wI (wI (wI w 7 (w.1 54 10).toNatClampNeg x) 8 (w.1 54 10).toNatClampNeg y) 6 2 (w.1 54 10 + 1)).1 54 10 = w.1 54 10 := by rw [wI_ne (by decide), wI_ne (by decide), wI_ne (by decide)]
    show (w.1 54 10 + 1 = (if ((wI (wI (wI w 7 (w.1 54 10).toNatClampNeg x) 8 (w.1 54 10).toNatClampNeg y) 6 2 (w.1 54 10 + 1)).1 54 10).toInt < 6 ∧ (0 ≤ x.toInt ∧ x.toInt ≤ 255) ∧ (0 ≤ y.toInt ∧ y.toInt ≤ 255) then _ else _ : yW × Int32).2) ∧ _
    rw [e54, if_pos hx]
    refine ⟨rfl, ?_⟩
    show INV (wI (wI (wI (wI (wI (wI w 7 (w.1 54 10).toNatClampNeg x) 8 (w.1 54 10).toNatClampNeg y) 6 2 (w.1 54 10 + 1)) 65 (w.1 54 10).toNatClampNeg x) 66 (w.1 54 10).toNatClampNeg y) 54 10 (w.1 54 10 + 1)) G
    have k : yK [(6, some 2), (7, none), (8, none), (54, some 10), (65, none), (66, none)] w (wI (wI (wI (wI (wI (wI w 7 (w.1 54 10).toNatClampNeg x) 8 (w.1 54 10).toNatClampNeg y) 6 2 (w.1 54 10 + 1)) 65 (w.1 54 10).toNatClampNeg x) 66 (w.1 54 10).toNatClampNeg y) 54 10 (w.1 54 10 + 1)) := yK_wI rfl (yK_wI rfl (yK_wI rfl (yK_wI rfl (yK_wI rfl (yK_wI rfl yK_rfl)))))
    have hinc : (w.1 54 10 + 1).toInt = (w.1 54 10).toInt + 1 := z_add (by show _ ≤ _ + (1 : Int); omega) (by show _ + (1 : Int) < _; omega)
    have f6 : (wI (wI (wI (wI (wI (wI w 7 (w.1 54 10).toNatClampNeg x) 8 (w.1 54 10).toNatClampNeg y) 6 2 (w.1 54 10 + 1)) 65 (w.1 54 10).toNatClampNeg x) 66 (w.1 54 10).toNatClampNeg y) 54 10 (w.1 54 10 + 1)).1 6 2 = w.1 54 10 + 1 := by rw [wI_ne (by decide), wI_ne (by decide), wI_ne (by decide), wI_self]
    have f7 : ∀ i, (wI (wI (wI (wI (wI (wI w 7 (w.1 54 10).toNatClampNeg x) 8 (w.1 54 10).toNatClampNeg y) 6 2 (w.1 54 10 + 1)) 65 (w.1 54 10).toNatClampNeg x) 66 (w.1 54 10).toNatClampNeg y) 54 10 (w.1 54 10 + 1)).1 7 i = if i = (w.1 54 10).toNatClampNeg then x else w.1 7 i := by
      intro i
      rw [wI_ne (by decide), wI_ne (by decide), wI_ne (by decide), wI_ne (by decide), wI_ne (by decide)]
      by_cases e : i = (w.1 54 10).toNatClampNeg
      · rw [if_pos e, e, wI_self]
      · rw [if_neg e, wI_nc (fun hh => e hh.2)]
    have f8 : ∀ i, (wI (wI (wI (wI (wI (wI w 7 (w.1 54 10).toNatClampNeg x) 8 (w.1 54 10).toNatClampNeg y) 6 2 (w.1 54 10 + 1)) 65 (w.1 54 10).toNatClampNeg x) 66 (w.1 54 10).toNatClampNeg y) 54 10 (w.1 54 10 + 1)).1 8 i = if i = (w.1 54 10).toNatClampNeg then y else w.1 8 i := by
      intro i
      rw [wI_ne (by decide), wI_ne (by decide), wI_ne (by decide), wI_ne (by decide)]
      by_cases e : i = (w.1 54 10).toNatClampNeg
      · rw [if_pos e, e, wI_self]
      · rw [if_neg e, wI_nc (fun hh => e hh.2), wI_ne (by decide)]
    have f65 : ∀ i, (wI (wI (wI (wI (wI (wI w 7 (w.1 54 10).toNatClampNeg x) 8 (w.1 54 10).toNatClampNeg y) 6 2 (w.1 54 10 + 1)) 65 (w.1 54 10).toNatClampNeg x) 66 (w.1 54 10).toNatClampNeg y) 54 10 (w.1 54 10 + 1)).1 65 i = if i = (w.1 54 10).toNatClampNeg then x else w.1 65 i := by
      intro i
      rw [wI_ne (by decide), wI_ne (by decide)]
      by_cases e : i = (w.1 54 10).toNatClampNeg
      · rw [if_pos e, e, wI_self]
      · rw [if_neg e, wI_nc (fun hh => e hh.2), wI_ne (by decide), wI_ne (by decide), wI_ne (by decide)]
    have f66 : ∀ i, (wI (wI (wI (wI (wI (wI w 7 (w.1 54 10).toNatClampNeg x) 8 (w.1 54 10).toNatClampNeg y) 6 2 (w.1 54 10 + 1)) 65 (w.1 54 10).toNatClampNeg x) 66 (w.1 54 10).toNatClampNeg y) 54 10 (w.1 54 10 + 1)).1 66 i = if i = (w.1 54 10).toNatClampNeg then y else w.1 66 i := by
      intro i
      rw [wI_ne (by decide)]
      by_cases e : i = (w.1 54 10).toNatClampNeg
      · rw [if_pos e, e, wI_self]
      · rw [if_neg e, wI_nc (fun hh => e hh.2), wI_ne (by decide), wI_ne (by decide), wI_ne (by decide), wI_ne (by decide)]
    have f54 : (wI (wI (wI (wI (wI (wI w 7 (w.1 54 10).toNatClampNeg x) 8 (w.1 54 10).toNatClampNeg y) 6 2 (w.1 54 10 + 1)) 65 (w.1 54 10).toNatClampNeg x) 66 (w.1 54 10).toNatClampNeg y) 54 10 (w.1 54 10 + 1)).1 54 10 = w.1 54 10 + 1 := wI_self ..
    have hR2 := (yRk_I (c := 54) (j := 10) (v := w.1 54 10 + 1) (yRk_I (c := 66) (j := (w.1 54 10).toNatClampNeg) (v := y) (yRk_I (c := 65) (j := (w.1 54 10).toNatClampNeg) (v := x) (yRk_I (c := 6) (j := 2) (v := w.1 54 10 + 1) (yRk_I (c := 8) (j := (w.1 54 10).toNatClampNeg) (v := y) (yRk_I (c := 7) (j := (w.1 54 10).toNatClampNeg) (v := x) hk))))))
    generalize wI (wI (wI (wI (wI (wI w 7 (w.1 54 10).toNatClampNeg x) 8 (w.1 54 10).toNatClampNeg y) 6 2 (w.1 54 10 + 1)) 65 (w.1 54 10).toNatClampNeg x) 66 (w.1 54 10).toNatClampNeg y) 54 10 (w.1 54 10 + 1) = w2 at *
    refine ⟨⟨by rw [f6, f54], by rw [f54, hinc]; omega, ?_⟩, iFoc_K k rfl rfl hf, iPres_K k rfl (fun _ => rfl) (fun _ => rfl) (fun _ => rfl) (fun _ => rfl) hp, iComm_K k rfl (fun _ => rfl) (fun _ => rfl) (fun _ => rfl) (fun _ => rfl) hc, iMany_S k rfl hm, iAns_K k rfl rfl (fun _ => rfl) (fun _ => rfl) rfl rfl ha, iFr_K k (fun _ => rfl) (fun _ => rfl) hr, iOrd_K k (fun _ => rfl) ho, iIdx_K k rfl (fun _ => rfl) (fun _ => rfl) (fun _ => rfl) (fun _ => rfl) (fun _ => rfl) (fun _ => rfl) rfl (fun _ => rfl) (fun _ => rfl) (fun _ => rfl) (fun _ => rfl) (fun _ => rfl) (fun _ => rfl) hi, hR2⟩
    intro i hi2
    rw [f54, hinc] at hi2
    rw [f7, f8, f65, f66]
    have ec : (w.1 54 10).toNatClampNeg = (w.1 54 10).toInt.toNat := rfl
    by_cases e : i = (w.1 54 10).toNatClampNeg
    · rw [if_pos e, if_pos e, if_pos e, if_pos e]
      exact ⟨rfl, rfl, hx.2.1, hx.2.2⟩
    · rw [if_neg e, if_neg e, if_neg e, if_neg e]
      exact d3 i (by omega)
  · rw [if_neg hx]
    show (-1 = (if (w.1 54 10).toInt < 6 ∧ (0 ≤ x.toInt ∧ x.toInt ≤ 255) ∧ (0 ≤ y.toInt ∧ y.toInt ≤ 255) then _ else _ : yW × Int32).2) ∧ _
    rw [if_neg hx]
    exact ⟨rfl, ⟨d1, d2, d3⟩, hf, hp, hc, hm, ha, hr, ho, hi, hk⟩
