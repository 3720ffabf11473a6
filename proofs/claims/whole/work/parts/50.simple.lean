theorem z_isT {t : Int32} (h : ¬ f_Mo_isTable t = 0) : 0 ≤ t.toInt ∧ t.toInt ≤ 1 := by
  unfold f_Mo_isTable at h
  by_cases h1 : t = 0
  · rw [h1]; decide
  · by_cases h2 : t = 1
    · rw [h2]; decide
    · exfalso
      apply h
      have e1 : zc .eq t 0 = false := decide_eq_false h1
      have e2 : zc .ne t 1 = true := decide_eq_true h2
      rw [e1, e2]
      rfl
theorem z_16r {t q : Int32} (h0 : 0 ≤ t.toInt) (h1 : t.toInt ≤ 1) (h2 : 0 ≤ q.toInt) (h3 : q.toInt ≤ 15) : (16 * t + q).toInt = 16 * t.toInt + q.toInt := by
  rw [z_add (by rw [z_16 h0 h1]; omega) (by rw [z_16 h0 h1]; omega), z_16 h0 h1]
theorem zIx_16r {t q : Int32} (h0 : 0 ≤ t.toInt) (h1 : t.toInt ≤ 1) (h2 : 0 ≤ q.toInt) (h3 : q.toInt ≤ 15) : zIx (16 * t + q) 65 := by
  unfold zIx
  rw [z_16r h0 h1 h2 h3]
  omega
theorem zIx_64 : zIx 64 65 := ⟨by decide, by decide⟩
def foc : Int32 := 64
theorem zIx_foc : zIx foc 65 := ⟨by decide, by decide⟩
def e_Mo_slot (t q : Int32) (w : yW) : Int32 := (bif zc .eq (f_Mo_isTable t) 0 then (-1) else (bif zc .lt q 0 then (-1) else (bif zc .gt q 15 then (-1) else (bif zc .eq (w.1 55 ((16 * t) + q).toNatClampNeg) 0 then (-1) else (16 * t) + q))))
set_option maxRecDepth 100000 in
theorem r_Mo_slot {fr lo sz : Nat} {G : List zC} (t q : Int32) (w : yW)  (hlo : 42 ≤ lo) : zAns (fr + 2) lo 113 [.ref 54, .int t, .int q] (yhp w G sz) (some (.int ((e_Mo_slot t q w))), yhp w G sz) := by
  unfold e_Mo_slot
  refine zeb (fr := fr + 1) (M := M_Mo_slot) rfl (Nat.le_trans (by decide) hlo) rfl ?_
  have e0 : mL M_Mo_slot = 3 := rfl
  refine zeN (q := ((1, [(0, .ref 54), (1, .int t), (2, .int q)], [.int t]), yhp w G sz)) 1 rfl ?_
  refine zec 0 (M' := M_Mo_isTable) (qq := ([.int t], [])) (s' := (4, [(0, .ref 54), (1, .int t), (2, .int q)], [.int (f_Mo_isTable t)])) rfl rfl (fun _ => rfl) rfl rfl rfl (s_Mo_isTable t (by omega)) rfl ?_
  refine zbc (q1 := (40, [(0, .ref 54), (1, .int t), (2, .int q)], [])) (q2 := (7, [(0, .ref 54), (1, .int t), (2, .int q)], [])) (cB := zc .eq (f_Mo_isTable t) 0) (off := 36) (lv := [(0, .ref 54), (1, .int t), (2, .int q)]) (st := []) rfl rfl rfl rfl rfl (fun c4 => ?_) (fun c4 => ?_)
  · rw [c4]
    refine zeN (q := ((41, [(0, .ref 54), (1, .int t), (2, .int q)], [.int ((-1))]), yhp w G sz)) 1 rfl ?_
    exact zer rfl rfl
  · rw [c4]
    have hit := z_isT (of_decide_eq_false ((rfl : zc .eq (f_Mo_isTable t) 0 = decide (f_Mo_isTable t = 0)).symm.trans c4))
    refine zeN (q := ((8, [(0, .ref 54), (1, .int t), (2, .int q)], [.int q]), yhp w G sz)) 1 rfl ?_
    refine zbc (q1 := (40, [(0, .ref 54), (1, .int t), (2, .int q)], [])) (q2 := (11, [(0, .ref 54), (1, .int t), (2, .int q)], [])) (cB := zc .lt q 0) (off := 32) (lv := [(0, .ref 54), (1, .int t), (2, .int q)]) (st := []) rfl rfl rfl rfl rfl (fun c8 => ?_) (fun c8 => ?_)
    · rw [c8]
      refine zeN (q := ((41, [(0, .ref 54), (1, .int t), (2, .int q)], [.int ((-1))]), yhp w G sz)) 1 rfl ?_
      exact zer rfl rfl
    · rw [c8]
      have hq0 := of_decide_eq_false ((zc_lt q 0).symm.trans c8)
      refine zeN (q := ((14, [(0, .ref 54), (1, .int t), (2, .int q)], [.int 15, .int q]), yhp w G sz)) 2 rfl ?_
      refine zbc (q1 := (40, [(0, .ref 54), (1, .int t), (2, .int q)], [])) (q2 := (17, [(0, .ref 54), (1, .int t), (2, .int q)], [])) (cB := zc .gt q 15) (off := 26) (lv := [(0, .ref 54), (1, .int t), (2, .int q)]) (st := []) rfl rfl rfl rfl rfl (fun c14 => ?_) (fun c14 => ?_)
      · rw [c14]
        refine zeN (q := ((41, [(0, .ref 54), (1, .int t), (2, .int q)], [.int ((-1))]), yhp w G sz)) 1 rfl ?_
        exact zer rfl rfl
      · rw [c14]
        have hq1 := of_decide_eq_false ((zc_gt q 15).symm.trans c14)
        have hx := zIx_16r hit.1 hit.2 (show 0 ≤ q.toInt by have := z_i0; omega) (show q.toInt ≤ 15 by have : (15 : Int32).toInt = 15 := rfl; omega)
        refine zeN (q := ((18, [(0, .ref 54), (1, .int t), (2, .int q)], [.ref 54]), yhp w G sz)) 1 rfl ?_
        refine ygf (kk := .inl (.ref 55)) (v := .ref 55) rfl rfl rfl rfl rfl rfl rfl ?_
        refine zeN (q := ((27, [(0, .ref 54), (1, .int t), (2, .int q)], [.int ((16 * t) + q), .ref 55]), yhp w G sz)) 5 rfl ?_
        refine yba (N := 65) rfl rfl rfl (by assumption) ?_
        refine zbc (q1 := (40, [(0, .ref 54), (1, .int t), (2, .int q)], [])) (q2 := (31, [(0, .ref 54), (1, .int t), (2, .int q)], [])) (cB := zc .eq (w.1 55 ((16 * t) + q).toNatClampNeg) 0) (off := 12) (lv := [(0, .ref 54), (1, .int t), (2, .int q)]) (st := []) rfl rfl rfl rfl rfl (fun c28 => ?_) (fun c28 => ?_)
        · rw [c28]
          refine zeN (q := ((41, [(0, .ref 54), (1, .int t), (2, .int q)], [.int ((-1))]), yhp w G sz)) 1 rfl ?_
          exact zer rfl rfl
        · rw [c28]
          refine zeN (q := ((41, [(0, .ref 54), (1, .int t), (2, .int q)], [.int ((16 * t) + q)]), yhp w G sz)) 6 rfl ?_
          exact zer rfl rfl
theorem z_slot {t q : Int32} {w : yW} (h : ¬ (e_Mo_slot t q w).toInt < 0) : zIx (e_Mo_slot t q w) 65 ∧ ¬ w.1 55 (e_Mo_slot t q w).toNatClampNeg = 0 ∧ e_Mo_slot t q w = 16 * t + q ∧ 0 ≤ t.toInt ∧ t.toInt ≤ 1 ∧ 0 ≤ q.toInt ∧ q.toInt ≤ 15 := by
  have m1 : ¬ (-1 : Int32).toInt < 0 → False := fun h => h (by decide)
  revert h
  unfold e_Mo_slot
  cases c1 : zc .eq (f_Mo_isTable t) 0
  · have hit := z_isT (of_decide_eq_false ((rfl : zc .eq (f_Mo_isTable t) 0 = decide (f_Mo_isTable t = 0)).symm.trans c1))
    cases c2 : zc .lt q 0
    · have hq0 := of_decide_eq_false ((zc_lt q 0).symm.trans c2)
      cases c3 : zc .gt q 15
      · have hq1 := of_decide_eq_false ((zc_gt q 15).symm.trans c3)
        cases c4 : zc .eq (w.1 55 (16 * t + q).toNatClampNeg) 0
        · intro _
          have h0 : 0 ≤ q.toInt := by have := z_i0; omega
          have h15 : q.toInt ≤ 15 := by have : (15 : Int32).toInt = 15 := rfl; omega
          exact ⟨zIx_16r hit.1 hit.2 h0 h15, of_decide_eq_false c4, rfl, hit.1, hit.2, h0, h15⟩
        · intro h; exact (m1 h).elim
      · intro h; exact (m1 h).elim
    · intro h; exact (m1 h).elim
  · intro h; exact (m1 h).elim
def e_Mo_value (t q : Int32) (w : yW) : Int32 := (bif zc .ge (e_Mo_slot t q w) 0 then w.1 56 (e_Mo_slot t q w).toNatClampNeg else 0)
set_option maxRecDepth 100000 in
theorem r_Mo_value {fr lo sz : Nat} {G : List zC} (t q : Int32) (w : yW)  (hlo : 65 ≤ lo) : zAns (fr + 3) lo 141 [.ref 54, .int t, .int q] (yhp w G sz) (some (.int ((e_Mo_value t q w))), yhp w G sz) := by
  unfold e_Mo_value
  refine zeb (fr := fr + 2) (M := M_Mo_value) rfl (Nat.le_trans (by decide) hlo) rfl ?_
  have e0 : mL M_Mo_value = 4 := rfl
  refine zeN (q := ((3, [(0, .ref 54), (1, .int t), (2, .int q)], [.int q, .int t, .ref 54]), yhp w G sz)) 3 rfl ?_
  refine zec 1 (M' := M_Mo_slot) (qq := ([.ref 54, .int t, .int q], [])) (s' := (6, [(0, .ref 54), (1, .int t), (2, .int q)], [.int (e_Mo_slot t q w)])) rfl rfl (fun _ => rfl) rfl rfl (zhk rfl (zrc_ok (yhp_o rfl)) rfl) (r_Mo_slot t q _ (by omega)) rfl ?_
  refine zeN (q := ((8, [(3, .int (e_Mo_slot t q w)), (0, .ref 54), (1, .int t), (2, .int q)], [.int (e_Mo_slot t q w)]), yhp w G sz)) 2 rfl ?_
  refine zbc (q1 := (15, [(3, .int (e_Mo_slot t q w)), (0, .ref 54), (1, .int t), (2, .int q)], [])) (q2 := (11, [(3, .int (e_Mo_slot t q w)), (0, .ref 54), (1, .int t), (2, .int q)], [])) (cB := zc .ge (e_Mo_slot t q w) 0) (off := 7) (lv := [(3, .int (e_Mo_slot t q w)), (0, .ref 54), (1, .int t), (2, .int q)]) (st := []) rfl rfl rfl rfl rfl (fun c8 => ?_) (fun c8 => ?_)
  · rw [c8]
    have hsl := z_slot (t := t) (q := q) (w := w) (fun hh => absurd (of_decide_eq_true ((zc_ge (e_Mo_slot t q w) 0).symm.trans c8)) (by have := z_i0; omega))
    have hsx := hsl.1
    refine zeN (q := ((16, [(3, .int (e_Mo_slot t q w)), (0, .ref 54), (1, .int t), (2, .int q)], [.ref 54]), yhp w G sz)) 1 rfl ?_
    refine ygf (kk := .inl (.ref 56)) (v := .ref 56) rfl rfl rfl rfl rfl rfl rfl ?_
    refine zeN (q := ((20, [(3, .int (e_Mo_slot t q w)), (0, .ref 54), (1, .int t), (2, .int q)], [.int (e_Mo_slot t q w), .ref 56]), yhp w G sz)) 1 rfl ?_
    refine yia (N := 65) rfl rfl rfl (by assumption) ?_
    exact zer rfl rfl
  · rw [c8]
    refine zeN (q := ((21, [(3, .int (e_Mo_slot t q w)), (0, .ref 54), (1, .int t), (2, .int q)], [.int 0]), yhp w G sz)) 2 rfl ?_
    exact zer rfl rfl
def e_Mo_result (x : Int32) (w : yW) : Int32 := (bif zc .lt x 0 then (-1) else (bif zc .ge x (w.1 54 21) then (-1) else w.1 69 x.toNatClampNeg))
set_option maxRecDepth 100000 in
theorem r_Mo_result {fr lo sz : Nat} {G : List zC} (x : Int32) (w : yW) (hr : (w.1 54 21).toInt ≤ 256) (hlo : 21 ≤ lo) : zAns (fr + 1) lo 138 [.ref 54, .int x] (yhp w G sz) (some (.int ((e_Mo_result x w))), yhp w G sz) := by
  unfold e_Mo_result
  refine zeb (fr := fr + 0) (M := M_Mo_result) rfl (Nat.le_trans (by decide) hlo) rfl ?_
  have e0 : mL M_Mo_result = 2 := rfl
  refine zeN (q := ((1, [(0, .ref 54), (1, .int x)], [.int x]), yhp w G sz)) 1 rfl ?_
  refine zbc (q1 := (21, [(0, .ref 54), (1, .int x)], [])) (q2 := (4, [(0, .ref 54), (1, .int x)], [])) (cB := zc .lt x 0) (off := 20) (lv := [(0, .ref 54), (1, .int x)]) (st := []) rfl rfl rfl rfl rfl (fun c1 => ?_) (fun c1 => ?_)
  · rw [c1]
    refine zeN (q := ((22, [(0, .ref 54), (1, .int x)], [.int ((-1))]), yhp w G sz)) 1 rfl ?_
    exact zer rfl rfl
  · rw [c1]
    refine zeN (q := ((6, [(0, .ref 54), (1, .int x)], [.ref 54, .int x]), yhp w G sz)) 2 rfl ?_
    refine ygf (kk := .inr 0) (v := .int (w.1 54 21)) rfl rfl rfl rfl rfl rfl rfl ?_
    refine zbc (q1 := (21, [(0, .ref 54), (1, .int x)], [])) (q2 := (12, [(0, .ref 54), (1, .int x)], [])) (cB := zc .ge x (w.1 54 21)) (off := 12) (lv := [(0, .ref 54), (1, .int x)]) (st := []) rfl rfl rfl rfl rfl (fun c9 => ?_) (fun c9 => ?_)
    · rw [c9]
      refine zeN (q := ((22, [(0, .ref 54), (1, .int x)], [.int ((-1))]), yhp w G sz)) 1 rfl ?_
      exact zer rfl rfl
    · rw [c9]
      have a1 := of_decide_eq_false ((zc_lt x 0).symm.trans c1)
      have a2 := of_decide_eq_false (z_ge c9).symm
      have hx : zIx x 256 := ⟨by have := z_i0; omega, by omega⟩
      refine zeN (q := ((13, [(0, .ref 54), (1, .int x)], [.ref 54]), yhp w G sz)) 1 rfl ?_
      refine ygf (kk := .inl (.ref 69)) (v := .ref 69) rfl rfl rfl rfl rfl rfl rfl ?_
      refine zeN (q := ((17, [(0, .ref 54), (1, .int x)], [.int x, .ref 69]), yhp w G sz)) 1 rfl ?_
      refine yia (N := 256) rfl rfl rfl (by assumption) ?_
      refine zeN (q := ((22, [(0, .ref 54), (1, .int x)], [.int (w.1 69 x.toNatClampNeg)]), yhp w G sz)) 1 rfl ?_
      exact zer rfl rfl
def e_Mo_reads  (w : yW) : Int32 := w.1 54 22
set_option maxRecDepth 100000 in
theorem r_Mo_reads {fr lo sz : Nat} {G : List zC}  (w : yW)  (hlo : 20 ≤ lo) : zAns (fr + 1) lo 139 [.ref 54] (yhp w G sz) (some (.int ((e_Mo_reads  w))), yhp w G sz) := by
  unfold e_Mo_reads
  refine zeb (fr := fr + 0) (M := M_Mo_reads) rfl (Nat.le_trans (by decide) hlo) rfl ?_
  have e0 : mL M_Mo_reads = 1 := rfl
  refine zeN (q := ((1, [(0, .ref 54)], [.ref 54]), yhp w G sz)) 1 rfl ?_
  refine ygf (kk := .inr 0) (v := .int (w.1 54 22)) rfl rfl rfl rfl rfl rfl rfl ?_
  exact zer rfl rfl
def e_Mo_frame (x : Int32) (w : yW) : Int32 := (bif zc .lt x 0 then (-1) else (bif zc .gt x 8 then (-1) else w.1 70 x.toNatClampNeg))
set_option maxRecDepth 100000 in
theorem r_Mo_frame {fr lo sz : Nat} {G : List zC} (x : Int32) (w : yW)  (hlo : 21 ≤ lo) : zAns (fr + 1) lo 153 [.ref 54, .int x] (yhp w G sz) (some (.int ((e_Mo_frame x w))), yhp w G sz) := by
  unfold e_Mo_frame
  refine zeb (fr := fr + 0) (M := M_Mo_frame) rfl (Nat.le_trans (by decide) hlo) rfl ?_
  have e0 : mL M_Mo_frame = 2 := rfl
  refine zeN (q := ((1, [(0, .ref 54), (1, .int x)], [.int x]), yhp w G sz)) 1 rfl ?_
  refine zbc (q1 := (19, [(0, .ref 54), (1, .int x)], [])) (q2 := (4, [(0, .ref 54), (1, .int x)], [])) (cB := zc .lt x 0) (off := 18) (lv := [(0, .ref 54), (1, .int x)]) (st := []) rfl rfl rfl rfl rfl (fun c1 => ?_) (fun c1 => ?_)
  · rw [c1]
    refine zeN (q := ((20, [(0, .ref 54), (1, .int x)], [.int ((-1))]), yhp w G sz)) 1 rfl ?_
    exact zer rfl rfl
  · rw [c1]
    refine zeN (q := ((7, [(0, .ref 54), (1, .int x)], [.int 8, .int x]), yhp w G sz)) 2 rfl ?_
    refine zbc (q1 := (19, [(0, .ref 54), (1, .int x)], [])) (q2 := (10, [(0, .ref 54), (1, .int x)], [])) (cB := zc .gt x 8) (off := 12) (lv := [(0, .ref 54), (1, .int x)]) (st := []) rfl rfl rfl rfl rfl (fun c7 => ?_) (fun c7 => ?_)
    · rw [c7]
      refine zeN (q := ((20, [(0, .ref 54), (1, .int x)], [.int ((-1))]), yhp w G sz)) 1 rfl ?_
      exact zer rfl rfl
    · rw [c7]
      have a1 := of_decide_eq_false ((zc_lt x 0).symm.trans c1)
      have a2 := of_decide_eq_false ((zc_gt x 8).symm.trans c7)
      have hx : zIx x 9 := ⟨by have := z_i0; omega, by have : (8 : Int32).toInt = 8 := rfl; omega⟩
      refine zeN (q := ((11, [(0, .ref 54), (1, .int x)], [.ref 54]), yhp w G sz)) 1 rfl ?_
      refine ygf (kk := .inl (.ref 70)) (v := .ref 70) rfl rfl rfl rfl rfl rfl rfl ?_
      refine zeN (q := ((15, [(0, .ref 54), (1, .int x)], [.int x, .ref 70]), yhp w G sz)) 1 rfl ?_
      refine yia (N := 9) rfl rfl rfl (by assumption) ?_
      refine zeN (q := ((20, [(0, .ref 54), (1, .int x)], [.int (w.1 70 x.toNatClampNeg)]), yhp w G sz)) 1 rfl ?_
      exact zer rfl rfl
def e_Mo_nearer (a b : Int32) (w : yW) : Int32 := (bif zc .lt (lg_cmp ((w.2.1 67 a.toNatClampNeg) * (w.2.1 68 b.toNatClampNeg)) ((w.2.1 67 b.toNatClampNeg) * (w.2.1 68 a.toNatClampNeg))) 0 then 1 else (bif zc .ne (lg_cmp ((w.2.1 67 a.toNatClampNeg) * (w.2.1 68 b.toNatClampNeg)) ((w.2.1 67 b.toNatClampNeg) * (w.2.1 68 a.toNatClampNeg))) 0 then 0 else (bif zc .ge a b then 0 else 1)))
set_option maxRecDepth 100000 in
theorem r_Mo_nearer {fr lo sz : Nat} {G : List zC} (a b : Int32) (w : yW) (ha : zIx a 16) (hb : zIx b 16) (hlo : 26 ≤ lo) : zAns (fr + 1) lo 136 [.ref 54, .int a, .int b] (yhp w G sz) (some (.int ((e_Mo_nearer a b w))), yhp w G sz) := by
  unfold e_Mo_nearer
  refine zeb (fr := fr + 0) (M := M_Mo_nearer) rfl (Nat.le_trans (by decide) hlo) rfl ?_
  have e0 : mL M_Mo_nearer = 7 := rfl
  refine zeN (q := ((1, [(0, .ref 54), (1, .int a), (2, .int b)], [.ref 54]), yhp w G sz)) 1 rfl ?_
  refine ygf (kk := .inl (.ref 67)) (v := .ref 67) rfl rfl rfl rfl rfl rfl rfl ?_
  refine zeN (q := ((5, [(0, .ref 54), (1, .int a), (2, .int b)], [.int a, .ref 67]), yhp w G sz)) 1 rfl ?_
  refine yla (N := 16) rfl rfl rfl (by assumption) ?_
  refine zeN (q := ((7, [(0, .ref 54), (1, .int a), (2, .int b)], [.ref 54, .long (w.2.1 67 a.toNatClampNeg)]), yhp w G sz)) 1 rfl ?_
  refine ygf (kk := .inl (.ref 68)) (v := .ref 68) rfl rfl rfl rfl rfl rfl rfl ?_
  refine zeN (q := ((11, [(0, .ref 54), (1, .int a), (2, .int b)], [.int b, .ref 68, .long (w.2.1 67 a.toNatClampNeg)]), yhp w G sz)) 1 rfl ?_
  refine yla (N := 16) rfl rfl rfl (by assumption) ?_
  refine zeN (q := ((15, [(3, .long ((w.2.1 67 a.toNatClampNeg) * (w.2.1 68 b.toNatClampNeg))), (0, .ref 54), (1, .int a), (2, .int b)], [.ref 54]), yhp w G sz)) 3 rfl ?_
  refine ygf (kk := .inl (.ref 67)) (v := .ref 67) rfl rfl rfl rfl rfl rfl rfl ?_
  refine zeN (q := ((19, [(3, .long ((w.2.1 67 a.toNatClampNeg) * (w.2.1 68 b.toNatClampNeg))), (0, .ref 54), (1, .int a), (2, .int b)], [.int b, .ref 67]), yhp w G sz)) 1 rfl ?_
  refine yla (N := 16) rfl rfl rfl (by assumption) ?_
  refine zeN (q := ((21, [(3, .long ((w.2.1 67 a.toNatClampNeg) * (w.2.1 68 b.toNatClampNeg))), (0, .ref 54), (1, .int a), (2, .int b)], [.ref 54, .long (w.2.1 67 b.toNatClampNeg)]), yhp w G sz)) 1 rfl ?_
  refine ygf (kk := .inl (.ref 68)) (v := .ref 68) rfl rfl rfl rfl rfl rfl rfl ?_
  refine zeN (q := ((25, [(3, .long ((w.2.1 67 a.toNatClampNeg) * (w.2.1 68 b.toNatClampNeg))), (0, .ref 54), (1, .int a), (2, .int b)], [.int a, .ref 68, .long (w.2.1 67 b.toNatClampNeg)]), yhp w G sz)) 1 rfl ?_
  refine yla (N := 16) rfl rfl rfl (by assumption) ?_
  refine zeN (q := ((33, [(5, .long ((w.2.1 67 b.toNatClampNeg) * (w.2.1 68 a.toNatClampNeg))), (3, .long ((w.2.1 67 a.toNatClampNeg) * (w.2.1 68 b.toNatClampNeg))), (0, .ref 54), (1, .int a), (2, .int b)], [.int (lg_cmp ((w.2.1 67 a.toNatClampNeg) * (w.2.1 68 b.toNatClampNeg)) ((w.2.1 67 b.toNatClampNeg) * (w.2.1 68 a.toNatClampNeg)))]), yhp w G sz)) 5 rfl ?_
  refine zbc (q1 := (48, [(5, .long ((w.2.1 67 b.toNatClampNeg) * (w.2.1 68 a.toNatClampNeg))), (3, .long ((w.2.1 67 a.toNatClampNeg) * (w.2.1 68 b.toNatClampNeg))), (0, .ref 54), (1, .int a), (2, .int b)], [])) (q2 := (36, [(5, .long ((w.2.1 67 b.toNatClampNeg) * (w.2.1 68 a.toNatClampNeg))), (3, .long ((w.2.1 67 a.toNatClampNeg) * (w.2.1 68 b.toNatClampNeg))), (0, .ref 54), (1, .int a), (2, .int b)], [])) (cB := zc .lt (lg_cmp ((w.2.1 67 a.toNatClampNeg) * (w.2.1 68 b.toNatClampNeg)) ((w.2.1 67 b.toNatClampNeg) * (w.2.1 68 a.toNatClampNeg))) 0) (off := 15) (lv := [(5, .long ((w.2.1 67 b.toNatClampNeg) * (w.2.1 68 a.toNatClampNeg))), (3, .long ((w.2.1 67 a.toNatClampNeg) * (w.2.1 68 b.toNatClampNeg))), (0, .ref 54), (1, .int a), (2, .int b)]) (st := []) rfl rfl rfl rfl rfl (fun c33 => ?_) (fun c33 => ?_)
  · rw [c33]
    refine zeN (q := ((53, [(5, .long ((w.2.1 67 b.toNatClampNeg) * (w.2.1 68 a.toNatClampNeg))), (3, .long ((w.2.1 67 a.toNatClampNeg) * (w.2.1 68 b.toNatClampNeg))), (0, .ref 54), (1, .int a), (2, .int b)], [.int 1]), yhp w G sz)) 2 rfl ?_
    exact zer rfl rfl
  · rw [c33]
    refine zeN (q := ((40, [(5, .long ((w.2.1 67 b.toNatClampNeg) * (w.2.1 68 a.toNatClampNeg))), (3, .long ((w.2.1 67 a.toNatClampNeg) * (w.2.1 68 b.toNatClampNeg))), (0, .ref 54), (1, .int a), (2, .int b)], [.int (lg_cmp ((w.2.1 67 a.toNatClampNeg) * (w.2.1 68 b.toNatClampNeg)) ((w.2.1 67 b.toNatClampNeg) * (w.2.1 68 a.toNatClampNeg)))]), yhp w G sz)) 3 rfl ?_
    refine zbc (q1 := (52, [(5, .long ((w.2.1 67 b.toNatClampNeg) * (w.2.1 68 a.toNatClampNeg))), (3, .long ((w.2.1 67 a.toNatClampNeg) * (w.2.1 68 b.toNatClampNeg))), (0, .ref 54), (1, .int a), (2, .int b)], [])) (q2 := (43, [(5, .long ((w.2.1 67 b.toNatClampNeg) * (w.2.1 68 a.toNatClampNeg))), (3, .long ((w.2.1 67 a.toNatClampNeg) * (w.2.1 68 b.toNatClampNeg))), (0, .ref 54), (1, .int a), (2, .int b)], [])) (cB := zc .ne (lg_cmp ((w.2.1 67 a.toNatClampNeg) * (w.2.1 68 b.toNatClampNeg)) ((w.2.1 67 b.toNatClampNeg) * (w.2.1 68 a.toNatClampNeg))) 0) (off := 12) (lv := [(5, .long ((w.2.1 67 b.toNatClampNeg) * (w.2.1 68 a.toNatClampNeg))), (3, .long ((w.2.1 67 a.toNatClampNeg) * (w.2.1 68 b.toNatClampNeg))), (0, .ref 54), (1, .int a), (2, .int b)]) (st := []) rfl rfl rfl rfl rfl (fun c40 => ?_) (fun c40 => ?_)
    · rw [c40]
      refine zeN (q := ((53, [(5, .long ((w.2.1 67 b.toNatClampNeg) * (w.2.1 68 a.toNatClampNeg))), (3, .long ((w.2.1 67 a.toNatClampNeg) * (w.2.1 68 b.toNatClampNeg))), (0, .ref 54), (1, .int a), (2, .int b)], [.int 0]), yhp w G sz)) 1 rfl ?_
      exact zer rfl rfl
    · rw [c40]
      refine zeN (q := ((45, [(5, .long ((w.2.1 67 b.toNatClampNeg) * (w.2.1 68 a.toNatClampNeg))), (3, .long ((w.2.1 67 a.toNatClampNeg) * (w.2.1 68 b.toNatClampNeg))), (0, .ref 54), (1, .int a), (2, .int b)], [.int b, .int a]), yhp w G sz)) 2 rfl ?_
      refine zbc (q1 := (52, [(5, .long ((w.2.1 67 b.toNatClampNeg) * (w.2.1 68 a.toNatClampNeg))), (3, .long ((w.2.1 67 a.toNatClampNeg) * (w.2.1 68 b.toNatClampNeg))), (0, .ref 54), (1, .int a), (2, .int b)], [])) (q2 := (48, [(5, .long ((w.2.1 67 b.toNatClampNeg) * (w.2.1 68 a.toNatClampNeg))), (3, .long ((w.2.1 67 a.toNatClampNeg) * (w.2.1 68 b.toNatClampNeg))), (0, .ref 54), (1, .int a), (2, .int b)], [])) (cB := zc .ge a b) (off := 7) (lv := [(5, .long ((w.2.1 67 b.toNatClampNeg) * (w.2.1 68 a.toNatClampNeg))), (3, .long ((w.2.1 67 a.toNatClampNeg) * (w.2.1 68 b.toNatClampNeg))), (0, .ref 54), (1, .int a), (2, .int b)]) (st := []) rfl rfl rfl rfl rfl (fun c45 => ?_) (fun c45 => ?_)
      · rw [c45]
        refine zeN (q := ((53, [(5, .long ((w.2.1 67 b.toNatClampNeg) * (w.2.1 68 a.toNatClampNeg))), (3, .long ((w.2.1 67 a.toNatClampNeg) * (w.2.1 68 b.toNatClampNeg))), (0, .ref 54), (1, .int a), (2, .int b)], [.int 0]), yhp w G sz)) 1 rfl ?_
        exact zer rfl rfl
      · rw [c45]
        refine zeN (q := ((53, [(5, .long ((w.2.1 67 b.toNatClampNeg) * (w.2.1 68 a.toNatClampNeg))), (3, .long ((w.2.1 67 a.toNatClampNeg) * (w.2.1 68 b.toNatClampNeg))), (0, .ref 54), (1, .int a), (2, .int b)], [.int 1]), yhp w G sz)) 2 rfl ?_
        exact zer rfl rfl
def g_Mo_rows_13 (t : Int32) (w : yW) : Nat → Int32 → Int32 → Int32
  | 0, c, q => c
  | n + 1, c, q => (bif zc .ge q 16 then c else (bif zc .eq (w.1 55 ((16 * t) + q).toNatClampNeg) 0 then g_Mo_rows_13 t w n  c (q + Int32.ofInt 1) else g_Mo_rows_13 t w n  (c ||| (1 <<< (q &&& 31))) (q + Int32.ofInt 1)))
set_option maxRecDepth 100000 in
theorem t_Mo_rows_13 {fr lo sz : Nat} {r : Option Value × zH} {G : List zC} (t : Int32) (w : yW) (ht0 : 0 ≤ t.toInt) (ht1 : t.toInt ≤ 1) (hlo : 20 ≤ lo) : ∀ (n : Nat) (c : Int32) (q : Int32) (h0 : 0 ≤ q.toInt) (h1 : q.toInt ≤ 16) (hn : 16 < q.toInt + n) (k : zRun (fr + 1) lo none M_Mo_rows (49, [(0, .ref 54), (1, .int t), (2, .int ((g_Mo_rows_13 t w n c q)))], []) (yhp w G sz) r), zRun (fr + 1) lo none M_Mo_rows (13, [(0, .ref 54), (1, .int t), (2, .int c), (3, .int q)], []) (yhp w G sz) r := by
  intro n
  induction n with
  | zero => intro c q h0 h1 hn k; exfalso; omega
  | succ n ih =>
    intro c q h0 h1 hn k
    rw [g_Mo_rows_13] at k
    refine zeN (q := ((16, [(0, .ref 54), (1, .int t), (2, .int c), (3, .int q)], [.int 16, .int q]), yhp w G sz)) 2 rfl ?_
    refine zbc (q1 := (49, [(0, .ref 54), (1, .int t), (2, .int c), (3, .int q)], [])) (q2 := (19, [(0, .ref 54), (1, .int t), (2, .int c), (3, .int q)], [])) (cB := zc .ge q 16) (off := 33) (lv := [(0, .ref 54), (1, .int t), (2, .int c), (3, .int q)]) (st := []) rfl rfl rfl rfl rfl (fun c16 => ?_) (fun c16 => ?_)
    · rw [c16] at k
      refine zeS [(0, .ref 54), (1, .int t), (2, .int c)] (zsub_pick [0, 1, 2] rfl rfl) ?_
      exact k
    · rw [c16] at k
      have hcc : ¬ (16 : Int) ≤ q.toInt := of_decide_eq_false (z_ge c16).symm
      have hx := zIx_16r ht0 ht1 h0 (show q.toInt ≤ 15 by omega)
      have hi1 := z_inc (a := q) (by omega) (by omega)
      refine zeN (q := ((20, [(0, .ref 54), (1, .int t), (2, .int c), (3, .int q)], [.ref 54]), yhp w G sz)) 1 rfl ?_
      refine ygf (kk := .inl (.ref 55)) (v := .ref 55) rfl rfl rfl rfl rfl rfl rfl ?_
      refine zeN (q := ((29, [(0, .ref 54), (1, .int t), (2, .int c), (3, .int q)], [.int ((16 * t) + q), .ref 55]), yhp w G sz)) 5 rfl ?_
      refine yba (N := 65) rfl rfl rfl (by assumption) ?_
      refine zbc (q1 := (41, [(0, .ref 54), (1, .int t), (2, .int c), (3, .int q)], [])) (q2 := (33, [(0, .ref 54), (1, .int t), (2, .int c), (3, .int q)], [])) (cB := zc .eq (w.1 55 ((16 * t) + q).toNatClampNeg) 0) (off := 11) (lv := [(0, .ref 54), (1, .int t), (2, .int c), (3, .int q)]) (st := []) rfl rfl rfl rfl rfl (fun c30 => ?_) (fun c30 => ?_)
      · rw [c30] at k
        refine zeN (q := ((13, [(3, .int (q + Int32.ofInt 1)), (2, .int c), (0, .ref 54), (1, .int t)], []), yhp w G sz)) 4 rfl ?_
        refine zeS [(0, .ref 54), (1, .int t), (2, .int c), (3, .int (q + Int32.ofInt 1))] (zsub_pick [2, 3, 1, 0] rfl rfl) ?_
        exact ih  c (q + Int32.ofInt 1) (by omega) (by omega) (by omega) k
      · rw [c30] at k
        refine zeN (q := ((13, [(3, .int (q + Int32.ofInt 1)), (2, .int (c ||| (1 <<< (q &&& 31)))), (0, .ref 54), (1, .int t)], []), yhp w G sz)) 9 rfl ?_
        refine zeS [(0, .ref 54), (1, .int t), (2, .int (c ||| (1 <<< (q &&& 31)))), (3, .int (q + Int32.ofInt 1))] (zsub_pick [2, 3, 1, 0] rfl rfl) ?_
        exact ih  (c ||| (1 <<< (q &&& 31))) (q + Int32.ofInt 1) (by omega) (by omega) (by omega) k
def e_Mo_rows (t : Int32) (w : yW) : Int32 := (bif zc .ne (f_Mo_isTable t) 0 then (g_Mo_rows_13 t w 17 0 0) else (-1))
set_option maxRecDepth 100000 in
theorem r_Mo_rows {fr lo sz : Nat} {G : List zC} (t : Int32) (w : yW)  (hlo : 43 ≤ lo) : zAns (fr + 2) lo 142 [.ref 54, .int t] (yhp w G sz) (some (.int ((e_Mo_rows t w))), yhp w G sz) := by
  unfold e_Mo_rows
  refine zeb (fr := fr + 1) (M := M_Mo_rows) rfl (Nat.le_trans (by decide) hlo) rfl ?_
  have e0 : mL M_Mo_rows = 4 := rfl
  refine zeN (q := ((1, [(0, .ref 54), (1, .int t)], [.int t]), yhp w G sz)) 1 rfl ?_
  refine zec 0 (M' := M_Mo_isTable) (qq := ([.int t], [])) (s' := (4, [(0, .ref 54), (1, .int t)], [.int (f_Mo_isTable t)])) rfl rfl (fun _ => rfl) rfl rfl rfl (s_Mo_isTable t (by omega)) rfl ?_
  refine zbc (q1 := (9, [(0, .ref 54), (1, .int t)], [])) (q2 := (7, [(0, .ref 54), (1, .int t)], [])) (cB := zc .ne (f_Mo_isTable t) 0) (off := 5) (lv := [(0, .ref 54), (1, .int t)]) (st := []) rfl rfl rfl rfl rfl (fun c4 => ?_) (fun c4 => ?_)
  · rw [c4]
    have hit := z_isT (of_decide_eq_true ((rfl : zc .ne (f_Mo_isTable t) 0 = decide (¬ f_Mo_isTable t = 0)).symm.trans c4))
    refine zeN (q := ((13, [(3, .int 0), (2, .int 0), (0, .ref 54), (1, .int t)], []), yhp w G sz)) 4 rfl ?_
    have ht0 := hit.1
    have ht1 := hit.2
    refine zeS [(0, .ref 54), (1, .int t), (2, .int 0), (3, .int 0)] (zsub_pick [2, 3, 1, 0] rfl rfl) ?_
    refine t_Mo_rows_13 t w ht0 ht1 (by omega) 17  0 0 (by decide) (by decide) (by decide) ?_
    refine zeN (q := ((50, [(0, .ref 54), (1, .int t), (2, .int ((g_Mo_rows_13 t w 17 0 0)))], [.int ((g_Mo_rows_13 t w 17 0 0))]), yhp w G sz)) 1 rfl ?_
    exact zer rfl rfl
  · rw [c4]
    refine zeN (q := ((8, [(0, .ref 54), (1, .int t)], [.int ((-1))]), yhp w G sz)) 1 rfl ?_
    exact zer rfl rfl
def e_Mo_searchReads (p tb li : Int32) (w : yW) : yW × Int32 := (bif zc .gt ((e_Mo_size tb w).2) 4 then ((e_Mo_readBy p tb li.toInt64 1 w).1, (e_Mo_readBy p tb li.toInt64 1 w).2) else (w, (e_Mo_size tb w).2))
set_option maxRecDepth 100000 in
theorem r_Mo_searchReads {fr lo sz : Nat} {G : List zC} (p tb li : Int32) (w : yW) (hp : zIx p 65) (ht0 : 0 ≤ tb.toInt) (ht1 : tb.toInt ≤ 1) (hM : yM w) (hlo : 122 ≤ lo) : zAns (fr + 5) lo 126 [.ref 54, .int p, .int tb, .int li] (yhp w G sz) (some (.int ((e_Mo_searchReads p tb li w).2)), yhp ((e_Mo_searchReads p tb li w).1) G sz) := by
  unfold e_Mo_searchReads
  refine zeb (fr := fr + 4) (M := M_Mo_searchReads) rfl (Nat.le_trans (by decide) hlo) rfl ?_
  have e0 : mL M_Mo_searchReads = 5 := rfl
  refine zeN (q := ((2, [(0, .ref 54), (1, .int p), (2, .int tb), (3, .int li)], [.int tb, .ref 54]), yhp w G sz)) 2 rfl ?_
  refine zec 1 (M' := M_Mo_size) (qq := ([.ref 54, .int tb], [])) (s' := (5, [(0, .ref 54), (1, .int p), (2, .int tb), (3, .int li)], [.int ((e_Mo_size tb w).2)])) rfl rfl (fun _ => rfl) rfl rfl (zhk rfl (zrc_ok (yhp_o rfl)) rfl) (p_Mo_size tb ht0 ht1 (by omega)) rfl ?_
  refine zeN (q := ((10, [(4, .int ((e_Mo_size tb w).2)), (0, .ref 54), (1, .int p), (2, .int tb), (3, .int li)], [.int 4, .int ((e_Mo_size tb w).2)]), yhp w G sz)) 3 rfl ?_
  refine zbc (q1 := (18, [(4, .int ((e_Mo_size tb w).2)), (0, .ref 54), (1, .int p), (2, .int tb), (3, .int li)], [])) (q2 := (13, [(4, .int ((e_Mo_size tb w).2)), (0, .ref 54), (1, .int p), (2, .int tb), (3, .int li)], [])) (cB := zc .gt ((e_Mo_size tb w).2) 4) (off := 8) (lv := [(4, .int ((e_Mo_size tb w).2)), (0, .ref 54), (1, .int p), (2, .int tb), (3, .int li)]) (st := []) rfl rfl rfl rfl rfl (fun c10 => ?_) (fun c10 => ?_)
  · rw [c10]
    refine zeN (q := ((24, [(4, .int ((e_Mo_size tb w).2)), (0, .ref 54), (1, .int p), (2, .int tb), (3, .int li)], [.long 1, .long li.toInt64, .int tb, .int p, .ref 54]), yhp w G sz)) 6 rfl ?_
    refine zec 1 (M' := M_Mo_readBy) (qq := ([.ref 54, .int p, .int tb, .long li.toInt64, .long 1], [])) (s' := (27, [(4, .int ((e_Mo_size tb w).2)), (0, .ref 54), (1, .int p), (2, .int tb), (3, .int li)], [.int ((e_Mo_readBy p tb li.toInt64 1 w).2)])) rfl rfl (fun _ => rfl) rfl rfl (zhk rfl (zrc_ok (yhp_o rfl)) rfl) (r_Mo_readBy p tb li.toInt64 1 _ hp ht0 ht1 hM (by omega)) rfl ?_
    exact zer rfl rfl
  · rw [c10]
    refine zeN (q := ((27, [(4, .int ((e_Mo_size tb w).2)), (0, .ref 54), (1, .int p), (2, .int tb), (3, .int li)], [.int ((e_Mo_size tb w).2)]), yhp w G sz)) 2 rfl ?_
    exact zer rfl rfl
set_option maxRecDepth 100000 in
theorem kf_Mo_searchReads (p tb li : Int32) (w : yW)  : yK [(54, some 17), (54, some 18), (54, some 19), (54, some 20)] w (e_Mo_searchReads p tb li w ).1 := by unfold e_Mo_searchReads; exact (yK_if1 (yK_p (yK_tr yK_rfl (yK_mono rfl (kf_Mo_readBy ..)))) (yK_p yK_rfl))
def e_Mo_nodes (t : Int32) (w : yW) : yW × Int32 := (bif zc .ne (f_Mo_isTable t) 0 then ((e_Mo_readBy 64 t 0 0 w).1, ((e_Mo_readBy 64 t 0 0 w).2) - ((e_Mo_size t ((e_Mo_readBy 64 t 0 0 w).1)).2)) else (w, (-1)))
set_option maxRecDepth 100000 in
theorem r_Mo_nodes {fr lo sz : Nat} {G : List zC} (t : Int32) (w : yW) (hM : yM w) (hlo : 120 ≤ lo) : zAns (fr + 5) lo 143 [.ref 54, .int t] (yhp w G sz) (some (.int ((e_Mo_nodes t w).2)), yhp ((e_Mo_nodes t w).1) G sz) := by
  unfold e_Mo_nodes
  refine zeb (fr := fr + 4) (M := M_Mo_nodes) rfl (Nat.le_trans (by decide) hlo) rfl ?_
  have e0 : mL M_Mo_nodes = 3 := rfl
  refine zeN (q := ((1, [(0, .ref 54), (1, .int t)], [.int t]), yhp w G sz)) 1 rfl ?_
  refine zec 0 (M' := M_Mo_isTable) (qq := ([.int t], [])) (s' := (4, [(0, .ref 54), (1, .int t)], [.int (f_Mo_isTable t)])) rfl rfl (fun _ => rfl) rfl rfl rfl (s_Mo_isTable t (by omega)) rfl ?_
  refine zbc (q1 := (9, [(0, .ref 54), (1, .int t)], [])) (q2 := (7, [(0, .ref 54), (1, .int t)], [])) (cB := zc .ne (f_Mo_isTable t) 0) (off := 5) (lv := [(0, .ref 54), (1, .int t)]) (st := []) rfl rfl rfl rfl rfl (fun c4 => ?_) (fun c4 => ?_)
  · rw [c4]
    have hit := z_isT (of_decide_eq_true ((rfl : zc .ne (f_Mo_isTable t) 0 = decide (¬ f_Mo_isTable t = 0)).symm.trans c4))
    have ht0 := hit.1
    have ht1 := hit.2
    have hp := zIx_64
    refine zeN (q := ((15, [(0, .ref 54), (1, .int t)], [.long 0, .long 0, .int t, .int 64, .ref 54]), yhp w G sz)) 5 rfl ?_
    refine zec 1 (M' := M_Mo_readBy) (qq := ([.ref 54, .int 64, .int t, .long 0, .long 0], [])) (s' := (18, [(0, .ref 54), (1, .int t)], [.int ((e_Mo_readBy 64 t 0 0 w).2)])) rfl rfl (fun _ => rfl) rfl rfl (zhk rfl (zrc_ok (yhp_o rfl)) rfl) (r_Mo_readBy 64 t 0 0 _ hp ht0 ht1 hM (by omega)) rfl ?_
    refine zeN (q := ((22, [(2, .int ((e_Mo_readBy 64 t 0 0 w).2)), (0, .ref 54), (1, .int t)], [.int t, .ref 54, .int ((e_Mo_readBy 64 t 0 0 w).2)]), yhp ((e_Mo_readBy 64 t 0 0 w).1) G sz)) 4 rfl ?_
    refine zec 1 (M' := M_Mo_size) (qq := ([.ref 54, .int t], [.int ((e_Mo_readBy 64 t 0 0 w).2)])) (s' := (25, [(2, .int ((e_Mo_readBy 64 t 0 0 w).2)), (0, .ref 54), (1, .int t)], [.int ((e_Mo_size t ((e_Mo_readBy 64 t 0 0 w).1)).2), .int ((e_Mo_readBy 64 t 0 0 w).2)])) rfl rfl (fun _ => rfl) rfl rfl (zhk rfl (zrc_ok (yhp_o rfl)) rfl) (p_Mo_size t ht0 ht1 (by omega)) rfl ?_
    refine zeN (q := ((26, [(2, .int ((e_Mo_readBy 64 t 0 0 w).2)), (0, .ref 54), (1, .int t)], [.int (((e_Mo_readBy 64 t 0 0 w).2) - ((e_Mo_size t ((e_Mo_readBy 64 t 0 0 w).1)).2))]), yhp ((e_Mo_readBy 64 t 0 0 w).1) G sz)) 1 rfl ?_
    exact zer rfl rfl
  · rw [c4]
    refine zeN (q := ((8, [(0, .ref 54), (1, .int t)], [.int ((-1))]), yhp w G sz)) 1 rfl ?_
    exact zer rfl rfl
set_option maxRecDepth 100000 in
theorem kf_Mo_nodes (t : Int32) (w : yW)  : yK [(54, some 17), (54, some 18), (54, some 19), (54, some 20)] w (e_Mo_nodes t w ).1 := by unfold e_Mo_nodes; exact (yK_if1 (yK_p (yK_tr yK_rfl (yK_mono rfl (kf_Mo_readBy ..)))) (yK_p yK_rfl))
def g_Mo_measure_30  (w : yW)  : yW × Int32 := (w, ((w.2.1 54 13) / (w.2.1 54 14)).toInt32)
set_option maxRecDepth 100000 in
theorem t_Mo_measure_30 {fr lo sz : Nat} {G : List zC}  (w : yW)  (hnz : ¬ w.2.1 54 14 = 0) (hlo : 161 ≤ lo)  : zRun (fr + 6) lo none M_Mo_measure (30, [(0, .ref 54)], []) (yhp w G sz) (some (.int ((g_Mo_measure_30  w ).2)), yhp ((g_Mo_measure_30  w ).1) G sz) := by
  unfold g_Mo_measure_30
  refine zeN (q := ((31, [(0, .ref 54)], [.ref 54]), yhp w G sz)) 1 rfl ?_
  refine ygf (kk := .inr 1) (v := .long (w.2.1 54 13)) rfl rfl rfl rfl rfl rfl rfl ?_
  refine zeN (q := ((35, [(0, .ref 54)], [.ref 54, .long (w.2.1 54 13)]), yhp w G sz)) 1 rfl ?_
  refine ygf (kk := .inr 1) (v := .long (w.2.1 54 14)) rfl rfl rfl rfl rfl rfl rfl ?_
  refine zedl rfl rfl hnz ?_
  refine zeN (q := ((40, [(0, .ref 54)], [.int (((w.2.1 54 13) / (w.2.1 54 14)).toInt32)]), yhp w G sz)) 1 rfl ?_
  exact zer rfl rfl
set_option maxRecDepth 100000 in
theorem kf_Mo_measure_30  (w : yW)  : yK [(54, some 13), (54, some 14)] w (g_Mo_measure_30  w ).1 := by unfold g_Mo_measure_30; exact (yK_p yK_rfl)
def e_Mo_measure (t q : Int32) (w : yW) : yW × Int32 := (bif zc .lt (e_Mo_slot t q w) 0 then (w, (-1)) else (bif zc .ne (w.1 55 (64 : Int32).toNatClampNeg) 0 then g_Mo_measure_30   (e_Mo_measureOut foc (e_Mo_slot t q w) w)  else (w, (-1))))
set_option maxRecDepth 100000 in
theorem r_Mo_measure {fr lo sz : Nat} {G : List zC} (t q : Int32) (w : yW) (hM : yM w) (hnzz : ∀ u : Int32, zIx u 65 → ¬ w.1 55 u.toNatClampNeg = 0 → ¬ (e_Mo_measureOut foc u w).2.1 54 14 = 0) (hlo : 184 ≤ lo) : zAns (fr + 7) lo 140 [.ref 54, .int t, .int q] (yhp w G sz) (some (.int ((e_Mo_measure t q w).2)), yhp ((e_Mo_measure t q w).1) G sz) := by
  unfold e_Mo_measure
  refine zeb (fr := fr + 6) (M := M_Mo_measure) rfl (Nat.le_trans (by decide) hlo) rfl ?_
  have e0 : mL M_Mo_measure = 4 := rfl
  refine zeN (q := ((3, [(0, .ref 54), (1, .int t), (2, .int q)], [.int q, .int t, .ref 54]), yhp w G sz)) 3 rfl ?_
  refine zec 1 (M' := M_Mo_slot) (qq := ([.ref 54, .int t, .int q], [])) (s' := (6, [(0, .ref 54), (1, .int t), (2, .int q)], [.int (e_Mo_slot t q w)])) rfl rfl (fun _ => rfl) rfl rfl (zhk rfl (zrc_ok (yhp_o rfl)) rfl) (r_Mo_slot t q _ (by omega)) rfl ?_
  refine zeN (q := ((8, [(3, .int (e_Mo_slot t q w)), (0, .ref 54), (1, .int t), (2, .int q)], [.int (e_Mo_slot t q w)]), yhp w G sz)) 2 rfl ?_
  refine zbc (q1 := (21, [(3, .int (e_Mo_slot t q w)), (0, .ref 54), (1, .int t), (2, .int q)], [])) (q2 := (11, [(3, .int (e_Mo_slot t q w)), (0, .ref 54), (1, .int t), (2, .int q)], [])) (cB := zc .lt (e_Mo_slot t q w) 0) (off := 13) (lv := [(3, .int (e_Mo_slot t q w)), (0, .ref 54), (1, .int t), (2, .int q)]) (st := []) rfl rfl rfl rfl rfl (fun c8 => ?_) (fun c8 => ?_)
  · rw [c8]
    refine zeN (q := ((22, [(3, .int (e_Mo_slot t q w)), (0, .ref 54), (1, .int t), (2, .int q)], [.int ((-1))]), yhp w G sz)) 1 rfl ?_
    exact zer rfl rfl
  · rw [c8]
    have hsl := z_slot (t := t) (q := q) (w := w) (fun hh => absurd hh (by have h := of_decide_eq_false ((zc_lt (e_Mo_slot t q w) 0).symm.trans c8); have := z_i0; omega))
    have hsx := hsl.1
    refine zeN (q := ((12, [(3, .int (e_Mo_slot t q w)), (0, .ref 54), (1, .int t), (2, .int q)], [.ref 54]), yhp w G sz)) 1 rfl ?_
    refine ygf (kk := .inl (.ref 55)) (v := .ref 55) rfl rfl rfl rfl rfl rfl rfl ?_
    refine zeN (q := ((17, [(3, .int (e_Mo_slot t q w)), (0, .ref 54), (1, .int t), (2, .int q)], [.int 64, .ref 55]), yhp w G sz)) 1 rfl ?_
    refine yba (N := 65) rfl rfl rfl zIx_64 ?_
    refine zbc (q1 := (23, [(3, .int (e_Mo_slot t q w)), (0, .ref 54), (1, .int t), (2, .int q)], [])) (q2 := (21, [(3, .int (e_Mo_slot t q w)), (0, .ref 54), (1, .int t), (2, .int q)], [])) (cB := zc .ne (w.1 55 (64 : Int32).toNatClampNeg) 0) (off := 5) (lv := [(3, .int (e_Mo_slot t q w)), (0, .ref 54), (1, .int t), (2, .int q)]) (st := []) rfl rfl rfl rfl rfl (fun c18 => ?_) (fun c18 => ?_)
    · rw [c18]
      have hf : ¬ w.1 55 (64 : Int32).toNatClampNeg = 0 := of_decide_eq_true c18
      refine zeN (q := ((27, [(3, .int (e_Mo_slot t q w)), (0, .ref 54), (1, .int t), (2, .int q)], [.int (e_Mo_slot t q w), .int 64, .ref 54]), yhp w G sz)) 3 rfl ?_
      refine zec 1 (M' := M_Mo_measureOut) (qq := ([.ref 54, .int 64, .int (e_Mo_slot t q w)], [])) (s' := (30, [(3, .int (e_Mo_slot t q w)), (0, .ref 54), (1, .int t), (2, .int q)], [])) rfl rfl (fun _ => rfl) rfl rfl (zhk rfl (zrc_ok (yhp_o rfl)) rfl) (p_Mo_measureOut foc (e_Mo_slot t q w) zIx_foc hsx hM hf hsl.2.1 (by omega)) rfl ?_
      have hnz := hnzz _ hsx hsl.2.1
      refine zeS [(0, .ref 54)] (zsub_pick [1] rfl rfl) ?_
      exact t_Mo_measure_30  (e_Mo_measureOut foc (e_Mo_slot t q w) w)  hnz (by omega)
    · rw [c18]
      refine zeN (q := ((22, [(3, .int (e_Mo_slot t q w)), (0, .ref 54), (1, .int t), (2, .int q)], [.int ((-1))]), yhp w G sz)) 1 rfl ?_
      exact zer rfl rfl
set_option maxRecDepth 100000 in
theorem kf_Mo_measure (t q : Int32) (w : yW)  : yK [(54, some 13), (54, some 14)] w (e_Mo_measure t q w ).1 := by unfold e_Mo_measure; exact (yK_if1 (yK_p yK_rfl) (yK_if1 (yK_tr (yK_tr yK_rfl (yK_mono rfl (kf_Mo_measureOut ..))) (yK_mono rfl (kf_Mo_measure_30 ..))) (yK_p yK_rfl)))
def e_Mo_delete (t q : Int32) (w : yW) : yW × Int32 := (bif zc .ge (e_Mo_slot t q w) 0 then (wI w 55 (e_Mo_slot t q w).toNatClampNeg (0 &&& 1), 1) else (w, 0))
set_option maxRecDepth 100000 in
theorem r_Mo_delete {fr lo sz : Nat} {G : List zC} (t q : Int32) (w : yW)  (hlo : 65 ≤ lo) : zAns (fr + 3) lo 112 [.ref 54, .int t, .int q] (yhp w G sz) (some (.int ((e_Mo_delete t q w).2)), yhp ((e_Mo_delete t q w).1) G sz) := by
  unfold e_Mo_delete
  refine zeb (fr := fr + 2) (M := M_Mo_delete) rfl (Nat.le_trans (by decide) hlo) rfl ?_
  have e0 : mL M_Mo_delete = 4 := rfl
  refine zeN (q := ((3, [(0, .ref 54), (1, .int t), (2, .int q)], [.int q, .int t, .ref 54]), yhp w G sz)) 3 rfl ?_
  refine zec 1 (M' := M_Mo_slot) (qq := ([.ref 54, .int t, .int q], [])) (s' := (6, [(0, .ref 54), (1, .int t), (2, .int q)], [.int (e_Mo_slot t q w)])) rfl rfl (fun _ => rfl) rfl rfl (zhk rfl (zrc_ok (yhp_o rfl)) rfl) (r_Mo_slot t q _ (by omega)) rfl ?_
  refine zeN (q := ((8, [(3, .int (e_Mo_slot t q w)), (0, .ref 54), (1, .int t), (2, .int q)], [.int (e_Mo_slot t q w)]), yhp w G sz)) 2 rfl ?_
  refine zbc (q1 := (13, [(3, .int (e_Mo_slot t q w)), (0, .ref 54), (1, .int t), (2, .int q)], [])) (q2 := (11, [(3, .int (e_Mo_slot t q w)), (0, .ref 54), (1, .int t), (2, .int q)], [])) (cB := zc .ge (e_Mo_slot t q w) 0) (off := 5) (lv := [(3, .int (e_Mo_slot t q w)), (0, .ref 54), (1, .int t), (2, .int q)]) (st := []) rfl rfl rfl rfl rfl (fun c8 => ?_) (fun c8 => ?_)
  · rw [c8]
    have hsl := z_slot (t := t) (q := q) (w := w) (fun hh => absurd (of_decide_eq_true ((zc_ge (e_Mo_slot t q w) 0).symm.trans c8)) (by have := z_i0; omega))
    have hsx := hsl.1
    refine zeN (q := ((14, [(3, .int (e_Mo_slot t q w)), (0, .ref 54), (1, .int t), (2, .int q)], [.ref 54]), yhp w G sz)) 1 rfl ?_
    refine ygf (kk := .inl (.ref 55)) (v := .ref 55) rfl rfl rfl rfl rfl rfl rfl ?_
    refine zeN (q := ((19, [(3, .int (e_Mo_slot t q w)), (0, .ref 54), (1, .int t), (2, .int q)], [.int 0, .int (e_Mo_slot t q w), .ref 55]), yhp w G sz)) 2 rfl ?_
    refine ybs (N := 65) rfl rfl rfl (by assumption) ?_
    refine zeN (q := ((21, [(3, .int (e_Mo_slot t q w)), (0, .ref 54), (1, .int t), (2, .int q)], [.int 1]), yhp (wI w 55 (e_Mo_slot t q w).toNatClampNeg (0 &&& 1)) G sz)) 1 rfl ?_
    exact zer rfl rfl
  · rw [c8]
    refine zeN (q := ((12, [(3, .int (e_Mo_slot t q w)), (0, .ref 54), (1, .int t), (2, .int q)], [.int 0]), yhp w G sz)) 1 rfl ?_
    exact zer rfl rfl
set_option maxRecDepth 100000 in
theorem kf_Mo_delete (t q : Int32) (w : yW)  : yK [(55, none)] w (e_Mo_delete t q w ).1 := by unfold e_Mo_delete; exact (yK_if1 (yK_p (yK_wI rfl yK_rfl)) (yK_p yK_rfl))
def e_Mo_update (t q v mv : Int32) (w : yW) : yW × Int32 := (bif zc .lt (e_Mo_slot t q w) 0 then (w, 0) else (bif zc .eq mv 0 then (wI w 56 (e_Mo_slot t q w).toNatClampNeg v, 1) else (bif zc .ne (w.1 55 (64 : Int32).toNatClampNeg) 0 then (e_Mo_copyShape 64 (e_Mo_slot t q w) ((wI w 56 (e_Mo_slot t q w).toNatClampNeg v).1 58 (64 : Int32).toNatClampNeg) (wI w 56 (e_Mo_slot t q w).toNatClampNeg v), 1) else (w, 0))))
set_option maxRecDepth 100000 in
theorem r_Mo_update {fr lo sz : Nat} {G : List zC} (t q v mv : Int32) (w : yW) (hM : yM w) (hlo : 70 ≤ lo) : zAns (fr + 3) lo 114 [.ref 54, .int t, .int q, .int v, .int mv] (yhp w G sz) (some (.int ((e_Mo_update t q v mv w).2)), yhp ((e_Mo_update t q v mv w).1) G sz) := by
  unfold e_Mo_update
  refine zeb (fr := fr + 2) (M := M_Mo_update) rfl (Nat.le_trans (by decide) hlo) rfl ?_
  have e0 : mL M_Mo_update = 6 := rfl
  refine zeN (q := ((3, [(0, .ref 54), (1, .int t), (2, .int q), (3, .int v), (4, .int mv)], [.int q, .int t, .ref 54]), yhp w G sz)) 3 rfl ?_
  refine zec 1 (M' := M_Mo_slot) (qq := ([.ref 54, .int t, .int q], [])) (s' := (6, [(0, .ref 54), (1, .int t), (2, .int q), (3, .int v), (4, .int mv)], [.int (e_Mo_slot t q w)])) rfl rfl (fun _ => rfl) rfl rfl (zhk rfl (zrc_ok (yhp_o rfl)) rfl) (r_Mo_slot t q _ (by omega)) rfl ?_
  refine zeN (q := ((10, [(5, .int (e_Mo_slot t q w)), (0, .ref 54), (1, .int t), (2, .int q), (3, .int v), (4, .int mv)], [.int (e_Mo_slot t q w)]), yhp w G sz)) 2 rfl ?_
  refine zbc (q1 := (28, [(5, .int (e_Mo_slot t q w)), (0, .ref 54), (1, .int t), (2, .int q), (3, .int v), (4, .int mv)], [])) (q2 := (13, [(5, .int (e_Mo_slot t q w)), (0, .ref 54), (1, .int t), (2, .int q), (3, .int v), (4, .int mv)], [])) (cB := zc .lt (e_Mo_slot t q w) 0) (off := 18) (lv := [(5, .int (e_Mo_slot t q w)), (0, .ref 54), (1, .int t), (2, .int q), (3, .int v), (4, .int mv)]) (st := []) rfl rfl rfl rfl rfl (fun c10 => ?_) (fun c10 => ?_)
  · rw [c10]
    refine zeN (q := ((29, [(5, .int (e_Mo_slot t q w)), (0, .ref 54), (1, .int t), (2, .int q), (3, .int v), (4, .int mv)], [.int 0]), yhp w G sz)) 1 rfl ?_
    exact zer rfl rfl
  · rw [c10]
    have hsl := z_slot (t := t) (q := q) (w := w) (fun hh => absurd hh (by have h := of_decide_eq_false ((zc_lt (e_Mo_slot t q w) 0).symm.trans c10); have := z_i0; omega))
    have hsx := hsl.1
    refine zeN (q := ((15, [(5, .int (e_Mo_slot t q w)), (0, .ref 54), (1, .int t), (2, .int q), (3, .int v), (4, .int mv)], [.int mv]), yhp w G sz)) 1 rfl ?_
    refine zbc (q1 := (30, [(5, .int (e_Mo_slot t q w)), (0, .ref 54), (1, .int t), (2, .int q), (3, .int v), (4, .int mv)], [])) (q2 := (18, [(5, .int (e_Mo_slot t q w)), (0, .ref 54), (1, .int t), (2, .int q), (3, .int v), (4, .int mv)], [])) (cB := zc .eq mv 0) (off := 15) (lv := [(5, .int (e_Mo_slot t q w)), (0, .ref 54), (1, .int t), (2, .int q), (3, .int v), (4, .int mv)]) (st := []) rfl rfl rfl rfl rfl (fun c15 => ?_) (fun c15 => ?_)
    · rw [c15]
      refine zeN (q := ((31, [(5, .int (e_Mo_slot t q w)), (0, .ref 54), (1, .int t), (2, .int q), (3, .int v), (4, .int mv)], [.ref 54]), yhp w G sz)) 1 rfl ?_
      refine ygf (kk := .inl (.ref 56)) (v := .ref 56) rfl rfl rfl rfl rfl rfl rfl ?_
      refine zeN (q := ((37, [(5, .int (e_Mo_slot t q w)), (0, .ref 54), (1, .int t), (2, .int q), (3, .int v), (4, .int mv)], [.int v, .int (e_Mo_slot t q w), .ref 56]), yhp w G sz)) 2 rfl ?_
      refine yis (N := 65) rfl rfl rfl (by assumption) ?_
      refine zeN (q := ((40, [(5, .int (e_Mo_slot t q w)), (0, .ref 54), (1, .int t), (2, .int q), (3, .int v), (4, .int mv)], [.int mv]), yhp (wI w 56 (e_Mo_slot t q w).toNatClampNeg v) G sz)) 1 rfl ?_
      refine zbc (q1 := (51, [(5, .int (e_Mo_slot t q w)), (0, .ref 54), (1, .int t), (2, .int q), (3, .int v), (4, .int mv)], [])) (q2 := (43, [(5, .int (e_Mo_slot t q w)), (0, .ref 54), (1, .int t), (2, .int q), (3, .int v), (4, .int mv)], [])) (cB := zc .eq mv 0) (off := 11) (lv := [(5, .int (e_Mo_slot t q w)), (0, .ref 54), (1, .int t), (2, .int q), (3, .int v), (4, .int mv)]) (st := []) rfl rfl rfl rfl rfl (fun c40 => ?_) (fun c40 => absurd (c15.symm.trans c40) (by decide))
      refine zeN (q := ((52, [(5, .int (e_Mo_slot t q w)), (0, .ref 54), (1, .int t), (2, .int q), (3, .int v), (4, .int mv)], [.int 1]), yhp (wI w 56 (e_Mo_slot t q w).toNatClampNeg v) G sz)) 1 rfl ?_
      exact zer rfl rfl
    · rw [c15]
      refine zeN (q := ((19, [(5, .int (e_Mo_slot t q w)), (0, .ref 54), (1, .int t), (2, .int q), (3, .int v), (4, .int mv)], [.ref 54]), yhp w G sz)) 1 rfl ?_
      refine ygf (kk := .inl (.ref 55)) (v := .ref 55) rfl rfl rfl rfl rfl rfl rfl ?_
      refine zeN (q := ((24, [(5, .int (e_Mo_slot t q w)), (0, .ref 54), (1, .int t), (2, .int q), (3, .int v), (4, .int mv)], [.int 64, .ref 55]), yhp w G sz)) 1 rfl ?_
      refine yba (N := 65) rfl rfl rfl zIx_64 ?_
      refine zbc (q1 := (30, [(5, .int (e_Mo_slot t q w)), (0, .ref 54), (1, .int t), (2, .int q), (3, .int v), (4, .int mv)], [])) (q2 := (28, [(5, .int (e_Mo_slot t q w)), (0, .ref 54), (1, .int t), (2, .int q), (3, .int v), (4, .int mv)], [])) (cB := zc .ne (w.1 55 (64 : Int32).toNatClampNeg) 0) (off := 5) (lv := [(5, .int (e_Mo_slot t q w)), (0, .ref 54), (1, .int t), (2, .int q), (3, .int v), (4, .int mv)]) (st := []) rfl rfl rfl rfl rfl (fun c25 => ?_) (fun c25 => ?_)
      · rw [c25]
        refine zeN (q := ((31, [(5, .int (e_Mo_slot t q w)), (0, .ref 54), (1, .int t), (2, .int q), (3, .int v), (4, .int mv)], [.ref 54]), yhp w G sz)) 1 rfl ?_
        refine ygf (kk := .inl (.ref 56)) (v := .ref 56) rfl rfl rfl rfl rfl rfl rfl ?_
        refine zeN (q := ((37, [(5, .int (e_Mo_slot t q w)), (0, .ref 54), (1, .int t), (2, .int q), (3, .int v), (4, .int mv)], [.int v, .int (e_Mo_slot t q w), .ref 56]), yhp w G sz)) 2 rfl ?_
        refine yis (N := 65) rfl rfl rfl (by assumption) ?_
        refine zeN (q := ((40, [(5, .int (e_Mo_slot t q w)), (0, .ref 54), (1, .int t), (2, .int q), (3, .int v), (4, .int mv)], [.int mv]), yhp (wI w 56 (e_Mo_slot t q w).toNatClampNeg v) G sz)) 1 rfl ?_
        refine zbc (q1 := (51, [(5, .int (e_Mo_slot t q w)), (0, .ref 54), (1, .int t), (2, .int q), (3, .int v), (4, .int mv)], [])) (q2 := (43, [(5, .int (e_Mo_slot t q w)), (0, .ref 54), (1, .int t), (2, .int q), (3, .int v), (4, .int mv)], [])) (cB := zc .eq mv 0) (off := 11) (lv := [(5, .int (e_Mo_slot t q w)), (0, .ref 54), (1, .int t), (2, .int q), (3, .int v), (4, .int mv)]) (st := []) rfl rfl rfl rfl rfl (fun c40 => absurd (c15.symm.trans c40) (by decide)) (fun c40 => ?_)
        have hM2 : yM (wI w 56 (e_Mo_slot t q w).toNatClampNeg v) := yM_K (S := [(56, none)]) (yK_wI rfl yK_rfl) rfl rfl hM
        have hv := (hM2 _ (zIx_n zIx_64)).2.1
        refine zeN (q := ((48, [(5, .int (e_Mo_slot t q w)), (0, .ref 54), (1, .int t), (2, .int q), (3, .int v), (4, .int mv)], [.int (e_Mo_slot t q w), .int 64, .ref 54]), yhp (wI w 56 (e_Mo_slot t q w).toNatClampNeg v) G sz)) 3 rfl ?_
        refine zec 1 (M' := M_Mo_copyShape) (qq := ([.ref 54, .int 64, .int (e_Mo_slot t q w)], [])) (s' := (51, [(5, .int (e_Mo_slot t q w)), (0, .ref 54), (1, .int t), (2, .int q), (3, .int v), (4, .int mv)], [])) rfl rfl (fun _ => rfl) rfl rfl (zhk rfl (zrc_ok (yhp_o rfl)) rfl) (p_Mo_copyShape 64 (e_Mo_slot t q w) zIx_64 hsx hv (by omega)) rfl ?_
        refine zeN (q := ((52, [(5, .int (e_Mo_slot t q w)), (0, .ref 54), (1, .int t), (2, .int q), (3, .int v), (4, .int mv)], [.int 1]), yhp (e_Mo_copyShape 64 (e_Mo_slot t q w) ((wI w 56 (e_Mo_slot t q w).toNatClampNeg v).1 58 (64 : Int32).toNatClampNeg) (wI w 56 (e_Mo_slot t q w).toNatClampNeg v)) G sz)) 1 rfl ?_
        exact zer rfl rfl
      · rw [c25]
        refine zeN (q := ((29, [(5, .int (e_Mo_slot t q w)), (0, .ref 54), (1, .int t), (2, .int q), (3, .int v), (4, .int mv)], [.int 0]), yhp w G sz)) 1 rfl ?_
        exact zer rfl rfl
set_option maxRecDepth 100000 in
theorem kf_Mo_update (t q v mv : Int32) (w : yW)  : yK [(56, none), (57, none), (58, none), (59, none), (60, none), (61, none), (62, none), (63, none), (64, none)] w (e_Mo_update t q v mv w ).1 := by unfold e_Mo_update; exact (yK_if1 (yK_p yK_rfl) (yK_if1 (yK_p (yK_wI rfl yK_rfl)) (yK_if1 (yK_p (yK_tr (yK_wI rfl yK_rfl) (yK_mono rfl (kf_Mo_copyShape ..)))) (yK_p yK_rfl))))
def g_Mo_insert_31 (t v : Int32) : Nat → yW → Int32 → yW × Int32
  | 0, w, q => (w, q)
  | n + 1, w, q => (bif zc .eq (w.1 55 ((16 * t) + q).toNatClampNeg) 0 then (w, q) else g_Mo_insert_31 t v  n w (q + Int32.ofInt 1))
set_option maxRecDepth 100000 in
theorem t_Mo_insert_31 {fr lo sz : Nat} {r : Option Value × zH} {G : List zC} (t v : Int32) (ht0 : 0 ≤ t.toInt) (ht1 : t.toInt ≤ 1) (hlo : 45 ≤ lo) : ∀ (n : Nat) (w : yW) (q : Int32) (j : Nat) (hj : j < 16) (hj0 : w.1 55 (16 * t + Int32.ofNat j).toNatClampNeg = 0) (h0 : 0 ≤ q.toInt) (h1 : q.toInt ≤ (j : Int)) (hn : 16 < q.toInt + n) (k : zRun (fr + 2) lo none M_Mo_insert (51, [(0, .ref 54), (1, .int t), (2, .int v), (3, .int ((g_Mo_insert_31 t v n w q).2))], []) (yhp (g_Mo_insert_31 t v n w q).1 G sz) r), zRun (fr + 2) lo none M_Mo_insert (31, [(0, .ref 54), (1, .int t), (2, .int v), (3, .int q)], []) (yhp w G sz) r := by
  intro n
  induction n with
  | zero => intro w q j hj hj0 h0 h1 hn k; exfalso; omega
  | succ n ih =>
    intro w q j hj hj0 h0 h1 hn k
    rw [g_Mo_insert_31] at k
    have hx := zIx_16r ht0 ht1 h0 (show q.toInt ≤ 15 by omega)
    have hi1 := z_inc (a := q) (by omega) (by omega)
    refine zeN (q := ((32, [(0, .ref 54), (1, .int t), (2, .int v), (3, .int q)], [.ref 54]), yhp w G sz)) 1 rfl ?_
    refine ygf (kk := .inl (.ref 55)) (v := .ref 55) rfl rfl rfl rfl rfl rfl rfl ?_
    refine zeN (q := ((41, [(0, .ref 54), (1, .int t), (2, .int v), (3, .int q)], [.int ((16 * t) + q), .ref 55]), yhp w G sz)) 5 rfl ?_
    refine yba (N := 65) rfl rfl rfl (by assumption) ?_
    refine zbc (q1 := (51, [(0, .ref 54), (1, .int t), (2, .int v), (3, .int q)], [])) (q2 := (45, [(0, .ref 54), (1, .int t), (2, .int v), (3, .int q)], [])) (cB := zc .eq (w.1 55 ((16 * t) + q).toNatClampNeg) 0) (off := 9) (lv := [(0, .ref 54), (1, .int t), (2, .int v), (3, .int q)]) (st := []) rfl rfl rfl rfl rfl (fun c42 => ?_) (fun c42 => ?_)
    · rw [c42] at k
      exact k
    · rw [c42] at k
      have hqj : ¬ q.toInt = (j : Int) := by
        intro e
        have e2 : q = Int32.ofNat j := by rw [z_ofn h0, e]; rfl
        rw [e2] at c42
        rw [hj0] at c42
        exact absurd c42 (by decide)
      refine zeN (q := ((31, [(3, .int (q + Int32.ofInt 1)), (0, .ref 54), (1, .int t), (2, .int v)], []), yhp w G sz)) 2 rfl ?_
      refine zeS [(0, .ref 54), (1, .int t), (2, .int v), (3, .int (q + Int32.ofInt 1))] (zsub_pick [1, 2, 3, 0] rfl rfl) ?_
      exact ih w (q + Int32.ofInt 1) j hj hj0 (by omega) (by omega) (by omega) k
set_option maxRecDepth 100000 in
theorem kf_Mo_insert_31 (t v : Int32) : ∀ (n : Nat) (w : yW) (q : Int32), yK [(55, none), (56, none), (57, none), (58, none), (59, none), (60, none), (61, none), (62, none), (63, none), (64, none)] w (g_Mo_insert_31 t v n w q).1 := by
  intro n
  induction n with
  | zero => intros; exact yK_rfl
  | succ n ih => intro w q; rw [g_Mo_insert_31]; exact (yK_if1 (yK_p yK_rfl) (yK_tr yK_rfl (ih _ _)))
theorem d_Mo_insert_31 {t v : Int32} (ht0 : 0 ≤ t.toInt) (ht1 : t.toInt ≤ 1) : ∀ (n : Nat) (w : yW) (q : Int32) (j : Nat) (hj : j < 16) (hj0 : w.1 55 (16 * t + Int32.ofNat j).toNatClampNeg = 0) (h0 : 0 ≤ q.toInt) (h1 : q.toInt ≤ (j : Int)) (hn : 16 < q.toInt + n), (g_Mo_insert_31 t v n w q).1 = w ∧ 0 ≤ (g_Mo_insert_31 t v n w q).2.toInt ∧ (g_Mo_insert_31 t v n w q).2.toInt ≤ 15 ∧ w.1 55 (16 * t + (g_Mo_insert_31 t v n w q).2).toNatClampNeg = 0 ∧ ∀ u : Int32, q.toInt ≤ u.toInt → u.toInt < (g_Mo_insert_31 t v n w q).2.toInt → ¬ w.1 55 (16 * t + u).toNatClampNeg = 0 := by
  intro n
  induction n with
  | zero => intros; exfalso; omega
  | succ n ih =>
    intro w q j hj hj0 h0 h1 hn
    rw [g_Mo_insert_31]
    cases c : zc .eq (w.1 55 (16 * t + q).toNatClampNeg) 0
    · have hne : ¬ w.1 55 (16 * t + q).toNatClampNeg = 0 := of_decide_eq_false c
      have hqj : ¬ q.toInt = (j : Int) := by
        intro e
        have e2 : q = Int32.ofNat j := by rw [z_ofn h0, e]; rfl
        rw [e2] at hne
        exact hne hj0
      have hi1 := z_inc (a := q) (by omega) (by omega)
      have k := ih w (q + Int32.ofInt 1) j hj hj0 (by omega) (by omega) (by omega)
      refine ⟨k.1, k.2.1, k.2.2.1, k.2.2.2.1, ?_⟩
      intro u hu1 hu2
      by_cases hu : u.toInt = q.toInt
      · rw [Int32.toInt_inj.mp hu]
        exact hne
      · exact k.2.2.2.2 u (by omega) hu2
    · exact ⟨rfl, h0, show q.toInt ≤ 15 by omega, of_decide_eq_true c, fun u hu1 hu2 => by have hu2 : u.toInt < q.toInt := hu2; omega⟩
def e_Mo_insert (t v : Int32) (w : yW) : yW × Int32 := (bif zc .eq (f_Mo_isTable t) 0 then (w, (-1)) else (bif zc .eq (w.1 55 (64 : Int32).toNatClampNeg) 0 then (w, (-1)) else (bif zc .ne ((e_Mo_size t w).2) 16 then (e_Mo_copyShape 64 ((16 * t) + ((g_Mo_insert_31 t v 17 w 0).2)) ((wI (wI ((g_Mo_insert_31 t v 17 w 0).1) 55 ((16 * t) + ((g_Mo_insert_31 t v 17 w 0).2)).toNatClampNeg (1 &&& 1)) 56 ((16 * t) + ((g_Mo_insert_31 t v 17 w 0).2)).toNatClampNeg v).1 58 (64 : Int32).toNatClampNeg) (wI (wI ((g_Mo_insert_31 t v 17 w 0).1) 55 ((16 * t) + ((g_Mo_insert_31 t v 17 w 0).2)).toNatClampNeg (1 &&& 1)) 56 ((16 * t) + ((g_Mo_insert_31 t v 17 w 0).2)).toNatClampNeg v), (g_Mo_insert_31 t v 17 w 0).2) else (w, (-1)))))
set_option maxRecDepth 100000 in
theorem r_Mo_insert {fr lo sz : Nat} {G : List zC} (t v : Int32) (w : yW) (hM : yM w) (hfree : 0 ≤ t.toInt → t.toInt ≤ 1 → ¬ (e_Mo_size t w).2 = 16 → ∃ j, j < 16 ∧ w.1 55 (16 * t + Int32.ofNat j).toNatClampNeg = 0) (hlo : 69 ≤ lo) : zAns (fr + 3) lo 108 [.ref 54, .int t, .int v] (yhp w G sz) (some (.int ((e_Mo_insert t v w).2)), yhp ((e_Mo_insert t v w).1) G sz) := by
  unfold e_Mo_insert
  refine zeb (fr := fr + 2) (M := M_Mo_insert) rfl (Nat.le_trans (by decide) hlo) rfl ?_
  have e0 : mL M_Mo_insert = 5 := rfl
  refine zeN (q := ((1, [(0, .ref 54), (1, .int t), (2, .int v)], [.int t]), yhp w G sz)) 1 rfl ?_
  refine zec 0 (M' := M_Mo_isTable) (qq := ([.int t], [])) (s' := (4, [(0, .ref 54), (1, .int t), (2, .int v)], [.int (f_Mo_isTable t)])) rfl rfl (fun _ => rfl) rfl rfl rfl (s_Mo_isTable t (by omega)) rfl ?_
  refine zbc (q1 := (27, [(0, .ref 54), (1, .int t), (2, .int v)], [])) (q2 := (7, [(0, .ref 54), (1, .int t), (2, .int v)], [])) (cB := zc .eq (f_Mo_isTable t) 0) (off := 23) (lv := [(0, .ref 54), (1, .int t), (2, .int v)]) (st := []) rfl rfl rfl rfl rfl (fun c4 => ?_) (fun c4 => ?_)
  · rw [c4]
    refine zeN (q := ((28, [(0, .ref 54), (1, .int t), (2, .int v)], [.int ((-1))]), yhp w G sz)) 1 rfl ?_
    exact zer rfl rfl
  · rw [c4]
    have hit := z_isT (of_decide_eq_false ((rfl : zc .eq (f_Mo_isTable t) 0 = decide (f_Mo_isTable t = 0)).symm.trans c4))
    have ht0 := hit.1
    have ht1 := hit.2
    refine zeN (q := ((8, [(0, .ref 54), (1, .int t), (2, .int v)], [.ref 54]), yhp w G sz)) 1 rfl ?_
    refine ygf (kk := .inl (.ref 55)) (v := .ref 55) rfl rfl rfl rfl rfl rfl rfl ?_
    refine zeN (q := ((13, [(0, .ref 54), (1, .int t), (2, .int v)], [.int 64, .ref 55]), yhp w G sz)) 1 rfl ?_
    refine yba (N := 65) rfl rfl rfl zIx_64 ?_
    refine zbc (q1 := (27, [(0, .ref 54), (1, .int t), (2, .int v)], [])) (q2 := (17, [(0, .ref 54), (1, .int t), (2, .int v)], [])) (cB := zc .eq (w.1 55 (64 : Int32).toNatClampNeg) 0) (off := 13) (lv := [(0, .ref 54), (1, .int t), (2, .int v)]) (st := []) rfl rfl rfl rfl rfl (fun c14 => ?_) (fun c14 => ?_)
    · rw [c14]
      refine zeN (q := ((28, [(0, .ref 54), (1, .int t), (2, .int v)], [.int ((-1))]), yhp w G sz)) 1 rfl ?_
      exact zer rfl rfl
    · rw [c14]
      refine zeN (q := ((19, [(0, .ref 54), (1, .int t), (2, .int v)], [.int t, .ref 54]), yhp w G sz)) 2 rfl ?_
      refine zec 1 (M' := M_Mo_size) (qq := ([.ref 54, .int t], [])) (s' := (22, [(0, .ref 54), (1, .int t), (2, .int v)], [.int ((e_Mo_size t w).2)])) rfl rfl (fun _ => rfl) rfl rfl (zhk rfl (zrc_ok (yhp_o rfl)) rfl) (p_Mo_size t ht0 ht1 (by omega)) rfl ?_
      refine zeN (q := ((24, [(0, .ref 54), (1, .int t), (2, .int v)], [.int 16, .int ((e_Mo_size t w).2)]), yhp w G sz)) 1 rfl ?_
      refine zbc (q1 := (29, [(0, .ref 54), (1, .int t), (2, .int v)], [])) (q2 := (27, [(0, .ref 54), (1, .int t), (2, .int v)], [])) (cB := zc .ne ((e_Mo_size t w).2) 16) (off := 5) (lv := [(0, .ref 54), (1, .int t), (2, .int v)]) (st := []) rfl rfl rfl rfl rfl (fun c24 => ?_) (fun c24 => ?_)
      · rw [c24]
        obtain ⟨j, hj, hj0⟩ := hfree ht0 ht1 (of_decide_eq_true c24)
        have dd := d_Mo_insert_31 (v := v) ht0 ht1 17 w 0 j hj hj0 (by decide) (by show (0 : Int) ≤ _; omega) (by decide)
        refine zeN (q := ((31, [(3, .int 0), (0, .ref 54), (1, .int t), (2, .int v)], []), yhp w G sz)) 2 rfl ?_
        refine zeS [(0, .ref 54), (1, .int t), (2, .int v), (3, .int 0)] (zsub_pick [1, 2, 3, 0] rfl rfl) ?_
        refine t_Mo_insert_31 t v ht0 ht1 (by omega) 17 w 0 j hj hj0 (by decide) (by show (0 : Int) ≤ _; omega) (by decide) ?_
        refine zeN (q := ((59, [(4, .int ((16 * t) + ((g_Mo_insert_31 t v 17 w 0).2))), (0, .ref 54), (1, .int t), (2, .int v), (3, .int ((g_Mo_insert_31 t v 17 w 0).2))], []), yhp ((g_Mo_insert_31 t v 17 w 0).1) G sz)) 6 rfl ?_
        have hxx := zIx_16r ht0 ht1 dd.2.1 dd.2.2.1
        refine zeN (q := ((60, [(4, .int ((16 * t) + ((g_Mo_insert_31 t v 17 w 0).2))), (0, .ref 54), (1, .int t), (2, .int v), (3, .int ((g_Mo_insert_31 t v 17 w 0).2))], [.ref 54]), yhp ((g_Mo_insert_31 t v 17 w 0).1) G sz)) 1 rfl ?_
        refine ygf (kk := .inl (.ref 55)) (v := .ref 55) rfl rfl rfl rfl rfl rfl rfl ?_
        refine zeN (q := ((66, [(4, .int ((16 * t) + ((g_Mo_insert_31 t v 17 w 0).2))), (0, .ref 54), (1, .int t), (2, .int v), (3, .int ((g_Mo_insert_31 t v 17 w 0).2))], [.int 1, .int ((16 * t) + ((g_Mo_insert_31 t v 17 w 0).2)), .ref 55]), yhp ((g_Mo_insert_31 t v 17 w 0).1) G sz)) 2 rfl ?_
        refine ybs (N := 65) rfl rfl rfl (by assumption) ?_
        refine zeN (q := ((68, [(4, .int ((16 * t) + ((g_Mo_insert_31 t v 17 w 0).2))), (0, .ref 54), (1, .int t), (2, .int v), (3, .int ((g_Mo_insert_31 t v 17 w 0).2))], [.ref 54]), yhp (wI ((g_Mo_insert_31 t v 17 w 0).1) 55 ((16 * t) + ((g_Mo_insert_31 t v 17 w 0).2)).toNatClampNeg (1 &&& 1)) G sz)) 1 rfl ?_
        refine ygf (kk := .inl (.ref 56)) (v := .ref 56) rfl rfl rfl rfl rfl rfl rfl ?_
        refine zeN (q := ((74, [(4, .int ((16 * t) + ((g_Mo_insert_31 t v 17 w 0).2))), (0, .ref 54), (1, .int t), (2, .int v), (3, .int ((g_Mo_insert_31 t v 17 w 0).2))], [.int v, .int ((16 * t) + ((g_Mo_insert_31 t v 17 w 0).2)), .ref 56]), yhp (wI ((g_Mo_insert_31 t v 17 w 0).1) 55 ((16 * t) + ((g_Mo_insert_31 t v 17 w 0).2)).toNatClampNeg (1 &&& 1)) G sz)) 2 rfl ?_
        refine yis (N := 65) rfl rfl rfl (by assumption) ?_
        have hv : 0 ≤ ((wI (wI ((g_Mo_insert_31 t v 17 w 0).1) 55 ((16 * t) + ((g_Mo_insert_31 t v 17 w 0).2)).toNatClampNeg (1 &&& 1)) 56 ((16 * t) + ((g_Mo_insert_31 t v 17 w 0).2)).toNatClampNeg v).1 58 (64 : Int32).toNatClampNeg).toInt ∧ ((wI (wI ((g_Mo_insert_31 t v 17 w 0).1) 55 ((16 * t) + ((g_Mo_insert_31 t v 17 w 0).2)).toNatClampNeg (1 &&& 1)) 56 ((16 * t) + ((g_Mo_insert_31 t v 17 w 0).2)).toNatClampNeg v).1 58 (64 : Int32).toNatClampNeg).toInt ≤ 6 := by rw [wI_ne (by decide), wI_ne (by decide), dd.1]; exact (hM _ (zIx_n zIx_64)).2.1
        refine zeN (q := ((80, [(4, .int ((16 * t) + ((g_Mo_insert_31 t v 17 w 0).2))), (0, .ref 54), (1, .int t), (2, .int v), (3, .int ((g_Mo_insert_31 t v 17 w 0).2))], [.int ((16 * t) + ((g_Mo_insert_31 t v 17 w 0).2)), .int 64, .ref 54]), yhp (wI (wI ((g_Mo_insert_31 t v 17 w 0).1) 55 ((16 * t) + ((g_Mo_insert_31 t v 17 w 0).2)).toNatClampNeg (1 &&& 1)) 56 ((16 * t) + ((g_Mo_insert_31 t v 17 w 0).2)).toNatClampNeg v) G sz)) 3 rfl ?_
        refine zec 1 (M' := M_Mo_copyShape) (qq := ([.ref 54, .int 64, .int ((16 * t) + ((g_Mo_insert_31 t v 17 w 0).2))], [])) (s' := (83, [(4, .int ((16 * t) + ((g_Mo_insert_31 t v 17 w 0).2))), (0, .ref 54), (1, .int t), (2, .int v), (3, .int ((g_Mo_insert_31 t v 17 w 0).2))], [])) rfl rfl (fun _ => rfl) rfl rfl (zhk rfl (zrc_ok (yhp_o rfl)) rfl) (p_Mo_copyShape 64 ((16 * t) + ((g_Mo_insert_31 t v 17 w 0).2)) zIx_64 hxx hv (by omega)) rfl ?_
        refine zeN (q := ((84, [(4, .int ((16 * t) + ((g_Mo_insert_31 t v 17 w 0).2))), (0, .ref 54), (1, .int t), (2, .int v), (3, .int ((g_Mo_insert_31 t v 17 w 0).2))], [.int ((g_Mo_insert_31 t v 17 w 0).2)]), yhp (e_Mo_copyShape 64 ((16 * t) + ((g_Mo_insert_31 t v 17 w 0).2)) ((wI (wI ((g_Mo_insert_31 t v 17 w 0).1) 55 ((16 * t) + ((g_Mo_insert_31 t v 17 w 0).2)).toNatClampNeg (1 &&& 1)) 56 ((16 * t) + ((g_Mo_insert_31 t v 17 w 0).2)).toNatClampNeg v).1 58 (64 : Int32).toNatClampNeg) (wI (wI ((g_Mo_insert_31 t v 17 w 0).1) 55 ((16 * t) + ((g_Mo_insert_31 t v 17 w 0).2)).toNatClampNeg (1 &&& 1)) 56 ((16 * t) + ((g_Mo_insert_31 t v 17 w 0).2)).toNatClampNeg v)) G sz)) 1 rfl ?_
        exact zer rfl rfl
      · rw [c24]
        refine zeN (q := ((28, [(0, .ref 54), (1, .int t), (2, .int v)], [.int ((-1))]), yhp w G sz)) 1 rfl ?_
        exact zer rfl rfl
set_option maxRecDepth 100000 in
theorem kf_Mo_insert (t v : Int32) (w : yW)  : yK [(55, none), (56, none), (57, none), (58, none), (59, none), (60, none), (61, none), (62, none), (63, none), (64, none)] w (e_Mo_insert t v w ).1 := by unfold e_Mo_insert; exact (yK_if1 (yK_p yK_rfl) (yK_if1 (yK_p yK_rfl) (yK_if1 (yK_p (yK_tr (yK_wI rfl (yK_wI rfl (yK_tr yK_rfl (yK_mono rfl (kf_Mo_insert_31 ..))))) (yK_mono rfl (kf_Mo_copyShape ..)))) (yK_p yK_rfl))))
