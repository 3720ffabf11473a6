theorem i_Mo_home_3 (s : Int32) : ∀ (n : Nat) (w : yW) (l : Int32), (g_Mo_home_3 s n w l).1 = w
  | 0, w, l => rfl
  | n + 1, w, l => by
    rw [g_Mo_home_3]
    exact yf3 (i_Mo_home_3 s n w _) (yf3 rfl (i_Mo_home_3 s n w _))
theorem q_Mo_home {fr lo sz : Nat} {G : List zC} (s : Int32) (w : yW) (hs : zIx s 65) (b1 : 0 ≤ (w.1 61 s.toNatClampNeg).toInt ∧ (w.1 61 s.toNatClampNeg).toInt ≤ 255) (b2 : 0 ≤ (w.1 62 s.toNatClampNeg).toInt ∧ (w.1 62 s.toNatClampNeg).toInt ≤ 255) (b3 : 0 ≤ (w.1 63 s.toNatClampNeg).toInt ∧ (w.1 63 s.toNatClampNeg).toInt ≤ 255) (b4 : 0 ≤ (w.1 64 s.toNatClampNeg).toInt ∧ (w.1 64 s.toNatClampNeg).toInt ≤ 255) (hlo : 22 ≤ lo) : zAns (fr + 1) lo 131 [.ref 54, .int s] (yhp w G sz) (some (.int (e_Mo_home s w).2), yhp w G sz) := by
  have h := r_Mo_home (fr := fr) (G := G) (sz := sz) s w hs b1 b2 b3 b4 hlo
  have e : (e_Mo_home s w).1 = w := i_Mo_home_3 s 9 w 8
  rw [e] at h
  exact h
def e_Mo_shares (s r l : Int32) (w : yW) : yW × Int32 := (bif zc .eq (w.1 55 s.toNatClampNeg) 0 then (w, 0) else (bif zc .lt ((e_Mo_home s w).2) l then (w, 0) else (bif zc .ne ((w.1 61 s.toNatClampNeg) >>> ((8 - l) &&& 31)) ((w.1 61 r.toNatClampNeg) >>> ((8 - l) &&& 31)) then (w, 0) else (bif zc .ne ((w.1 63 s.toNatClampNeg) >>> ((8 - l) &&& 31)) ((w.1 63 r.toNatClampNeg) >>> ((8 - l) &&& 31)) then (w, 0) else (w, 1)))))
set_option maxRecDepth 100000 in
theorem r_Mo_shares {fr lo sz : Nat} {G : List zC} (s r l : Int32) (w : yW) (hs : zIx s 65) (hr : zIx r 65) (b1 : ¬ w.1 55 s.toNatClampNeg = 0 → 0 ≤ (w.1 61 s.toNatClampNeg).toInt ∧ (w.1 61 s.toNatClampNeg).toInt ≤ 255) (b2 : ¬ w.1 55 s.toNatClampNeg = 0 → 0 ≤ (w.1 62 s.toNatClampNeg).toInt ∧ (w.1 62 s.toNatClampNeg).toInt ≤ 255) (b3 : ¬ w.1 55 s.toNatClampNeg = 0 → 0 ≤ (w.1 63 s.toNatClampNeg).toInt ∧ (w.1 63 s.toNatClampNeg).toInt ≤ 255) (b4 : ¬ w.1 55 s.toNatClampNeg = 0 → 0 ≤ (w.1 64 s.toNatClampNeg).toInt ∧ (w.1 64 s.toNatClampNeg).toInt ≤ 255) (hlo : 45 ≤ lo) : zAns (fr + 2) lo 133 [.ref 54, .int s, .int r, .int l] (yhp w G sz) (some (.int (e_Mo_shares s r l w).2), yhp (e_Mo_shares s r l w).1 G sz) := by
  unfold e_Mo_shares
  refine zeb (fr := fr + 1) (M := M_Mo_shares) rfl (Nat.le_trans (by decide) hlo) rfl ?_
  have e0 : mL M_Mo_shares = 4 := rfl
  refine zeN (q := ((1, [(0, .ref 54), (1, .int s), (2, .int r), (3, .int l)], [.ref 54]), yhp w G sz)) 1 rfl ?_
  refine ygf (kk := .inl (.ref 55)) (v := .ref 55) rfl rfl rfl rfl rfl rfl rfl ?_
  refine zeN (q := ((5, [(0, .ref 54), (1, .int s), (2, .int r), (3, .int l)], [.int s, .ref 55]), yhp w G sz)) 1 rfl ?_
  refine yba (N := 65) rfl rfl rfl (by assumption) ?_
  refine zbc (q1 := (72, [(0, .ref 54), (1, .int s), (2, .int r), (3, .int l)], [])) (q2 := (9, [(0, .ref 54), (1, .int s), (2, .int r), (3, .int l)], [])) (cB := zc .eq (w.1 55 s.toNatClampNeg) 0) (off := 66) (lv := [(0, .ref 54), (1, .int s), (2, .int r), (3, .int l)]) (st := []) rfl rfl rfl rfl rfl (fun c6 => ?_) (fun c6 => ?_)
  · rw [c6]
    refine zeN (q := ((73, [(0, .ref 54), (1, .int s), (2, .int r), (3, .int l)], [.int 0]), yhp w G sz)) 1 rfl ?_
    exact zer rfl rfl
  · rw [c6]
    have hne : ¬ w.1 55 s.toNatClampNeg = 0 := fun e => by rw [e] at c6; exact absurd c6 (by decide)
    refine zeN (q := ((11, [(0, .ref 54), (1, .int s), (2, .int r), (3, .int l)], [.int s, .ref 54]), yhp w G sz)) 2 rfl ?_
    refine zec 1 (M' := M_Mo_home) (qq := ([.ref 54, .int s], [])) (s' := (14, [(0, .ref 54), (1, .int s), (2, .int r), (3, .int l)], [.int ((e_Mo_home s w).2)])) rfl rfl (fun _ => rfl) rfl rfl (zhk rfl (zrc_ok (yhp_o rfl)) rfl) (q_Mo_home s w hs (b1 hne) (b2 hne) (b3 hne) (b4 hne) (by omega)) rfl ?_
    refine zeN (q := ((15, [(0, .ref 54), (1, .int s), (2, .int r), (3, .int l)], [.int l, .int ((e_Mo_home s w).2)]), yhp w G sz)) 1 rfl ?_
    refine zbc (q1 := (72, [(0, .ref 54), (1, .int s), (2, .int r), (3, .int l)], [])) (q2 := (18, [(0, .ref 54), (1, .int s), (2, .int r), (3, .int l)], [])) (cB := zc .lt ((e_Mo_home s w).2) l) (off := 57) (lv := [(0, .ref 54), (1, .int s), (2, .int r), (3, .int l)]) (st := []) rfl rfl rfl rfl rfl (fun c15 => ?_) (fun c15 => ?_)
    · rw [c15]
      refine zeN (q := ((73, [(0, .ref 54), (1, .int s), (2, .int r), (3, .int l)], [.int 0]), yhp w G sz)) 1 rfl ?_
      exact zer rfl rfl
    · rw [c15]
      refine zeN (q := ((19, [(0, .ref 54), (1, .int s), (2, .int r), (3, .int l)], [.ref 54]), yhp w G sz)) 1 rfl ?_
      refine ygf (kk := .inl (.ref 61)) (v := .ref 61) rfl rfl rfl rfl rfl rfl rfl ?_
      refine zeN (q := ((23, [(0, .ref 54), (1, .int s), (2, .int r), (3, .int l)], [.int s, .ref 61]), yhp w G sz)) 1 rfl ?_
      refine yia (N := 65) rfl rfl rfl (by assumption) ?_
      refine zeN (q := ((30, [(0, .ref 54), (1, .int s), (2, .int r), (3, .int l)], [.ref 54, .int ((w.1 61 s.toNatClampNeg) >>> ((8 - l) &&& 31))]), yhp w G sz)) 5 rfl ?_
      refine ygf (kk := .inl (.ref 61)) (v := .ref 61) rfl rfl rfl rfl rfl rfl rfl ?_
      refine zeN (q := ((34, [(0, .ref 54), (1, .int s), (2, .int r), (3, .int l)], [.int r, .ref 61, .int ((w.1 61 s.toNatClampNeg) >>> ((8 - l) &&& 31))]), yhp w G sz)) 1 rfl ?_
      refine yia (N := 65) rfl rfl rfl (by assumption) ?_
      refine zeN (q := ((40, [(0, .ref 54), (1, .int s), (2, .int r), (3, .int l)], [.int ((w.1 61 r.toNatClampNeg) >>> ((8 - l) &&& 31)), .int ((w.1 61 s.toNatClampNeg) >>> ((8 - l) &&& 31))]), yhp w G sz)) 4 rfl ?_
      refine zbc (q1 := (72, [(0, .ref 54), (1, .int s), (2, .int r), (3, .int l)], [])) (q2 := (43, [(0, .ref 54), (1, .int s), (2, .int r), (3, .int l)], [])) (cB := zc .ne ((w.1 61 s.toNatClampNeg) >>> ((8 - l) &&& 31)) ((w.1 61 r.toNatClampNeg) >>> ((8 - l) &&& 31))) (off := 32) (lv := [(0, .ref 54), (1, .int s), (2, .int r), (3, .int l)]) (st := []) rfl rfl rfl rfl rfl (fun c40 => ?_) (fun c40 => ?_)
      · rw [c40]
        refine zeN (q := ((73, [(0, .ref 54), (1, .int s), (2, .int r), (3, .int l)], [.int 0]), yhp w G sz)) 1 rfl ?_
        exact zer rfl rfl
      · rw [c40]
        refine zeN (q := ((44, [(0, .ref 54), (1, .int s), (2, .int r), (3, .int l)], [.ref 54]), yhp w G sz)) 1 rfl ?_
        refine ygf (kk := .inl (.ref 63)) (v := .ref 63) rfl rfl rfl rfl rfl rfl rfl ?_
        refine zeN (q := ((48, [(0, .ref 54), (1, .int s), (2, .int r), (3, .int l)], [.int s, .ref 63]), yhp w G sz)) 1 rfl ?_
        refine yia (N := 65) rfl rfl rfl (by assumption) ?_
        refine zeN (q := ((55, [(0, .ref 54), (1, .int s), (2, .int r), (3, .int l)], [.ref 54, .int ((w.1 63 s.toNatClampNeg) >>> ((8 - l) &&& 31))]), yhp w G sz)) 5 rfl ?_
        refine ygf (kk := .inl (.ref 63)) (v := .ref 63) rfl rfl rfl rfl rfl rfl rfl ?_
        refine zeN (q := ((59, [(0, .ref 54), (1, .int s), (2, .int r), (3, .int l)], [.int r, .ref 63, .int ((w.1 63 s.toNatClampNeg) >>> ((8 - l) &&& 31))]), yhp w G sz)) 1 rfl ?_
        refine yia (N := 65) rfl rfl rfl (by assumption) ?_
        refine zeN (q := ((65, [(0, .ref 54), (1, .int s), (2, .int r), (3, .int l)], [.int ((w.1 63 r.toNatClampNeg) >>> ((8 - l) &&& 31)), .int ((w.1 63 s.toNatClampNeg) >>> ((8 - l) &&& 31))]), yhp w G sz)) 4 rfl ?_
        refine zbc (q1 := (72, [(0, .ref 54), (1, .int s), (2, .int r), (3, .int l)], [])) (q2 := (68, [(0, .ref 54), (1, .int s), (2, .int r), (3, .int l)], [])) (cB := zc .ne ((w.1 63 s.toNatClampNeg) >>> ((8 - l) &&& 31)) ((w.1 63 r.toNatClampNeg) >>> ((8 - l) &&& 31))) (off := 7) (lv := [(0, .ref 54), (1, .int s), (2, .int r), (3, .int l)]) (st := []) rfl rfl rfl rfl rfl (fun c65 => ?_) (fun c65 => ?_)
        · rw [c65]
          refine zeN (q := ((73, [(0, .ref 54), (1, .int s), (2, .int r), (3, .int l)], [.int 0]), yhp w G sz)) 1 rfl ?_
          exact zer rfl rfl
        · rw [c65]
          refine zeN (q := ((73, [(0, .ref 54), (1, .int s), (2, .int r), (3, .int l)], [.int 1]), yhp w G sz)) 2 rfl ?_
          exact zer rfl rfl
