theorem z_nI {x : Int32} (h : 0 ≤ x.toInt) : ∃ j : Nat, j < 2 ^ 31 ∧ x = nI j := nI_of (fun h2 => by have h3 := Int32.lt_iff_toInt_lt.mp h2; have h4 : x.toInt < 0 := h3; omega)
theorem zIx_corner {MA : List Int32} {s j e : Int32} {n : Nat} (hs0 : 0 ≤ s.toInt) (hs1 : s.toInt ≤ 64) (hk1 : 1 ≤ (gI MA s).toInt) (hk2 : (gI MA s).toInt ≤ 6) (hj0 : 0 ≤ j.toInt) (hj1 : j.toInt ≤ 10) (he0 : 0 ≤ e.toInt) (he1 : e.toInt ≤ 1) (hn : n = 390) : zIx (f_Mo_corner MA s j e) n := by
  obtain ⟨S, hS, eS⟩ := z_nI hs0
  obtain ⟨J, hJ, eJ⟩ := z_nI hj0
  obtain ⟨E, hE, eE⟩ := z_nI he0
  obtain ⟨K, hK, eK⟩ := z_nI (x := gI MA s) (by omega)
  have tS : s.toInt = (S : Int) := by rw [eS]; exact nI_toInt hS
  have tJ : j.toInt = (J : Int) := by rw [eJ]; exact nI_toInt hJ
  have tE : e.toInt = (E : Int) := by rw [eE]; exact nI_toInt hE
  have tK : (gI MA s).toInt = (K : Int) := by rw [eK]; exact nI_toInt hK
  have hK0 : 0 < K := by omega
  have e1 : f_Mo_corner MA s j e = nI (6 * S + (J + E) % K) := by
    unfold f_Mo_corner
    rw [eK, eJ, eE, nI_add, pk_rem (by omega) hK0 hK]
    rw [eS, show (6 : Int32) = nI 6 from rfl, pk_mul, nI_add]
  have hlt : (J + E) % K < K := Nat.mod_lt _ hK0
  rw [e1]
  unfold zIx
  rw [nI_toInt (by omega)]
  omega
theorem z_msides {SO MA : List Int32} {s : Int32} (h1 : 1 ≤ (gI MA s).toInt) (h2 : (gI MA s).toInt ≤ 6) : (f_Mo_sides SO MA s).toInt ≤ (gI MA s).toInt := by
  unfold f_Mo_sides
  cases zc .ne (gI SO s) 1 with
  | true => exact Int.le_refl _
  | false =>
    have e3 : (gI MA s - 1).toInt = (gI MA s).toInt - 1 := z_sub (by show _ ≤ _ - (1 : Int); omega) (by show _ - (1 : Int) < _; omega)
    show (gI MA s - 1).toInt ≤ _
    rw [e3]
    omega
def f_Mo_within_L5 (X Y MA : List Int32) (s c : Int32)  : Nat → Int32 → Int32 → Int32
  | 0, _, _ => 0
  | n + 1, w, i => (bif zc .ge i (gI MA s) then w else (bif zc .ne (bif zc .le (gI Y (f_Mo_corner MA s i 0)) (gI Y c) then 0 else 1) (bif zc .le (gI Y (f_Mo_corner MA s i 1)) (gI Y c) then 0 else 1) then (bif zc .le (gI Y (f_Mo_corner MA s i 1)) (gI Y (f_Mo_corner MA s i 0)) then (bif zc .ge (lg_cmp (f_Mo_turn X Y (f_Mo_corner MA s i 0) (f_Mo_corner MA s i 1) c) 0) 0 then (f_Mo_within_L5 X Y MA s c n w (i + Int32.ofInt 1)) else (f_Mo_within_L5 X Y MA s c n (bif zc .ne w 0 then 0 else 1) (i + Int32.ofInt 1))) else (bif zc .le (lg_cmp (f_Mo_turn X Y (f_Mo_corner MA s i 0) (f_Mo_corner MA s i 1) c) 0) 0 then (f_Mo_within_L5 X Y MA s c n w (i + Int32.ofInt 1)) else (f_Mo_within_L5 X Y MA s c n (bif zc .ne w 0 then 0 else 1) (i + Int32.ofInt 1)))) else (f_Mo_within_L5 X Y MA s c n w (i + Int32.ofInt 1))))
theorem b_Mo_within_L5 (X Y MA : List Int32) (s c : Int32)  : ∀ (n : Nat) (w : Int32) (i : Int32) (hb_w : zB w), zB (f_Mo_within_L5 X Y MA s c n w i) := by
  intro n
  induction n with
  | zero => intro w i hb_w; exact zB0
  | succ n ih => intro w i hb_w; rw [f_Mo_within_L5]; exact (zbi (hb_w) (zbi (zbi (zbi (ih w (i + Int32.ofInt 1) (hb_w)) (ih (bif zc .ne w 0 then 0 else 1) (i + Int32.ofInt 1) (zbb _))) (zbi (ih w (i + Int32.ofInt 1) (hb_w)) (ih (bif zc .ne w 0 then 0 else 1) (i + Int32.ofInt 1) (zbb _)))) (ih w (i + Int32.ofInt 1) (hb_w))))
set_option maxRecDepth 100000 in
theorem s_Mo_within_L5 {fr lo : Nat} {h : zH} (X Y MA : List Int32) (s c : Int32)  (m : Nat) (fs : List Value) (hm : h.1[m]? = some (.inr (8, fs))) (p_many : Nat) (hf_many : fs[3]? = some (.ref p_many)) (ha_many : h.1[p_many]? = some (.inl (0, MA.map Value.int))) (p_xs : Nat) (hf_xs : fs[4]? = some (.ref p_xs)) (ha_xs : h.1[p_xs]? = some (.inl (0, X.map Value.int))) (p_ys : Nat) (hf_ys : fs[5]? = some (.ref p_ys)) (ha_ys : h.1[p_ys]? = some (.inl (0, Y.map Value.int))) (hXl : X.length = 390) (hYl : Y.length = 390) (hs : zIx s MA.length) (hs1 : s.toInt ≤ 64) (hk1 : 1 ≤ (gI MA s).toInt) (hk2 : (gI MA s).toInt ≤ 6) (hc : zIx c X.length)  (hlo : 48 ≤ lo) : ∀ (n : Nat) (w : Int32) (i : Int32) (hb_w : zB w) (h0 : 0 ≤ i.toInt) (h1 : i.toInt ≤ (gI MA s).toInt) (hm2 : (gI MA s).toInt < i.toInt + n), zRun (fr + 2) lo none M_Mo_within (5, [(0, .ref m), (1, .int s), (2, .int c), (3, .int w), (4, .int i)], []) h (some (.int (f_Mo_within_L5 X Y MA s c n w i)), h) := by
  intro n
  induction n with
  | zero => intro w i hb_w h0 h1 hm2; exfalso; omega
  | succ n ih =>
    intro w i hb_w h0 h1 hm2
    rw [f_Mo_within_L5]
    refine zeN (q := ((8, [(0, .ref m), (1, .int s), (2, .int c), (3, .int w), (4, .int i)], [.ref m, .int i]), h)) 2 rfl ?_
    refine zegf (fs := fs) (v := .ref p_many) rfl rfl rfl rfl hm hf_many ?_
    refine zeN (q := ((12, [(0, .ref m), (1, .int s), (2, .int c), (3, .int w), (4, .int i)], [.int s, .ref p_many, .int i]), h)) 1 rfl ?_
    refine zeia (l := MA.map Value.int) (k := s.toNatClampNeg) (v := .int (gI MA s)) rfl rfl ha_many (zIx_a hs) (zIx_b hs) ?_
    refine zbc (q1 := (145, [(0, .ref m), (1, .int s), (2, .int c), (3, .int w), (4, .int i)], [])) (q2 := (16, [(0, .ref m), (1, .int s), (2, .int c), (3, .int w), (4, .int i)], [])) (cB := zc .ge i (gI MA s)) (off := 132) (lv := [(0, .ref m), (1, .int s), (2, .int c), (3, .int w), (4, .int i)]) (st := []) rfl rfl rfl rfl rfl (fun c13 => ?_) (fun c13 => ?_)
    · rw [c13]
      refine zeN (q := ((146, [(0, .ref m), (1, .int s), (2, .int c), (3, .int w), (4, .int i)], [.int w]), h)) 1 rfl ?_
      exact zer rfl (zreb (hb_w))
    · rw [c13]
      have hcc := of_decide_eq_false (z_ge c13).symm
      have hi1 := z_inc (a := i) (by omega) (by omega)
      have hnz : ¬ gI MA s = 0 := fun e => by rw [e] at hk1; exact absurd hk1 (by decide)
      have hs0 := hs.1
      have hcY : zIx c Y.length := zIx_s hc (by omega)
      have hA : zIx (f_Mo_corner MA s i 0) Y.length := zIx_corner hs0 hs1 hk1 hk2 h0 (by omega) (by decide) (by decide) hYl
      have hB : zIx (f_Mo_corner MA s i 1) Y.length := zIx_corner hs0 hs1 hk1 hk2 h0 (by omega) (by decide) (by decide) hYl
      have hAX : zIx (f_Mo_corner MA s i 0) X.length := zIx_s hA (by omega)
      have hBX : zIx (f_Mo_corner MA s i 1) X.length := zIx_s hB (by omega)
      refine zeN (q := ((21, [(0, .ref m), (1, .int s), (2, .int c), (3, .int w), (4, .int i)], [.int 0, .int i, .int s, .ref m]), h)) 4 rfl ?_
      refine zec 1 (M' := M_Mo_corner) (qq := ([.ref m, .int s, .int i, .int 0], [])) (s' := (24, [(0, .ref m), (1, .int s), (2, .int c), (3, .int w), (4, .int i)], [.int (f_Mo_corner MA s i 0)])) rfl rfl (fun _ => rfl) rfl rfl (zhk rfl (zrc_ok hm) rfl) (s_Mo_corner MA s i 0 m fs hm p_many hf_many ha_many hs hnz (by omega)) rfl ?_
      refine zeN (q := ((31, [(5, .int (f_Mo_corner MA s i 0)), (0, .ref m), (1, .int s), (2, .int c), (3, .int w), (4, .int i)], [.int 1, .int i, .int s, .ref m]), h)) 5 rfl ?_
      refine zec 1 (M' := M_Mo_corner) (qq := ([.ref m, .int s, .int i, .int 1], [])) (s' := (34, [(5, .int (f_Mo_corner MA s i 0)), (0, .ref m), (1, .int s), (2, .int c), (3, .int w), (4, .int i)], [.int (f_Mo_corner MA s i 1)])) rfl rfl (fun _ => rfl) rfl rfl (zhk rfl (zrc_ok hm) rfl) (s_Mo_corner MA s i 1 m fs hm p_many hf_many ha_many hs hnz (by omega)) rfl ?_
      refine zeN (q := ((37, [(6, .int (f_Mo_corner MA s i 1)), (5, .int (f_Mo_corner MA s i 0)), (0, .ref m), (1, .int s), (2, .int c), (3, .int w), (4, .int i)], [.ref m]), h)) 2 rfl ?_
      refine zegf (fs := fs) (v := .ref p_ys) rfl rfl rfl rfl hm hf_ys ?_
      refine zeN (q := ((42, [(6, .int (f_Mo_corner MA s i 1)), (5, .int (f_Mo_corner MA s i 0)), (0, .ref m), (1, .int s), (2, .int c), (3, .int w), (4, .int i)], [.int (f_Mo_corner MA s i 0), .ref p_ys]), h)) 1 rfl ?_
      refine zeia (l := Y.map Value.int) (k := (f_Mo_corner MA s i 0).toNatClampNeg) (v := .int (gI Y (f_Mo_corner MA s i 0))) rfl rfl ha_ys (zIx_a hA) (zIx_b hA) ?_
      refine zeN (q := ((44, [(6, .int (f_Mo_corner MA s i 1)), (5, .int (f_Mo_corner MA s i 0)), (0, .ref m), (1, .int s), (2, .int c), (3, .int w), (4, .int i)], [.ref m, .int (gI Y (f_Mo_corner MA s i 0))]), h)) 1 rfl ?_
      refine zegf (fs := fs) (v := .ref p_ys) rfl rfl rfl rfl hm hf_ys ?_
      refine zeN (q := ((48, [(6, .int (f_Mo_corner MA s i 1)), (5, .int (f_Mo_corner MA s i 0)), (0, .ref m), (1, .int s), (2, .int c), (3, .int w), (4, .int i)], [.int c, .ref p_ys, .int (gI Y (f_Mo_corner MA s i 0))]), h)) 1 rfl ?_
      refine zeia (l := Y.map Value.int) (k := c.toNatClampNeg) (v := .int (gI Y c)) rfl rfl ha_ys (zIx_a hcY) (zIx_b hcY) ?_
      refine zdia (q1 := (56, [(6, .int (f_Mo_corner MA s i 1)), (5, .int (f_Mo_corner MA s i 0)), (0, .ref m), (1, .int s), (2, .int c), (3, .int w), (4, .int i)], [])) (q2 := (52, [(6, .int (f_Mo_corner MA s i 1)), (5, .int (f_Mo_corner MA s i 0)), (0, .ref m), (1, .int s), (2, .int c), (3, .int w), (4, .int i)], [])) (cB := zc .le (gI Y (f_Mo_corner MA s i 0)) (gI Y c)) (off := 7) (lv := [(6, .int (f_Mo_corner MA s i 1)), (5, .int (f_Mo_corner MA s i 0)), (0, .ref m), (1, .int s), (2, .int c), (3, .int w), (4, .int i)]) (st := []) (lv2 := [(6, .int (f_Mo_corner MA s i 1)), (5, .int (f_Mo_corner MA s i 0)), (0, .ref m), (1, .int s), (2, .int c), (3, .int w), (4, .int i)]) (st2 := []) (J := 57) (vA := 0) (vB := 1) 1 2 rfl rfl rfl rfl rfl rfl rfl ?_
      refine zeN (q := ((58, [(6, .int (f_Mo_corner MA s i 1)), (5, .int (f_Mo_corner MA s i 0)), (0, .ref m), (1, .int s), (2, .int c), (3, .int w), (4, .int i)], [.ref m, .int (bif zc .le (gI Y (f_Mo_corner MA s i 0)) (gI Y c) then 0 else 1)]), h)) 1 rfl ?_
      refine zegf (fs := fs) (v := .ref p_ys) rfl rfl rfl rfl hm hf_ys ?_
      refine zeN (q := ((63, [(6, .int (f_Mo_corner MA s i 1)), (5, .int (f_Mo_corner MA s i 0)), (0, .ref m), (1, .int s), (2, .int c), (3, .int w), (4, .int i)], [.int (f_Mo_corner MA s i 1), .ref p_ys, .int (bif zc .le (gI Y (f_Mo_corner MA s i 0)) (gI Y c) then 0 else 1)]), h)) 1 rfl ?_
      refine zeia (l := Y.map Value.int) (k := (f_Mo_corner MA s i 1).toNatClampNeg) (v := .int (gI Y (f_Mo_corner MA s i 1))) rfl rfl ha_ys (zIx_a hB) (zIx_b hB) ?_
      refine zeN (q := ((65, [(6, .int (f_Mo_corner MA s i 1)), (5, .int (f_Mo_corner MA s i 0)), (0, .ref m), (1, .int s), (2, .int c), (3, .int w), (4, .int i)], [.ref m, .int (gI Y (f_Mo_corner MA s i 1)), .int (bif zc .le (gI Y (f_Mo_corner MA s i 0)) (gI Y c) then 0 else 1)]), h)) 1 rfl ?_
      refine zegf (fs := fs) (v := .ref p_ys) rfl rfl rfl rfl hm hf_ys ?_
      refine zeN (q := ((69, [(6, .int (f_Mo_corner MA s i 1)), (5, .int (f_Mo_corner MA s i 0)), (0, .ref m), (1, .int s), (2, .int c), (3, .int w), (4, .int i)], [.int c, .ref p_ys, .int (gI Y (f_Mo_corner MA s i 1)), .int (bif zc .le (gI Y (f_Mo_corner MA s i 0)) (gI Y c) then 0 else 1)]), h)) 1 rfl ?_
      refine zeia (l := Y.map Value.int) (k := c.toNatClampNeg) (v := .int (gI Y c)) rfl rfl ha_ys (zIx_a hcY) (zIx_b hcY) ?_
      refine zdia (q1 := (77, [(6, .int (f_Mo_corner MA s i 1)), (5, .int (f_Mo_corner MA s i 0)), (0, .ref m), (1, .int s), (2, .int c), (3, .int w), (4, .int i)], [.int (bif zc .le (gI Y (f_Mo_corner MA s i 0)) (gI Y c) then 0 else 1)])) (q2 := (73, [(6, .int (f_Mo_corner MA s i 1)), (5, .int (f_Mo_corner MA s i 0)), (0, .ref m), (1, .int s), (2, .int c), (3, .int w), (4, .int i)], [.int (bif zc .le (gI Y (f_Mo_corner MA s i 0)) (gI Y c) then 0 else 1)])) (cB := zc .le (gI Y (f_Mo_corner MA s i 1)) (gI Y c)) (off := 7) (lv := [(6, .int (f_Mo_corner MA s i 1)), (5, .int (f_Mo_corner MA s i 0)), (0, .ref m), (1, .int s), (2, .int c), (3, .int w), (4, .int i)]) (st := [.int (bif zc .le (gI Y (f_Mo_corner MA s i 0)) (gI Y c) then 0 else 1)]) (lv2 := [(6, .int (f_Mo_corner MA s i 1)), (5, .int (f_Mo_corner MA s i 0)), (0, .ref m), (1, .int s), (2, .int c), (3, .int w), (4, .int i)]) (st2 := [.int (bif zc .le (gI Y (f_Mo_corner MA s i 0)) (gI Y c) then 0 else 1)]) (J := 78) (vA := 0) (vB := 1) 1 2 rfl rfl rfl rfl rfl rfl rfl ?_
      refine zbc (q1 := (84, [(6, .int (f_Mo_corner MA s i 1)), (5, .int (f_Mo_corner MA s i 0)), (0, .ref m), (1, .int s), (2, .int c), (3, .int w), (4, .int i)], [])) (q2 := (81, [(6, .int (f_Mo_corner MA s i 1)), (5, .int (f_Mo_corner MA s i 0)), (0, .ref m), (1, .int s), (2, .int c), (3, .int w), (4, .int i)], [])) (cB := zc .ne (bif zc .le (gI Y (f_Mo_corner MA s i 0)) (gI Y c) then 0 else 1) (bif zc .le (gI Y (f_Mo_corner MA s i 1)) (gI Y c) then 0 else 1)) (off := 6) (lv := [(6, .int (f_Mo_corner MA s i 1)), (5, .int (f_Mo_corner MA s i 0)), (0, .ref m), (1, .int s), (2, .int c), (3, .int w), (4, .int i)]) (st := []) rfl rfl rfl rfl rfl (fun c78 => ?_) (fun c78 => ?_)
      · rw [c78]
        refine zeN (q := ((90, [(6, .int (f_Mo_corner MA s i 1)), (5, .int (f_Mo_corner MA s i 0)), (0, .ref m), (1, .int s), (2, .int c), (3, .int w), (4, .int i)], [.int c, .int (f_Mo_corner MA s i 1), .int (f_Mo_corner MA s i 0), .ref m]), h)) 4 rfl ?_
        refine zec 1 (M' := M_Mo_turn) (qq := ([.ref m, .int (f_Mo_corner MA s i 0), .int (f_Mo_corner MA s i 1), .int c], [])) (s' := (93, [(6, .int (f_Mo_corner MA s i 1)), (5, .int (f_Mo_corner MA s i 0)), (0, .ref m), (1, .int s), (2, .int c), (3, .int w), (4, .int i)], [.long (f_Mo_turn X Y (f_Mo_corner MA s i 0) (f_Mo_corner MA s i 1) c)])) rfl rfl (fun _ => rfl) rfl rfl (zhk rfl (zrc_ok hm) rfl) (s_Mo_turn X Y (f_Mo_corner MA s i 0) (f_Mo_corner MA s i 1) c m fs hm p_xs hf_xs ha_xs p_ys hf_ys ha_ys (by omega) hAX hBX hc (by omega)) rfl ?_
        refine zeN (q := ((96, [(7, .long (f_Mo_turn X Y (f_Mo_corner MA s i 0) (f_Mo_corner MA s i 1) c)), (6, .int (f_Mo_corner MA s i 1)), (5, .int (f_Mo_corner MA s i 0)), (0, .ref m), (1, .int s), (2, .int c), (3, .int w), (4, .int i)], [.ref m]), h)) 2 rfl ?_
        refine zegf (fs := fs) (v := .ref p_ys) rfl rfl rfl rfl hm hf_ys ?_
        refine zeN (q := ((101, [(7, .long (f_Mo_turn X Y (f_Mo_corner MA s i 0) (f_Mo_corner MA s i 1) c)), (6, .int (f_Mo_corner MA s i 1)), (5, .int (f_Mo_corner MA s i 0)), (0, .ref m), (1, .int s), (2, .int c), (3, .int w), (4, .int i)], [.int (f_Mo_corner MA s i 1), .ref p_ys]), h)) 1 rfl ?_
        refine zeia (l := Y.map Value.int) (k := (f_Mo_corner MA s i 1).toNatClampNeg) (v := .int (gI Y (f_Mo_corner MA s i 1))) rfl rfl ha_ys (zIx_a hB) (zIx_b hB) ?_
        refine zeN (q := ((103, [(7, .long (f_Mo_turn X Y (f_Mo_corner MA s i 0) (f_Mo_corner MA s i 1) c)), (6, .int (f_Mo_corner MA s i 1)), (5, .int (f_Mo_corner MA s i 0)), (0, .ref m), (1, .int s), (2, .int c), (3, .int w), (4, .int i)], [.ref m, .int (gI Y (f_Mo_corner MA s i 1))]), h)) 1 rfl ?_
        refine zegf (fs := fs) (v := .ref p_ys) rfl rfl rfl rfl hm hf_ys ?_
        refine zeN (q := ((108, [(7, .long (f_Mo_turn X Y (f_Mo_corner MA s i 0) (f_Mo_corner MA s i 1) c)), (6, .int (f_Mo_corner MA s i 1)), (5, .int (f_Mo_corner MA s i 0)), (0, .ref m), (1, .int s), (2, .int c), (3, .int w), (4, .int i)], [.int (f_Mo_corner MA s i 0), .ref p_ys, .int (gI Y (f_Mo_corner MA s i 1))]), h)) 1 rfl ?_
        refine zeia (l := Y.map Value.int) (k := (f_Mo_corner MA s i 0).toNatClampNeg) (v := .int (gI Y (f_Mo_corner MA s i 0))) rfl rfl ha_ys (zIx_a hA) (zIx_b hA) ?_
        refine zbc (q1 := (122, [(7, .long (f_Mo_turn X Y (f_Mo_corner MA s i 0) (f_Mo_corner MA s i 1) c)), (6, .int (f_Mo_corner MA s i 1)), (5, .int (f_Mo_corner MA s i 0)), (0, .ref m), (1, .int s), (2, .int c), (3, .int w), (4, .int i)], [])) (q2 := (112, [(7, .long (f_Mo_turn X Y (f_Mo_corner MA s i 0) (f_Mo_corner MA s i 1) c)), (6, .int (f_Mo_corner MA s i 1)), (5, .int (f_Mo_corner MA s i 0)), (0, .ref m), (1, .int s), (2, .int c), (3, .int w), (4, .int i)], [])) (cB := zc .le (gI Y (f_Mo_corner MA s i 1)) (gI Y (f_Mo_corner MA s i 0))) (off := 13) (lv := [(7, .long (f_Mo_turn X Y (f_Mo_corner MA s i 0) (f_Mo_corner MA s i 1) c)), (6, .int (f_Mo_corner MA s i 1)), (5, .int (f_Mo_corner MA s i 0)), (0, .ref m), (1, .int s), (2, .int c), (3, .int w), (4, .int i)]) (st := []) rfl rfl rfl rfl rfl (fun c109 => ?_) (fun c109 => ?_)
        · rw [c109]
          refine zeN (q := ((126, [(7, .long (f_Mo_turn X Y (f_Mo_corner MA s i 0) (f_Mo_corner MA s i 1) c)), (6, .int (f_Mo_corner MA s i 1)), (5, .int (f_Mo_corner MA s i 0)), (0, .ref m), (1, .int s), (2, .int c), (3, .int w), (4, .int i)], [.int (lg_cmp (f_Mo_turn X Y (f_Mo_corner MA s i 0) (f_Mo_corner MA s i 1) c) 0)]), h)) 3 rfl ?_
          refine zbc (q1 := (139, [(7, .long (f_Mo_turn X Y (f_Mo_corner MA s i 0) (f_Mo_corner MA s i 1) c)), (6, .int (f_Mo_corner MA s i 1)), (5, .int (f_Mo_corner MA s i 0)), (0, .ref m), (1, .int s), (2, .int c), (3, .int w), (4, .int i)], [])) (q2 := (129, [(7, .long (f_Mo_turn X Y (f_Mo_corner MA s i 0) (f_Mo_corner MA s i 1) c)), (6, .int (f_Mo_corner MA s i 1)), (5, .int (f_Mo_corner MA s i 0)), (0, .ref m), (1, .int s), (2, .int c), (3, .int w), (4, .int i)], [])) (cB := zc .ge (lg_cmp (f_Mo_turn X Y (f_Mo_corner MA s i 0) (f_Mo_corner MA s i 1) c) 0) 0) (off := 13) (lv := [(7, .long (f_Mo_turn X Y (f_Mo_corner MA s i 0) (f_Mo_corner MA s i 1) c)), (6, .int (f_Mo_corner MA s i 1)), (5, .int (f_Mo_corner MA s i 0)), (0, .ref m), (1, .int s), (2, .int c), (3, .int w), (4, .int i)]) (st := []) rfl rfl rfl rfl rfl (fun c126 => ?_) (fun c126 => ?_)
          · rw [c126]
            refine zeN (q := ((5, [(4, .int (i + Int32.ofInt 1)), (7, .long (f_Mo_turn X Y (f_Mo_corner MA s i 0) (f_Mo_corner MA s i 1) c)), (6, .int (f_Mo_corner MA s i 1)), (5, .int (f_Mo_corner MA s i 0)), (0, .ref m), (1, .int s), (2, .int c), (3, .int w)], []), h)) 2 rfl ?_
            refine zeS [(0, .ref m), (1, .int s), (2, .int c), (3, .int w), (4, .int (i + Int32.ofInt 1))] (zsub_pick [4, 5, 6, 7, 0] rfl rfl) ?_
            exact ih w (i + Int32.ofInt 1) (hb_w) (by omega) (by omega) (by omega)
          · rw [c126]
            refine zeN (q := ((130, [(7, .long (f_Mo_turn X Y (f_Mo_corner MA s i 0) (f_Mo_corner MA s i 1) c)), (6, .int (f_Mo_corner MA s i 1)), (5, .int (f_Mo_corner MA s i 0)), (0, .ref m), (1, .int s), (2, .int c), (3, .int w), (4, .int i)], [.int w]), h)) 1 rfl ?_
            refine zdia (q1 := (137, [(7, .long (f_Mo_turn X Y (f_Mo_corner MA s i 0) (f_Mo_corner MA s i 1) c)), (6, .int (f_Mo_corner MA s i 1)), (5, .int (f_Mo_corner MA s i 0)), (0, .ref m), (1, .int s), (2, .int c), (3, .int w), (4, .int i)], [])) (q2 := (133, [(7, .long (f_Mo_turn X Y (f_Mo_corner MA s i 0) (f_Mo_corner MA s i 1) c)), (6, .int (f_Mo_corner MA s i 1)), (5, .int (f_Mo_corner MA s i 0)), (0, .ref m), (1, .int s), (2, .int c), (3, .int w), (4, .int i)], [])) (cB := zc .ne w 0) (off := 7) (lv := [(7, .long (f_Mo_turn X Y (f_Mo_corner MA s i 0) (f_Mo_corner MA s i 1) c)), (6, .int (f_Mo_corner MA s i 1)), (5, .int (f_Mo_corner MA s i 0)), (0, .ref m), (1, .int s), (2, .int c), (3, .int w), (4, .int i)]) (st := []) (lv2 := [(7, .long (f_Mo_turn X Y (f_Mo_corner MA s i 0) (f_Mo_corner MA s i 1) c)), (6, .int (f_Mo_corner MA s i 1)), (5, .int (f_Mo_corner MA s i 0)), (0, .ref m), (1, .int s), (2, .int c), (3, .int w), (4, .int i)]) (st2 := []) (J := 138) (vA := 0) (vB := 1) 1 2 rfl rfl rfl rfl rfl rfl rfl ?_
            refine zeN (q := ((5, [(4, .int (i + Int32.ofInt 1)), (3, .int (bif zc .ne w 0 then 0 else 1)), (7, .long (f_Mo_turn X Y (f_Mo_corner MA s i 0) (f_Mo_corner MA s i 1) c)), (6, .int (f_Mo_corner MA s i 1)), (5, .int (f_Mo_corner MA s i 0)), (0, .ref m), (1, .int s), (2, .int c)], []), h)) 3 rfl ?_
            refine zeS [(0, .ref m), (1, .int s), (2, .int c), (3, .int (bif zc .ne w 0 then 0 else 1)), (4, .int (i + Int32.ofInt 1))] (zsub_pick [5, 6, 7, 1, 0] rfl rfl) ?_
            exact ih (bif zc .ne w 0 then 0 else 1) (i + Int32.ofInt 1) (zbb _) (by omega) (by omega) (by omega)
        · rw [c109]
          refine zeN (q := ((116, [(7, .long (f_Mo_turn X Y (f_Mo_corner MA s i 0) (f_Mo_corner MA s i 1) c)), (6, .int (f_Mo_corner MA s i 1)), (5, .int (f_Mo_corner MA s i 0)), (0, .ref m), (1, .int s), (2, .int c), (3, .int w), (4, .int i)], [.int (lg_cmp (f_Mo_turn X Y (f_Mo_corner MA s i 0) (f_Mo_corner MA s i 1) c) 0)]), h)) 3 rfl ?_
          refine zbc (q1 := (139, [(7, .long (f_Mo_turn X Y (f_Mo_corner MA s i 0) (f_Mo_corner MA s i 1) c)), (6, .int (f_Mo_corner MA s i 1)), (5, .int (f_Mo_corner MA s i 0)), (0, .ref m), (1, .int s), (2, .int c), (3, .int w), (4, .int i)], [])) (q2 := (119, [(7, .long (f_Mo_turn X Y (f_Mo_corner MA s i 0) (f_Mo_corner MA s i 1) c)), (6, .int (f_Mo_corner MA s i 1)), (5, .int (f_Mo_corner MA s i 0)), (0, .ref m), (1, .int s), (2, .int c), (3, .int w), (4, .int i)], [])) (cB := zc .le (lg_cmp (f_Mo_turn X Y (f_Mo_corner MA s i 0) (f_Mo_corner MA s i 1) c) 0) 0) (off := 23) (lv := [(7, .long (f_Mo_turn X Y (f_Mo_corner MA s i 0) (f_Mo_corner MA s i 1) c)), (6, .int (f_Mo_corner MA s i 1)), (5, .int (f_Mo_corner MA s i 0)), (0, .ref m), (1, .int s), (2, .int c), (3, .int w), (4, .int i)]) (st := []) rfl rfl rfl rfl rfl (fun c116 => ?_) (fun c116 => ?_)
          · rw [c116]
            refine zeN (q := ((5, [(4, .int (i + Int32.ofInt 1)), (7, .long (f_Mo_turn X Y (f_Mo_corner MA s i 0) (f_Mo_corner MA s i 1) c)), (6, .int (f_Mo_corner MA s i 1)), (5, .int (f_Mo_corner MA s i 0)), (0, .ref m), (1, .int s), (2, .int c), (3, .int w)], []), h)) 2 rfl ?_
            refine zeS [(0, .ref m), (1, .int s), (2, .int c), (3, .int w), (4, .int (i + Int32.ofInt 1))] (zsub_pick [4, 5, 6, 7, 0] rfl rfl) ?_
            exact ih w (i + Int32.ofInt 1) (hb_w) (by omega) (by omega) (by omega)
          · rw [c116]
            refine zeN (q := ((130, [(7, .long (f_Mo_turn X Y (f_Mo_corner MA s i 0) (f_Mo_corner MA s i 1) c)), (6, .int (f_Mo_corner MA s i 1)), (5, .int (f_Mo_corner MA s i 0)), (0, .ref m), (1, .int s), (2, .int c), (3, .int w), (4, .int i)], [.int w]), h)) 2 rfl ?_
            refine zdia (q1 := (137, [(7, .long (f_Mo_turn X Y (f_Mo_corner MA s i 0) (f_Mo_corner MA s i 1) c)), (6, .int (f_Mo_corner MA s i 1)), (5, .int (f_Mo_corner MA s i 0)), (0, .ref m), (1, .int s), (2, .int c), (3, .int w), (4, .int i)], [])) (q2 := (133, [(7, .long (f_Mo_turn X Y (f_Mo_corner MA s i 0) (f_Mo_corner MA s i 1) c)), (6, .int (f_Mo_corner MA s i 1)), (5, .int (f_Mo_corner MA s i 0)), (0, .ref m), (1, .int s), (2, .int c), (3, .int w), (4, .int i)], [])) (cB := zc .ne w 0) (off := 7) (lv := [(7, .long (f_Mo_turn X Y (f_Mo_corner MA s i 0) (f_Mo_corner MA s i 1) c)), (6, .int (f_Mo_corner MA s i 1)), (5, .int (f_Mo_corner MA s i 0)), (0, .ref m), (1, .int s), (2, .int c), (3, .int w), (4, .int i)]) (st := []) (lv2 := [(7, .long (f_Mo_turn X Y (f_Mo_corner MA s i 0) (f_Mo_corner MA s i 1) c)), (6, .int (f_Mo_corner MA s i 1)), (5, .int (f_Mo_corner MA s i 0)), (0, .ref m), (1, .int s), (2, .int c), (3, .int w), (4, .int i)]) (st2 := []) (J := 138) (vA := 0) (vB := 1) 1 2 rfl rfl rfl rfl rfl rfl rfl ?_
            refine zeN (q := ((5, [(4, .int (i + Int32.ofInt 1)), (3, .int (bif zc .ne w 0 then 0 else 1)), (7, .long (f_Mo_turn X Y (f_Mo_corner MA s i 0) (f_Mo_corner MA s i 1) c)), (6, .int (f_Mo_corner MA s i 1)), (5, .int (f_Mo_corner MA s i 0)), (0, .ref m), (1, .int s), (2, .int c)], []), h)) 3 rfl ?_
            refine zeS [(0, .ref m), (1, .int s), (2, .int c), (3, .int (bif zc .ne w 0 then 0 else 1)), (4, .int (i + Int32.ofInt 1))] (zsub_pick [5, 6, 7, 1, 0] rfl rfl) ?_
            exact ih (bif zc .ne w 0 then 0 else 1) (i + Int32.ofInt 1) (zbb _) (by omega) (by omega) (by omega)
      · rw [c78]
        refine zeN (q := ((5, [(4, .int (i + Int32.ofInt 1)), (6, .int (f_Mo_corner MA s i 1)), (5, .int (f_Mo_corner MA s i 0)), (0, .ref m), (1, .int s), (2, .int c), (3, .int w)], []), h)) 3 rfl ?_
        refine zeS [(0, .ref m), (1, .int s), (2, .int c), (3, .int w), (4, .int (i + Int32.ofInt 1))] (zsub_pick [3, 4, 5, 6, 0] rfl rfl) ?_
        exact ih w (i + Int32.ofInt 1) (hb_w) (by omega) (by omega) (by omega)
def f_Mo_within (X Y MA : List Int32) (s c : Int32) : Int32 := (f_Mo_within_L5 X Y MA s c 7 0 0)
theorem b_Mo_within (X Y MA : List Int32) (s c : Int32) : zB (f_Mo_within X Y MA s c) := by unfold f_Mo_within; exact (b_Mo_within_L5 X Y MA s c 7 0 0 (zB0))
set_option maxRecDepth 100000 in
theorem s_Mo_within {fr lo : Nat} {h : zH} (X Y MA : List Int32) (s c : Int32) (m : Nat) (fs : List Value) (hm : h.1[m]? = some (.inr (8, fs))) (p_many : Nat) (hf_many : fs[3]? = some (.ref p_many)) (ha_many : h.1[p_many]? = some (.inl (0, MA.map Value.int))) (p_xs : Nat) (hf_xs : fs[4]? = some (.ref p_xs)) (ha_xs : h.1[p_xs]? = some (.inl (0, X.map Value.int))) (p_ys : Nat) (hf_ys : fs[5]? = some (.ref p_ys)) (ha_ys : h.1[p_ys]? = some (.inl (0, Y.map Value.int))) (hXl : X.length = 390) (hYl : Y.length = 390) (hs : zIx s MA.length) (hs1 : s.toInt ≤ 64) (hk1 : 1 ≤ (gI MA s).toInt) (hk2 : (gI MA s).toInt ≤ 6) (hc : zIx c X.length) (hlo : 76 ≤ lo) : zAns (fr + 3) lo 124 [.ref m, .int s, .int c] h (some (.int (f_Mo_within X Y MA s c)), h) := by
  unfold f_Mo_within
  refine zeb (fr := fr + 2) (M := M_Mo_within) rfl (Nat.le_trans (by decide) hlo) rfl ?_
  have e0 : mL M_Mo_within = 9 := rfl
  refine zeN (q := ((5, [(4, .int 0), (3, .int 0), (0, .ref m), (1, .int s), (2, .int c)], []), h)) 4 rfl ?_
  refine zeS [(0, .ref m), (1, .int s), (2, .int c), (3, .int 0), (4, .int 0)] (zsub_pick [2, 3, 4, 1, 0] rfl rfl) ?_
  exact s_Mo_within_L5 X Y MA s c m fs hm p_many hf_many ha_many p_xs hf_xs ha_xs p_ys hf_ys ha_ys hXl hYl hs hs1 hk1 hk2 hc (by omega) 7 0 0 zB0 (Int.le_refl _) (by show (0 : Int) ≤ _; omega) (by show _ < (0 : Int) + _; omega)
