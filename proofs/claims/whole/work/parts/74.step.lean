-- one level of a row's squares goes into an index
def ixW (w : yW) (c : Nat) (sq : Nat → Nat × Int × Int) (d : Nat → Nat) (X Y X1 Y1 : Nat → Int) : Prop := ixI (w.1 c 5).toInt.toNat sq (fun i q => (w.1 (c + 1) (4 * i + q)).toInt.toNat) d X Y ∧ ixR (w.1 c 5).toInt.toNat sq (fun i => (w.1 (c + 2) i).toInt) (fun i => (w.1 (c + 3) i).toInt) (fun i => (w.1 (c + 4) i).toInt) (fun i => (w.1 (c + 5) i).toInt) d X Y X1 Y1
theorem part_a {w : yW} {c m q : Nat} (hm : m ≤ 128) (hq : q < 4) (hp : ¬ w.1 (c + 1) (4 * m + q) = 0) : e_In_partOf c (Int32.ofNat m) (Int32.ofNat q) w = (w, w.1 (c + 1) (4 * m + q)) := by
  have ei : (4 * Int32.ofNat m + Int32.ofNat q).toNatClampNeg = 4 * m + q := by
    rw [show (4 : Int32) = Int32.ofNat 4 from rfl, ← Int32.ofNat_mul, mk_add]
    exact n_clamp (by omega)
  have e : g_In_partOf_6 c (4 * Int32.ofNat m + Int32.ofNat q) w = w := by
    unfold g_In_partOf_6
    rw [ei, show zc .ne (w.1 (c + 1) (4 * m + q)) 0 = true from decide_eq_true hp]
    rfl
  unfold e_In_partOf
  rw [e, ei]
theorem part_b {w : yW} {c m q N : Nat} (hm : m ≤ 128) (hq : q < 4) (hs : w.1 c 5 = Int32.ofNat N) (hN : N ≤ 128) (hp : w.1 (c + 1) (4 * m + q) = 0) : e_In_partOf c (Int32.ofNat m) (Int32.ofNat q) w = (wI (e_In_newNode c w).1 (c + 1) (4 * m + q) (Int32.ofNat N), Int32.ofNat N) := by
  have ei : (4 * Int32.ofNat m + Int32.ofNat q).toNatClampNeg = 4 * m + q := by
    rw [show (4 : Int32) = Int32.ofNat 4 from rfl, ← Int32.ofNat_mul, mk_add]
    exact n_clamp (by omega)
  have e : g_In_partOf_6 c (4 * Int32.ofNat m + Int32.ofNat q) w = wI (e_In_newNode c w).1 (c + 1) (4 * m + q) (Int32.ofNat N) := by
    unfold g_In_partOf_6
    rw [ei, show zc .ne (w.1 (c + 1) (4 * m + q)) 0 = false from decide_eq_false (fun h => h hp), (new_n hs hN).1, hs]
    have : zc .ge (Int32.ofNat N) 129 = false := by rw [zc_ge, z_nat (by omega)]; exact decide_eq_false (by show ¬ (129 : Int) ≤ _; omega)
    rw [this]
    rfl
  unfold e_In_partOf
  rw [e, ei, wI_self]
theorem step_n {w : yW} {G : List zC} {c x r k m : Nat} {sq : Nat → Nat × Int × Int} {d : Nat → Nat} {X Y X1 Y1 : Nat → Int} (hy : yIn w c) (hW : ixW w c sq d X Y X1 Y1) (hr : r < 16) (hk : d r = k) (hk1 : 1 ≤ k) (hk8 : k ≤ 8) (hd9 : ∀ i, i < 16 → d i ≤ 9) (hm : m < (w.1 c 5).toInt.toNat) (hsq : sq m = ixQ X Y r (k - 1))
    (e0 : X r = (gB G x 0).toInt) (e1 : Y r = (gB G x 1).toInt) (e2 : X1 r = (gB G x 2).toInt) (e3 : Y1 r = (gB G x 3).toInt) (bX : 0 ≤ X r ∧ X r ≤ 255) (bY : 0 ≤ Y r ∧ Y r ≤ 255) (bX1 : 0 ≤ X1 r) (bY1 : 0 ≤ Y1 r) :
    ∃ m' sq', (e_In_partOf c (Int32.ofNat m) (f_Bo_quarter (gB G x 0) (gB G x 1) (gB G x 2) (gB G x 3) (Int32.ofNat k)) w).2 = Int32.ofNat m' ∧ m' < ((e_In_stretch G c (Int32.ofNat m') x (e_In_partOf c (Int32.ofNat m) (f_Bo_quarter (gB G x 0) (gB G x 1) (gB G x 2) (gB G x 3) (Int32.ofNat k)) w).1).1 c 5).toInt.toNat ∧ sq' m' = ixQ X Y r k ∧ ixW (e_In_stretch G c (Int32.ofNat m') x (e_In_partOf c (Int32.ofNat m) (f_Bo_quarter (gB G x 0) (gB G x 1) (gB G x 2) (gB G x 3) (Int32.ofNat k)) w).1) c sq' (ixU d r (k + 1)) X Y X1 Y1 := by
  have hz := hy.2
  have hs := z_ofn hz.1
  generalize hNn : (w.1 c 5).toInt.toNat = N at hm hs
  have hN129 : N ≤ 129 := by omega
  have hq := quarter_n (x0 := gB G x 0) (y0 := gB G x 1) (x1 := gB G x 2) (y1 := gB G x 3) (k := k) (by rw [← e0]; exact bX) (by rw [← e1]; exact bY) hk8
  rw [← e0, ← e1] at hq
  have hch := child_n (X := X) (Y := Y) (r := r) bX bY hk1 hk8
  have hq4 : (Y r).toNat / 2 ^ (8 - k) % 2 * 2 + (X r).toNat / 2 ^ (8 - k) % 2 < 4 := by omega
  generalize (Y r).toNat / 2 ^ (8 - k) % 2 * 2 + (X r).toNat / 2 ^ (8 - k) % 2 = q at hq hch hq4
  rw [hq]
  rw [← hsq] at hch
  obtain ⟨hI, hR⟩ := hW
  rw [hNn] at hI hR
  have hm128 : m ≤ 128 := by omega
  by_cases hp : w.1 (c + 1) (4 * m + q) = 0
  · -- a new node
    have h6 := hI.2.2.2.2.2
    have hmax := ixS_max (d := d) (r := r) (k := k) (by omega) (n := 16) hr hd9 hk1 (by omega)
    have hN : N ≤ 128 := by omega
    rw [part_b hm128 hq4 hs hN hp]
    obtain ⟨n1, n2, n3, n4, n5, n6, n7⟩ := new_n (c := c) hs hN
    refine ⟨N, fun i => if i = N then ixQ X Y r k else sq i, rfl, ?_⟩
    show N < ((e_In_stretch G c (Int32.ofNat N) x (wI (e_In_newNode c w).1 (c + 1) (4 * m + q) (Int32.ofNat N))).1 c 5).toInt.toNat ∧ _ ∧ ixW (e_In_stretch G c (Int32.ofNat N) x (wI (e_In_newNode c w).1 (c + 1) (4 * m + q) (Int32.ofNat N))) c _ _ X Y X1 Y1
    obtain ⟨s1, s2, s3, s4, s5, s6⟩ := str_n (G := G) (w := wI (e_In_newNode c w).1 (c + 1) (4 * m + q) (Int32.ofNat N)) (c := c) (x := x) (m := N) hN
    have f5 : ((e_In_stretch G c (Int32.ofNat N) x (wI (e_In_newNode c w).1 (c + 1) (4 * m + q) (Int32.ofNat N))).1 c 5).toInt.toNat = N + 1 := by
      rw [s1 c 5 (by omega) (by omega) (by omega) (by omega), wI_ne (by omega), n2, z_nat (by omega)]
      omega
    have fp : ∀ j, (e_In_stretch G c (Int32.ofNat N) x (wI (e_In_newNode c w).1 (c + 1) (4 * m + q) (Int32.ofNat N))).1 (c + 1) j = if j = 4 * m + q then Int32.ofNat N else if 4 * N ≤ j ∧ j < 4 * N + 4 then 0 else w.1 (c + 1) j := by
      intro j
      rw [s1 _ j (by omega) (by omega) (by omega) (by omega)]
      by_cases hj : j = 4 * m + q
      · rw [if_pos hj, hj, wI_self]
      · rw [if_neg hj, wI_nc (fun h => hj h.2), n3]
    unfold ixW
    rw [f5]
    refine ⟨by omega, if_pos rfl, ?_⟩
    have pz : (w.1 (c + 1) (4 * m + q)).toInt.toNat = 0 := by rw [hp]; rfl
    refine ix_new (m := m) (q := q) hI hR hr hk hk1 hd9 hm hq4 hch pz (fun i hi => if_neg (by omega)) (if_pos rfl) ?_ ?_ ?_ ?_ ?_ ?_ ?_ ?_
    · intro i p hi hp4 hne
      show ((e_In_stretch G c (Int32.ofNat N) x (wI (e_In_newNode c w).1 (c + 1) (4 * m + q) (Int32.ofNat N))).1 (c + 1) (4 * i + p)).toInt.toNat = (w.1 (c + 1) (4 * i + p)).toInt.toNat
      rw [fp, if_neg (by omega), if_neg (by omega)]
    · show ((e_In_stretch G c (Int32.ofNat N) x (wI (e_In_newNode c w).1 (c + 1) (4 * m + q) (Int32.ofNat N))).1 (c + 1) (4 * m + q)).toInt.toNat = N
      rw [fp, if_pos rfl, z_nat (by omega)]
      omega
    · intro p hp4
      show ((e_In_stretch G c (Int32.ofNat N) x (wI (e_In_newNode c w).1 (c + 1) (4 * m + q) (Int32.ofNat N))).1 (c + 1) (4 * N + p)).toInt.toNat = 0
      rw [fp, if_neg (by omega), if_pos (by omega)]
      rfl
    · intro i hi
      obtain ⟨a, b, g, h⟩ := s2 i (by omega)
      refine ⟨?_, ?_, ?_, ?_⟩
      · show ((e_In_stretch G c (Int32.ofNat N) x _).1 (c + 2) i).toInt = _
        rw [a, wI_ne (by omega), n4, if_neg (by omega)]
      · show ((e_In_stretch G c (Int32.ofNat N) x _).1 (c + 3) i).toInt = _
        rw [b, wI_ne (by omega), n5, if_neg (by omega)]
      · show ((e_In_stretch G c (Int32.ofNat N) x _).1 (c + 4) i).toInt = _
        rw [g, wI_ne (by omega), n6, if_neg (by omega)]
      · show ((e_In_stretch G c (Int32.ofNat N) x _).1 (c + 5) i).toInt = _
        rw [h, wI_ne (by omega), n7, if_neg (by omega)]
    · show ((e_In_stretch G c (Int32.ofNat N) x _).1 (c + 2) N).toInt = X r
      rw [s3, wI_ne (by omega), n4, if_pos rfl, ← e0]
      show min (255 : Int) (X r) = X r
      omega
    · show ((e_In_stretch G c (Int32.ofNat N) x _).1 (c + 3) N).toInt = Y r
      rw [s4, wI_ne (by omega), n5, if_pos rfl, ← e1]
      show min (255 : Int) (Y r) = Y r
      omega
    · show ((e_In_stretch G c (Int32.ofNat N) x _).1 (c + 4) N).toInt = X1 r
      rw [s5, wI_ne (by omega), n6, if_pos rfl, ← e2]
      show max (0 : Int) (X1 r) = X1 r
      omega
    · show ((e_In_stretch G c (Int32.ofNat N) x _).1 (c + 5) N).toInt = Y1 r
      rw [s6, wI_ne (by omega), n7, if_pos rfl, ← e3]
      show max (0 : Int) (Y1 r) = Y1 r
      omega
  · -- a node that stands
    rw [part_a hm128 hq4 hp]
    have hpt := hy.1 (4 * m + q) (by omega)
    have ep := z_ofn hpt.1
    have hne : ¬ (w.1 (c + 1) (4 * m + q)).toInt.toNat = 0 := by
      intro h0
      rw [h0] at ep
      exact hp ep
    obtain ⟨m', hm', hsm⟩ : ∃ m', (w.1 (c + 1) (4 * m + q)) = Int32.ofNat m' ∧ m' < N ∧ sq m' = ixQ X Y r k := by
      rcases hI.2.2.2.2.1 m q hm hq4 with ⟨h0, _⟩ | ⟨_, h2, h3⟩
      · exact absurd h0 hne
      · exact ⟨_, ep, h2, h3.trans hch⟩
    refine ⟨m', sq, hm', ?_⟩
    show m' < ((e_In_stretch G c (Int32.ofNat m') x w).1 c 5).toInt.toNat ∧ sq m' = _ ∧ ixW (e_In_stretch G c (Int32.ofNat m') x w) c sq (ixU d r (k + 1)) X Y X1 Y1
    obtain ⟨s1, s2, s3, s4, s5, s6⟩ := str_n (G := G) (w := w) (c := c) (x := x) (m := m') (by omega)
    have f5 : ((e_In_stretch G c (Int32.ofNat m') x w).1 c 5).toInt.toNat = N := by
      rw [s1 c 5 (by omega) (by omega) (by omega) (by omega)]
      exact hNn
    have fp : (fun i q => ((e_In_stretch G c (Int32.ofNat m') x w).1 (c + 1) (4 * i + q)).toInt.toNat) = fun i q => (w.1 (c + 1) (4 * i + q)).toInt.toNat := by
      funext i p
      rw [s1 _ _ (by omega) (by omega) (by omega) (by omega)]
    unfold ixW
    rw [f5, fp]
    refine ⟨hsm.1, hsm.2, ix_old hI hR hr hk hsm.1 hsm.2 ?_ ?_ ?_ ?_ ?_⟩
    · intro i hi hne2
      obtain ⟨a, b, g, h⟩ := s2 i hne2
      exact ⟨congrArg Int32.toInt a, congrArg Int32.toInt b, congrArg Int32.toInt g, congrArg Int32.toInt h⟩
    · rw [e0]; exact s3
    · rw [e1]; exact s4
    · rw [e2]; exact s5
    · rw [e3]; exact s6
