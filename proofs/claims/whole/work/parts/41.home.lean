set_option maxRecDepth 100000 in
theorem zsh0_n : ∀ j : Fin 256, Int32.ofNat j.1 >>> (((8 : Int32) - 0) &&& 31) = 0 := by decide +kernel
theorem zsh0 {x : Int32} (h : 0 ≤ x.toInt ∧ x.toInt ≤ 255) : x >>> (((8 : Int32) - 0) &&& 31) = 0 := by
  have e : x = Int32.ofNat x.toInt.toNat := by
    apply Int32.toInt_inj.mp
    rw [z_nat (by omega)]
    omega
  rw [e]
  exact zsh0_n ⟨x.toInt.toNat, by omega⟩
def g_Mo_home_3 (s : Int32) : Nat → yW → Int32 → yW × Int32
  | 0, w, l => (w, l)
  | n + 1, w, l => (bif zc .ne ((w.1 61 s.toNatClampNeg) >>> ((8 - l) &&& 31)) ((w.1 62 s.toNatClampNeg) >>> ((8 - l) &&& 31)) then g_Mo_home_3 s n w (l + Int32.ofInt (-1)) else (bif zc .eq ((w.1 63 s.toNatClampNeg) >>> ((8 - l) &&& 31)) ((w.1 64 s.toNatClampNeg) >>> ((8 - l) &&& 31)) then (w, l) else g_Mo_home_3 s n w (l + Int32.ofInt (-1))))
set_option maxRecDepth 100000 in
theorem t_Mo_home_3 {fr lo sz : Nat} {G : List zC} {r : Option Value × zH} (s : Int32) (hs : zIx s 65) (hlo : 0 ≤ lo) : ∀ (n : Nat) (w : yW) (l : Int32) (b1 : 0 ≤ (w.1 61 s.toNatClampNeg).toInt ∧ (w.1 61 s.toNatClampNeg).toInt ≤ 255) (b2 : 0 ≤ (w.1 62 s.toNatClampNeg).toInt ∧ (w.1 62 s.toNatClampNeg).toInt ≤ 255) (b3 : 0 ≤ (w.1 63 s.toNatClampNeg).toInt ∧ (w.1 63 s.toNatClampNeg).toInt ≤ 255) (b4 : 0 ≤ (w.1 64 s.toNatClampNeg).toInt ∧ (w.1 64 s.toNatClampNeg).toInt ≤ 255) (h0 : 0 ≤ l.toInt) (h1 : l.toInt ≤ 8) (hn : l.toInt < n) (k : zRun (fr + 0) lo none M_Mo_home (59, [(0, .ref 54), (1, .int s), (2, .int ((g_Mo_home_3 s n w l).2))], []) (yhp (g_Mo_home_3 s n w l).1 G sz) r), zRun (fr + 0) lo none M_Mo_home (3, [(0, .ref 54), (1, .int s), (2, .int l)], []) (yhp w G sz) r := by
  intro n
  induction n with
  | zero => intro w l b1 b2 b3 b4 h0 h1 hn k; exfalso; omega
  | succ n ih =>
    intro w l b1 b2 b3 b4 h0 h1 hn k
    rw [g_Mo_home_3] at k
    refine zeN (q := ((4, [(0, .ref 54), (1, .int s), (2, .int l)], [.ref 54]), yhp w G sz)) 1 rfl ?_
    refine ygf (kk := .inl (.ref 61)) (v := .ref 61) rfl rfl rfl rfl rfl rfl rfl ?_
    refine zeN (q := ((8, [(0, .ref 54), (1, .int s), (2, .int l)], [.int s, .ref 61]), yhp w G sz)) 1 rfl ?_
    refine yia (N := 65) rfl rfl rfl (by assumption) ?_
    refine zeN (q := ((15, [(0, .ref 54), (1, .int s), (2, .int l)], [.ref 54, .int ((w.1 61 s.toNatClampNeg) >>> ((8 - l) &&& 31))]), yhp w G sz)) 5 rfl ?_
    refine ygf (kk := .inl (.ref 62)) (v := .ref 62) rfl rfl rfl rfl rfl rfl rfl ?_
    refine zeN (q := ((19, [(0, .ref 54), (1, .int s), (2, .int l)], [.int s, .ref 62, .int ((w.1 61 s.toNatClampNeg) >>> ((8 - l) &&& 31))]), yhp w G sz)) 1 rfl ?_
    refine yia (N := 65) rfl rfl rfl (by assumption) ?_
    refine zeN (q := ((25, [(0, .ref 54), (1, .int s), (2, .int l)], [.int ((w.1 62 s.toNatClampNeg) >>> ((8 - l) &&& 31)), .int ((w.1 61 s.toNatClampNeg) >>> ((8 - l) &&& 31))]), yhp w G sz)) 4 rfl ?_
    refine zbc (q1 := (53, [(0, .ref 54), (1, .int s), (2, .int l)], [])) (q2 := (28, [(0, .ref 54), (1, .int s), (2, .int l)], [])) (cB := zc .ne ((w.1 61 s.toNatClampNeg) >>> ((8 - l) &&& 31)) ((w.1 62 s.toNatClampNeg) >>> ((8 - l) &&& 31))) (off := 28) (lv := [(0, .ref 54), (1, .int s), (2, .int l)]) (st := []) rfl rfl rfl rfl rfl (fun c25 => ?_) (fun c25 => ?_)
    · rw [c25] at k
      have hl : ¬ l = 0 := by
        intro e
        rw [e] at c25
        first
          | (rw [zsh0 b1, zsh0 b2] at c25; exact absurd c25 (by decide))
          | (rw [e, zsh0 b3, zsh0 b4] at c50; exact absurd c50 (by decide))
      have hl0 : ¬ l.toInt = 0 := fun e => hl (Int32.toInt_inj.mp e)
      have hl1 : (l + Int32.ofInt (-1)).toInt = l.toInt - 1 := z_add (by show _ ≤ l.toInt + (-1); omega) (by show l.toInt + (-1) < _; omega)
      refine zeN (q := ((3, [(2, .int (l + Int32.ofInt (-1))), (0, .ref 54), (1, .int s)], []), yhp w G sz)) 2 rfl ?_
      refine zeS [(0, .ref 54), (1, .int s), (2, .int (l + Int32.ofInt (-1)))] (zsub_pick [1, 2, 0] rfl rfl) ?_
      exact ih w (l + Int32.ofInt (-1)) b1 b2 b3 b4 (by omega) (by omega) (by omega) k
    · rw [c25] at k
      refine zeN (q := ((29, [(0, .ref 54), (1, .int s), (2, .int l)], [.ref 54]), yhp w G sz)) 1 rfl ?_
      refine ygf (kk := .inl (.ref 63)) (v := .ref 63) rfl rfl rfl rfl rfl rfl rfl ?_
      refine zeN (q := ((33, [(0, .ref 54), (1, .int s), (2, .int l)], [.int s, .ref 63]), yhp w G sz)) 1 rfl ?_
      refine yia (N := 65) rfl rfl rfl (by assumption) ?_
      refine zeN (q := ((40, [(0, .ref 54), (1, .int s), (2, .int l)], [.ref 54, .int ((w.1 63 s.toNatClampNeg) >>> ((8 - l) &&& 31))]), yhp w G sz)) 5 rfl ?_
      refine ygf (kk := .inl (.ref 64)) (v := .ref 64) rfl rfl rfl rfl rfl rfl rfl ?_
      refine zeN (q := ((44, [(0, .ref 54), (1, .int s), (2, .int l)], [.int s, .ref 64, .int ((w.1 63 s.toNatClampNeg) >>> ((8 - l) &&& 31))]), yhp w G sz)) 1 rfl ?_
      refine yia (N := 65) rfl rfl rfl (by assumption) ?_
      refine zeN (q := ((50, [(0, .ref 54), (1, .int s), (2, .int l)], [.int ((w.1 64 s.toNatClampNeg) >>> ((8 - l) &&& 31)), .int ((w.1 63 s.toNatClampNeg) >>> ((8 - l) &&& 31))]), yhp w G sz)) 4 rfl ?_
      refine zbc (q1 := (59, [(0, .ref 54), (1, .int s), (2, .int l)], [])) (q2 := (53, [(0, .ref 54), (1, .int s), (2, .int l)], [])) (cB := zc .eq ((w.1 63 s.toNatClampNeg) >>> ((8 - l) &&& 31)) ((w.1 64 s.toNatClampNeg) >>> ((8 - l) &&& 31))) (off := 9) (lv := [(0, .ref 54), (1, .int s), (2, .int l)]) (st := []) rfl rfl rfl rfl rfl (fun c50 => ?_) (fun c50 => ?_)
      · rw [c50] at k
        exact k
      · rw [c50] at k
        have hl : ¬ l = 0 := by
          intro e
          rw [e] at c25
          first
            | (rw [zsh0 b1, zsh0 b2] at c25; exact absurd c25 (by decide))
            | (rw [e, zsh0 b3, zsh0 b4] at c50; exact absurd c50 (by decide))
        have hl0 : ¬ l.toInt = 0 := fun e => hl (Int32.toInt_inj.mp e)
        have hl1 : (l + Int32.ofInt (-1)).toInt = l.toInt - 1 := z_add (by show _ ≤ l.toInt + (-1); omega) (by show l.toInt + (-1) < _; omega)
        refine zeN (q := ((3, [(2, .int (l + Int32.ofInt (-1))), (0, .ref 54), (1, .int s)], []), yhp w G sz)) 2 rfl ?_
        refine zeS [(0, .ref 54), (1, .int s), (2, .int (l + Int32.ofInt (-1)))] (zsub_pick [1, 2, 0] rfl rfl) ?_
        exact ih w (l + Int32.ofInt (-1)) b1 b2 b3 b4 (by omega) (by omega) (by omega) k
def e_Mo_home (s : Int32) (w : yW) : yW × Int32 := ((g_Mo_home_3 s 9 w 8).1, (g_Mo_home_3 s 9 w 8).2)
set_option maxRecDepth 100000 in
theorem r_Mo_home {fr lo sz : Nat} {G : List zC} (s : Int32) (w : yW) (hs : zIx s 65) (b1 : 0 ≤ (w.1 61 s.toNatClampNeg).toInt ∧ (w.1 61 s.toNatClampNeg).toInt ≤ 255) (b2 : 0 ≤ (w.1 62 s.toNatClampNeg).toInt ∧ (w.1 62 s.toNatClampNeg).toInt ≤ 255) (b3 : 0 ≤ (w.1 63 s.toNatClampNeg).toInt ∧ (w.1 63 s.toNatClampNeg).toInt ≤ 255) (b4 : 0 ≤ (w.1 64 s.toNatClampNeg).toInt ∧ (w.1 64 s.toNatClampNeg).toInt ≤ 255) (hlo : 22 ≤ lo) : zAns (fr + 1) lo 131 [.ref 54, .int s] (yhp w G sz) (some (.int (e_Mo_home s w).2), yhp (e_Mo_home s w).1 G sz) := by
  unfold e_Mo_home
  refine zeb (fr := fr + 0) (M := M_Mo_home) rfl (Nat.le_trans (by decide) hlo) rfl ?_
  have e0 : mL M_Mo_home = 3 := rfl
  refine zeN (q := ((3, [(2, .int 8), (0, .ref 54), (1, .int s)], []), yhp w G sz)) 2 rfl ?_
  refine zeS [(0, .ref 54), (1, .int s), (2, .int 8)] (zsub_pick [1, 2, 0] rfl rfl) ?_
  refine t_Mo_home_3 s hs (by omega) 9 w 8 b1 b2 b3 b4 (by decide) (by decide) (by decide) ?_
  refine zeN (q := ((60, [(0, .ref 54), (1, .int s), (2, .int ((g_Mo_home_3 s 9 w 8).2))], [.int ((g_Mo_home_3 s 9 w 8).2)]), yhp ((g_Mo_home_3 s 9 w 8).1) G sz)) 1 rfl ?_
  exact zer rfl rfl
