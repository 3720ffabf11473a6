def e_Mo_close (s : Int32) (t u : Int64) (w : yW) : yW × Int32 := (bif zc .gt (lg_cmp ((((f_Mo_gap (w.1 61 s.toNatClampNeg) (w.1 62 s.toNatClampNeg) (w.1 54 17) (w.1 54 18)) * (f_Mo_gap (w.1 61 s.toNatClampNeg) (w.1 62 s.toNatClampNeg) (w.1 54 17) (w.1 54 18))) + ((f_Mo_gap (w.1 63 s.toNatClampNeg) (w.1 64 s.toNatClampNeg) (w.1 54 19) (w.1 54 20)) * (f_Mo_gap (w.1 63 s.toNatClampNeg) (w.1 64 s.toNatClampNeg) (w.1 54 19) (w.1 54 20)))) * u) t) 0 then (w, 0) else (w, 1))
set_option maxRecDepth 100000 in
theorem r_Mo_close {fr lo sz : Nat} {G : List zC} (s : Int32) (t u : Int64) (w : yW) (hs : zIx s 65) (hlo : 52 ≤ lo) : zAns (fr + 2) lo 129 [.ref 54, .int s, .long t, .long u] (yhp w G sz) (some (.int (e_Mo_close s t u w).2), yhp (e_Mo_close s t u w).1 G sz) := by
  unfold e_Mo_close
  refine zeb (fr := fr + 1) (M := M_Mo_close) rfl (Nat.le_trans (by decide) hlo) rfl ?_
  have e0 : mL M_Mo_close = 10 := rfl
  refine zeN (q := ((1, [(0, .ref 54), (1, .int s), (2, .long t), (4, .long u)], [.ref 54]), yhp w G sz)) 1 rfl ?_
  refine ygf (kk := .inl (.ref 61)) (v := .ref 61) rfl rfl rfl rfl rfl rfl rfl ?_
  refine zeN (q := ((5, [(0, .ref 54), (1, .int s), (2, .long t), (4, .long u)], [.int s, .ref 61]), yhp w G sz)) 1 rfl ?_
  refine yia (N := 65) rfl rfl rfl (by assumption) ?_
  refine zeN (q := ((7, [(0, .ref 54), (1, .int s), (2, .long t), (4, .long u)], [.ref 54, .int (w.1 61 s.toNatClampNeg)]), yhp w G sz)) 1 rfl ?_
  refine ygf (kk := .inl (.ref 62)) (v := .ref 62) rfl rfl rfl rfl rfl rfl rfl ?_
  refine zeN (q := ((11, [(0, .ref 54), (1, .int s), (2, .long t), (4, .long u)], [.int s, .ref 62, .int (w.1 61 s.toNatClampNeg)]), yhp w G sz)) 1 rfl ?_
  refine yia (N := 65) rfl rfl rfl (by assumption) ?_
  refine zeN (q := ((13, [(0, .ref 54), (1, .int s), (2, .long t), (4, .long u)], [.ref 54, .int (w.1 62 s.toNatClampNeg), .int (w.1 61 s.toNatClampNeg)]), yhp w G sz)) 1 rfl ?_
  refine ygf (kk := .inr 0) (v := .int (w.1 54 17)) rfl rfl rfl rfl rfl rfl rfl ?_
  refine zeN (q := ((17, [(0, .ref 54), (1, .int s), (2, .long t), (4, .long u)], [.ref 54, .int (w.1 54 17), .int (w.1 62 s.toNatClampNeg), .int (w.1 61 s.toNatClampNeg)]), yhp w G sz)) 1 rfl ?_
  refine ygf (kk := .inr 0) (v := .int (w.1 54 18)) rfl rfl rfl rfl rfl rfl rfl ?_
  refine zec 0 (M' := M_Mo_gap) (qq := ([.int (w.1 61 s.toNatClampNeg), .int (w.1 62 s.toNatClampNeg), .int (w.1 54 17), .int (w.1 54 18)], [])) (s' := (23, [(0, .ref 54), (1, .int s), (2, .long t), (4, .long u)], [.long (f_Mo_gap (w.1 61 s.toNatClampNeg) (w.1 62 s.toNatClampNeg) (w.1 54 17) (w.1 54 18))])) rfl rfl (fun _ => rfl) rfl rfl rfl (s_Mo_gap (w.1 61 s.toNatClampNeg) (w.1 62 s.toNatClampNeg) (w.1 54 17) (w.1 54 18) (by omega)) rfl ?_
  refine zeN (q := ((26, [(6, .long (f_Mo_gap (w.1 61 s.toNatClampNeg) (w.1 62 s.toNatClampNeg) (w.1 54 17) (w.1 54 18))), (0, .ref 54), (1, .int s), (2, .long t), (4, .long u)], [.ref 54]), yhp w G sz)) 2 rfl ?_
  refine ygf (kk := .inl (.ref 63)) (v := .ref 63) rfl rfl rfl rfl rfl rfl rfl ?_
  refine zeN (q := ((30, [(6, .long (f_Mo_gap (w.1 61 s.toNatClampNeg) (w.1 62 s.toNatClampNeg) (w.1 54 17) (w.1 54 18))), (0, .ref 54), (1, .int s), (2, .long t), (4, .long u)], [.int s, .ref 63]), yhp w G sz)) 1 rfl ?_
  refine yia (N := 65) rfl rfl rfl (by assumption) ?_
  refine zeN (q := ((32, [(6, .long (f_Mo_gap (w.1 61 s.toNatClampNeg) (w.1 62 s.toNatClampNeg) (w.1 54 17) (w.1 54 18))), (0, .ref 54), (1, .int s), (2, .long t), (4, .long u)], [.ref 54, .int (w.1 63 s.toNatClampNeg)]), yhp w G sz)) 1 rfl ?_
  refine ygf (kk := .inl (.ref 64)) (v := .ref 64) rfl rfl rfl rfl rfl rfl rfl ?_
  refine zeN (q := ((36, [(6, .long (f_Mo_gap (w.1 61 s.toNatClampNeg) (w.1 62 s.toNatClampNeg) (w.1 54 17) (w.1 54 18))), (0, .ref 54), (1, .int s), (2, .long t), (4, .long u)], [.int s, .ref 64, .int (w.1 63 s.toNatClampNeg)]), yhp w G sz)) 1 rfl ?_
  refine yia (N := 65) rfl rfl rfl (by assumption) ?_
  refine zeN (q := ((38, [(6, .long (f_Mo_gap (w.1 61 s.toNatClampNeg) (w.1 62 s.toNatClampNeg) (w.1 54 17) (w.1 54 18))), (0, .ref 54), (1, .int s), (2, .long t), (4, .long u)], [.ref 54, .int (w.1 64 s.toNatClampNeg), .int (w.1 63 s.toNatClampNeg)]), yhp w G sz)) 1 rfl ?_
  refine ygf (kk := .inr 0) (v := .int (w.1 54 19)) rfl rfl rfl rfl rfl rfl rfl ?_
  refine zeN (q := ((42, [(6, .long (f_Mo_gap (w.1 61 s.toNatClampNeg) (w.1 62 s.toNatClampNeg) (w.1 54 17) (w.1 54 18))), (0, .ref 54), (1, .int s), (2, .long t), (4, .long u)], [.ref 54, .int (w.1 54 19), .int (w.1 64 s.toNatClampNeg), .int (w.1 63 s.toNatClampNeg)]), yhp w G sz)) 1 rfl ?_
  refine ygf (kk := .inr 0) (v := .int (w.1 54 20)) rfl rfl rfl rfl rfl rfl rfl ?_
  refine zec 0 (M' := M_Mo_gap) (qq := ([.int (w.1 63 s.toNatClampNeg), .int (w.1 64 s.toNatClampNeg), .int (w.1 54 19), .int (w.1 54 20)], [])) (s' := (48, [(6, .long (f_Mo_gap (w.1 61 s.toNatClampNeg) (w.1 62 s.toNatClampNeg) (w.1 54 17) (w.1 54 18))), (0, .ref 54), (1, .int s), (2, .long t), (4, .long u)], [.long (f_Mo_gap (w.1 63 s.toNatClampNeg) (w.1 64 s.toNatClampNeg) (w.1 54 19) (w.1 54 20))])) rfl rfl (fun _ => rfl) rfl rfl rfl (s_Mo_gap (w.1 63 s.toNatClampNeg) (w.1 64 s.toNatClampNeg) (w.1 54 19) (w.1 54 20) (by omega)) rfl ?_
  refine zeN (q := ((66, [(8, .long (f_Mo_gap (w.1 63 s.toNatClampNeg) (w.1 64 s.toNatClampNeg) (w.1 54 19) (w.1 54 20))), (6, .long (f_Mo_gap (w.1 61 s.toNatClampNeg) (w.1 62 s.toNatClampNeg) (w.1 54 17) (w.1 54 18))), (0, .ref 54), (1, .int s), (2, .long t), (4, .long u)], [.int (lg_cmp ((((f_Mo_gap (w.1 61 s.toNatClampNeg) (w.1 62 s.toNatClampNeg) (w.1 54 17) (w.1 54 18)) * (f_Mo_gap (w.1 61 s.toNatClampNeg) (w.1 62 s.toNatClampNeg) (w.1 54 17) (w.1 54 18))) + ((f_Mo_gap (w.1 63 s.toNatClampNeg) (w.1 64 s.toNatClampNeg) (w.1 54 19) (w.1 54 20)) * (f_Mo_gap (w.1 63 s.toNatClampNeg) (w.1 64 s.toNatClampNeg) (w.1 54 19) (w.1 54 20)))) * u) t)]), yhp w G sz)) 12 rfl ?_
  refine zbc (q1 := (73, [(8, .long (f_Mo_gap (w.1 63 s.toNatClampNeg) (w.1 64 s.toNatClampNeg) (w.1 54 19) (w.1 54 20))), (6, .long (f_Mo_gap (w.1 61 s.toNatClampNeg) (w.1 62 s.toNatClampNeg) (w.1 54 17) (w.1 54 18))), (0, .ref 54), (1, .int s), (2, .long t), (4, .long u)], [])) (q2 := (69, [(8, .long (f_Mo_gap (w.1 63 s.toNatClampNeg) (w.1 64 s.toNatClampNeg) (w.1 54 19) (w.1 54 20))), (6, .long (f_Mo_gap (w.1 61 s.toNatClampNeg) (w.1 62 s.toNatClampNeg) (w.1 54 17) (w.1 54 18))), (0, .ref 54), (1, .int s), (2, .long t), (4, .long u)], [])) (cB := zc .gt (lg_cmp ((((f_Mo_gap (w.1 61 s.toNatClampNeg) (w.1 62 s.toNatClampNeg) (w.1 54 17) (w.1 54 18)) * (f_Mo_gap (w.1 61 s.toNatClampNeg) (w.1 62 s.toNatClampNeg) (w.1 54 17) (w.1 54 18))) + ((f_Mo_gap (w.1 63 s.toNatClampNeg) (w.1 64 s.toNatClampNeg) (w.1 54 19) (w.1 54 20)) * (f_Mo_gap (w.1 63 s.toNatClampNeg) (w.1 64 s.toNatClampNeg) (w.1 54 19) (w.1 54 20)))) * u) t) 0) (off := 7) (lv := [(8, .long (f_Mo_gap (w.1 63 s.toNatClampNeg) (w.1 64 s.toNatClampNeg) (w.1 54 19) (w.1 54 20))), (6, .long (f_Mo_gap (w.1 61 s.toNatClampNeg) (w.1 62 s.toNatClampNeg) (w.1 54 17) (w.1 54 18))), (0, .ref 54), (1, .int s), (2, .long t), (4, .long u)]) (st := []) rfl rfl rfl rfl rfl (fun c66 => ?_) (fun c66 => ?_)
  · rw [c66]
    refine zeN (q := ((74, [(8, .long (f_Mo_gap (w.1 63 s.toNatClampNeg) (w.1 64 s.toNatClampNeg) (w.1 54 19) (w.1 54 20))), (6, .long (f_Mo_gap (w.1 61 s.toNatClampNeg) (w.1 62 s.toNatClampNeg) (w.1 54 17) (w.1 54 18))), (0, .ref 54), (1, .int s), (2, .long t), (4, .long u)], [.int 0]), yhp w G sz)) 1 rfl ?_
    exact zer rfl rfl
  · rw [c66]
    refine zeN (q := ((74, [(8, .long (f_Mo_gap (w.1 63 s.toNatClampNeg) (w.1 64 s.toNatClampNeg) (w.1 54 19) (w.1 54 20))), (6, .long (f_Mo_gap (w.1 61 s.toNatClampNeg) (w.1 62 s.toNatClampNeg) (w.1 54 17) (w.1 54 18))), (0, .ref 54), (1, .int s), (2, .long t), (4, .long u)], [.int 1]), yhp w G sz)) 2 rfl ?_
    exact zer rfl rfl
