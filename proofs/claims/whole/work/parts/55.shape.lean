def e_Mo_stuck (a b c : Int32) (w : yW) : Int32 := (bif zc .ne (lg_cmp (f_Mo_cross (w.1 65 a.toNatClampNeg) (w.1 66 a.toNatClampNeg) (w.1 65 b.toNatClampNeg) (w.1 66 b.toNatClampNeg) (w.1 65 c.toNatClampNeg) (w.1 66 c.toNatClampNeg)) 0) 0 then 0 else (bif zc .le ((((w.1 65 a.toNatClampNeg) - (w.1 65 b.toNatClampNeg)) * ((w.1 65 c.toNatClampNeg) - (w.1 65 b.toNatClampNeg))) + (((w.1 66 a.toNatClampNeg) - (w.1 66 b.toNatClampNeg)) * ((w.1 66 c.toNatClampNeg) - (w.1 66 b.toNatClampNeg)))) 0 then 0 else 1))
set_option maxRecDepth 100000 in
theorem r_Mo_stuck {fr lo sz : Nat} {G : List zC} (a b c : Int32) (w : yW) (ha : zIx a 6) (hb : zIx b 6) (hc : zIx c 6) (hlo : 49 ≤ lo) : zAns (fr + 2) lo 102 [.ref 54, .int a, .int b, .int c] (yhp w G sz) (some (.int ((e_Mo_stuck a b c w))), yhp w G sz) := by
  unfold e_Mo_stuck
  refine zeb (fr := fr + 1) (M := M_Mo_stuck) rfl (Nat.le_trans (by decide) hlo) rfl ?_
  have e0 : mL M_Mo_stuck = 5 := rfl
  refine zeN (q := ((1, [(0, .ref 54), (1, .int a), (2, .int b), (3, .int c)], [.ref 54]), yhp w G sz)) 1 rfl ?_
  refine ygf (kk := .inl (.ref 65)) (v := .ref 65) rfl rfl rfl rfl rfl rfl rfl ?_
  refine zeN (q := ((5, [(0, .ref 54), (1, .int a), (2, .int b), (3, .int c)], [.int a, .ref 65]), yhp w G sz)) 1 rfl ?_
  refine yia (N := 6) rfl rfl rfl (by assumption) ?_
  refine zeN (q := ((7, [(0, .ref 54), (1, .int a), (2, .int b), (3, .int c)], [.ref 54, .int (w.1 65 a.toNatClampNeg)]), yhp w G sz)) 1 rfl ?_
  refine ygf (kk := .inl (.ref 65)) (v := .ref 65) rfl rfl rfl rfl rfl rfl rfl ?_
  refine zeN (q := ((11, [(0, .ref 54), (1, .int a), (2, .int b), (3, .int c)], [.int b, .ref 65, .int (w.1 65 a.toNatClampNeg)]), yhp w G sz)) 1 rfl ?_
  refine yia (N := 6) rfl rfl rfl (by assumption) ?_
  refine zeN (q := ((14, [(0, .ref 54), (1, .int a), (2, .int b), (3, .int c)], [.ref 54, .int ((w.1 65 a.toNatClampNeg) - (w.1 65 b.toNatClampNeg))]), yhp w G sz)) 2 rfl ?_
  refine ygf (kk := .inl (.ref 65)) (v := .ref 65) rfl rfl rfl rfl rfl rfl rfl ?_
  refine zeN (q := ((18, [(0, .ref 54), (1, .int a), (2, .int b), (3, .int c)], [.int c, .ref 65, .int ((w.1 65 a.toNatClampNeg) - (w.1 65 b.toNatClampNeg))]), yhp w G sz)) 1 rfl ?_
  refine yia (N := 6) rfl rfl rfl (by assumption) ?_
  refine zeN (q := ((20, [(0, .ref 54), (1, .int a), (2, .int b), (3, .int c)], [.ref 54, .int (w.1 65 c.toNatClampNeg), .int ((w.1 65 a.toNatClampNeg) - (w.1 65 b.toNatClampNeg))]), yhp w G sz)) 1 rfl ?_
  refine ygf (kk := .inl (.ref 65)) (v := .ref 65) rfl rfl rfl rfl rfl rfl rfl ?_
  refine zeN (q := ((24, [(0, .ref 54), (1, .int a), (2, .int b), (3, .int c)], [.int b, .ref 65, .int (w.1 65 c.toNatClampNeg), .int ((w.1 65 a.toNatClampNeg) - (w.1 65 b.toNatClampNeg))]), yhp w G sz)) 1 rfl ?_
  refine yia (N := 6) rfl rfl rfl (by assumption) ?_
  refine zeN (q := ((28, [(0, .ref 54), (1, .int a), (2, .int b), (3, .int c)], [.ref 54, .int (((w.1 65 a.toNatClampNeg) - (w.1 65 b.toNatClampNeg)) * ((w.1 65 c.toNatClampNeg) - (w.1 65 b.toNatClampNeg)))]), yhp w G sz)) 3 rfl ?_
  refine ygf (kk := .inl (.ref 66)) (v := .ref 66) rfl rfl rfl rfl rfl rfl rfl ?_
  refine zeN (q := ((32, [(0, .ref 54), (1, .int a), (2, .int b), (3, .int c)], [.int a, .ref 66, .int (((w.1 65 a.toNatClampNeg) - (w.1 65 b.toNatClampNeg)) * ((w.1 65 c.toNatClampNeg) - (w.1 65 b.toNatClampNeg)))]), yhp w G sz)) 1 rfl ?_
  refine yia (N := 6) rfl rfl rfl (by assumption) ?_
  refine zeN (q := ((34, [(0, .ref 54), (1, .int a), (2, .int b), (3, .int c)], [.ref 54, .int (w.1 66 a.toNatClampNeg), .int (((w.1 65 a.toNatClampNeg) - (w.1 65 b.toNatClampNeg)) * ((w.1 65 c.toNatClampNeg) - (w.1 65 b.toNatClampNeg)))]), yhp w G sz)) 1 rfl ?_
  refine ygf (kk := .inl (.ref 66)) (v := .ref 66) rfl rfl rfl rfl rfl rfl rfl ?_
  refine zeN (q := ((38, [(0, .ref 54), (1, .int a), (2, .int b), (3, .int c)], [.int b, .ref 66, .int (w.1 66 a.toNatClampNeg), .int (((w.1 65 a.toNatClampNeg) - (w.1 65 b.toNatClampNeg)) * ((w.1 65 c.toNatClampNeg) - (w.1 65 b.toNatClampNeg)))]), yhp w G sz)) 1 rfl ?_
  refine yia (N := 6) rfl rfl rfl (by assumption) ?_
  refine zeN (q := ((41, [(0, .ref 54), (1, .int a), (2, .int b), (3, .int c)], [.ref 54, .int ((w.1 66 a.toNatClampNeg) - (w.1 66 b.toNatClampNeg)), .int (((w.1 65 a.toNatClampNeg) - (w.1 65 b.toNatClampNeg)) * ((w.1 65 c.toNatClampNeg) - (w.1 65 b.toNatClampNeg)))]), yhp w G sz)) 2 rfl ?_
  refine ygf (kk := .inl (.ref 66)) (v := .ref 66) rfl rfl rfl rfl rfl rfl rfl ?_
  refine zeN (q := ((45, [(0, .ref 54), (1, .int a), (2, .int b), (3, .int c)], [.int c, .ref 66, .int ((w.1 66 a.toNatClampNeg) - (w.1 66 b.toNatClampNeg)), .int (((w.1 65 a.toNatClampNeg) - (w.1 65 b.toNatClampNeg)) * ((w.1 65 c.toNatClampNeg) - (w.1 65 b.toNatClampNeg)))]), yhp w G sz)) 1 rfl ?_
  refine yia (N := 6) rfl rfl rfl (by assumption) ?_
  refine zeN (q := ((47, [(0, .ref 54), (1, .int a), (2, .int b), (3, .int c)], [.ref 54, .int (w.1 66 c.toNatClampNeg), .int ((w.1 66 a.toNatClampNeg) - (w.1 66 b.toNatClampNeg)), .int (((w.1 65 a.toNatClampNeg) - (w.1 65 b.toNatClampNeg)) * ((w.1 65 c.toNatClampNeg) - (w.1 65 b.toNatClampNeg)))]), yhp w G sz)) 1 rfl ?_
  refine ygf (kk := .inl (.ref 66)) (v := .ref 66) rfl rfl rfl rfl rfl rfl rfl ?_
  refine zeN (q := ((51, [(0, .ref 54), (1, .int a), (2, .int b), (3, .int c)], [.int b, .ref 66, .int (w.1 66 c.toNatClampNeg), .int ((w.1 66 a.toNatClampNeg) - (w.1 66 b.toNatClampNeg)), .int (((w.1 65 a.toNatClampNeg) - (w.1 65 b.toNatClampNeg)) * ((w.1 65 c.toNatClampNeg) - (w.1 65 b.toNatClampNeg)))]), yhp w G sz)) 1 rfl ?_
  refine yia (N := 6) rfl rfl rfl (by assumption) ?_
  refine zeN (q := ((58, [(4, .int ((((w.1 65 a.toNatClampNeg) - (w.1 65 b.toNatClampNeg)) * ((w.1 65 c.toNatClampNeg) - (w.1 65 b.toNatClampNeg))) + (((w.1 66 a.toNatClampNeg) - (w.1 66 b.toNatClampNeg)) * ((w.1 66 c.toNatClampNeg) - (w.1 66 b.toNatClampNeg))))), (0, .ref 54), (1, .int a), (2, .int b), (3, .int c)], [.ref 54]), yhp w G sz)) 5 rfl ?_
  refine ygf (kk := .inl (.ref 65)) (v := .ref 65) rfl rfl rfl rfl rfl rfl rfl ?_
  refine zeN (q := ((62, [(4, .int ((((w.1 65 a.toNatClampNeg) - (w.1 65 b.toNatClampNeg)) * ((w.1 65 c.toNatClampNeg) - (w.1 65 b.toNatClampNeg))) + (((w.1 66 a.toNatClampNeg) - (w.1 66 b.toNatClampNeg)) * ((w.1 66 c.toNatClampNeg) - (w.1 66 b.toNatClampNeg))))), (0, .ref 54), (1, .int a), (2, .int b), (3, .int c)], [.int a, .ref 65]), yhp w G sz)) 1 rfl ?_
  refine yia (N := 6) rfl rfl rfl (by assumption) ?_
  refine zeN (q := ((64, [(4, .int ((((w.1 65 a.toNatClampNeg) - (w.1 65 b.toNatClampNeg)) * ((w.1 65 c.toNatClampNeg) - (w.1 65 b.toNatClampNeg))) + (((w.1 66 a.toNatClampNeg) - (w.1 66 b.toNatClampNeg)) * ((w.1 66 c.toNatClampNeg) - (w.1 66 b.toNatClampNeg))))), (0, .ref 54), (1, .int a), (2, .int b), (3, .int c)], [.ref 54, .int (w.1 65 a.toNatClampNeg)]), yhp w G sz)) 1 rfl ?_
  refine ygf (kk := .inl (.ref 66)) (v := .ref 66) rfl rfl rfl rfl rfl rfl rfl ?_
  refine zeN (q := ((68, [(4, .int ((((w.1 65 a.toNatClampNeg) - (w.1 65 b.toNatClampNeg)) * ((w.1 65 c.toNatClampNeg) - (w.1 65 b.toNatClampNeg))) + (((w.1 66 a.toNatClampNeg) - (w.1 66 b.toNatClampNeg)) * ((w.1 66 c.toNatClampNeg) - (w.1 66 b.toNatClampNeg))))), (0, .ref 54), (1, .int a), (2, .int b), (3, .int c)], [.int a, .ref 66, .int (w.1 65 a.toNatClampNeg)]), yhp w G sz)) 1 rfl ?_
  refine yia (N := 6) rfl rfl rfl (by assumption) ?_
  refine zeN (q := ((70, [(4, .int ((((w.1 65 a.toNatClampNeg) - (w.1 65 b.toNatClampNeg)) * ((w.1 65 c.toNatClampNeg) - (w.1 65 b.toNatClampNeg))) + (((w.1 66 a.toNatClampNeg) - (w.1 66 b.toNatClampNeg)) * ((w.1 66 c.toNatClampNeg) - (w.1 66 b.toNatClampNeg))))), (0, .ref 54), (1, .int a), (2, .int b), (3, .int c)], [.ref 54, .int (w.1 66 a.toNatClampNeg), .int (w.1 65 a.toNatClampNeg)]), yhp w G sz)) 1 rfl ?_
  refine ygf (kk := .inl (.ref 65)) (v := .ref 65) rfl rfl rfl rfl rfl rfl rfl ?_
  refine zeN (q := ((74, [(4, .int ((((w.1 65 a.toNatClampNeg) - (w.1 65 b.toNatClampNeg)) * ((w.1 65 c.toNatClampNeg) - (w.1 65 b.toNatClampNeg))) + (((w.1 66 a.toNatClampNeg) - (w.1 66 b.toNatClampNeg)) * ((w.1 66 c.toNatClampNeg) - (w.1 66 b.toNatClampNeg))))), (0, .ref 54), (1, .int a), (2, .int b), (3, .int c)], [.int b, .ref 65, .int (w.1 66 a.toNatClampNeg), .int (w.1 65 a.toNatClampNeg)]), yhp w G sz)) 1 rfl ?_
  refine yia (N := 6) rfl rfl rfl (by assumption) ?_
  refine zeN (q := ((76, [(4, .int ((((w.1 65 a.toNatClampNeg) - (w.1 65 b.toNatClampNeg)) * ((w.1 65 c.toNatClampNeg) - (w.1 65 b.toNatClampNeg))) + (((w.1 66 a.toNatClampNeg) - (w.1 66 b.toNatClampNeg)) * ((w.1 66 c.toNatClampNeg) - (w.1 66 b.toNatClampNeg))))), (0, .ref 54), (1, .int a), (2, .int b), (3, .int c)], [.ref 54, .int (w.1 65 b.toNatClampNeg), .int (w.1 66 a.toNatClampNeg), .int (w.1 65 a.toNatClampNeg)]), yhp w G sz)) 1 rfl ?_
  refine ygf (kk := .inl (.ref 66)) (v := .ref 66) rfl rfl rfl rfl rfl rfl rfl ?_
  refine zeN (q := ((80, [(4, .int ((((w.1 65 a.toNatClampNeg) - (w.1 65 b.toNatClampNeg)) * ((w.1 65 c.toNatClampNeg) - (w.1 65 b.toNatClampNeg))) + (((w.1 66 a.toNatClampNeg) - (w.1 66 b.toNatClampNeg)) * ((w.1 66 c.toNatClampNeg) - (w.1 66 b.toNatClampNeg))))), (0, .ref 54), (1, .int a), (2, .int b), (3, .int c)], [.int b, .ref 66, .int (w.1 65 b.toNatClampNeg), .int (w.1 66 a.toNatClampNeg), .int (w.1 65 a.toNatClampNeg)]), yhp w G sz)) 1 rfl ?_
  refine yia (N := 6) rfl rfl rfl (by assumption) ?_
  refine zeN (q := ((82, [(4, .int ((((w.1 65 a.toNatClampNeg) - (w.1 65 b.toNatClampNeg)) * ((w.1 65 c.toNatClampNeg) - (w.1 65 b.toNatClampNeg))) + (((w.1 66 a.toNatClampNeg) - (w.1 66 b.toNatClampNeg)) * ((w.1 66 c.toNatClampNeg) - (w.1 66 b.toNatClampNeg))))), (0, .ref 54), (1, .int a), (2, .int b), (3, .int c)], [.ref 54, .int (w.1 66 b.toNatClampNeg), .int (w.1 65 b.toNatClampNeg), .int (w.1 66 a.toNatClampNeg), .int (w.1 65 a.toNatClampNeg)]), yhp w G sz)) 1 rfl ?_
  refine ygf (kk := .inl (.ref 65)) (v := .ref 65) rfl rfl rfl rfl rfl rfl rfl ?_
  refine zeN (q := ((86, [(4, .int ((((w.1 65 a.toNatClampNeg) - (w.1 65 b.toNatClampNeg)) * ((w.1 65 c.toNatClampNeg) - (w.1 65 b.toNatClampNeg))) + (((w.1 66 a.toNatClampNeg) - (w.1 66 b.toNatClampNeg)) * ((w.1 66 c.toNatClampNeg) - (w.1 66 b.toNatClampNeg))))), (0, .ref 54), (1, .int a), (2, .int b), (3, .int c)], [.int c, .ref 65, .int (w.1 66 b.toNatClampNeg), .int (w.1 65 b.toNatClampNeg), .int (w.1 66 a.toNatClampNeg), .int (w.1 65 a.toNatClampNeg)]), yhp w G sz)) 1 rfl ?_
  refine yia (N := 6) rfl rfl rfl (by assumption) ?_
  refine zeN (q := ((88, [(4, .int ((((w.1 65 a.toNatClampNeg) - (w.1 65 b.toNatClampNeg)) * ((w.1 65 c.toNatClampNeg) - (w.1 65 b.toNatClampNeg))) + (((w.1 66 a.toNatClampNeg) - (w.1 66 b.toNatClampNeg)) * ((w.1 66 c.toNatClampNeg) - (w.1 66 b.toNatClampNeg))))), (0, .ref 54), (1, .int a), (2, .int b), (3, .int c)], [.ref 54, .int (w.1 65 c.toNatClampNeg), .int (w.1 66 b.toNatClampNeg), .int (w.1 65 b.toNatClampNeg), .int (w.1 66 a.toNatClampNeg), .int (w.1 65 a.toNatClampNeg)]), yhp w G sz)) 1 rfl ?_
  refine ygf (kk := .inl (.ref 66)) (v := .ref 66) rfl rfl rfl rfl rfl rfl rfl ?_
  refine zeN (q := ((92, [(4, .int ((((w.1 65 a.toNatClampNeg) - (w.1 65 b.toNatClampNeg)) * ((w.1 65 c.toNatClampNeg) - (w.1 65 b.toNatClampNeg))) + (((w.1 66 a.toNatClampNeg) - (w.1 66 b.toNatClampNeg)) * ((w.1 66 c.toNatClampNeg) - (w.1 66 b.toNatClampNeg))))), (0, .ref 54), (1, .int a), (2, .int b), (3, .int c)], [.int c, .ref 66, .int (w.1 65 c.toNatClampNeg), .int (w.1 66 b.toNatClampNeg), .int (w.1 65 b.toNatClampNeg), .int (w.1 66 a.toNatClampNeg), .int (w.1 65 a.toNatClampNeg)]), yhp w G sz)) 1 rfl ?_
  refine yia (N := 6) rfl rfl rfl (by assumption) ?_
  refine zec 0 (M' := M_Mo_cross) (qq := ([.int (w.1 65 a.toNatClampNeg), .int (w.1 66 a.toNatClampNeg), .int (w.1 65 b.toNatClampNeg), .int (w.1 66 b.toNatClampNeg), .int (w.1 65 c.toNatClampNeg), .int (w.1 66 c.toNatClampNeg)], [])) (s' := (96, [(4, .int ((((w.1 65 a.toNatClampNeg) - (w.1 65 b.toNatClampNeg)) * ((w.1 65 c.toNatClampNeg) - (w.1 65 b.toNatClampNeg))) + (((w.1 66 a.toNatClampNeg) - (w.1 66 b.toNatClampNeg)) * ((w.1 66 c.toNatClampNeg) - (w.1 66 b.toNatClampNeg))))), (0, .ref 54), (1, .int a), (2, .int b), (3, .int c)], [.long (f_Mo_cross (w.1 65 a.toNatClampNeg) (w.1 66 a.toNatClampNeg) (w.1 65 b.toNatClampNeg) (w.1 66 b.toNatClampNeg) (w.1 65 c.toNatClampNeg) (w.1 66 c.toNatClampNeg))])) rfl rfl (fun _ => rfl) rfl rfl rfl (s_Mo_cross (w.1 65 a.toNatClampNeg) (w.1 66 a.toNatClampNeg) (w.1 65 b.toNatClampNeg) (w.1 66 b.toNatClampNeg) (w.1 65 c.toNatClampNeg) (w.1 66 c.toNatClampNeg) (by omega)) rfl ?_
  refine zeN (q := ((98, [(4, .int ((((w.1 65 a.toNatClampNeg) - (w.1 65 b.toNatClampNeg)) * ((w.1 65 c.toNatClampNeg) - (w.1 65 b.toNatClampNeg))) + (((w.1 66 a.toNatClampNeg) - (w.1 66 b.toNatClampNeg)) * ((w.1 66 c.toNatClampNeg) - (w.1 66 b.toNatClampNeg))))), (0, .ref 54), (1, .int a), (2, .int b), (3, .int c)], [.int (lg_cmp (f_Mo_cross (w.1 65 a.toNatClampNeg) (w.1 66 a.toNatClampNeg) (w.1 65 b.toNatClampNeg) (w.1 66 b.toNatClampNeg) (w.1 65 c.toNatClampNeg) (w.1 66 c.toNatClampNeg)) 0)]), yhp w G sz)) 2 rfl ?_
  refine zbc (q1 := (110, [(4, .int ((((w.1 65 a.toNatClampNeg) - (w.1 65 b.toNatClampNeg)) * ((w.1 65 c.toNatClampNeg) - (w.1 65 b.toNatClampNeg))) + (((w.1 66 a.toNatClampNeg) - (w.1 66 b.toNatClampNeg)) * ((w.1 66 c.toNatClampNeg) - (w.1 66 b.toNatClampNeg))))), (0, .ref 54), (1, .int a), (2, .int b), (3, .int c)], [])) (q2 := (101, [(4, .int ((((w.1 65 a.toNatClampNeg) - (w.1 65 b.toNatClampNeg)) * ((w.1 65 c.toNatClampNeg) - (w.1 65 b.toNatClampNeg))) + (((w.1 66 a.toNatClampNeg) - (w.1 66 b.toNatClampNeg)) * ((w.1 66 c.toNatClampNeg) - (w.1 66 b.toNatClampNeg))))), (0, .ref 54), (1, .int a), (2, .int b), (3, .int c)], [])) (cB := zc .ne (lg_cmp (f_Mo_cross (w.1 65 a.toNatClampNeg) (w.1 66 a.toNatClampNeg) (w.1 65 b.toNatClampNeg) (w.1 66 b.toNatClampNeg) (w.1 65 c.toNatClampNeg) (w.1 66 c.toNatClampNeg)) 0) 0) (off := 12) (lv := [(4, .int ((((w.1 65 a.toNatClampNeg) - (w.1 65 b.toNatClampNeg)) * ((w.1 65 c.toNatClampNeg) - (w.1 65 b.toNatClampNeg))) + (((w.1 66 a.toNatClampNeg) - (w.1 66 b.toNatClampNeg)) * ((w.1 66 c.toNatClampNeg) - (w.1 66 b.toNatClampNeg))))), (0, .ref 54), (1, .int a), (2, .int b), (3, .int c)]) (st := []) rfl rfl rfl rfl rfl (fun c98 => ?_) (fun c98 => ?_)
  · rw [c98]
    refine zeN (q := ((111, [(4, .int ((((w.1 65 a.toNatClampNeg) - (w.1 65 b.toNatClampNeg)) * ((w.1 65 c.toNatClampNeg) - (w.1 65 b.toNatClampNeg))) + (((w.1 66 a.toNatClampNeg) - (w.1 66 b.toNatClampNeg)) * ((w.1 66 c.toNatClampNeg) - (w.1 66 b.toNatClampNeg))))), (0, .ref 54), (1, .int a), (2, .int b), (3, .int c)], [.int 0]), yhp w G sz)) 1 rfl ?_
    exact zer rfl rfl
  · rw [c98]
    refine zeN (q := ((103, [(4, .int ((((w.1 65 a.toNatClampNeg) - (w.1 65 b.toNatClampNeg)) * ((w.1 65 c.toNatClampNeg) - (w.1 65 b.toNatClampNeg))) + (((w.1 66 a.toNatClampNeg) - (w.1 66 b.toNatClampNeg)) * ((w.1 66 c.toNatClampNeg) - (w.1 66 b.toNatClampNeg))))), (0, .ref 54), (1, .int a), (2, .int b), (3, .int c)], [.int ((((w.1 65 a.toNatClampNeg) - (w.1 65 b.toNatClampNeg)) * ((w.1 65 c.toNatClampNeg) - (w.1 65 b.toNatClampNeg))) + (((w.1 66 a.toNatClampNeg) - (w.1 66 b.toNatClampNeg)) * ((w.1 66 c.toNatClampNeg) - (w.1 66 b.toNatClampNeg))))]), yhp w G sz)) 1 rfl ?_
    refine zbc (q1 := (110, [(4, .int ((((w.1 65 a.toNatClampNeg) - (w.1 65 b.toNatClampNeg)) * ((w.1 65 c.toNatClampNeg) - (w.1 65 b.toNatClampNeg))) + (((w.1 66 a.toNatClampNeg) - (w.1 66 b.toNatClampNeg)) * ((w.1 66 c.toNatClampNeg) - (w.1 66 b.toNatClampNeg))))), (0, .ref 54), (1, .int a), (2, .int b), (3, .int c)], [])) (q2 := (106, [(4, .int ((((w.1 65 a.toNatClampNeg) - (w.1 65 b.toNatClampNeg)) * ((w.1 65 c.toNatClampNeg) - (w.1 65 b.toNatClampNeg))) + (((w.1 66 a.toNatClampNeg) - (w.1 66 b.toNatClampNeg)) * ((w.1 66 c.toNatClampNeg) - (w.1 66 b.toNatClampNeg))))), (0, .ref 54), (1, .int a), (2, .int b), (3, .int c)], [])) (cB := zc .le ((((w.1 65 a.toNatClampNeg) - (w.1 65 b.toNatClampNeg)) * ((w.1 65 c.toNatClampNeg) - (w.1 65 b.toNatClampNeg))) + (((w.1 66 a.toNatClampNeg) - (w.1 66 b.toNatClampNeg)) * ((w.1 66 c.toNatClampNeg) - (w.1 66 b.toNatClampNeg)))) 0) (off := 7) (lv := [(4, .int ((((w.1 65 a.toNatClampNeg) - (w.1 65 b.toNatClampNeg)) * ((w.1 65 c.toNatClampNeg) - (w.1 65 b.toNatClampNeg))) + (((w.1 66 a.toNatClampNeg) - (w.1 66 b.toNatClampNeg)) * ((w.1 66 c.toNatClampNeg) - (w.1 66 b.toNatClampNeg))))), (0, .ref 54), (1, .int a), (2, .int b), (3, .int c)]) (st := []) rfl rfl rfl rfl rfl (fun c103 => ?_) (fun c103 => ?_)
    · rw [c103]
      refine zeN (q := ((111, [(4, .int ((((w.1 65 a.toNatClampNeg) - (w.1 65 b.toNatClampNeg)) * ((w.1 65 c.toNatClampNeg) - (w.1 65 b.toNatClampNeg))) + (((w.1 66 a.toNatClampNeg) - (w.1 66 b.toNatClampNeg)) * ((w.1 66 c.toNatClampNeg) - (w.1 66 b.toNatClampNeg))))), (0, .ref 54), (1, .int a), (2, .int b), (3, .int c)], [.int 0]), yhp w G sz)) 1 rfl ?_
      exact zer rfl rfl
    · rw [c103]
      refine zeN (q := ((111, [(4, .int ((((w.1 65 a.toNatClampNeg) - (w.1 65 b.toNatClampNeg)) * ((w.1 65 c.toNatClampNeg) - (w.1 65 b.toNatClampNeg))) + (((w.1 66 a.toNatClampNeg) - (w.1 66 b.toNatClampNeg)) * ((w.1 66 c.toNatClampNeg) - (w.1 66 b.toNatClampNeg))))), (0, .ref 54), (1, .int a), (2, .int b), (3, .int c)], [.int 1]), yhp w G sz)) 2 rfl ?_
      exact zer rfl rfl
theorem b_Mo_stuck (a b c : Int32) (w : yW) : zB (e_Mo_stuck a b c w) := by unfold e_Mo_stuck; repeat' first | exact zB0 | exact zB1 | refine zbi ?_ ?_
def e_Mo_apart (a b c d : Int32) (w : yW) : Int32 := (bif zc .ge (lg_cmp (f_Mo_cross (w.1 65 a.toNatClampNeg) (w.1 66 a.toNatClampNeg) (w.1 65 b.toNatClampNeg) (w.1 66 b.toNatClampNeg) (w.1 65 c.toNatClampNeg) (w.1 66 c.toNatClampNeg)) 0) 0 then (bif zc .le (lg_cmp (f_Mo_cross (w.1 65 a.toNatClampNeg) (w.1 66 a.toNatClampNeg) (w.1 65 b.toNatClampNeg) (w.1 66 b.toNatClampNeg) (w.1 65 c.toNatClampNeg) (w.1 66 c.toNatClampNeg)) 0) 0 then 0 else (bif zc .ge (lg_cmp (f_Mo_cross (w.1 65 a.toNatClampNeg) (w.1 66 a.toNatClampNeg) (w.1 65 b.toNatClampNeg) (w.1 66 b.toNatClampNeg) (w.1 65 d.toNatClampNeg) (w.1 66 d.toNatClampNeg)) 0) 0 then 0 else 1)) else (bif zc .gt (lg_cmp (f_Mo_cross (w.1 65 a.toNatClampNeg) (w.1 66 a.toNatClampNeg) (w.1 65 b.toNatClampNeg) (w.1 66 b.toNatClampNeg) (w.1 65 d.toNatClampNeg) (w.1 66 d.toNatClampNeg)) 0) 0 then 1 else (bif zc .le (lg_cmp (f_Mo_cross (w.1 65 a.toNatClampNeg) (w.1 66 a.toNatClampNeg) (w.1 65 b.toNatClampNeg) (w.1 66 b.toNatClampNeg) (w.1 65 c.toNatClampNeg) (w.1 66 c.toNatClampNeg)) 0) 0 then 0 else (bif zc .ge (lg_cmp (f_Mo_cross (w.1 65 a.toNatClampNeg) (w.1 66 a.toNatClampNeg) (w.1 65 b.toNatClampNeg) (w.1 66 b.toNatClampNeg) (w.1 65 d.toNatClampNeg) (w.1 66 d.toNatClampNeg)) 0) 0 then 0 else 1))))
set_option maxRecDepth 100000 in
theorem r_Mo_apart {fr lo sz : Nat} {G : List zC} (a b c d : Int32) (w : yW) (ha : zIx a 6) (hb : zIx b 6) (hc : zIx c 6) (hd : zIx d 6) (hlo : 53 ≤ lo) : zAns (fr + 2) lo 106 [.ref 54, .int a, .int b, .int c, .int d] (yhp w G sz) (some (.int ((e_Mo_apart a b c d w))), yhp w G sz) := by
  unfold e_Mo_apart
  refine zeb (fr := fr + 1) (M := M_Mo_apart) rfl (Nat.le_trans (by decide) hlo) rfl ?_
  have e0 : mL M_Mo_apart = 9 := rfl
  refine zeN (q := ((1, [(0, .ref 54), (1, .int a), (2, .int b), (3, .int c), (4, .int d)], [.ref 54]), yhp w G sz)) 1 rfl ?_
  refine ygf (kk := .inl (.ref 65)) (v := .ref 65) rfl rfl rfl rfl rfl rfl rfl ?_
  refine zeN (q := ((5, [(0, .ref 54), (1, .int a), (2, .int b), (3, .int c), (4, .int d)], [.int a, .ref 65]), yhp w G sz)) 1 rfl ?_
  refine yia (N := 6) rfl rfl rfl (by assumption) ?_
  refine zeN (q := ((7, [(0, .ref 54), (1, .int a), (2, .int b), (3, .int c), (4, .int d)], [.ref 54, .int (w.1 65 a.toNatClampNeg)]), yhp w G sz)) 1 rfl ?_
  refine ygf (kk := .inl (.ref 66)) (v := .ref 66) rfl rfl rfl rfl rfl rfl rfl ?_
  refine zeN (q := ((11, [(0, .ref 54), (1, .int a), (2, .int b), (3, .int c), (4, .int d)], [.int a, .ref 66, .int (w.1 65 a.toNatClampNeg)]), yhp w G sz)) 1 rfl ?_
  refine yia (N := 6) rfl rfl rfl (by assumption) ?_
  refine zeN (q := ((13, [(0, .ref 54), (1, .int a), (2, .int b), (3, .int c), (4, .int d)], [.ref 54, .int (w.1 66 a.toNatClampNeg), .int (w.1 65 a.toNatClampNeg)]), yhp w G sz)) 1 rfl ?_
  refine ygf (kk := .inl (.ref 65)) (v := .ref 65) rfl rfl rfl rfl rfl rfl rfl ?_
  refine zeN (q := ((17, [(0, .ref 54), (1, .int a), (2, .int b), (3, .int c), (4, .int d)], [.int b, .ref 65, .int (w.1 66 a.toNatClampNeg), .int (w.1 65 a.toNatClampNeg)]), yhp w G sz)) 1 rfl ?_
  refine yia (N := 6) rfl rfl rfl (by assumption) ?_
  refine zeN (q := ((19, [(0, .ref 54), (1, .int a), (2, .int b), (3, .int c), (4, .int d)], [.ref 54, .int (w.1 65 b.toNatClampNeg), .int (w.1 66 a.toNatClampNeg), .int (w.1 65 a.toNatClampNeg)]), yhp w G sz)) 1 rfl ?_
  refine ygf (kk := .inl (.ref 66)) (v := .ref 66) rfl rfl rfl rfl rfl rfl rfl ?_
  refine zeN (q := ((23, [(0, .ref 54), (1, .int a), (2, .int b), (3, .int c), (4, .int d)], [.int b, .ref 66, .int (w.1 65 b.toNatClampNeg), .int (w.1 66 a.toNatClampNeg), .int (w.1 65 a.toNatClampNeg)]), yhp w G sz)) 1 rfl ?_
  refine yia (N := 6) rfl rfl rfl (by assumption) ?_
  refine zeN (q := ((25, [(0, .ref 54), (1, .int a), (2, .int b), (3, .int c), (4, .int d)], [.ref 54, .int (w.1 66 b.toNatClampNeg), .int (w.1 65 b.toNatClampNeg), .int (w.1 66 a.toNatClampNeg), .int (w.1 65 a.toNatClampNeg)]), yhp w G sz)) 1 rfl ?_
  refine ygf (kk := .inl (.ref 65)) (v := .ref 65) rfl rfl rfl rfl rfl rfl rfl ?_
  refine zeN (q := ((29, [(0, .ref 54), (1, .int a), (2, .int b), (3, .int c), (4, .int d)], [.int c, .ref 65, .int (w.1 66 b.toNatClampNeg), .int (w.1 65 b.toNatClampNeg), .int (w.1 66 a.toNatClampNeg), .int (w.1 65 a.toNatClampNeg)]), yhp w G sz)) 1 rfl ?_
  refine yia (N := 6) rfl rfl rfl (by assumption) ?_
  refine zeN (q := ((31, [(0, .ref 54), (1, .int a), (2, .int b), (3, .int c), (4, .int d)], [.ref 54, .int (w.1 65 c.toNatClampNeg), .int (w.1 66 b.toNatClampNeg), .int (w.1 65 b.toNatClampNeg), .int (w.1 66 a.toNatClampNeg), .int (w.1 65 a.toNatClampNeg)]), yhp w G sz)) 1 rfl ?_
  refine ygf (kk := .inl (.ref 66)) (v := .ref 66) rfl rfl rfl rfl rfl rfl rfl ?_
  refine zeN (q := ((35, [(0, .ref 54), (1, .int a), (2, .int b), (3, .int c), (4, .int d)], [.int c, .ref 66, .int (w.1 65 c.toNatClampNeg), .int (w.1 66 b.toNatClampNeg), .int (w.1 65 b.toNatClampNeg), .int (w.1 66 a.toNatClampNeg), .int (w.1 65 a.toNatClampNeg)]), yhp w G sz)) 1 rfl ?_
  refine yia (N := 6) rfl rfl rfl (by assumption) ?_
  refine zec 0 (M' := M_Mo_cross) (qq := ([.int (w.1 65 a.toNatClampNeg), .int (w.1 66 a.toNatClampNeg), .int (w.1 65 b.toNatClampNeg), .int (w.1 66 b.toNatClampNeg), .int (w.1 65 c.toNatClampNeg), .int (w.1 66 c.toNatClampNeg)], [])) (s' := (39, [(0, .ref 54), (1, .int a), (2, .int b), (3, .int c), (4, .int d)], [.long (f_Mo_cross (w.1 65 a.toNatClampNeg) (w.1 66 a.toNatClampNeg) (w.1 65 b.toNatClampNeg) (w.1 66 b.toNatClampNeg) (w.1 65 c.toNatClampNeg) (w.1 66 c.toNatClampNeg))])) rfl rfl (fun _ => rfl) rfl rfl rfl (s_Mo_cross (w.1 65 a.toNatClampNeg) (w.1 66 a.toNatClampNeg) (w.1 65 b.toNatClampNeg) (w.1 66 b.toNatClampNeg) (w.1 65 c.toNatClampNeg) (w.1 66 c.toNatClampNeg) (by omega)) rfl ?_
  refine zeN (q := ((42, [(5, .long (f_Mo_cross (w.1 65 a.toNatClampNeg) (w.1 66 a.toNatClampNeg) (w.1 65 b.toNatClampNeg) (w.1 66 b.toNatClampNeg) (w.1 65 c.toNatClampNeg) (w.1 66 c.toNatClampNeg))), (0, .ref 54), (1, .int a), (2, .int b), (3, .int c), (4, .int d)], [.ref 54]), yhp w G sz)) 2 rfl ?_
  refine ygf (kk := .inl (.ref 65)) (v := .ref 65) rfl rfl rfl rfl rfl rfl rfl ?_
  refine zeN (q := ((46, [(5, .long (f_Mo_cross (w.1 65 a.toNatClampNeg) (w.1 66 a.toNatClampNeg) (w.1 65 b.toNatClampNeg) (w.1 66 b.toNatClampNeg) (w.1 65 c.toNatClampNeg) (w.1 66 c.toNatClampNeg))), (0, .ref 54), (1, .int a), (2, .int b), (3, .int c), (4, .int d)], [.int a, .ref 65]), yhp w G sz)) 1 rfl ?_
  refine yia (N := 6) rfl rfl rfl (by assumption) ?_
  refine zeN (q := ((48, [(5, .long (f_Mo_cross (w.1 65 a.toNatClampNeg) (w.1 66 a.toNatClampNeg) (w.1 65 b.toNatClampNeg) (w.1 66 b.toNatClampNeg) (w.1 65 c.toNatClampNeg) (w.1 66 c.toNatClampNeg))), (0, .ref 54), (1, .int a), (2, .int b), (3, .int c), (4, .int d)], [.ref 54, .int (w.1 65 a.toNatClampNeg)]), yhp w G sz)) 1 rfl ?_
  refine ygf (kk := .inl (.ref 66)) (v := .ref 66) rfl rfl rfl rfl rfl rfl rfl ?_
  refine zeN (q := ((52, [(5, .long (f_Mo_cross (w.1 65 a.toNatClampNeg) (w.1 66 a.toNatClampNeg) (w.1 65 b.toNatClampNeg) (w.1 66 b.toNatClampNeg) (w.1 65 c.toNatClampNeg) (w.1 66 c.toNatClampNeg))), (0, .ref 54), (1, .int a), (2, .int b), (3, .int c), (4, .int d)], [.int a, .ref 66, .int (w.1 65 a.toNatClampNeg)]), yhp w G sz)) 1 rfl ?_
  refine yia (N := 6) rfl rfl rfl (by assumption) ?_
  refine zeN (q := ((54, [(5, .long (f_Mo_cross (w.1 65 a.toNatClampNeg) (w.1 66 a.toNatClampNeg) (w.1 65 b.toNatClampNeg) (w.1 66 b.toNatClampNeg) (w.1 65 c.toNatClampNeg) (w.1 66 c.toNatClampNeg))), (0, .ref 54), (1, .int a), (2, .int b), (3, .int c), (4, .int d)], [.ref 54, .int (w.1 66 a.toNatClampNeg), .int (w.1 65 a.toNatClampNeg)]), yhp w G sz)) 1 rfl ?_
  refine ygf (kk := .inl (.ref 65)) (v := .ref 65) rfl rfl rfl rfl rfl rfl rfl ?_
  refine zeN (q := ((58, [(5, .long (f_Mo_cross (w.1 65 a.toNatClampNeg) (w.1 66 a.toNatClampNeg) (w.1 65 b.toNatClampNeg) (w.1 66 b.toNatClampNeg) (w.1 65 c.toNatClampNeg) (w.1 66 c.toNatClampNeg))), (0, .ref 54), (1, .int a), (2, .int b), (3, .int c), (4, .int d)], [.int b, .ref 65, .int (w.1 66 a.toNatClampNeg), .int (w.1 65 a.toNatClampNeg)]), yhp w G sz)) 1 rfl ?_
  refine yia (N := 6) rfl rfl rfl (by assumption) ?_
  refine zeN (q := ((60, [(5, .long (f_Mo_cross (w.1 65 a.toNatClampNeg) (w.1 66 a.toNatClampNeg) (w.1 65 b.toNatClampNeg) (w.1 66 b.toNatClampNeg) (w.1 65 c.toNatClampNeg) (w.1 66 c.toNatClampNeg))), (0, .ref 54), (1, .int a), (2, .int b), (3, .int c), (4, .int d)], [.ref 54, .int (w.1 65 b.toNatClampNeg), .int (w.1 66 a.toNatClampNeg), .int (w.1 65 a.toNatClampNeg)]), yhp w G sz)) 1 rfl ?_
  refine ygf (kk := .inl (.ref 66)) (v := .ref 66) rfl rfl rfl rfl rfl rfl rfl ?_
  refine zeN (q := ((64, [(5, .long (f_Mo_cross (w.1 65 a.toNatClampNeg) (w.1 66 a.toNatClampNeg) (w.1 65 b.toNatClampNeg) (w.1 66 b.toNatClampNeg) (w.1 65 c.toNatClampNeg) (w.1 66 c.toNatClampNeg))), (0, .ref 54), (1, .int a), (2, .int b), (3, .int c), (4, .int d)], [.int b, .ref 66, .int (w.1 65 b.toNatClampNeg), .int (w.1 66 a.toNatClampNeg), .int (w.1 65 a.toNatClampNeg)]), yhp w G sz)) 1 rfl ?_
  refine yia (N := 6) rfl rfl rfl (by assumption) ?_
  refine zeN (q := ((66, [(5, .long (f_Mo_cross (w.1 65 a.toNatClampNeg) (w.1 66 a.toNatClampNeg) (w.1 65 b.toNatClampNeg) (w.1 66 b.toNatClampNeg) (w.1 65 c.toNatClampNeg) (w.1 66 c.toNatClampNeg))), (0, .ref 54), (1, .int a), (2, .int b), (3, .int c), (4, .int d)], [.ref 54, .int (w.1 66 b.toNatClampNeg), .int (w.1 65 b.toNatClampNeg), .int (w.1 66 a.toNatClampNeg), .int (w.1 65 a.toNatClampNeg)]), yhp w G sz)) 1 rfl ?_
  refine ygf (kk := .inl (.ref 65)) (v := .ref 65) rfl rfl rfl rfl rfl rfl rfl ?_
  refine zeN (q := ((71, [(5, .long (f_Mo_cross (w.1 65 a.toNatClampNeg) (w.1 66 a.toNatClampNeg) (w.1 65 b.toNatClampNeg) (w.1 66 b.toNatClampNeg) (w.1 65 c.toNatClampNeg) (w.1 66 c.toNatClampNeg))), (0, .ref 54), (1, .int a), (2, .int b), (3, .int c), (4, .int d)], [.int d, .ref 65, .int (w.1 66 b.toNatClampNeg), .int (w.1 65 b.toNatClampNeg), .int (w.1 66 a.toNatClampNeg), .int (w.1 65 a.toNatClampNeg)]), yhp w G sz)) 1 rfl ?_
  refine yia (N := 6) rfl rfl rfl (by assumption) ?_
  refine zeN (q := ((73, [(5, .long (f_Mo_cross (w.1 65 a.toNatClampNeg) (w.1 66 a.toNatClampNeg) (w.1 65 b.toNatClampNeg) (w.1 66 b.toNatClampNeg) (w.1 65 c.toNatClampNeg) (w.1 66 c.toNatClampNeg))), (0, .ref 54), (1, .int a), (2, .int b), (3, .int c), (4, .int d)], [.ref 54, .int (w.1 65 d.toNatClampNeg), .int (w.1 66 b.toNatClampNeg), .int (w.1 65 b.toNatClampNeg), .int (w.1 66 a.toNatClampNeg), .int (w.1 65 a.toNatClampNeg)]), yhp w G sz)) 1 rfl ?_
  refine ygf (kk := .inl (.ref 66)) (v := .ref 66) rfl rfl rfl rfl rfl rfl rfl ?_
  refine zeN (q := ((78, [(5, .long (f_Mo_cross (w.1 65 a.toNatClampNeg) (w.1 66 a.toNatClampNeg) (w.1 65 b.toNatClampNeg) (w.1 66 b.toNatClampNeg) (w.1 65 c.toNatClampNeg) (w.1 66 c.toNatClampNeg))), (0, .ref 54), (1, .int a), (2, .int b), (3, .int c), (4, .int d)], [.int d, .ref 66, .int (w.1 65 d.toNatClampNeg), .int (w.1 66 b.toNatClampNeg), .int (w.1 65 b.toNatClampNeg), .int (w.1 66 a.toNatClampNeg), .int (w.1 65 a.toNatClampNeg)]), yhp w G sz)) 1 rfl ?_
  refine yia (N := 6) rfl rfl rfl (by assumption) ?_
  refine zec 0 (M' := M_Mo_cross) (qq := ([.int (w.1 65 a.toNatClampNeg), .int (w.1 66 a.toNatClampNeg), .int (w.1 65 b.toNatClampNeg), .int (w.1 66 b.toNatClampNeg), .int (w.1 65 d.toNatClampNeg), .int (w.1 66 d.toNatClampNeg)], [])) (s' := (82, [(5, .long (f_Mo_cross (w.1 65 a.toNatClampNeg) (w.1 66 a.toNatClampNeg) (w.1 65 b.toNatClampNeg) (w.1 66 b.toNatClampNeg) (w.1 65 c.toNatClampNeg) (w.1 66 c.toNatClampNeg))), (0, .ref 54), (1, .int a), (2, .int b), (3, .int c), (4, .int d)], [.long (f_Mo_cross (w.1 65 a.toNatClampNeg) (w.1 66 a.toNatClampNeg) (w.1 65 b.toNatClampNeg) (w.1 66 b.toNatClampNeg) (w.1 65 d.toNatClampNeg) (w.1 66 d.toNatClampNeg))])) rfl rfl (fun _ => rfl) rfl rfl rfl (s_Mo_cross (w.1 65 a.toNatClampNeg) (w.1 66 a.toNatClampNeg) (w.1 65 b.toNatClampNeg) (w.1 66 b.toNatClampNeg) (w.1 65 d.toNatClampNeg) (w.1 66 d.toNatClampNeg) (by omega)) rfl ?_
  refine zeN (q := ((88, [(7, .long (f_Mo_cross (w.1 65 a.toNatClampNeg) (w.1 66 a.toNatClampNeg) (w.1 65 b.toNatClampNeg) (w.1 66 b.toNatClampNeg) (w.1 65 d.toNatClampNeg) (w.1 66 d.toNatClampNeg))), (5, .long (f_Mo_cross (w.1 65 a.toNatClampNeg) (w.1 66 a.toNatClampNeg) (w.1 65 b.toNatClampNeg) (w.1 66 b.toNatClampNeg) (w.1 65 c.toNatClampNeg) (w.1 66 c.toNatClampNeg))), (0, .ref 54), (1, .int a), (2, .int b), (3, .int c), (4, .int d)], [.int (lg_cmp (f_Mo_cross (w.1 65 a.toNatClampNeg) (w.1 66 a.toNatClampNeg) (w.1 65 b.toNatClampNeg) (w.1 66 b.toNatClampNeg) (w.1 65 c.toNatClampNeg) (w.1 66 c.toNatClampNeg)) 0)]), yhp w G sz)) 4 rfl ?_
  refine zbc (q1 := (98, [(7, .long (f_Mo_cross (w.1 65 a.toNatClampNeg) (w.1 66 a.toNatClampNeg) (w.1 65 b.toNatClampNeg) (w.1 66 b.toNatClampNeg) (w.1 65 d.toNatClampNeg) (w.1 66 d.toNatClampNeg))), (5, .long (f_Mo_cross (w.1 65 a.toNatClampNeg) (w.1 66 a.toNatClampNeg) (w.1 65 b.toNatClampNeg) (w.1 66 b.toNatClampNeg) (w.1 65 c.toNatClampNeg) (w.1 66 c.toNatClampNeg))), (0, .ref 54), (1, .int a), (2, .int b), (3, .int c), (4, .int d)], [])) (q2 := (91, [(7, .long (f_Mo_cross (w.1 65 a.toNatClampNeg) (w.1 66 a.toNatClampNeg) (w.1 65 b.toNatClampNeg) (w.1 66 b.toNatClampNeg) (w.1 65 d.toNatClampNeg) (w.1 66 d.toNatClampNeg))), (5, .long (f_Mo_cross (w.1 65 a.toNatClampNeg) (w.1 66 a.toNatClampNeg) (w.1 65 b.toNatClampNeg) (w.1 66 b.toNatClampNeg) (w.1 65 c.toNatClampNeg) (w.1 66 c.toNatClampNeg))), (0, .ref 54), (1, .int a), (2, .int b), (3, .int c), (4, .int d)], [])) (cB := zc .ge (lg_cmp (f_Mo_cross (w.1 65 a.toNatClampNeg) (w.1 66 a.toNatClampNeg) (w.1 65 b.toNatClampNeg) (w.1 66 b.toNatClampNeg) (w.1 65 c.toNatClampNeg) (w.1 66 c.toNatClampNeg)) 0) 0) (off := 10) (lv := [(7, .long (f_Mo_cross (w.1 65 a.toNatClampNeg) (w.1 66 a.toNatClampNeg) (w.1 65 b.toNatClampNeg) (w.1 66 b.toNatClampNeg) (w.1 65 d.toNatClampNeg) (w.1 66 d.toNatClampNeg))), (5, .long (f_Mo_cross (w.1 65 a.toNatClampNeg) (w.1 66 a.toNatClampNeg) (w.1 65 b.toNatClampNeg) (w.1 66 b.toNatClampNeg) (w.1 65 c.toNatClampNeg) (w.1 66 c.toNatClampNeg))), (0, .ref 54), (1, .int a), (2, .int b), (3, .int c), (4, .int d)]) (st := []) rfl rfl rfl rfl rfl (fun c88 => ?_) (fun c88 => ?_)
  · rw [c88]
    refine zeN (q := ((102, [(7, .long (f_Mo_cross (w.1 65 a.toNatClampNeg) (w.1 66 a.toNatClampNeg) (w.1 65 b.toNatClampNeg) (w.1 66 b.toNatClampNeg) (w.1 65 d.toNatClampNeg) (w.1 66 d.toNatClampNeg))), (5, .long (f_Mo_cross (w.1 65 a.toNatClampNeg) (w.1 66 a.toNatClampNeg) (w.1 65 b.toNatClampNeg) (w.1 66 b.toNatClampNeg) (w.1 65 c.toNatClampNeg) (w.1 66 c.toNatClampNeg))), (0, .ref 54), (1, .int a), (2, .int b), (3, .int c), (4, .int d)], [.int (lg_cmp (f_Mo_cross (w.1 65 a.toNatClampNeg) (w.1 66 a.toNatClampNeg) (w.1 65 b.toNatClampNeg) (w.1 66 b.toNatClampNeg) (w.1 65 c.toNatClampNeg) (w.1 66 c.toNatClampNeg)) 0)]), yhp w G sz)) 3 rfl ?_
    refine zbc (q1 := (116, [(7, .long (f_Mo_cross (w.1 65 a.toNatClampNeg) (w.1 66 a.toNatClampNeg) (w.1 65 b.toNatClampNeg) (w.1 66 b.toNatClampNeg) (w.1 65 d.toNatClampNeg) (w.1 66 d.toNatClampNeg))), (5, .long (f_Mo_cross (w.1 65 a.toNatClampNeg) (w.1 66 a.toNatClampNeg) (w.1 65 b.toNatClampNeg) (w.1 66 b.toNatClampNeg) (w.1 65 c.toNatClampNeg) (w.1 66 c.toNatClampNeg))), (0, .ref 54), (1, .int a), (2, .int b), (3, .int c), (4, .int d)], [])) (q2 := (105, [(7, .long (f_Mo_cross (w.1 65 a.toNatClampNeg) (w.1 66 a.toNatClampNeg) (w.1 65 b.toNatClampNeg) (w.1 66 b.toNatClampNeg) (w.1 65 d.toNatClampNeg) (w.1 66 d.toNatClampNeg))), (5, .long (f_Mo_cross (w.1 65 a.toNatClampNeg) (w.1 66 a.toNatClampNeg) (w.1 65 b.toNatClampNeg) (w.1 66 b.toNatClampNeg) (w.1 65 c.toNatClampNeg) (w.1 66 c.toNatClampNeg))), (0, .ref 54), (1, .int a), (2, .int b), (3, .int c), (4, .int d)], [])) (cB := zc .le (lg_cmp (f_Mo_cross (w.1 65 a.toNatClampNeg) (w.1 66 a.toNatClampNeg) (w.1 65 b.toNatClampNeg) (w.1 66 b.toNatClampNeg) (w.1 65 c.toNatClampNeg) (w.1 66 c.toNatClampNeg)) 0) 0) (off := 14) (lv := [(7, .long (f_Mo_cross (w.1 65 a.toNatClampNeg) (w.1 66 a.toNatClampNeg) (w.1 65 b.toNatClampNeg) (w.1 66 b.toNatClampNeg) (w.1 65 d.toNatClampNeg) (w.1 66 d.toNatClampNeg))), (5, .long (f_Mo_cross (w.1 65 a.toNatClampNeg) (w.1 66 a.toNatClampNeg) (w.1 65 b.toNatClampNeg) (w.1 66 b.toNatClampNeg) (w.1 65 c.toNatClampNeg) (w.1 66 c.toNatClampNeg))), (0, .ref 54), (1, .int a), (2, .int b), (3, .int c), (4, .int d)]) (st := []) rfl rfl rfl rfl rfl (fun c102 => ?_) (fun c102 => ?_)
    · rw [c102]
      refine zeN (q := ((117, [(7, .long (f_Mo_cross (w.1 65 a.toNatClampNeg) (w.1 66 a.toNatClampNeg) (w.1 65 b.toNatClampNeg) (w.1 66 b.toNatClampNeg) (w.1 65 d.toNatClampNeg) (w.1 66 d.toNatClampNeg))), (5, .long (f_Mo_cross (w.1 65 a.toNatClampNeg) (w.1 66 a.toNatClampNeg) (w.1 65 b.toNatClampNeg) (w.1 66 b.toNatClampNeg) (w.1 65 c.toNatClampNeg) (w.1 66 c.toNatClampNeg))), (0, .ref 54), (1, .int a), (2, .int b), (3, .int c), (4, .int d)], [.int 0]), yhp w G sz)) 1 rfl ?_
      exact zer rfl rfl
    · rw [c102]
      refine zeN (q := ((109, [(7, .long (f_Mo_cross (w.1 65 a.toNatClampNeg) (w.1 66 a.toNatClampNeg) (w.1 65 b.toNatClampNeg) (w.1 66 b.toNatClampNeg) (w.1 65 d.toNatClampNeg) (w.1 66 d.toNatClampNeg))), (5, .long (f_Mo_cross (w.1 65 a.toNatClampNeg) (w.1 66 a.toNatClampNeg) (w.1 65 b.toNatClampNeg) (w.1 66 b.toNatClampNeg) (w.1 65 c.toNatClampNeg) (w.1 66 c.toNatClampNeg))), (0, .ref 54), (1, .int a), (2, .int b), (3, .int c), (4, .int d)], [.int (lg_cmp (f_Mo_cross (w.1 65 a.toNatClampNeg) (w.1 66 a.toNatClampNeg) (w.1 65 b.toNatClampNeg) (w.1 66 b.toNatClampNeg) (w.1 65 d.toNatClampNeg) (w.1 66 d.toNatClampNeg)) 0)]), yhp w G sz)) 3 rfl ?_
      refine zbc (q1 := (116, [(7, .long (f_Mo_cross (w.1 65 a.toNatClampNeg) (w.1 66 a.toNatClampNeg) (w.1 65 b.toNatClampNeg) (w.1 66 b.toNatClampNeg) (w.1 65 d.toNatClampNeg) (w.1 66 d.toNatClampNeg))), (5, .long (f_Mo_cross (w.1 65 a.toNatClampNeg) (w.1 66 a.toNatClampNeg) (w.1 65 b.toNatClampNeg) (w.1 66 b.toNatClampNeg) (w.1 65 c.toNatClampNeg) (w.1 66 c.toNatClampNeg))), (0, .ref 54), (1, .int a), (2, .int b), (3, .int c), (4, .int d)], [])) (q2 := (112, [(7, .long (f_Mo_cross (w.1 65 a.toNatClampNeg) (w.1 66 a.toNatClampNeg) (w.1 65 b.toNatClampNeg) (w.1 66 b.toNatClampNeg) (w.1 65 d.toNatClampNeg) (w.1 66 d.toNatClampNeg))), (5, .long (f_Mo_cross (w.1 65 a.toNatClampNeg) (w.1 66 a.toNatClampNeg) (w.1 65 b.toNatClampNeg) (w.1 66 b.toNatClampNeg) (w.1 65 c.toNatClampNeg) (w.1 66 c.toNatClampNeg))), (0, .ref 54), (1, .int a), (2, .int b), (3, .int c), (4, .int d)], [])) (cB := zc .ge (lg_cmp (f_Mo_cross (w.1 65 a.toNatClampNeg) (w.1 66 a.toNatClampNeg) (w.1 65 b.toNatClampNeg) (w.1 66 b.toNatClampNeg) (w.1 65 d.toNatClampNeg) (w.1 66 d.toNatClampNeg)) 0) 0) (off := 7) (lv := [(7, .long (f_Mo_cross (w.1 65 a.toNatClampNeg) (w.1 66 a.toNatClampNeg) (w.1 65 b.toNatClampNeg) (w.1 66 b.toNatClampNeg) (w.1 65 d.toNatClampNeg) (w.1 66 d.toNatClampNeg))), (5, .long (f_Mo_cross (w.1 65 a.toNatClampNeg) (w.1 66 a.toNatClampNeg) (w.1 65 b.toNatClampNeg) (w.1 66 b.toNatClampNeg) (w.1 65 c.toNatClampNeg) (w.1 66 c.toNatClampNeg))), (0, .ref 54), (1, .int a), (2, .int b), (3, .int c), (4, .int d)]) (st := []) rfl rfl rfl rfl rfl (fun c109 => ?_) (fun c109 => ?_)
      · rw [c109]
        refine zeN (q := ((117, [(7, .long (f_Mo_cross (w.1 65 a.toNatClampNeg) (w.1 66 a.toNatClampNeg) (w.1 65 b.toNatClampNeg) (w.1 66 b.toNatClampNeg) (w.1 65 d.toNatClampNeg) (w.1 66 d.toNatClampNeg))), (5, .long (f_Mo_cross (w.1 65 a.toNatClampNeg) (w.1 66 a.toNatClampNeg) (w.1 65 b.toNatClampNeg) (w.1 66 b.toNatClampNeg) (w.1 65 c.toNatClampNeg) (w.1 66 c.toNatClampNeg))), (0, .ref 54), (1, .int a), (2, .int b), (3, .int c), (4, .int d)], [.int 0]), yhp w G sz)) 1 rfl ?_
        exact zer rfl rfl
      · rw [c109]
        refine zeN (q := ((117, [(7, .long (f_Mo_cross (w.1 65 a.toNatClampNeg) (w.1 66 a.toNatClampNeg) (w.1 65 b.toNatClampNeg) (w.1 66 b.toNatClampNeg) (w.1 65 d.toNatClampNeg) (w.1 66 d.toNatClampNeg))), (5, .long (f_Mo_cross (w.1 65 a.toNatClampNeg) (w.1 66 a.toNatClampNeg) (w.1 65 b.toNatClampNeg) (w.1 66 b.toNatClampNeg) (w.1 65 c.toNatClampNeg) (w.1 66 c.toNatClampNeg))), (0, .ref 54), (1, .int a), (2, .int b), (3, .int c), (4, .int d)], [.int 1]), yhp w G sz)) 2 rfl ?_
        exact zer rfl rfl
  · rw [c88]
    refine zeN (q := ((95, [(7, .long (f_Mo_cross (w.1 65 a.toNatClampNeg) (w.1 66 a.toNatClampNeg) (w.1 65 b.toNatClampNeg) (w.1 66 b.toNatClampNeg) (w.1 65 d.toNatClampNeg) (w.1 66 d.toNatClampNeg))), (5, .long (f_Mo_cross (w.1 65 a.toNatClampNeg) (w.1 66 a.toNatClampNeg) (w.1 65 b.toNatClampNeg) (w.1 66 b.toNatClampNeg) (w.1 65 c.toNatClampNeg) (w.1 66 c.toNatClampNeg))), (0, .ref 54), (1, .int a), (2, .int b), (3, .int c), (4, .int d)], [.int (lg_cmp (f_Mo_cross (w.1 65 a.toNatClampNeg) (w.1 66 a.toNatClampNeg) (w.1 65 b.toNatClampNeg) (w.1 66 b.toNatClampNeg) (w.1 65 d.toNatClampNeg) (w.1 66 d.toNatClampNeg)) 0)]), yhp w G sz)) 3 rfl ?_
    refine zbc (q1 := (112, [(7, .long (f_Mo_cross (w.1 65 a.toNatClampNeg) (w.1 66 a.toNatClampNeg) (w.1 65 b.toNatClampNeg) (w.1 66 b.toNatClampNeg) (w.1 65 d.toNatClampNeg) (w.1 66 d.toNatClampNeg))), (5, .long (f_Mo_cross (w.1 65 a.toNatClampNeg) (w.1 66 a.toNatClampNeg) (w.1 65 b.toNatClampNeg) (w.1 66 b.toNatClampNeg) (w.1 65 c.toNatClampNeg) (w.1 66 c.toNatClampNeg))), (0, .ref 54), (1, .int a), (2, .int b), (3, .int c), (4, .int d)], [])) (q2 := (98, [(7, .long (f_Mo_cross (w.1 65 a.toNatClampNeg) (w.1 66 a.toNatClampNeg) (w.1 65 b.toNatClampNeg) (w.1 66 b.toNatClampNeg) (w.1 65 d.toNatClampNeg) (w.1 66 d.toNatClampNeg))), (5, .long (f_Mo_cross (w.1 65 a.toNatClampNeg) (w.1 66 a.toNatClampNeg) (w.1 65 b.toNatClampNeg) (w.1 66 b.toNatClampNeg) (w.1 65 c.toNatClampNeg) (w.1 66 c.toNatClampNeg))), (0, .ref 54), (1, .int a), (2, .int b), (3, .int c), (4, .int d)], [])) (cB := zc .gt (lg_cmp (f_Mo_cross (w.1 65 a.toNatClampNeg) (w.1 66 a.toNatClampNeg) (w.1 65 b.toNatClampNeg) (w.1 66 b.toNatClampNeg) (w.1 65 d.toNatClampNeg) (w.1 66 d.toNatClampNeg)) 0) 0) (off := 17) (lv := [(7, .long (f_Mo_cross (w.1 65 a.toNatClampNeg) (w.1 66 a.toNatClampNeg) (w.1 65 b.toNatClampNeg) (w.1 66 b.toNatClampNeg) (w.1 65 d.toNatClampNeg) (w.1 66 d.toNatClampNeg))), (5, .long (f_Mo_cross (w.1 65 a.toNatClampNeg) (w.1 66 a.toNatClampNeg) (w.1 65 b.toNatClampNeg) (w.1 66 b.toNatClampNeg) (w.1 65 c.toNatClampNeg) (w.1 66 c.toNatClampNeg))), (0, .ref 54), (1, .int a), (2, .int b), (3, .int c), (4, .int d)]) (st := []) rfl rfl rfl rfl rfl (fun c95 => ?_) (fun c95 => ?_)
    · rw [c95]
      refine zeN (q := ((117, [(7, .long (f_Mo_cross (w.1 65 a.toNatClampNeg) (w.1 66 a.toNatClampNeg) (w.1 65 b.toNatClampNeg) (w.1 66 b.toNatClampNeg) (w.1 65 d.toNatClampNeg) (w.1 66 d.toNatClampNeg))), (5, .long (f_Mo_cross (w.1 65 a.toNatClampNeg) (w.1 66 a.toNatClampNeg) (w.1 65 b.toNatClampNeg) (w.1 66 b.toNatClampNeg) (w.1 65 c.toNatClampNeg) (w.1 66 c.toNatClampNeg))), (0, .ref 54), (1, .int a), (2, .int b), (3, .int c), (4, .int d)], [.int 1]), yhp w G sz)) 2 rfl ?_
      exact zer rfl rfl
    · rw [c95]
      refine zeN (q := ((102, [(7, .long (f_Mo_cross (w.1 65 a.toNatClampNeg) (w.1 66 a.toNatClampNeg) (w.1 65 b.toNatClampNeg) (w.1 66 b.toNatClampNeg) (w.1 65 d.toNatClampNeg) (w.1 66 d.toNatClampNeg))), (5, .long (f_Mo_cross (w.1 65 a.toNatClampNeg) (w.1 66 a.toNatClampNeg) (w.1 65 b.toNatClampNeg) (w.1 66 b.toNatClampNeg) (w.1 65 c.toNatClampNeg) (w.1 66 c.toNatClampNeg))), (0, .ref 54), (1, .int a), (2, .int b), (3, .int c), (4, .int d)], [.int (lg_cmp (f_Mo_cross (w.1 65 a.toNatClampNeg) (w.1 66 a.toNatClampNeg) (w.1 65 b.toNatClampNeg) (w.1 66 b.toNatClampNeg) (w.1 65 c.toNatClampNeg) (w.1 66 c.toNatClampNeg)) 0)]), yhp w G sz)) 3 rfl ?_
      refine zbc (q1 := (116, [(7, .long (f_Mo_cross (w.1 65 a.toNatClampNeg) (w.1 66 a.toNatClampNeg) (w.1 65 b.toNatClampNeg) (w.1 66 b.toNatClampNeg) (w.1 65 d.toNatClampNeg) (w.1 66 d.toNatClampNeg))), (5, .long (f_Mo_cross (w.1 65 a.toNatClampNeg) (w.1 66 a.toNatClampNeg) (w.1 65 b.toNatClampNeg) (w.1 66 b.toNatClampNeg) (w.1 65 c.toNatClampNeg) (w.1 66 c.toNatClampNeg))), (0, .ref 54), (1, .int a), (2, .int b), (3, .int c), (4, .int d)], [])) (q2 := (105, [(7, .long (f_Mo_cross (w.1 65 a.toNatClampNeg) (w.1 66 a.toNatClampNeg) (w.1 65 b.toNatClampNeg) (w.1 66 b.toNatClampNeg) (w.1 65 d.toNatClampNeg) (w.1 66 d.toNatClampNeg))), (5, .long (f_Mo_cross (w.1 65 a.toNatClampNeg) (w.1 66 a.toNatClampNeg) (w.1 65 b.toNatClampNeg) (w.1 66 b.toNatClampNeg) (w.1 65 c.toNatClampNeg) (w.1 66 c.toNatClampNeg))), (0, .ref 54), (1, .int a), (2, .int b), (3, .int c), (4, .int d)], [])) (cB := zc .le (lg_cmp (f_Mo_cross (w.1 65 a.toNatClampNeg) (w.1 66 a.toNatClampNeg) (w.1 65 b.toNatClampNeg) (w.1 66 b.toNatClampNeg) (w.1 65 c.toNatClampNeg) (w.1 66 c.toNatClampNeg)) 0) 0) (off := 14) (lv := [(7, .long (f_Mo_cross (w.1 65 a.toNatClampNeg) (w.1 66 a.toNatClampNeg) (w.1 65 b.toNatClampNeg) (w.1 66 b.toNatClampNeg) (w.1 65 d.toNatClampNeg) (w.1 66 d.toNatClampNeg))), (5, .long (f_Mo_cross (w.1 65 a.toNatClampNeg) (w.1 66 a.toNatClampNeg) (w.1 65 b.toNatClampNeg) (w.1 66 b.toNatClampNeg) (w.1 65 c.toNatClampNeg) (w.1 66 c.toNatClampNeg))), (0, .ref 54), (1, .int a), (2, .int b), (3, .int c), (4, .int d)]) (st := []) rfl rfl rfl rfl rfl (fun c102 => ?_) (fun c102 => ?_)
      · rw [c102]
        refine zeN (q := ((117, [(7, .long (f_Mo_cross (w.1 65 a.toNatClampNeg) (w.1 66 a.toNatClampNeg) (w.1 65 b.toNatClampNeg) (w.1 66 b.toNatClampNeg) (w.1 65 d.toNatClampNeg) (w.1 66 d.toNatClampNeg))), (5, .long (f_Mo_cross (w.1 65 a.toNatClampNeg) (w.1 66 a.toNatClampNeg) (w.1 65 b.toNatClampNeg) (w.1 66 b.toNatClampNeg) (w.1 65 c.toNatClampNeg) (w.1 66 c.toNatClampNeg))), (0, .ref 54), (1, .int a), (2, .int b), (3, .int c), (4, .int d)], [.int 0]), yhp w G sz)) 1 rfl ?_
        exact zer rfl rfl
      · rw [c102]
        refine zeN (q := ((109, [(7, .long (f_Mo_cross (w.1 65 a.toNatClampNeg) (w.1 66 a.toNatClampNeg) (w.1 65 b.toNatClampNeg) (w.1 66 b.toNatClampNeg) (w.1 65 d.toNatClampNeg) (w.1 66 d.toNatClampNeg))), (5, .long (f_Mo_cross (w.1 65 a.toNatClampNeg) (w.1 66 a.toNatClampNeg) (w.1 65 b.toNatClampNeg) (w.1 66 b.toNatClampNeg) (w.1 65 c.toNatClampNeg) (w.1 66 c.toNatClampNeg))), (0, .ref 54), (1, .int a), (2, .int b), (3, .int c), (4, .int d)], [.int (lg_cmp (f_Mo_cross (w.1 65 a.toNatClampNeg) (w.1 66 a.toNatClampNeg) (w.1 65 b.toNatClampNeg) (w.1 66 b.toNatClampNeg) (w.1 65 d.toNatClampNeg) (w.1 66 d.toNatClampNeg)) 0)]), yhp w G sz)) 3 rfl ?_
        refine zbc (q1 := (116, [(7, .long (f_Mo_cross (w.1 65 a.toNatClampNeg) (w.1 66 a.toNatClampNeg) (w.1 65 b.toNatClampNeg) (w.1 66 b.toNatClampNeg) (w.1 65 d.toNatClampNeg) (w.1 66 d.toNatClampNeg))), (5, .long (f_Mo_cross (w.1 65 a.toNatClampNeg) (w.1 66 a.toNatClampNeg) (w.1 65 b.toNatClampNeg) (w.1 66 b.toNatClampNeg) (w.1 65 c.toNatClampNeg) (w.1 66 c.toNatClampNeg))), (0, .ref 54), (1, .int a), (2, .int b), (3, .int c), (4, .int d)], [])) (q2 := (112, [(7, .long (f_Mo_cross (w.1 65 a.toNatClampNeg) (w.1 66 a.toNatClampNeg) (w.1 65 b.toNatClampNeg) (w.1 66 b.toNatClampNeg) (w.1 65 d.toNatClampNeg) (w.1 66 d.toNatClampNeg))), (5, .long (f_Mo_cross (w.1 65 a.toNatClampNeg) (w.1 66 a.toNatClampNeg) (w.1 65 b.toNatClampNeg) (w.1 66 b.toNatClampNeg) (w.1 65 c.toNatClampNeg) (w.1 66 c.toNatClampNeg))), (0, .ref 54), (1, .int a), (2, .int b), (3, .int c), (4, .int d)], [])) (cB := zc .ge (lg_cmp (f_Mo_cross (w.1 65 a.toNatClampNeg) (w.1 66 a.toNatClampNeg) (w.1 65 b.toNatClampNeg) (w.1 66 b.toNatClampNeg) (w.1 65 d.toNatClampNeg) (w.1 66 d.toNatClampNeg)) 0) 0) (off := 7) (lv := [(7, .long (f_Mo_cross (w.1 65 a.toNatClampNeg) (w.1 66 a.toNatClampNeg) (w.1 65 b.toNatClampNeg) (w.1 66 b.toNatClampNeg) (w.1 65 d.toNatClampNeg) (w.1 66 d.toNatClampNeg))), (5, .long (f_Mo_cross (w.1 65 a.toNatClampNeg) (w.1 66 a.toNatClampNeg) (w.1 65 b.toNatClampNeg) (w.1 66 b.toNatClampNeg) (w.1 65 c.toNatClampNeg) (w.1 66 c.toNatClampNeg))), (0, .ref 54), (1, .int a), (2, .int b), (3, .int c), (4, .int d)]) (st := []) rfl rfl rfl rfl rfl (fun c109 => ?_) (fun c109 => ?_)
        · rw [c109]
          refine zeN (q := ((117, [(7, .long (f_Mo_cross (w.1 65 a.toNatClampNeg) (w.1 66 a.toNatClampNeg) (w.1 65 b.toNatClampNeg) (w.1 66 b.toNatClampNeg) (w.1 65 d.toNatClampNeg) (w.1 66 d.toNatClampNeg))), (5, .long (f_Mo_cross (w.1 65 a.toNatClampNeg) (w.1 66 a.toNatClampNeg) (w.1 65 b.toNatClampNeg) (w.1 66 b.toNatClampNeg) (w.1 65 c.toNatClampNeg) (w.1 66 c.toNatClampNeg))), (0, .ref 54), (1, .int a), (2, .int b), (3, .int c), (4, .int d)], [.int 0]), yhp w G sz)) 1 rfl ?_
          exact zer rfl rfl
        · rw [c109]
          refine zeN (q := ((117, [(7, .long (f_Mo_cross (w.1 65 a.toNatClampNeg) (w.1 66 a.toNatClampNeg) (w.1 65 b.toNatClampNeg) (w.1 66 b.toNatClampNeg) (w.1 65 d.toNatClampNeg) (w.1 66 d.toNatClampNeg))), (5, .long (f_Mo_cross (w.1 65 a.toNatClampNeg) (w.1 66 a.toNatClampNeg) (w.1 65 b.toNatClampNeg) (w.1 66 b.toNatClampNeg) (w.1 65 c.toNatClampNeg) (w.1 66 c.toNatClampNeg))), (0, .ref 54), (1, .int a), (2, .int b), (3, .int c), (4, .int d)], [.int 1]), yhp w G sz)) 2 rfl ?_
          exact zer rfl rfl
set_option maxRecDepth 100000 in
theorem z_rem_n : ∀ n : Fin 7, ∀ j : Fin 6, j.1 < n.1 → (Int32.ofNat j.1 + 1) - (Int32.ofNat j.1 + 1) / Int32.ofNat n.1 * Int32.ofNat n.1 = if j.1 + 1 < n.1 then Int32.ofNat (j.1 + 1) else 0 := by decide +kernel
theorem z_rem {x nn : Int32} (h0 : 0 ≤ x.toInt) (h1 : x.toInt < nn.toInt) (h2 : nn.toInt ≤ 6) : (x + 1) - (x + 1) / nn * nn = if x.toInt.toNat + 1 < nn.toInt.toNat then Int32.ofNat (x.toInt.toNat + 1) else 0 := by
  have h := z_rem_n ⟨nn.toInt.toNat, by omega⟩ ⟨x.toInt.toNat, by omega⟩ (by show x.toInt.toNat < nn.toInt.toNat; omega)
  have e1 := z_ofn h0
  have e2 := z_ofn (x := nn) (by omega)
  rw [← e1, ← e2] at h
  exact h
theorem zIx_rem {x nn : Int32} (h0 : 0 ≤ x.toInt) (h1 : x.toInt < nn.toInt) (h2 : nn.toInt ≤ 6) : zIx ((x + 1) - (x + 1) / nn * nn) 6 := by
  rw [z_rem h0 h1 h2]
  split
  · unfold zIx
    rw [z_nat (by omega)]
    omega
  · exact ⟨by decide, by decide⟩
def g_Mo_clash_59 (a b c d : Int32) (w : yW)  : Int32 := (bif zc .ne (f_Mo_on (w.1 65 a.toNatClampNeg) (w.1 66 a.toNatClampNeg) (w.1 65 b.toNatClampNeg) (w.1 66 b.toNatClampNeg) (w.1 65 c.toNatClampNeg) (w.1 66 c.toNatClampNeg)) 0 then 1 else (bif zc .eq (f_Mo_on (w.1 65 a.toNatClampNeg) (w.1 66 a.toNatClampNeg) (w.1 65 b.toNatClampNeg) (w.1 66 b.toNatClampNeg) (w.1 65 d.toNatClampNeg) (w.1 66 d.toNatClampNeg)) 0 then 0 else 1))
set_option maxRecDepth 100000 in
theorem t_Mo_clash_59 {fr lo sz : Nat} {r : Option Value × zH} {G : List zC} (a b c d : Int32) (w : yW)  (ha : zIx a 6) (hb : zIx b 6) (hc : zIx c 6) (hd : zIx d 6) (hlo : 53 ≤ lo) (k : zRun (fr + 2) lo none M_Mo_clash (158, [(0, .ref 54), (3, .int a), (4, .int b), (5, .int c), (6, .int d), (7, .int ((g_Mo_clash_59 a b c d w )))], []) (yhp w G sz) r) : zRun (fr + 2) lo none M_Mo_clash (59, [(0, .ref 54), (3, .int a), (4, .int b), (5, .int c), (6, .int d)], []) (yhp w G sz) r := by
  unfold g_Mo_clash_59 at k
  refine zeN (q := ((60, [(0, .ref 54), (3, .int a), (4, .int b), (5, .int c), (6, .int d)], [.ref 54]), yhp w G sz)) 1 rfl ?_
  refine ygf (kk := .inl (.ref 65)) (v := .ref 65) rfl rfl rfl rfl rfl rfl rfl ?_
  refine zeN (q := ((64, [(0, .ref 54), (3, .int a), (4, .int b), (5, .int c), (6, .int d)], [.int a, .ref 65]), yhp w G sz)) 1 rfl ?_
  refine yia (N := 6) rfl rfl rfl (by assumption) ?_
  refine zeN (q := ((66, [(0, .ref 54), (3, .int a), (4, .int b), (5, .int c), (6, .int d)], [.ref 54, .int (w.1 65 a.toNatClampNeg)]), yhp w G sz)) 1 rfl ?_
  refine ygf (kk := .inl (.ref 66)) (v := .ref 66) rfl rfl rfl rfl rfl rfl rfl ?_
  refine zeN (q := ((70, [(0, .ref 54), (3, .int a), (4, .int b), (5, .int c), (6, .int d)], [.int a, .ref 66, .int (w.1 65 a.toNatClampNeg)]), yhp w G sz)) 1 rfl ?_
  refine yia (N := 6) rfl rfl rfl (by assumption) ?_
  refine zeN (q := ((72, [(0, .ref 54), (3, .int a), (4, .int b), (5, .int c), (6, .int d)], [.ref 54, .int (w.1 66 a.toNatClampNeg), .int (w.1 65 a.toNatClampNeg)]), yhp w G sz)) 1 rfl ?_
  refine ygf (kk := .inl (.ref 65)) (v := .ref 65) rfl rfl rfl rfl rfl rfl rfl ?_
  refine zeN (q := ((77, [(0, .ref 54), (3, .int a), (4, .int b), (5, .int c), (6, .int d)], [.int b, .ref 65, .int (w.1 66 a.toNatClampNeg), .int (w.1 65 a.toNatClampNeg)]), yhp w G sz)) 1 rfl ?_
  refine yia (N := 6) rfl rfl rfl (by assumption) ?_
  refine zeN (q := ((79, [(0, .ref 54), (3, .int a), (4, .int b), (5, .int c), (6, .int d)], [.ref 54, .int (w.1 65 b.toNatClampNeg), .int (w.1 66 a.toNatClampNeg), .int (w.1 65 a.toNatClampNeg)]), yhp w G sz)) 1 rfl ?_
  refine ygf (kk := .inl (.ref 66)) (v := .ref 66) rfl rfl rfl rfl rfl rfl rfl ?_
  refine zeN (q := ((84, [(0, .ref 54), (3, .int a), (4, .int b), (5, .int c), (6, .int d)], [.int b, .ref 66, .int (w.1 65 b.toNatClampNeg), .int (w.1 66 a.toNatClampNeg), .int (w.1 65 a.toNatClampNeg)]), yhp w G sz)) 1 rfl ?_
  refine yia (N := 6) rfl rfl rfl (by assumption) ?_
  refine zeN (q := ((86, [(0, .ref 54), (3, .int a), (4, .int b), (5, .int c), (6, .int d)], [.ref 54, .int (w.1 66 b.toNatClampNeg), .int (w.1 65 b.toNatClampNeg), .int (w.1 66 a.toNatClampNeg), .int (w.1 65 a.toNatClampNeg)]), yhp w G sz)) 1 rfl ?_
  refine ygf (kk := .inl (.ref 65)) (v := .ref 65) rfl rfl rfl rfl rfl rfl rfl ?_
  refine zeN (q := ((91, [(0, .ref 54), (3, .int a), (4, .int b), (5, .int c), (6, .int d)], [.int c, .ref 65, .int (w.1 66 b.toNatClampNeg), .int (w.1 65 b.toNatClampNeg), .int (w.1 66 a.toNatClampNeg), .int (w.1 65 a.toNatClampNeg)]), yhp w G sz)) 1 rfl ?_
  refine yia (N := 6) rfl rfl rfl (by assumption) ?_
  refine zeN (q := ((93, [(0, .ref 54), (3, .int a), (4, .int b), (5, .int c), (6, .int d)], [.ref 54, .int (w.1 65 c.toNatClampNeg), .int (w.1 66 b.toNatClampNeg), .int (w.1 65 b.toNatClampNeg), .int (w.1 66 a.toNatClampNeg), .int (w.1 65 a.toNatClampNeg)]), yhp w G sz)) 1 rfl ?_
  refine ygf (kk := .inl (.ref 66)) (v := .ref 66) rfl rfl rfl rfl rfl rfl rfl ?_
  refine zeN (q := ((98, [(0, .ref 54), (3, .int a), (4, .int b), (5, .int c), (6, .int d)], [.int c, .ref 66, .int (w.1 65 c.toNatClampNeg), .int (w.1 66 b.toNatClampNeg), .int (w.1 65 b.toNatClampNeg), .int (w.1 66 a.toNatClampNeg), .int (w.1 65 a.toNatClampNeg)]), yhp w G sz)) 1 rfl ?_
  refine yia (N := 6) rfl rfl rfl (by assumption) ?_
  refine zec 0 (M' := M_Mo_on) (qq := ([.int (w.1 65 a.toNatClampNeg), .int (w.1 66 a.toNatClampNeg), .int (w.1 65 b.toNatClampNeg), .int (w.1 66 b.toNatClampNeg), .int (w.1 65 c.toNatClampNeg), .int (w.1 66 c.toNatClampNeg)], [])) (s' := (102, [(0, .ref 54), (3, .int a), (4, .int b), (5, .int c), (6, .int d)], [.int (f_Mo_on (w.1 65 a.toNatClampNeg) (w.1 66 a.toNatClampNeg) (w.1 65 b.toNatClampNeg) (w.1 66 b.toNatClampNeg) (w.1 65 c.toNatClampNeg) (w.1 66 c.toNatClampNeg))])) rfl rfl (fun _ => rfl) rfl rfl rfl (s_Mo_on (w.1 65 a.toNatClampNeg) (w.1 66 a.toNatClampNeg) (w.1 65 b.toNatClampNeg) (w.1 66 b.toNatClampNeg) (w.1 65 c.toNatClampNeg) (w.1 66 c.toNatClampNeg) (by omega)) rfl ?_
  refine zbc (q1 := (151, [(0, .ref 54), (3, .int a), (4, .int b), (5, .int c), (6, .int d)], [])) (q2 := (105, [(0, .ref 54), (3, .int a), (4, .int b), (5, .int c), (6, .int d)], [])) (cB := zc .ne (f_Mo_on (w.1 65 a.toNatClampNeg) (w.1 66 a.toNatClampNeg) (w.1 65 b.toNatClampNeg) (w.1 66 b.toNatClampNeg) (w.1 65 c.toNatClampNeg) (w.1 66 c.toNatClampNeg)) 0) (off := 49) (lv := [(0, .ref 54), (3, .int a), (4, .int b), (5, .int c), (6, .int d)]) (st := []) rfl rfl rfl rfl rfl (fun c102 => ?_) (fun c102 => ?_)
  · rw [c102] at k
    refine zeN (q := ((158, [(7, .int 1), (0, .ref 54), (3, .int a), (4, .int b), (5, .int c), (6, .int d)], []), yhp w G sz)) 3 rfl ?_
    refine zeS [(0, .ref 54), (3, .int a), (4, .int b), (5, .int c), (6, .int d), (7, .int 1)] (zsub_pick [1, 2, 3, 4, 5, 0] rfl rfl) ?_
    exact k
  · rw [c102] at k
    refine zeN (q := ((106, [(0, .ref 54), (3, .int a), (4, .int b), (5, .int c), (6, .int d)], [.ref 54]), yhp w G sz)) 1 rfl ?_
    refine ygf (kk := .inl (.ref 65)) (v := .ref 65) rfl rfl rfl rfl rfl rfl rfl ?_
    refine zeN (q := ((110, [(0, .ref 54), (3, .int a), (4, .int b), (5, .int c), (6, .int d)], [.int a, .ref 65]), yhp w G sz)) 1 rfl ?_
    refine yia (N := 6) rfl rfl rfl (by assumption) ?_
    refine zeN (q := ((112, [(0, .ref 54), (3, .int a), (4, .int b), (5, .int c), (6, .int d)], [.ref 54, .int (w.1 65 a.toNatClampNeg)]), yhp w G sz)) 1 rfl ?_
    refine ygf (kk := .inl (.ref 66)) (v := .ref 66) rfl rfl rfl rfl rfl rfl rfl ?_
    refine zeN (q := ((116, [(0, .ref 54), (3, .int a), (4, .int b), (5, .int c), (6, .int d)], [.int a, .ref 66, .int (w.1 65 a.toNatClampNeg)]), yhp w G sz)) 1 rfl ?_
    refine yia (N := 6) rfl rfl rfl (by assumption) ?_
    refine zeN (q := ((118, [(0, .ref 54), (3, .int a), (4, .int b), (5, .int c), (6, .int d)], [.ref 54, .int (w.1 66 a.toNatClampNeg), .int (w.1 65 a.toNatClampNeg)]), yhp w G sz)) 1 rfl ?_
    refine ygf (kk := .inl (.ref 65)) (v := .ref 65) rfl rfl rfl rfl rfl rfl rfl ?_
    refine zeN (q := ((123, [(0, .ref 54), (3, .int a), (4, .int b), (5, .int c), (6, .int d)], [.int b, .ref 65, .int (w.1 66 a.toNatClampNeg), .int (w.1 65 a.toNatClampNeg)]), yhp w G sz)) 1 rfl ?_
    refine yia (N := 6) rfl rfl rfl (by assumption) ?_
    refine zeN (q := ((125, [(0, .ref 54), (3, .int a), (4, .int b), (5, .int c), (6, .int d)], [.ref 54, .int (w.1 65 b.toNatClampNeg), .int (w.1 66 a.toNatClampNeg), .int (w.1 65 a.toNatClampNeg)]), yhp w G sz)) 1 rfl ?_
    refine ygf (kk := .inl (.ref 66)) (v := .ref 66) rfl rfl rfl rfl rfl rfl rfl ?_
    refine zeN (q := ((130, [(0, .ref 54), (3, .int a), (4, .int b), (5, .int c), (6, .int d)], [.int b, .ref 66, .int (w.1 65 b.toNatClampNeg), .int (w.1 66 a.toNatClampNeg), .int (w.1 65 a.toNatClampNeg)]), yhp w G sz)) 1 rfl ?_
    refine yia (N := 6) rfl rfl rfl (by assumption) ?_
    refine zeN (q := ((132, [(0, .ref 54), (3, .int a), (4, .int b), (5, .int c), (6, .int d)], [.ref 54, .int (w.1 66 b.toNatClampNeg), .int (w.1 65 b.toNatClampNeg), .int (w.1 66 a.toNatClampNeg), .int (w.1 65 a.toNatClampNeg)]), yhp w G sz)) 1 rfl ?_
    refine ygf (kk := .inl (.ref 65)) (v := .ref 65) rfl rfl rfl rfl rfl rfl rfl ?_
    refine zeN (q := ((137, [(0, .ref 54), (3, .int a), (4, .int b), (5, .int c), (6, .int d)], [.int d, .ref 65, .int (w.1 66 b.toNatClampNeg), .int (w.1 65 b.toNatClampNeg), .int (w.1 66 a.toNatClampNeg), .int (w.1 65 a.toNatClampNeg)]), yhp w G sz)) 1 rfl ?_
    refine yia (N := 6) rfl rfl rfl (by assumption) ?_
    refine zeN (q := ((139, [(0, .ref 54), (3, .int a), (4, .int b), (5, .int c), (6, .int d)], [.ref 54, .int (w.1 65 d.toNatClampNeg), .int (w.1 66 b.toNatClampNeg), .int (w.1 65 b.toNatClampNeg), .int (w.1 66 a.toNatClampNeg), .int (w.1 65 a.toNatClampNeg)]), yhp w G sz)) 1 rfl ?_
    refine ygf (kk := .inl (.ref 66)) (v := .ref 66) rfl rfl rfl rfl rfl rfl rfl ?_
    refine zeN (q := ((144, [(0, .ref 54), (3, .int a), (4, .int b), (5, .int c), (6, .int d)], [.int d, .ref 66, .int (w.1 65 d.toNatClampNeg), .int (w.1 66 b.toNatClampNeg), .int (w.1 65 b.toNatClampNeg), .int (w.1 66 a.toNatClampNeg), .int (w.1 65 a.toNatClampNeg)]), yhp w G sz)) 1 rfl ?_
    refine yia (N := 6) rfl rfl rfl (by assumption) ?_
    refine zec 0 (M' := M_Mo_on) (qq := ([.int (w.1 65 a.toNatClampNeg), .int (w.1 66 a.toNatClampNeg), .int (w.1 65 b.toNatClampNeg), .int (w.1 66 b.toNatClampNeg), .int (w.1 65 d.toNatClampNeg), .int (w.1 66 d.toNatClampNeg)], [])) (s' := (148, [(0, .ref 54), (3, .int a), (4, .int b), (5, .int c), (6, .int d)], [.int (f_Mo_on (w.1 65 a.toNatClampNeg) (w.1 66 a.toNatClampNeg) (w.1 65 b.toNatClampNeg) (w.1 66 b.toNatClampNeg) (w.1 65 d.toNatClampNeg) (w.1 66 d.toNatClampNeg))])) rfl rfl (fun _ => rfl) rfl rfl rfl (s_Mo_on (w.1 65 a.toNatClampNeg) (w.1 66 a.toNatClampNeg) (w.1 65 b.toNatClampNeg) (w.1 66 b.toNatClampNeg) (w.1 65 d.toNatClampNeg) (w.1 66 d.toNatClampNeg) (by omega)) rfl ?_
    refine zbc (q1 := (155, [(0, .ref 54), (3, .int a), (4, .int b), (5, .int c), (6, .int d)], [])) (q2 := (151, [(0, .ref 54), (3, .int a), (4, .int b), (5, .int c), (6, .int d)], [])) (cB := zc .eq (f_Mo_on (w.1 65 a.toNatClampNeg) (w.1 66 a.toNatClampNeg) (w.1 65 b.toNatClampNeg) (w.1 66 b.toNatClampNeg) (w.1 65 d.toNatClampNeg) (w.1 66 d.toNatClampNeg)) 0) (off := 7) (lv := [(0, .ref 54), (3, .int a), (4, .int b), (5, .int c), (6, .int d)]) (st := []) rfl rfl rfl rfl rfl (fun c148 => ?_) (fun c148 => ?_)
    · rw [c148] at k
      refine zeN (q := ((158, [(7, .int 0), (0, .ref 54), (3, .int a), (4, .int b), (5, .int c), (6, .int d)], []), yhp w G sz)) 2 rfl ?_
      refine zeS [(0, .ref 54), (3, .int a), (4, .int b), (5, .int c), (6, .int d), (7, .int 0)] (zsub_pick [1, 2, 3, 4, 5, 0] rfl rfl) ?_
      exact k
    · rw [c148] at k
      refine zeN (q := ((158, [(7, .int 1), (0, .ref 54), (3, .int a), (4, .int b), (5, .int c), (6, .int d)], []), yhp w G sz)) 3 rfl ?_
      refine zeS [(0, .ref 54), (3, .int a), (4, .int b), (5, .int c), (6, .int d), (7, .int 1)] (zsub_pick [1, 2, 3, 4, 5, 0] rfl rfl) ?_
      exact k
def g_Mo_clash_158 (a b c d : Int32) (w : yW) (to : Int32) : Int32 := (bif zc .ne to 0 then 1 else (bif zc .ne (f_Mo_on (w.1 65 c.toNatClampNeg) (w.1 66 c.toNatClampNeg) (w.1 65 d.toNatClampNeg) (w.1 66 d.toNatClampNeg) (w.1 65 a.toNatClampNeg) (w.1 66 a.toNatClampNeg)) 0 then 1 else (bif zc .eq (f_Mo_on (w.1 65 c.toNatClampNeg) (w.1 66 c.toNatClampNeg) (w.1 65 d.toNatClampNeg) (w.1 66 d.toNatClampNeg) (w.1 65 b.toNatClampNeg) (w.1 66 b.toNatClampNeg)) 0 then 0 else 1)))
set_option maxRecDepth 100000 in
theorem t_Mo_clash_158 {fr lo sz : Nat} {r : Option Value × zH} {G : List zC} (a b c d : Int32) (w : yW) (to : Int32) (ha : zIx a 6) (hb : zIx b 6) (hc : zIx c 6) (hd : zIx d 6) (hlo : 53 ≤ lo) (k : zRun (fr + 2) lo none M_Mo_clash (264, [(0, .ref 54), (3, .int a), (4, .int b), (5, .int c), (6, .int d), (7, .int ((g_Mo_clash_158 a b c d w to)))], []) (yhp w G sz) r) : zRun (fr + 2) lo none M_Mo_clash (158, [(0, .ref 54), (3, .int a), (4, .int b), (5, .int c), (6, .int d), (7, .int to)], []) (yhp w G sz) r := by
  unfold g_Mo_clash_158 at k
  refine zeN (q := ((160, [(0, .ref 54), (3, .int a), (4, .int b), (5, .int c), (6, .int d), (7, .int to)], [.int to]), yhp w G sz)) 1 rfl ?_
  refine zbc (q1 := (257, [(0, .ref 54), (3, .int a), (4, .int b), (5, .int c), (6, .int d), (7, .int to)], [])) (q2 := (163, [(0, .ref 54), (3, .int a), (4, .int b), (5, .int c), (6, .int d), (7, .int to)], [])) (cB := zc .ne to 0) (off := 97) (lv := [(0, .ref 54), (3, .int a), (4, .int b), (5, .int c), (6, .int d), (7, .int to)]) (st := []) rfl rfl rfl rfl rfl (fun c160 => ?_) (fun c160 => ?_)
  · rw [c160] at k
    refine zeN (q := ((264, [(7, .int 1), (0, .ref 54), (3, .int a), (4, .int b), (5, .int c), (6, .int d)], []), yhp w G sz)) 3 rfl ?_
    refine zeS [(0, .ref 54), (3, .int a), (4, .int b), (5, .int c), (6, .int d), (7, .int 1)] (zsub_pick [1, 2, 3, 4, 5, 0] rfl rfl) ?_
    exact k
  · rw [c160] at k
    refine zeN (q := ((164, [(0, .ref 54), (3, .int a), (4, .int b), (5, .int c), (6, .int d), (7, .int to)], [.ref 54]), yhp w G sz)) 1 rfl ?_
    refine ygf (kk := .inl (.ref 65)) (v := .ref 65) rfl rfl rfl rfl rfl rfl rfl ?_
    refine zeN (q := ((169, [(0, .ref 54), (3, .int a), (4, .int b), (5, .int c), (6, .int d), (7, .int to)], [.int c, .ref 65]), yhp w G sz)) 1 rfl ?_
    refine yia (N := 6) rfl rfl rfl (by assumption) ?_
    refine zeN (q := ((171, [(0, .ref 54), (3, .int a), (4, .int b), (5, .int c), (6, .int d), (7, .int to)], [.ref 54, .int (w.1 65 c.toNatClampNeg)]), yhp w G sz)) 1 rfl ?_
    refine ygf (kk := .inl (.ref 66)) (v := .ref 66) rfl rfl rfl rfl rfl rfl rfl ?_
    refine zeN (q := ((176, [(0, .ref 54), (3, .int a), (4, .int b), (5, .int c), (6, .int d), (7, .int to)], [.int c, .ref 66, .int (w.1 65 c.toNatClampNeg)]), yhp w G sz)) 1 rfl ?_
    refine yia (N := 6) rfl rfl rfl (by assumption) ?_
    refine zeN (q := ((178, [(0, .ref 54), (3, .int a), (4, .int b), (5, .int c), (6, .int d), (7, .int to)], [.ref 54, .int (w.1 66 c.toNatClampNeg), .int (w.1 65 c.toNatClampNeg)]), yhp w G sz)) 1 rfl ?_
    refine ygf (kk := .inl (.ref 65)) (v := .ref 65) rfl rfl rfl rfl rfl rfl rfl ?_
    refine zeN (q := ((183, [(0, .ref 54), (3, .int a), (4, .int b), (5, .int c), (6, .int d), (7, .int to)], [.int d, .ref 65, .int (w.1 66 c.toNatClampNeg), .int (w.1 65 c.toNatClampNeg)]), yhp w G sz)) 1 rfl ?_
    refine yia (N := 6) rfl rfl rfl (by assumption) ?_
    refine zeN (q := ((185, [(0, .ref 54), (3, .int a), (4, .int b), (5, .int c), (6, .int d), (7, .int to)], [.ref 54, .int (w.1 65 d.toNatClampNeg), .int (w.1 66 c.toNatClampNeg), .int (w.1 65 c.toNatClampNeg)]), yhp w G sz)) 1 rfl ?_
    refine ygf (kk := .inl (.ref 66)) (v := .ref 66) rfl rfl rfl rfl rfl rfl rfl ?_
    refine zeN (q := ((190, [(0, .ref 54), (3, .int a), (4, .int b), (5, .int c), (6, .int d), (7, .int to)], [.int d, .ref 66, .int (w.1 65 d.toNatClampNeg), .int (w.1 66 c.toNatClampNeg), .int (w.1 65 c.toNatClampNeg)]), yhp w G sz)) 1 rfl ?_
    refine yia (N := 6) rfl rfl rfl (by assumption) ?_
    refine zeN (q := ((192, [(0, .ref 54), (3, .int a), (4, .int b), (5, .int c), (6, .int d), (7, .int to)], [.ref 54, .int (w.1 66 d.toNatClampNeg), .int (w.1 65 d.toNatClampNeg), .int (w.1 66 c.toNatClampNeg), .int (w.1 65 c.toNatClampNeg)]), yhp w G sz)) 1 rfl ?_
    refine ygf (kk := .inl (.ref 65)) (v := .ref 65) rfl rfl rfl rfl rfl rfl rfl ?_
    refine zeN (q := ((196, [(0, .ref 54), (3, .int a), (4, .int b), (5, .int c), (6, .int d), (7, .int to)], [.int a, .ref 65, .int (w.1 66 d.toNatClampNeg), .int (w.1 65 d.toNatClampNeg), .int (w.1 66 c.toNatClampNeg), .int (w.1 65 c.toNatClampNeg)]), yhp w G sz)) 1 rfl ?_
    refine yia (N := 6) rfl rfl rfl (by assumption) ?_
    refine zeN (q := ((198, [(0, .ref 54), (3, .int a), (4, .int b), (5, .int c), (6, .int d), (7, .int to)], [.ref 54, .int (w.1 65 a.toNatClampNeg), .int (w.1 66 d.toNatClampNeg), .int (w.1 65 d.toNatClampNeg), .int (w.1 66 c.toNatClampNeg), .int (w.1 65 c.toNatClampNeg)]), yhp w G sz)) 1 rfl ?_
    refine ygf (kk := .inl (.ref 66)) (v := .ref 66) rfl rfl rfl rfl rfl rfl rfl ?_
    refine zeN (q := ((202, [(0, .ref 54), (3, .int a), (4, .int b), (5, .int c), (6, .int d), (7, .int to)], [.int a, .ref 66, .int (w.1 65 a.toNatClampNeg), .int (w.1 66 d.toNatClampNeg), .int (w.1 65 d.toNatClampNeg), .int (w.1 66 c.toNatClampNeg), .int (w.1 65 c.toNatClampNeg)]), yhp w G sz)) 1 rfl ?_
    refine yia (N := 6) rfl rfl rfl (by assumption) ?_
    refine zec 0 (M' := M_Mo_on) (qq := ([.int (w.1 65 c.toNatClampNeg), .int (w.1 66 c.toNatClampNeg), .int (w.1 65 d.toNatClampNeg), .int (w.1 66 d.toNatClampNeg), .int (w.1 65 a.toNatClampNeg), .int (w.1 66 a.toNatClampNeg)], [])) (s' := (206, [(0, .ref 54), (3, .int a), (4, .int b), (5, .int c), (6, .int d), (7, .int to)], [.int (f_Mo_on (w.1 65 c.toNatClampNeg) (w.1 66 c.toNatClampNeg) (w.1 65 d.toNatClampNeg) (w.1 66 d.toNatClampNeg) (w.1 65 a.toNatClampNeg) (w.1 66 a.toNatClampNeg))])) rfl rfl (fun _ => rfl) rfl rfl rfl (s_Mo_on (w.1 65 c.toNatClampNeg) (w.1 66 c.toNatClampNeg) (w.1 65 d.toNatClampNeg) (w.1 66 d.toNatClampNeg) (w.1 65 a.toNatClampNeg) (w.1 66 a.toNatClampNeg) (by omega)) rfl ?_
    refine zbc (q1 := (257, [(0, .ref 54), (3, .int a), (4, .int b), (5, .int c), (6, .int d), (7, .int to)], [])) (q2 := (209, [(0, .ref 54), (3, .int a), (4, .int b), (5, .int c), (6, .int d), (7, .int to)], [])) (cB := zc .ne (f_Mo_on (w.1 65 c.toNatClampNeg) (w.1 66 c.toNatClampNeg) (w.1 65 d.toNatClampNeg) (w.1 66 d.toNatClampNeg) (w.1 65 a.toNatClampNeg) (w.1 66 a.toNatClampNeg)) 0) (off := 51) (lv := [(0, .ref 54), (3, .int a), (4, .int b), (5, .int c), (6, .int d), (7, .int to)]) (st := []) rfl rfl rfl rfl rfl (fun c206 => ?_) (fun c206 => ?_)
    · rw [c206] at k
      refine zeN (q := ((264, [(7, .int 1), (0, .ref 54), (3, .int a), (4, .int b), (5, .int c), (6, .int d)], []), yhp w G sz)) 3 rfl ?_
      refine zeS [(0, .ref 54), (3, .int a), (4, .int b), (5, .int c), (6, .int d), (7, .int 1)] (zsub_pick [1, 2, 3, 4, 5, 0] rfl rfl) ?_
      exact k
    · rw [c206] at k
      refine zeN (q := ((210, [(0, .ref 54), (3, .int a), (4, .int b), (5, .int c), (6, .int d), (7, .int to)], [.ref 54]), yhp w G sz)) 1 rfl ?_
      refine ygf (kk := .inl (.ref 65)) (v := .ref 65) rfl rfl rfl rfl rfl rfl rfl ?_
      refine zeN (q := ((215, [(0, .ref 54), (3, .int a), (4, .int b), (5, .int c), (6, .int d), (7, .int to)], [.int c, .ref 65]), yhp w G sz)) 1 rfl ?_
      refine yia (N := 6) rfl rfl rfl (by assumption) ?_
      refine zeN (q := ((217, [(0, .ref 54), (3, .int a), (4, .int b), (5, .int c), (6, .int d), (7, .int to)], [.ref 54, .int (w.1 65 c.toNatClampNeg)]), yhp w G sz)) 1 rfl ?_
      refine ygf (kk := .inl (.ref 66)) (v := .ref 66) rfl rfl rfl rfl rfl rfl rfl ?_
      refine zeN (q := ((222, [(0, .ref 54), (3, .int a), (4, .int b), (5, .int c), (6, .int d), (7, .int to)], [.int c, .ref 66, .int (w.1 65 c.toNatClampNeg)]), yhp w G sz)) 1 rfl ?_
      refine yia (N := 6) rfl rfl rfl (by assumption) ?_
      refine zeN (q := ((224, [(0, .ref 54), (3, .int a), (4, .int b), (5, .int c), (6, .int d), (7, .int to)], [.ref 54, .int (w.1 66 c.toNatClampNeg), .int (w.1 65 c.toNatClampNeg)]), yhp w G sz)) 1 rfl ?_
      refine ygf (kk := .inl (.ref 65)) (v := .ref 65) rfl rfl rfl rfl rfl rfl rfl ?_
      refine zeN (q := ((229, [(0, .ref 54), (3, .int a), (4, .int b), (5, .int c), (6, .int d), (7, .int to)], [.int d, .ref 65, .int (w.1 66 c.toNatClampNeg), .int (w.1 65 c.toNatClampNeg)]), yhp w G sz)) 1 rfl ?_
      refine yia (N := 6) rfl rfl rfl (by assumption) ?_
      refine zeN (q := ((231, [(0, .ref 54), (3, .int a), (4, .int b), (5, .int c), (6, .int d), (7, .int to)], [.ref 54, .int (w.1 65 d.toNatClampNeg), .int (w.1 66 c.toNatClampNeg), .int (w.1 65 c.toNatClampNeg)]), yhp w G sz)) 1 rfl ?_
      refine ygf (kk := .inl (.ref 66)) (v := .ref 66) rfl rfl rfl rfl rfl rfl rfl ?_
      refine zeN (q := ((236, [(0, .ref 54), (3, .int a), (4, .int b), (5, .int c), (6, .int d), (7, .int to)], [.int d, .ref 66, .int (w.1 65 d.toNatClampNeg), .int (w.1 66 c.toNatClampNeg), .int (w.1 65 c.toNatClampNeg)]), yhp w G sz)) 1 rfl ?_
      refine yia (N := 6) rfl rfl rfl (by assumption) ?_
      refine zeN (q := ((238, [(0, .ref 54), (3, .int a), (4, .int b), (5, .int c), (6, .int d), (7, .int to)], [.ref 54, .int (w.1 66 d.toNatClampNeg), .int (w.1 65 d.toNatClampNeg), .int (w.1 66 c.toNatClampNeg), .int (w.1 65 c.toNatClampNeg)]), yhp w G sz)) 1 rfl ?_
      refine ygf (kk := .inl (.ref 65)) (v := .ref 65) rfl rfl rfl rfl rfl rfl rfl ?_
      refine zeN (q := ((243, [(0, .ref 54), (3, .int a), (4, .int b), (5, .int c), (6, .int d), (7, .int to)], [.int b, .ref 65, .int (w.1 66 d.toNatClampNeg), .int (w.1 65 d.toNatClampNeg), .int (w.1 66 c.toNatClampNeg), .int (w.1 65 c.toNatClampNeg)]), yhp w G sz)) 1 rfl ?_
      refine yia (N := 6) rfl rfl rfl (by assumption) ?_
      refine zeN (q := ((245, [(0, .ref 54), (3, .int a), (4, .int b), (5, .int c), (6, .int d), (7, .int to)], [.ref 54, .int (w.1 65 b.toNatClampNeg), .int (w.1 66 d.toNatClampNeg), .int (w.1 65 d.toNatClampNeg), .int (w.1 66 c.toNatClampNeg), .int (w.1 65 c.toNatClampNeg)]), yhp w G sz)) 1 rfl ?_
      refine ygf (kk := .inl (.ref 66)) (v := .ref 66) rfl rfl rfl rfl rfl rfl rfl ?_
      refine zeN (q := ((250, [(0, .ref 54), (3, .int a), (4, .int b), (5, .int c), (6, .int d), (7, .int to)], [.int b, .ref 66, .int (w.1 65 b.toNatClampNeg), .int (w.1 66 d.toNatClampNeg), .int (w.1 65 d.toNatClampNeg), .int (w.1 66 c.toNatClampNeg), .int (w.1 65 c.toNatClampNeg)]), yhp w G sz)) 1 rfl ?_
      refine yia (N := 6) rfl rfl rfl (by assumption) ?_
      refine zec 0 (M' := M_Mo_on) (qq := ([.int (w.1 65 c.toNatClampNeg), .int (w.1 66 c.toNatClampNeg), .int (w.1 65 d.toNatClampNeg), .int (w.1 66 d.toNatClampNeg), .int (w.1 65 b.toNatClampNeg), .int (w.1 66 b.toNatClampNeg)], [])) (s' := (254, [(0, .ref 54), (3, .int a), (4, .int b), (5, .int c), (6, .int d), (7, .int to)], [.int (f_Mo_on (w.1 65 c.toNatClampNeg) (w.1 66 c.toNatClampNeg) (w.1 65 d.toNatClampNeg) (w.1 66 d.toNatClampNeg) (w.1 65 b.toNatClampNeg) (w.1 66 b.toNatClampNeg))])) rfl rfl (fun _ => rfl) rfl rfl rfl (s_Mo_on (w.1 65 c.toNatClampNeg) (w.1 66 c.toNatClampNeg) (w.1 65 d.toNatClampNeg) (w.1 66 d.toNatClampNeg) (w.1 65 b.toNatClampNeg) (w.1 66 b.toNatClampNeg) (by omega)) rfl ?_
      refine zbc (q1 := (261, [(0, .ref 54), (3, .int a), (4, .int b), (5, .int c), (6, .int d), (7, .int to)], [])) (q2 := (257, [(0, .ref 54), (3, .int a), (4, .int b), (5, .int c), (6, .int d), (7, .int to)], [])) (cB := zc .eq (f_Mo_on (w.1 65 c.toNatClampNeg) (w.1 66 c.toNatClampNeg) (w.1 65 d.toNatClampNeg) (w.1 66 d.toNatClampNeg) (w.1 65 b.toNatClampNeg) (w.1 66 b.toNatClampNeg)) 0) (off := 7) (lv := [(0, .ref 54), (3, .int a), (4, .int b), (5, .int c), (6, .int d), (7, .int to)]) (st := []) rfl rfl rfl rfl rfl (fun c254 => ?_) (fun c254 => ?_)
      · rw [c254] at k
        refine zeN (q := ((264, [(7, .int 0), (0, .ref 54), (3, .int a), (4, .int b), (5, .int c), (6, .int d)], []), yhp w G sz)) 2 rfl ?_
        refine zeS [(0, .ref 54), (3, .int a), (4, .int b), (5, .int c), (6, .int d), (7, .int 0)] (zsub_pick [1, 2, 3, 4, 5, 0] rfl rfl) ?_
        exact k
      · rw [c254] at k
        refine zeN (q := ((264, [(7, .int 1), (0, .ref 54), (3, .int a), (4, .int b), (5, .int c), (6, .int d)], []), yhp w G sz)) 3 rfl ?_
        refine zeS [(0, .ref 54), (3, .int a), (4, .int b), (5, .int c), (6, .int d), (7, .int 1)] (zsub_pick [1, 2, 3, 4, 5, 0] rfl rfl) ?_
        exact k
def g_Mo_clash_25 (a b c d : Int32) (w : yW)  : Int32 := (bif zc .ne b c then (bif zc .ne d a then (bif zc .ne ((g_Mo_clash_158 a b c d w  ((g_Mo_clash_59 a b c d w  )))) 0 then 1 else (bif zc .eq (e_Mo_apart a b c d w) 0 then 0 else (bif zc .eq (e_Mo_apart c d a b w) 0 then 0 else 1))) else e_Mo_stuck c d b w) else e_Mo_stuck a b d w)
set_option maxRecDepth 100000 in
theorem t_Mo_clash_25 {fr lo sz : Nat} {G : List zC} (a b c d : Int32) (w : yW)  (ha : zIx a 6) (hb : zIx b 6) (hc : zIx c 6) (hd : zIx d 6) (hlo : 53 ≤ lo)  : zRun (fr + 2) lo none M_Mo_clash (25, [(0, .ref 54), (3, .int a), (4, .int b), (5, .int c), (6, .int d)], []) (yhp w G sz) (some (.int ((g_Mo_clash_25 a b c d w ))), yhp w G sz) := by
  unfold g_Mo_clash_25
  refine zeN (q := ((29, [(0, .ref 54), (3, .int a), (4, .int b), (5, .int c), (6, .int d)], [.int c, .int b]), yhp w G sz)) 2 rfl ?_
  refine zbc (q1 := (42, [(0, .ref 54), (3, .int a), (4, .int b), (5, .int c), (6, .int d)], [])) (q2 := (32, [(0, .ref 54), (3, .int a), (4, .int b), (5, .int c), (6, .int d)], [])) (cB := zc .ne b c) (off := 13) (lv := [(0, .ref 54), (3, .int a), (4, .int b), (5, .int c), (6, .int d)]) (st := []) rfl rfl rfl rfl rfl (fun c29 => ?_) (fun c29 => ?_)
  · rw [c29]
    refine zeN (q := ((45, [(0, .ref 54), (3, .int a), (4, .int b), (5, .int c), (6, .int d)], [.int a, .int d]), yhp w G sz)) 2 rfl ?_
    refine zbc (q1 := (59, [(0, .ref 54), (3, .int a), (4, .int b), (5, .int c), (6, .int d)], [])) (q2 := (48, [(0, .ref 54), (3, .int a), (4, .int b), (5, .int c), (6, .int d)], [])) (cB := zc .ne d a) (off := 14) (lv := [(0, .ref 54), (3, .int a), (4, .int b), (5, .int c), (6, .int d)]) (st := []) rfl rfl rfl rfl rfl (fun c45 => ?_) (fun c45 => ?_)
    · rw [c45]
      refine t_Mo_clash_59 a b c d w  ha hb hc hd (by omega) ?_
      refine t_Mo_clash_158 a b c d w ((g_Mo_clash_59 a b c d w  )) ha hb hc hd (by omega) ?_
      refine zeN (q := ((266, [(0, .ref 54), (3, .int a), (4, .int b), (5, .int c), (6, .int d), (7, .int ((g_Mo_clash_158 a b c d w  ((g_Mo_clash_59 a b c d w  )))))], [.int ((g_Mo_clash_158 a b c d w  ((g_Mo_clash_59 a b c d w  ))))]), yhp w G sz)) 1 rfl ?_
      refine zbc (q1 := (297, [(0, .ref 54), (3, .int a), (4, .int b), (5, .int c), (6, .int d), (7, .int ((g_Mo_clash_158 a b c d w  ((g_Mo_clash_59 a b c d w  )))))], [])) (q2 := (269, [(0, .ref 54), (3, .int a), (4, .int b), (5, .int c), (6, .int d), (7, .int ((g_Mo_clash_158 a b c d w  ((g_Mo_clash_59 a b c d w  )))))], [])) (cB := zc .ne ((g_Mo_clash_158 a b c d w  ((g_Mo_clash_59 a b c d w  )))) 0) (off := 31) (lv := [(0, .ref 54), (3, .int a), (4, .int b), (5, .int c), (6, .int d), (7, .int ((g_Mo_clash_158 a b c d w  ((g_Mo_clash_59 a b c d w  )))))]) (st := []) rfl rfl rfl rfl rfl (fun c266 => ?_) (fun c266 => ?_)
      · rw [c266]
        refine zeN (q := ((302, [(0, .ref 54), (3, .int a), (4, .int b), (5, .int c), (6, .int d), (7, .int ((g_Mo_clash_158 a b c d w  ((g_Mo_clash_59 a b c d w  )))))], [.int 1]), yhp w G sz)) 2 rfl ?_
        exact zer rfl rfl
      · rw [c266]
        refine zeN (q := ((277, [(0, .ref 54), (3, .int a), (4, .int b), (5, .int c), (6, .int d), (7, .int ((g_Mo_clash_158 a b c d w  ((g_Mo_clash_59 a b c d w  )))))], [.int d, .int c, .int b, .int a, .ref 54]), yhp w G sz)) 5 rfl ?_
        refine zec 1 (M' := M_Mo_apart) (qq := ([.ref 54, .int a, .int b, .int c, .int d], [])) (s' := (280, [(0, .ref 54), (3, .int a), (4, .int b), (5, .int c), (6, .int d), (7, .int ((g_Mo_clash_158 a b c d w  ((g_Mo_clash_59 a b c d w  )))))], [.int (e_Mo_apart a b c d w)])) rfl rfl (fun _ => rfl) rfl rfl (zhk rfl (zrc_ok (yhp_o rfl)) rfl) (r_Mo_apart a b c d _ (by assumption) (by assumption) (by assumption) (by assumption) (by omega)) rfl ?_
        refine zbc (q1 := (301, [(0, .ref 54), (3, .int a), (4, .int b), (5, .int c), (6, .int d), (7, .int ((g_Mo_clash_158 a b c d w  ((g_Mo_clash_59 a b c d w  )))))], [])) (q2 := (283, [(0, .ref 54), (3, .int a), (4, .int b), (5, .int c), (6, .int d), (7, .int ((g_Mo_clash_158 a b c d w  ((g_Mo_clash_59 a b c d w  )))))], [])) (cB := zc .eq (e_Mo_apart a b c d w) 0) (off := 21) (lv := [(0, .ref 54), (3, .int a), (4, .int b), (5, .int c), (6, .int d), (7, .int ((g_Mo_clash_158 a b c d w  ((g_Mo_clash_59 a b c d w  )))))]) (st := []) rfl rfl rfl rfl rfl (fun c280 => ?_) (fun c280 => ?_)
        · rw [c280]
          refine zeN (q := ((302, [(0, .ref 54), (3, .int a), (4, .int b), (5, .int c), (6, .int d), (7, .int ((g_Mo_clash_158 a b c d w  ((g_Mo_clash_59 a b c d w  )))))], [.int 0]), yhp w G sz)) 1 rfl ?_
          exact zer rfl rfl
        · rw [c280]
          refine zeN (q := ((291, [(0, .ref 54), (3, .int a), (4, .int b), (5, .int c), (6, .int d), (7, .int ((g_Mo_clash_158 a b c d w  ((g_Mo_clash_59 a b c d w  )))))], [.int b, .int a, .int d, .int c, .ref 54]), yhp w G sz)) 5 rfl ?_
          refine zec 1 (M' := M_Mo_apart) (qq := ([.ref 54, .int c, .int d, .int a, .int b], [])) (s' := (294, [(0, .ref 54), (3, .int a), (4, .int b), (5, .int c), (6, .int d), (7, .int ((g_Mo_clash_158 a b c d w  ((g_Mo_clash_59 a b c d w  )))))], [.int (e_Mo_apart c d a b w)])) rfl rfl (fun _ => rfl) rfl rfl (zhk rfl (zrc_ok (yhp_o rfl)) rfl) (r_Mo_apart c d a b _ (by assumption) (by assumption) (by assumption) (by assumption) (by omega)) rfl ?_
          refine zbc (q1 := (301, [(0, .ref 54), (3, .int a), (4, .int b), (5, .int c), (6, .int d), (7, .int ((g_Mo_clash_158 a b c d w  ((g_Mo_clash_59 a b c d w  )))))], [])) (q2 := (297, [(0, .ref 54), (3, .int a), (4, .int b), (5, .int c), (6, .int d), (7, .int ((g_Mo_clash_158 a b c d w  ((g_Mo_clash_59 a b c d w  )))))], [])) (cB := zc .eq (e_Mo_apart c d a b w) 0) (off := 7) (lv := [(0, .ref 54), (3, .int a), (4, .int b), (5, .int c), (6, .int d), (7, .int ((g_Mo_clash_158 a b c d w  ((g_Mo_clash_59 a b c d w  )))))]) (st := []) rfl rfl rfl rfl rfl (fun c294 => ?_) (fun c294 => ?_)
          · rw [c294]
            refine zeN (q := ((302, [(0, .ref 54), (3, .int a), (4, .int b), (5, .int c), (6, .int d), (7, .int ((g_Mo_clash_158 a b c d w  ((g_Mo_clash_59 a b c d w  )))))], [.int 0]), yhp w G sz)) 1 rfl ?_
            exact zer rfl rfl
          · rw [c294]
            refine zeN (q := ((302, [(0, .ref 54), (3, .int a), (4, .int b), (5, .int c), (6, .int d), (7, .int ((g_Mo_clash_158 a b c d w  ((g_Mo_clash_59 a b c d w  )))))], [.int 1]), yhp w G sz)) 2 rfl ?_
            exact zer rfl rfl
    · rw [c45]
      refine zeN (q := ((55, [(0, .ref 54), (3, .int a), (4, .int b), (5, .int c), (6, .int d)], [.int b, .int d, .int c, .ref 54]), yhp w G sz)) 4 rfl ?_
      refine zec 1 (M' := M_Mo_stuck) (qq := ([.ref 54, .int c, .int d, .int b], [])) (s' := (58, [(0, .ref 54), (3, .int a), (4, .int b), (5, .int c), (6, .int d)], [.int (e_Mo_stuck c d b w)])) rfl rfl (fun _ => rfl) rfl rfl (zhk rfl (zrc_ok (yhp_o rfl)) rfl) (r_Mo_stuck c d b _ (by assumption) (by assumption) (by assumption) (by omega)) rfl ?_
      exact zer rfl (zreb (b_Mo_stuck ..))
  · rw [c29]
    refine zeN (q := ((38, [(0, .ref 54), (3, .int a), (4, .int b), (5, .int c), (6, .int d)], [.int d, .int b, .int a, .ref 54]), yhp w G sz)) 4 rfl ?_
    refine zec 1 (M' := M_Mo_stuck) (qq := ([.ref 54, .int a, .int b, .int d], [])) (s' := (41, [(0, .ref 54), (3, .int a), (4, .int b), (5, .int c), (6, .int d)], [.int (e_Mo_stuck a b d w)])) rfl rfl (fun _ => rfl) rfl rfl (zhk rfl (zrc_ok (yhp_o rfl)) rfl) (r_Mo_stuck a b d _ (by assumption) (by assumption) (by assumption) (by omega)) rfl ?_
    exact zer rfl (zreb (b_Mo_stuck ..))
def e_Mo_clash (x y : Int32) (w : yW) : Int32 := g_Mo_clash_25 x ((x + 1) - (x + 1) / (w.1 54 10) * (w.1 54 10)) y ((y + 1) - (y + 1) / (w.1 54 10) * (w.1 54 10)) w  
set_option maxRecDepth 100000 in
theorem r_Mo_clash {fr lo sz : Nat} {G : List zC} (x y : Int32) (w : yW) (hx0 : 0 ≤ x.toInt) (hx1 : x.toInt < (w.1 54 10).toInt) (hy0 : 0 ≤ y.toInt) (hy1 : y.toInt < (w.1 54 10).toInt) (hd6 : (w.1 54 10).toInt ≤ 6) (hlo : 80 ≤ lo) : zAns (fr + 3) lo 101 [.ref 54, .int x, .int y] (yhp w G sz) (some (.int ((e_Mo_clash x y w))), yhp w G sz) := by
  unfold e_Mo_clash
  refine zeb (fr := fr + 2) (M := M_Mo_clash) rfl (Nat.le_trans (by decide) hlo) rfl ?_
  have e0 : mL M_Mo_clash = 8 := rfl
  have hnz : ¬ w.1 54 10 = 0 := fun e => by rw [e] at hx1; have h1 : x.toInt < 0 := hx1; omega
  refine zeN (q := ((6, [(3, .int x), (0, .ref 54), (1, .int x), (2, .int y)], [.ref 54, .int (x + 1)]), yhp w G sz)) 6 rfl ?_
  refine ygf (kk := .inr 0) (v := .int (w.1 54 10)) rfl rfl rfl rfl rfl rfl rfl ?_
  refine zerm rfl rfl hnz ?_
  refine zeN (q := ((19, [(5, .int y), (4, .int ((x + 1) - (x + 1) / (w.1 54 10) * (w.1 54 10))), (3, .int x), (0, .ref 54), (1, .int x), (2, .int y)], [.ref 54, .int (y + 1)]), yhp w G sz)) 7 rfl ?_
  refine ygf (kk := .inr 0) (v := .int (w.1 54 10)) rfl rfl rfl rfl rfl rfl rfl ?_
  refine zerm rfl rfl hnz ?_
  refine zeN (q := ((25, [(6, .int ((y + 1) - (y + 1) / (w.1 54 10) * (w.1 54 10))), (5, .int y), (4, .int ((x + 1) - (x + 1) / (w.1 54 10) * (w.1 54 10))), (3, .int x), (0, .ref 54), (1, .int x), (2, .int y)], []), yhp w G sz)) 1 rfl ?_
  have ha : zIx x 6 := ⟨hx0, by omega⟩
  have hb := zIx_rem hx0 hx1 hd6
  have hc : zIx y 6 := ⟨hy0, by omega⟩
  have hd := zIx_rem hy0 hy1 hd6
  refine zeS [(0, .ref 54), (3, .int x), (4, .int ((x + 1) - (x + 1) / (w.1 54 10) * (w.1 54 10))), (5, .int y), (6, .int ((y + 1) - (y + 1) / (w.1 54 10) * (w.1 54 10)))] (zsub_pick [4, 3, 2, 1, 0] rfl rfl) ?_
  exact t_Mo_clash_25 x ((x + 1) - (x + 1) / (w.1 54 10) * (w.1 54 10)) y ((y + 1) - (y + 1) / (w.1 54 10) * (w.1 54 10)) w  ha hb hc hd (by omega)
def g_Mo_fault_133 (kd nn x : Int32) (w : yW) : Nat → Int32 → Bool
  | 0, y => false
  | n + 1, y => (bif zc .ge y x then false else (bif zc .eq (e_Mo_clash x y w) 0 then g_Mo_fault_133 kd nn x w n  (y + Int32.ofInt 1) else true))
set_option maxRecDepth 100000 in
theorem t_Mo_fault_133 {fr lo sz : Nat} {r : Option Value × zH} {G : List zC} (kd nn x : Int32) (w : yW) (hnn : w.1 54 10 = nn) (hn1 : 1 ≤ nn.toInt) (hn6 : nn.toInt ≤ 6) (h0 : 0 ≤ x.toInt) (h1 : x.toInt < nn.toInt) (hlo : 80 ≤ lo) : ∀ (n : Nat) (y : Int32) (k0 : 0 ≤ y.toInt) (k1_ : y.toInt ≤ x.toInt) (kn : x.toInt < y.toInt + n) (k1 : g_Mo_fault_133 kd nn x w n y = true → zRun (fr + 3) lo none M_Mo_fault (149, [(0, .ref 54), (1, .int kd), (2, .int nn), (3, .int x)], []) (yhp w G sz) r) (k2 : g_Mo_fault_133 kd nn x w n y = false → zRun (fr + 3) lo none M_Mo_fault (157, [(0, .ref 54), (1, .int kd), (2, .int nn), (3, .int x)], []) (yhp w G sz) r), zRun (fr + 3) lo none M_Mo_fault (133, [(0, .ref 54), (1, .int kd), (2, .int nn), (3, .int x), (4, .int y)], []) (yhp w G sz) r := by
  intro n
  induction n with
  | zero => intro y k0 k1_ kn k1 k2; exfalso; omega
  | succ n ih =>
    intro y k0 k1_ kn k1 k2
    rw [g_Mo_fault_133] at k1 k2
    refine zeN (q := ((136, [(0, .ref 54), (1, .int kd), (2, .int nn), (3, .int x), (4, .int y)], [.int x, .int y]), yhp w G sz)) 2 rfl ?_
    refine zbc (q1 := (157, [(0, .ref 54), (1, .int kd), (2, .int nn), (3, .int x), (4, .int y)], [])) (q2 := (139, [(0, .ref 54), (1, .int kd), (2, .int nn), (3, .int x), (4, .int y)], [])) (cB := zc .ge y x) (off := 21) (lv := [(0, .ref 54), (1, .int kd), (2, .int nn), (3, .int x), (4, .int y)]) (st := []) rfl rfl rfl rfl rfl (fun c136 => ?_) (fun c136 => ?_)
    · rw [c136] at k1 k2
      refine zeS [(0, .ref 54), (1, .int kd), (2, .int nn), (3, .int x)] (zsub_pick [0, 1, 2, 3] rfl rfl) ?_
      exact k2 rfl
    · rw [c136] at k1 k2
      have hcc := of_decide_eq_false (z_ge c136).symm
      have hi1 := z_inc (a := y) (by omega) (by omega)
      refine zeN (q := ((143, [(0, .ref 54), (1, .int kd), (2, .int nn), (3, .int x), (4, .int y)], [.int y, .int x, .ref 54]), yhp w G sz)) 3 rfl ?_
      refine zec 1 (M' := M_Mo_clash) (qq := ([.ref 54, .int x, .int y], [])) (s' := (146, [(0, .ref 54), (1, .int kd), (2, .int nn), (3, .int x), (4, .int y)], [.int (e_Mo_clash x y w)])) rfl rfl (fun _ => rfl) rfl rfl (zhk rfl (zrc_ok (yhp_o rfl)) rfl) (r_Mo_clash x y _ h0 (by rw [hnn]; omega) k0 (by rw [hnn]; omega) (by rw [hnn]; omega) (by omega)) rfl ?_
      refine zbc (q1 := (151, [(0, .ref 54), (1, .int kd), (2, .int nn), (3, .int x), (4, .int y)], [])) (q2 := (149, [(0, .ref 54), (1, .int kd), (2, .int nn), (3, .int x), (4, .int y)], [])) (cB := zc .eq (e_Mo_clash x y w) 0) (off := 5) (lv := [(0, .ref 54), (1, .int kd), (2, .int nn), (3, .int x), (4, .int y)]) (st := []) rfl rfl rfl rfl rfl (fun c146 => ?_) (fun c146 => ?_)
      · rw [c146] at k1 k2
        refine zeN (q := ((133, [(4, .int (y + Int32.ofInt 1)), (0, .ref 54), (1, .int kd), (2, .int nn), (3, .int x)], []), yhp w G sz)) 2 rfl ?_
        refine zeS [(0, .ref 54), (1, .int kd), (2, .int nn), (3, .int x), (4, .int (y + Int32.ofInt 1))] (zsub_pick [1, 2, 3, 4, 0] rfl rfl) ?_
        exact ih  (y + Int32.ofInt 1) (by omega) (by omega) (by omega) k1 k2
      · rw [c146] at k1 k2
        refine zeS [(0, .ref 54), (1, .int kd), (2, .int nn), (3, .int x)] (zsub_pick [0, 1, 2, 3] rfl rfl) ?_
        exact k1 rfl
def g_Mo_fault_120 (kd nn : Int32) (w : yW) : Nat → Int32 → Int32
  | 0, x => 0
  | n + 1, x => (bif zc .ge x nn then 0 else (bif zc .ne kd 2 then 0 else (bif g_Mo_fault_133 kd nn x w 7 0 then 3 else g_Mo_fault_120 kd nn w n  (x + Int32.ofInt 1))))
set_option maxRecDepth 100000 in
theorem t_Mo_fault_120 {fr lo sz : Nat} {G : List zC} (kd nn : Int32) (w : yW) (hnn : w.1 54 10 = nn) (hn1 : 1 ≤ nn.toInt) (hn6 : nn.toInt ≤ 6) (hlo : 80 ≤ lo) : ∀ (n : Nat) (x : Int32) (h0 : 0 ≤ x.toInt) (h1_ : x.toInt ≤ nn.toInt) (hn : nn.toInt < x.toInt + n), zRun (fr + 3) lo none M_Mo_fault (120, [(0, .ref 54), (1, .int kd), (2, .int nn), (3, .int x)], []) (yhp w G sz) (some (.int ((g_Mo_fault_120 kd nn w n x))), yhp w G sz) := by
  intro n
  induction n with
  | zero => intro x h0 h1_ hn; exfalso; omega
  | succ n ih =>
    intro x h0 h1_ hn
    rw [g_Mo_fault_120]
    refine zeN (q := ((122, [(0, .ref 54), (1, .int kd), (2, .int nn), (3, .int x)], [.int nn, .int x]), yhp w G sz)) 2 rfl ?_
    refine zbc (q1 := (163, [(0, .ref 54), (1, .int kd), (2, .int nn), (3, .int x)], [])) (q2 := (125, [(0, .ref 54), (1, .int kd), (2, .int nn), (3, .int x)], [])) (cB := zc .ge x nn) (off := 41) (lv := [(0, .ref 54), (1, .int kd), (2, .int nn), (3, .int x)]) (st := []) rfl rfl rfl rfl rfl (fun c122 => ?_) (fun c122 => ?_)
    · rw [c122]
      refine zeN (q := ((164, [(0, .ref 54), (1, .int kd), (2, .int nn), (3, .int x)], [.int 0]), yhp w G sz)) 1 rfl ?_
      exact zer rfl rfl
    · rw [c122]
      have hcc := of_decide_eq_false (z_ge c122).symm
      have h1 : x.toInt < nn.toInt := by omega
      have hi1 := z_inc (a := x) (by omega) (by omega)
      refine zeN (q := ((127, [(0, .ref 54), (1, .int kd), (2, .int nn), (3, .int x)], [.int 2, .int kd]), yhp w G sz)) 2 rfl ?_
      refine zbc (q1 := (163, [(0, .ref 54), (1, .int kd), (2, .int nn), (3, .int x)], [])) (q2 := (130, [(0, .ref 54), (1, .int kd), (2, .int nn), (3, .int x)], [])) (cB := zc .ne kd 2) (off := 36) (lv := [(0, .ref 54), (1, .int kd), (2, .int nn), (3, .int x)]) (st := []) rfl rfl rfl rfl rfl (fun c127 => ?_) (fun c127 => ?_)
      · rw [c127]
        refine zeN (q := ((164, [(0, .ref 54), (1, .int kd), (2, .int nn), (3, .int x)], [.int 0]), yhp w G sz)) 1 rfl ?_
        exact zer rfl rfl
      · rw [c127]
        refine zeN (q := ((133, [(4, .int 0), (0, .ref 54), (1, .int kd), (2, .int nn), (3, .int x)], []), yhp w G sz)) 2 rfl ?_
        refine zeS [(0, .ref 54), (1, .int kd), (2, .int nn), (3, .int x), (4, .int 0)] (zsub_pick [1, 2, 3, 4, 0] rfl rfl) ?_
        refine t_Mo_fault_133 kd nn x w hnn hn1 hn6 h0 h1 (by omega) 7 0 (by decide) (by show (0 : Int) ≤ _; omega) (by show _ < (0 : Int) + 7; omega) (fun c133 => ?_) (fun c133 => ?_)
        · rw [c133]
          refine zeN (q := ((150, [(0, .ref 54), (1, .int kd), (2, .int nn), (3, .int x)], [.int 3]), yhp w G sz)) 1 rfl ?_
          exact zer rfl rfl
        · rw [c133]
          refine zeN (q := ((120, [(3, .int (x + Int32.ofInt 1)), (0, .ref 54), (1, .int kd), (2, .int nn)], []), yhp w G sz)) 2 rfl ?_
          refine zeS [(0, .ref 54), (1, .int kd), (2, .int nn), (3, .int (x + Int32.ofInt 1))] (zsub_pick [1, 2, 3, 0] rfl rfl) ?_
          exact ih  (x + Int32.ofInt 1) (by omega) (by omega) (by omega)
def g_Mo_fault_51 (kd nn x y : Int32) (w : yW)  : Int32 := (bif zc .eq kd 2 then 1 else (bif zc .le y 0 then 0 else 1))
set_option maxRecDepth 100000 in
theorem t_Mo_fault_51 {fr lo sz : Nat} {r : Option Value × zH} {G : List zC} (kd nn x y : Int32) (w : yW)   (hlo : 80 ≤ lo) (k : zRun (fr + 3) lo none M_Mo_fault (68, [(0, .ref 54), (1, .int kd), (2, .int nn), (3, .int x), (4, .int y), (5, .int ((g_Mo_fault_51 kd nn x y w )))], []) (yhp w G sz) r) : zRun (fr + 3) lo none M_Mo_fault (51, [(0, .ref 54), (1, .int kd), (2, .int nn), (3, .int x), (4, .int y)], []) (yhp w G sz) r := by
  unfold g_Mo_fault_51 at k
  refine zeN (q := ((53, [(0, .ref 54), (1, .int kd), (2, .int nn), (3, .int x), (4, .int y)], [.int 2, .int kd]), yhp w G sz)) 2 rfl ?_
  refine zbc (q1 := (61, [(0, .ref 54), (1, .int kd), (2, .int nn), (3, .int x), (4, .int y)], [])) (q2 := (56, [(0, .ref 54), (1, .int kd), (2, .int nn), (3, .int x), (4, .int y)], [])) (cB := zc .eq kd 2) (off := 8) (lv := [(0, .ref 54), (1, .int kd), (2, .int nn), (3, .int x), (4, .int y)]) (st := []) rfl rfl rfl rfl rfl (fun c53 => ?_) (fun c53 => ?_)
  · rw [c53] at k
    refine zeN (q := ((68, [(5, .int 1), (0, .ref 54), (1, .int kd), (2, .int nn), (3, .int x), (4, .int y)], []), yhp w G sz)) 3 rfl ?_
    refine zeS [(0, .ref 54), (1, .int kd), (2, .int nn), (3, .int x), (4, .int y), (5, .int 1)] (zsub_pick [1, 2, 3, 4, 5, 0] rfl rfl) ?_
    exact k
  · rw [c53] at k
    refine zeN (q := ((58, [(0, .ref 54), (1, .int kd), (2, .int nn), (3, .int x), (4, .int y)], [.int y]), yhp w G sz)) 1 rfl ?_
    refine zbc (q1 := (65, [(0, .ref 54), (1, .int kd), (2, .int nn), (3, .int x), (4, .int y)], [])) (q2 := (61, [(0, .ref 54), (1, .int kd), (2, .int nn), (3, .int x), (4, .int y)], [])) (cB := zc .le y 0) (off := 7) (lv := [(0, .ref 54), (1, .int kd), (2, .int nn), (3, .int x), (4, .int y)]) (st := []) rfl rfl rfl rfl rfl (fun c58 => ?_) (fun c58 => ?_)
    · rw [c58] at k
      refine zeN (q := ((68, [(5, .int 0), (0, .ref 54), (1, .int kd), (2, .int nn), (3, .int x), (4, .int y)], []), yhp w G sz)) 2 rfl ?_
      refine zeS [(0, .ref 54), (1, .int kd), (2, .int nn), (3, .int x), (4, .int y), (5, .int 0)] (zsub_pick [1, 2, 3, 4, 5, 0] rfl rfl) ?_
      exact k
    · rw [c58] at k
      refine zeN (q := ((68, [(5, .int 1), (0, .ref 54), (1, .int kd), (2, .int nn), (3, .int x), (4, .int y)], []), yhp w G sz)) 3 rfl ?_
      refine zeS [(0, .ref 54), (1, .int kd), (2, .int nn), (3, .int x), (4, .int y), (5, .int 1)] (zsub_pick [1, 2, 3, 4, 5, 0] rfl rfl) ?_
      exact k
def g_Mo_fault_39 (kd nn : Int32) (w : yW) : Nat → Int32 → Int32
  | 0, x => 0
  | n + 1, x => (bif zc .ge x nn then g_Mo_fault_120 kd nn w 7 0 else (bif zc .eq ((g_Mo_fault_51 kd nn x ((x + 1) - (x + 1) / nn * nn) w  )) 0 then g_Mo_fault_39 kd nn w n  (x + Int32.ofInt 1) else (bif zc .le nn 1 then g_Mo_fault_39 kd nn w n  (x + Int32.ofInt 1) else (bif zc .ne (w.1 65 x.toNatClampNeg) (w.1 65 ((x + 1) - (x + 1) / nn * nn).toNatClampNeg) then g_Mo_fault_39 kd nn w n  (x + Int32.ofInt 1) else (bif zc .ne (w.1 66 x.toNatClampNeg) (w.1 66 ((x + 1) - (x + 1) / nn * nn).toNatClampNeg) then g_Mo_fault_39 kd nn w n  (x + Int32.ofInt 1) else 2)))))
set_option maxRecDepth 100000 in
theorem t_Mo_fault_39 {fr lo sz : Nat} {G : List zC} (kd nn : Int32) (w : yW) (hnn : w.1 54 10 = nn) (hn1 : 1 ≤ nn.toInt) (hn6 : nn.toInt ≤ 6) (hlo : 80 ≤ lo) : ∀ (n : Nat) (x : Int32) (h0 : 0 ≤ x.toInt) (h1_ : x.toInt ≤ nn.toInt) (hn : nn.toInt < x.toInt + n), zRun (fr + 3) lo none M_Mo_fault (39, [(0, .ref 54), (1, .int kd), (2, .int nn), (3, .int x)], []) (yhp w G sz) (some (.int ((g_Mo_fault_39 kd nn w n x))), yhp w G sz) := by
  intro n
  induction n with
  | zero => intro x h0 h1_ hn; exfalso; omega
  | succ n ih =>
    intro x h0 h1_ hn
    rw [g_Mo_fault_39]
    refine zeN (q := ((41, [(0, .ref 54), (1, .int kd), (2, .int nn), (3, .int x)], [.int nn, .int x]), yhp w G sz)) 2 rfl ?_
    refine zbc (q1 := (118, [(0, .ref 54), (1, .int kd), (2, .int nn), (3, .int x)], [])) (q2 := (44, [(0, .ref 54), (1, .int kd), (2, .int nn), (3, .int x)], [])) (cB := zc .ge x nn) (off := 77) (lv := [(0, .ref 54), (1, .int kd), (2, .int nn), (3, .int x)]) (st := []) rfl rfl rfl rfl rfl (fun c41 => ?_) (fun c41 => ?_)
    · rw [c41]
      refine zeN (q := ((120, [(3, .int 0), (0, .ref 54), (1, .int kd), (2, .int nn)], []), yhp w G sz)) 2 rfl ?_
      refine zeS [(0, .ref 54), (1, .int kd), (2, .int nn), (3, .int 0)] (zsub_pick [1, 2, 3, 0] rfl rfl) ?_
      exact t_Mo_fault_120 kd nn w hnn hn1 hn6 (by omega) 7  0 (by decide) (by show (0 : Int) ≤ _; omega) (by show _ < (0 : Int) + 7; omega)
    · rw [c41]
      have hcc := of_decide_eq_false (z_ge c41).symm
      have h1 : x.toInt < nn.toInt := by omega
      have hi1 := z_inc (a := x) (by omega) (by omega)
      have hnz : ¬ nn = 0 := fun e => by rw [e] at hn1; exact absurd hn1 (by decide)
      have hx6 : zIx x 6 := ⟨h0, by omega⟩
      have hy6 := zIx_rem h0 h1 hn6
      refine zeN (q := ((48, [(0, .ref 54), (1, .int kd), (2, .int nn), (3, .int x)], [.int nn, .int (x + 1)]), yhp w G sz)) 4 rfl ?_
      refine zerm rfl rfl hnz ?_
      refine zeN (q := ((51, [(4, .int ((x + 1) - (x + 1) / nn * nn)), (0, .ref 54), (1, .int kd), (2, .int nn), (3, .int x)], []), yhp w G sz)) 1 rfl ?_
      refine zeS [(0, .ref 54), (1, .int kd), (2, .int nn), (3, .int x), (4, .int ((x + 1) - (x + 1) / nn * nn))] (zsub_pick [1, 2, 3, 4, 0] rfl rfl) ?_
      refine t_Mo_fault_51 kd nn x ((x + 1) - (x + 1) / nn * nn) w   (by omega) ?_
      refine zeN (q := ((70, [(0, .ref 54), (1, .int kd), (2, .int nn), (3, .int x), (4, .int ((x + 1) - (x + 1) / nn * nn)), (5, .int ((g_Mo_fault_51 kd nn x ((x + 1) - (x + 1) / nn * nn) w  )))], [.int ((g_Mo_fault_51 kd nn x ((x + 1) - (x + 1) / nn * nn) w  ))]), yhp w G sz)) 1 rfl ?_
      refine zbc (q1 := (112, [(0, .ref 54), (1, .int kd), (2, .int nn), (3, .int x), (4, .int ((x + 1) - (x + 1) / nn * nn)), (5, .int ((g_Mo_fault_51 kd nn x ((x + 1) - (x + 1) / nn * nn) w  )))], [])) (q2 := (73, [(0, .ref 54), (1, .int kd), (2, .int nn), (3, .int x), (4, .int ((x + 1) - (x + 1) / nn * nn)), (5, .int ((g_Mo_fault_51 kd nn x ((x + 1) - (x + 1) / nn * nn) w  )))], [])) (cB := zc .eq ((g_Mo_fault_51 kd nn x ((x + 1) - (x + 1) / nn * nn) w  )) 0) (off := 42) (lv := [(0, .ref 54), (1, .int kd), (2, .int nn), (3, .int x), (4, .int ((x + 1) - (x + 1) / nn * nn)), (5, .int ((g_Mo_fault_51 kd nn x ((x + 1) - (x + 1) / nn * nn) w  )))]) (st := []) rfl rfl rfl rfl rfl (fun c70 => ?_) (fun c70 => ?_)
      · rw [c70]
        refine zeN (q := ((39, [(3, .int (x + Int32.ofInt 1)), (0, .ref 54), (1, .int kd), (2, .int nn), (4, .int ((x + 1) - (x + 1) / nn * nn)), (5, .int ((g_Mo_fault_51 kd nn x ((x + 1) - (x + 1) / nn * nn) w  )))], []), yhp w G sz)) 2 rfl ?_
        refine zeS [(0, .ref 54), (1, .int kd), (2, .int nn), (3, .int (x + Int32.ofInt 1))] (zsub_pick [1, 2, 3, 0] rfl rfl) ?_
        exact ih  (x + Int32.ofInt 1) (by omega) (by omega) (by omega)
      · rw [c70]
        refine zeN (q := ((75, [(0, .ref 54), (1, .int kd), (2, .int nn), (3, .int x), (4, .int ((x + 1) - (x + 1) / nn * nn)), (5, .int ((g_Mo_fault_51 kd nn x ((x + 1) - (x + 1) / nn * nn) w  )))], [.int 1, .int nn]), yhp w G sz)) 2 rfl ?_
        refine zbc (q1 := (112, [(0, .ref 54), (1, .int kd), (2, .int nn), (3, .int x), (4, .int ((x + 1) - (x + 1) / nn * nn)), (5, .int ((g_Mo_fault_51 kd nn x ((x + 1) - (x + 1) / nn * nn) w  )))], [])) (q2 := (78, [(0, .ref 54), (1, .int kd), (2, .int nn), (3, .int x), (4, .int ((x + 1) - (x + 1) / nn * nn)), (5, .int ((g_Mo_fault_51 kd nn x ((x + 1) - (x + 1) / nn * nn) w  )))], [])) (cB := zc .le nn 1) (off := 37) (lv := [(0, .ref 54), (1, .int kd), (2, .int nn), (3, .int x), (4, .int ((x + 1) - (x + 1) / nn * nn)), (5, .int ((g_Mo_fault_51 kd nn x ((x + 1) - (x + 1) / nn * nn) w  )))]) (st := []) rfl rfl rfl rfl rfl (fun c75 => ?_) (fun c75 => ?_)
        · rw [c75]
          refine zeN (q := ((39, [(3, .int (x + Int32.ofInt 1)), (0, .ref 54), (1, .int kd), (2, .int nn), (4, .int ((x + 1) - (x + 1) / nn * nn)), (5, .int ((g_Mo_fault_51 kd nn x ((x + 1) - (x + 1) / nn * nn) w  )))], []), yhp w G sz)) 2 rfl ?_
          refine zeS [(0, .ref 54), (1, .int kd), (2, .int nn), (3, .int (x + Int32.ofInt 1))] (zsub_pick [1, 2, 3, 0] rfl rfl) ?_
          exact ih  (x + Int32.ofInt 1) (by omega) (by omega) (by omega)
        · rw [c75]
          refine zeN (q := ((79, [(0, .ref 54), (1, .int kd), (2, .int nn), (3, .int x), (4, .int ((x + 1) - (x + 1) / nn * nn)), (5, .int ((g_Mo_fault_51 kd nn x ((x + 1) - (x + 1) / nn * nn) w  )))], [.ref 54]), yhp w G sz)) 1 rfl ?_
          refine ygf (kk := .inl (.ref 65)) (v := .ref 65) rfl rfl rfl rfl rfl rfl rfl ?_
          refine zeN (q := ((83, [(0, .ref 54), (1, .int kd), (2, .int nn), (3, .int x), (4, .int ((x + 1) - (x + 1) / nn * nn)), (5, .int ((g_Mo_fault_51 kd nn x ((x + 1) - (x + 1) / nn * nn) w  )))], [.int x, .ref 65]), yhp w G sz)) 1 rfl ?_
          refine yia (N := 6) rfl rfl rfl (by assumption) ?_
          refine zeN (q := ((85, [(0, .ref 54), (1, .int kd), (2, .int nn), (3, .int x), (4, .int ((x + 1) - (x + 1) / nn * nn)), (5, .int ((g_Mo_fault_51 kd nn x ((x + 1) - (x + 1) / nn * nn) w  )))], [.ref 54, .int (w.1 65 x.toNatClampNeg)]), yhp w G sz)) 1 rfl ?_
          refine ygf (kk := .inl (.ref 65)) (v := .ref 65) rfl rfl rfl rfl rfl rfl rfl ?_
          refine zeN (q := ((90, [(0, .ref 54), (1, .int kd), (2, .int nn), (3, .int x), (4, .int ((x + 1) - (x + 1) / nn * nn)), (5, .int ((g_Mo_fault_51 kd nn x ((x + 1) - (x + 1) / nn * nn) w  )))], [.int ((x + 1) - (x + 1) / nn * nn), .ref 65, .int (w.1 65 x.toNatClampNeg)]), yhp w G sz)) 1 rfl ?_
          refine yia (N := 6) rfl rfl rfl (by assumption) ?_
          refine zbc (q1 := (112, [(0, .ref 54), (1, .int kd), (2, .int nn), (3, .int x), (4, .int ((x + 1) - (x + 1) / nn * nn)), (5, .int ((g_Mo_fault_51 kd nn x ((x + 1) - (x + 1) / nn * nn) w  )))], [])) (q2 := (94, [(0, .ref 54), (1, .int kd), (2, .int nn), (3, .int x), (4, .int ((x + 1) - (x + 1) / nn * nn)), (5, .int ((g_Mo_fault_51 kd nn x ((x + 1) - (x + 1) / nn * nn) w  )))], [])) (cB := zc .ne (w.1 65 x.toNatClampNeg) (w.1 65 ((x + 1) - (x + 1) / nn * nn).toNatClampNeg)) (off := 21) (lv := [(0, .ref 54), (1, .int kd), (2, .int nn), (3, .int x), (4, .int ((x + 1) - (x + 1) / nn * nn)), (5, .int ((g_Mo_fault_51 kd nn x ((x + 1) - (x + 1) / nn * nn) w  )))]) (st := []) rfl rfl rfl rfl rfl (fun c91 => ?_) (fun c91 => ?_)
          · rw [c91]
            refine zeN (q := ((39, [(3, .int (x + Int32.ofInt 1)), (0, .ref 54), (1, .int kd), (2, .int nn), (4, .int ((x + 1) - (x + 1) / nn * nn)), (5, .int ((g_Mo_fault_51 kd nn x ((x + 1) - (x + 1) / nn * nn) w  )))], []), yhp w G sz)) 2 rfl ?_
            refine zeS [(0, .ref 54), (1, .int kd), (2, .int nn), (3, .int (x + Int32.ofInt 1))] (zsub_pick [1, 2, 3, 0] rfl rfl) ?_
            exact ih  (x + Int32.ofInt 1) (by omega) (by omega) (by omega)
          · rw [c91]
            refine zeN (q := ((95, [(0, .ref 54), (1, .int kd), (2, .int nn), (3, .int x), (4, .int ((x + 1) - (x + 1) / nn * nn)), (5, .int ((g_Mo_fault_51 kd nn x ((x + 1) - (x + 1) / nn * nn) w  )))], [.ref 54]), yhp w G sz)) 1 rfl ?_
            refine ygf (kk := .inl (.ref 66)) (v := .ref 66) rfl rfl rfl rfl rfl rfl rfl ?_
            refine zeN (q := ((99, [(0, .ref 54), (1, .int kd), (2, .int nn), (3, .int x), (4, .int ((x + 1) - (x + 1) / nn * nn)), (5, .int ((g_Mo_fault_51 kd nn x ((x + 1) - (x + 1) / nn * nn) w  )))], [.int x, .ref 66]), yhp w G sz)) 1 rfl ?_
            refine yia (N := 6) rfl rfl rfl (by assumption) ?_
            refine zeN (q := ((101, [(0, .ref 54), (1, .int kd), (2, .int nn), (3, .int x), (4, .int ((x + 1) - (x + 1) / nn * nn)), (5, .int ((g_Mo_fault_51 kd nn x ((x + 1) - (x + 1) / nn * nn) w  )))], [.ref 54, .int (w.1 66 x.toNatClampNeg)]), yhp w G sz)) 1 rfl ?_
            refine ygf (kk := .inl (.ref 66)) (v := .ref 66) rfl rfl rfl rfl rfl rfl rfl ?_
            refine zeN (q := ((106, [(0, .ref 54), (1, .int kd), (2, .int nn), (3, .int x), (4, .int ((x + 1) - (x + 1) / nn * nn)), (5, .int ((g_Mo_fault_51 kd nn x ((x + 1) - (x + 1) / nn * nn) w  )))], [.int ((x + 1) - (x + 1) / nn * nn), .ref 66, .int (w.1 66 x.toNatClampNeg)]), yhp w G sz)) 1 rfl ?_
            refine yia (N := 6) rfl rfl rfl (by assumption) ?_
            refine zbc (q1 := (112, [(0, .ref 54), (1, .int kd), (2, .int nn), (3, .int x), (4, .int ((x + 1) - (x + 1) / nn * nn)), (5, .int ((g_Mo_fault_51 kd nn x ((x + 1) - (x + 1) / nn * nn) w  )))], [])) (q2 := (110, [(0, .ref 54), (1, .int kd), (2, .int nn), (3, .int x), (4, .int ((x + 1) - (x + 1) / nn * nn)), (5, .int ((g_Mo_fault_51 kd nn x ((x + 1) - (x + 1) / nn * nn) w  )))], [])) (cB := zc .ne (w.1 66 x.toNatClampNeg) (w.1 66 ((x + 1) - (x + 1) / nn * nn).toNatClampNeg)) (off := 5) (lv := [(0, .ref 54), (1, .int kd), (2, .int nn), (3, .int x), (4, .int ((x + 1) - (x + 1) / nn * nn)), (5, .int ((g_Mo_fault_51 kd nn x ((x + 1) - (x + 1) / nn * nn) w  )))]) (st := []) rfl rfl rfl rfl rfl (fun c107 => ?_) (fun c107 => ?_)
            · rw [c107]
              refine zeN (q := ((39, [(3, .int (x + Int32.ofInt 1)), (0, .ref 54), (1, .int kd), (2, .int nn), (4, .int ((x + 1) - (x + 1) / nn * nn)), (5, .int ((g_Mo_fault_51 kd nn x ((x + 1) - (x + 1) / nn * nn) w  )))], []), yhp w G sz)) 2 rfl ?_
              refine zeS [(0, .ref 54), (1, .int kd), (2, .int nn), (3, .int (x + Int32.ofInt 1))] (zsub_pick [1, 2, 3, 0] rfl rfl) ?_
              exact ih  (x + Int32.ofInt 1) (by omega) (by omega) (by omega)
            · rw [c107]
              refine zeN (q := ((111, [(0, .ref 54), (1, .int kd), (2, .int nn), (3, .int x), (4, .int ((x + 1) - (x + 1) / nn * nn)), (5, .int ((g_Mo_fault_51 kd nn x ((x + 1) - (x + 1) / nn * nn) w  )))], [.int 2]), yhp w G sz)) 1 rfl ?_
              exact zer rfl rfl
def e_Mo_fault (kd : Int32) (w : yW) : Int32 := (bif zc .ne kd 0 then (bif zc .ne kd 1 then (bif zc .ge (w.1 54 10) 3 then g_Mo_fault_39 kd (w.1 54 10) w 7 0 else 1) else (bif zc .ge (w.1 54 10) 2 then g_Mo_fault_39 kd (w.1 54 10) w 7 0 else 1)) else (bif zc .eq (w.1 54 10) 1 then g_Mo_fault_39 kd (w.1 54 10) w 7 0 else 1))
set_option maxRecDepth 100000 in
theorem r_Mo_fault {fr lo sz : Nat} {G : List zC} (kd : Int32) (w : yW) (hd6 : (w.1 54 10).toInt ≤ 6) (hlo : 105 ≤ lo) : zAns (fr + 4) lo 100 [.ref 54, .int kd] (yhp w G sz) (some (.int ((e_Mo_fault kd w))), yhp w G sz) := by
  unfold e_Mo_fault
  refine zeb (fr := fr + 3) (M := M_Mo_fault) rfl (Nat.le_trans (by decide) hlo) rfl ?_
  have e0 : mL M_Mo_fault = 6 := rfl
  refine zeN (q := ((1, [(0, .ref 54), (1, .int kd)], [.ref 54]), yhp w G sz)) 1 rfl ?_
  refine ygf (kk := .inr 0) (v := .int (w.1 54 10)) rfl rfl rfl rfl rfl rfl rfl ?_
  refine zeN (q := ((6, [(2, .int (w.1 54 10)), (0, .ref 54), (1, .int kd)], [.int kd]), yhp w G sz)) 2 rfl ?_
  refine zbc (q1 := (17, [(2, .int (w.1 54 10)), (0, .ref 54), (1, .int kd)], [])) (q2 := (9, [(2, .int (w.1 54 10)), (0, .ref 54), (1, .int kd)], [])) (cB := zc .ne kd 0) (off := 11) (lv := [(2, .int (w.1 54 10)), (0, .ref 54), (1, .int kd)]) (st := []) rfl rfl rfl rfl rfl (fun c6 => ?_) (fun c6 => ?_)
  · rw [c6]
    refine zeN (q := ((19, [(2, .int (w.1 54 10)), (0, .ref 54), (1, .int kd)], [.int 1, .int kd]), yhp w G sz)) 2 rfl ?_
    refine zbc (q1 := (30, [(2, .int (w.1 54 10)), (0, .ref 54), (1, .int kd)], [])) (q2 := (22, [(2, .int (w.1 54 10)), (0, .ref 54), (1, .int kd)], [])) (cB := zc .ne kd 1) (off := 11) (lv := [(2, .int (w.1 54 10)), (0, .ref 54), (1, .int kd)]) (st := []) rfl rfl rfl rfl rfl (fun c19 => ?_) (fun c19 => ?_)
    · rw [c19]
      refine zeN (q := ((32, [(2, .int (w.1 54 10)), (0, .ref 54), (1, .int kd)], [.int 3, .int (w.1 54 10)]), yhp w G sz)) 2 rfl ?_
      refine zbc (q1 := (37, [(2, .int (w.1 54 10)), (0, .ref 54), (1, .int kd)], [])) (q2 := (35, [(2, .int (w.1 54 10)), (0, .ref 54), (1, .int kd)], [])) (cB := zc .ge (w.1 54 10) 3) (off := 5) (lv := [(2, .int (w.1 54 10)), (0, .ref 54), (1, .int kd)]) (st := []) rfl rfl rfl rfl rfl (fun c32 => ?_) (fun c32 => ?_)
      · rw [c32]
        have hnn : w.1 54 10 = w.1 54 10 := rfl
        have hn1 : 1 ≤ (w.1 54 10).toInt := by first | (have h := of_decide_eq_true ((zc_eq (w.1 54 10) 1).symm.trans c11); have : (1 : Int32).toInt = 1 := rfl; omega) | (have h := of_decide_eq_true ((zc_ge (w.1 54 10) 2).symm.trans c24); have : (2 : Int32).toInt = 2 := rfl; omega) | (have h := of_decide_eq_true ((zc_ge (w.1 54 10) 3).symm.trans c32); have : (3 : Int32).toInt = 3 := rfl; omega)
        have hn6 := hd6
        refine zeN (q := ((39, [(3, .int 0), (2, .int (w.1 54 10)), (0, .ref 54), (1, .int kd)], []), yhp w G sz)) 2 rfl ?_
        refine zeS [(0, .ref 54), (1, .int kd), (2, .int (w.1 54 10)), (3, .int 0)] (zsub_pick [2, 3, 1, 0] rfl rfl) ?_
        exact t_Mo_fault_39 kd (w.1 54 10) w hnn hn1 hn6 (by omega) 7  0 (by decide) (by show (0 : Int) ≤ _; omega) (by show _ < (0 : Int) + 7; omega)
      · rw [c32]
        refine zeN (q := ((36, [(2, .int (w.1 54 10)), (0, .ref 54), (1, .int kd)], [.int 1]), yhp w G sz)) 1 rfl ?_
        exact zer rfl rfl
    · rw [c19]
      refine zeN (q := ((24, [(2, .int (w.1 54 10)), (0, .ref 54), (1, .int kd)], [.int 2, .int (w.1 54 10)]), yhp w G sz)) 2 rfl ?_
      refine zbc (q1 := (37, [(2, .int (w.1 54 10)), (0, .ref 54), (1, .int kd)], [])) (q2 := (27, [(2, .int (w.1 54 10)), (0, .ref 54), (1, .int kd)], [])) (cB := zc .ge (w.1 54 10) 2) (off := 13) (lv := [(2, .int (w.1 54 10)), (0, .ref 54), (1, .int kd)]) (st := []) rfl rfl rfl rfl rfl (fun c24 => ?_) (fun c24 => ?_)
      · rw [c24]
        have hnn : w.1 54 10 = w.1 54 10 := rfl
        have hn1 : 1 ≤ (w.1 54 10).toInt := by first | (have h := of_decide_eq_true ((zc_eq (w.1 54 10) 1).symm.trans c11); have : (1 : Int32).toInt = 1 := rfl; omega) | (have h := of_decide_eq_true ((zc_ge (w.1 54 10) 2).symm.trans c24); have : (2 : Int32).toInt = 2 := rfl; omega) | (have h := of_decide_eq_true ((zc_ge (w.1 54 10) 3).symm.trans c32); have : (3 : Int32).toInt = 3 := rfl; omega)
        have hn6 := hd6
        refine zeN (q := ((39, [(3, .int 0), (2, .int (w.1 54 10)), (0, .ref 54), (1, .int kd)], []), yhp w G sz)) 2 rfl ?_
        refine zeS [(0, .ref 54), (1, .int kd), (2, .int (w.1 54 10)), (3, .int 0)] (zsub_pick [2, 3, 1, 0] rfl rfl) ?_
        exact t_Mo_fault_39 kd (w.1 54 10) w hnn hn1 hn6 (by omega) 7  0 (by decide) (by show (0 : Int) ≤ _; omega) (by show _ < (0 : Int) + 7; omega)
      · rw [c24]
        refine zeN (q := ((36, [(2, .int (w.1 54 10)), (0, .ref 54), (1, .int kd)], [.int 1]), yhp w G sz)) 2 rfl ?_
        exact zer rfl rfl
  · rw [c6]
    refine zeN (q := ((11, [(2, .int (w.1 54 10)), (0, .ref 54), (1, .int kd)], [.int 1, .int (w.1 54 10)]), yhp w G sz)) 2 rfl ?_
    refine zbc (q1 := (37, [(2, .int (w.1 54 10)), (0, .ref 54), (1, .int kd)], [])) (q2 := (14, [(2, .int (w.1 54 10)), (0, .ref 54), (1, .int kd)], [])) (cB := zc .eq (w.1 54 10) 1) (off := 26) (lv := [(2, .int (w.1 54 10)), (0, .ref 54), (1, .int kd)]) (st := []) rfl rfl rfl rfl rfl (fun c11 => ?_) (fun c11 => ?_)
    · rw [c11]
      have hnn : w.1 54 10 = w.1 54 10 := rfl
      have hn1 : 1 ≤ (w.1 54 10).toInt := by first | (have h := of_decide_eq_true ((zc_eq (w.1 54 10) 1).symm.trans c11); have : (1 : Int32).toInt = 1 := rfl; omega) | (have h := of_decide_eq_true ((zc_ge (w.1 54 10) 2).symm.trans c24); have : (2 : Int32).toInt = 2 := rfl; omega) | (have h := of_decide_eq_true ((zc_ge (w.1 54 10) 3).symm.trans c32); have : (3 : Int32).toInt = 3 := rfl; omega)
      have hn6 := hd6
      refine zeN (q := ((39, [(3, .int 0), (2, .int (w.1 54 10)), (0, .ref 54), (1, .int kd)], []), yhp w G sz)) 2 rfl ?_
      refine zeS [(0, .ref 54), (1, .int kd), (2, .int (w.1 54 10)), (3, .int 0)] (zsub_pick [2, 3, 1, 0] rfl rfl) ?_
      exact t_Mo_fault_39 kd (w.1 54 10) w hnn hn1 hn6 (by omega) 7  0 (by decide) (by show (0 : Int) ≤ _; omega) (by show _ < (0 : Int) + 7; omega)
    · rw [c11]
      refine zeN (q := ((36, [(2, .int (w.1 54 10)), (0, .ref 54), (1, .int kd)], [.int 1]), yhp w G sz)) 2 rfl ?_
      exact zer rfl rfl
def g_Mo_shape_50 (kd f : Int32) : Nat → yW → Int32 → yW
  | 0, w, x => w
  | n + 1, w, x => (bif zc .ge x (w.1 54 10) then w else g_Mo_shape_50 kd f  n (wI (wI w 59 (384 + x).toNatClampNeg (w.1 65 x.toNatClampNeg)) 60 (384 + x).toNatClampNeg ((wI w 59 (384 + x).toNatClampNeg (w.1 65 x.toNatClampNeg)).1 66 x.toNatClampNeg)) (x + Int32.ofInt 1))
set_option maxRecDepth 100000 in
theorem t_Mo_shape_50 {fr lo sz : Nat} {r : Option Value × zH} {G : List zC} (kd f : Int32)  (hlo : 105 ≤ lo) : ∀ (n : Nat) (w : yW) (x : Int32) (hd6 : (w.1 54 10).toInt ≤ 6) (h0 : 0 ≤ x.toInt) (h1 : x.toInt ≤ 6) (hn : 6 < x.toInt + n) (k : zRun (fr + 4) lo none M_Mo_shape (96, [(0, .ref 54), (1, .int kd), (2, .int f)], []) (yhp (g_Mo_shape_50 kd f n w x) G sz) r), zRun (fr + 4) lo none M_Mo_shape (50, [(0, .ref 54), (1, .int kd), (2, .int f), (3, .int x)], []) (yhp w G sz) r := by
  intro n
  induction n with
  | zero => intro w x hd6 h0 h1 hn k; exfalso; omega
  | succ n ih =>
    intro w x hd6 h0 h1 hn k
    rw [g_Mo_shape_50] at k
    refine zeN (q := ((52, [(0, .ref 54), (1, .int kd), (2, .int f), (3, .int x)], [.ref 54, .int x]), yhp w G sz)) 2 rfl ?_
    refine ygf (kk := .inr 0) (v := .int (w.1 54 10)) rfl rfl rfl rfl rfl rfl rfl ?_
    refine zbc (q1 := (96, [(0, .ref 54), (1, .int kd), (2, .int f), (3, .int x)], [])) (q2 := (58, [(0, .ref 54), (1, .int kd), (2, .int f), (3, .int x)], [])) (cB := zc .ge x (w.1 54 10)) (off := 41) (lv := [(0, .ref 54), (1, .int kd), (2, .int f), (3, .int x)]) (st := []) rfl rfl rfl rfl rfl (fun c55 => ?_) (fun c55 => ?_)
    · rw [c55] at k
      refine zeS [(0, .ref 54), (1, .int kd), (2, .int f)] (zsub_pick [0, 1, 2] rfl rfl) ?_
      exact k
    · rw [c55] at k
      have hcc := of_decide_eq_false (z_ge c55).symm
      have hx6 : zIx x 6 := ⟨h0, by omega⟩
      have hx9 : zIx (384 + x) 390 := by
        have e : (384 + x).toInt = 384 + x.toInt := z_add (by show _ ≤ (384 : Int) + _; omega) (by show (384 : Int) + _ < _; omega)
        unfold zIx
        rw [e]
        omega
      have hi1 := z_inc (a := x) (by omega) (by omega)
      refine zeN (q := ((59, [(0, .ref 54), (1, .int kd), (2, .int f), (3, .int x)], [.ref 54]), yhp w G sz)) 1 rfl ?_
      refine ygf (kk := .inl (.ref 59)) (v := .ref 59) rfl rfl rfl rfl rfl rfl rfl ?_
      refine zeN (q := ((68, [(0, .ref 54), (1, .int kd), (2, .int f), (3, .int x)], [.ref 54, .int (384 + x), .ref 59]), yhp w G sz)) 4 rfl ?_
      refine ygf (kk := .inl (.ref 65)) (v := .ref 65) rfl rfl rfl rfl rfl rfl rfl ?_
      refine zeN (q := ((72, [(0, .ref 54), (1, .int kd), (2, .int f), (3, .int x)], [.int x, .ref 65, .int (384 + x), .ref 59]), yhp w G sz)) 1 rfl ?_
      refine yia (N := 6) rfl rfl rfl (by assumption) ?_
      refine yis (N := 390) rfl rfl rfl (by assumption) ?_
      refine zeN (q := ((75, [(0, .ref 54), (1, .int kd), (2, .int f), (3, .int x)], [.ref 54]), yhp (wI w 59 (384 + x).toNatClampNeg (w.1 65 x.toNatClampNeg)) G sz)) 1 rfl ?_
      refine ygf (kk := .inl (.ref 60)) (v := .ref 60) rfl rfl rfl rfl rfl rfl rfl ?_
      refine zeN (q := ((84, [(0, .ref 54), (1, .int kd), (2, .int f), (3, .int x)], [.ref 54, .int (384 + x), .ref 60]), yhp (wI w 59 (384 + x).toNatClampNeg (w.1 65 x.toNatClampNeg)) G sz)) 4 rfl ?_
      refine ygf (kk := .inl (.ref 66)) (v := .ref 66) rfl rfl rfl rfl rfl rfl rfl ?_
      refine zeN (q := ((88, [(0, .ref 54), (1, .int kd), (2, .int f), (3, .int x)], [.int x, .ref 66, .int (384 + x), .ref 60]), yhp (wI w 59 (384 + x).toNatClampNeg (w.1 65 x.toNatClampNeg)) G sz)) 1 rfl ?_
      refine yia (N := 6) rfl rfl rfl (by assumption) ?_
      refine yis (N := 390) rfl rfl rfl (by assumption) ?_
      refine zeN (q := ((50, [(3, .int (x + Int32.ofInt 1)), (0, .ref 54), (1, .int kd), (2, .int f)], []), yhp (wI (wI w 59 (384 + x).toNatClampNeg (w.1 65 x.toNatClampNeg)) 60 (384 + x).toNatClampNeg ((wI w 59 (384 + x).toNatClampNeg (w.1 65 x.toNatClampNeg)).1 66 x.toNatClampNeg)) G sz)) 2 rfl ?_
      refine zeS [(0, .ref 54), (1, .int kd), (2, .int f), (3, .int (x + Int32.ofInt 1))] (zsub_pick [1, 2, 3, 0] rfl rfl) ?_
      exact ih (wI (wI w 59 (384 + x).toNatClampNeg (w.1 65 x.toNatClampNeg)) 60 (384 + x).toNatClampNeg ((wI w 59 (384 + x).toNatClampNeg (w.1 65 x.toNatClampNeg)).1 66 x.toNatClampNeg)) (x + Int32.ofInt 1) (by rw [wI_ne (by decide), wI_ne (by decide)]; exact hd6) (by omega) (by omega) (by omega) k
set_option maxRecDepth 100000 in
theorem kf_Mo_shape_50 (kd f : Int32) : ∀ (n : Nat) (w : yW) (x : Int32), yK [(55, none), (57, none), (58, none), (59, none), (60, none), (61, none), (62, none), (63, none), (64, none), (54, some 10)] w (g_Mo_shape_50 kd f n w x) := by
  intro n
  induction n with
  | zero => intros; exact yK_rfl
  | succ n ih => intro w x; rw [g_Mo_shape_50]; exact (yK_if yK_rfl (yK_tr (yK_wI rfl (yK_wI rfl yK_rfl)) (ih _ _)))
theorem u_Mo_shape_50 (kd f : Int32) (c j : Nat) (h1 : c ≠ 59) (h2 : c ≠ 60) : ∀ (n : Nat) (w : yW) (x : Int32), (g_Mo_shape_50 kd f n w x).1 c j = w.1 c j
  | 0, w, x => rfl
  | n + 1, w, x => by
    rw [g_Mo_shape_50, yc1, u_Mo_shape_50 kd f c j h1 h2 n, wI_ne h2, wI_ne h1, Bool.cond_self]
def e_Mo_shape (kd : Int32) (w : yW) : yW × Int32 := (bif zc .lt kd 0 then (w, (-1)) else (bif zc .le kd 2 then (bif zc .ne (e_Mo_fault kd w) 0 then (wI w 54 10 0, e_Mo_fault kd w) else (wI (e_Mo_bind 64 (w.1 54 10) ((g_Mo_shape_50 kd (e_Mo_fault kd w) 7 (wI (wI (wI w 55 (64 : Int32).toNatClampNeg (1 &&& 1)) 57 (64 : Int32).toNatClampNeg kd) 58 (64 : Int32).toNatClampNeg ((wI (wI w 55 (64 : Int32).toNatClampNeg (1 &&& 1)) 57 (64 : Int32).toNatClampNeg kd).1 54 10)) 0))) 54 10 0, e_Mo_fault kd w)) else (w, (-1))))
set_option maxRecDepth 100000 in
theorem r_Mo_shape {fr lo sz : Nat} {G : List zC} (kd : Int32) (w : yW) (hd0 : 0 ≤ (w.1 54 10).toInt) (hd6 : (w.1 54 10).toInt ≤ 6) (hlo : 128 ≤ lo) : zAns (fr + 5) lo 99 [.ref 54, .int kd] (yhp w G sz) (some (.int ((e_Mo_shape kd w).2)), yhp ((e_Mo_shape kd w).1) G sz) := by
  unfold e_Mo_shape
  refine zeb (fr := fr + 4) (M := M_Mo_shape) rfl (Nat.le_trans (by decide) hlo) rfl ?_
  have e0 : mL M_Mo_shape = 4 := rfl
  refine zeN (q := ((1, [(0, .ref 54), (1, .int kd)], [.int kd]), yhp w G sz)) 1 rfl ?_
  refine zbc (q1 := (9, [(0, .ref 54), (1, .int kd)], [])) (q2 := (4, [(0, .ref 54), (1, .int kd)], [])) (cB := zc .lt kd 0) (off := 8) (lv := [(0, .ref 54), (1, .int kd)]) (st := []) rfl rfl rfl rfl rfl (fun c1 => ?_) (fun c1 => ?_)
  · rw [c1]
    refine zeN (q := ((10, [(0, .ref 54), (1, .int kd)], [.int ((-1))]), yhp w G sz)) 1 rfl ?_
    exact zer rfl rfl
  · rw [c1]
    refine zeN (q := ((6, [(0, .ref 54), (1, .int kd)], [.int 2, .int kd]), yhp w G sz)) 2 rfl ?_
    refine zbc (q1 := (11, [(0, .ref 54), (1, .int kd)], [])) (q2 := (9, [(0, .ref 54), (1, .int kd)], [])) (cB := zc .le kd 2) (off := 5) (lv := [(0, .ref 54), (1, .int kd)]) (st := []) rfl rfl rfl rfl rfl (fun c6 => ?_) (fun c6 => ?_)
    · rw [c6]
      refine zeN (q := ((13, [(0, .ref 54), (1, .int kd)], [.int kd, .ref 54]), yhp w G sz)) 2 rfl ?_
      refine zec 1 (M' := M_Mo_fault) (qq := ([.ref 54, .int kd], [])) (s' := (16, [(0, .ref 54), (1, .int kd)], [.int (e_Mo_fault kd w)])) rfl rfl (fun _ => rfl) rfl rfl (zhk rfl (zrc_ok (yhp_o rfl)) rfl) (r_Mo_fault kd _ hd6 (by omega)) rfl ?_
      refine zeN (q := ((18, [(2, .int (e_Mo_fault kd w)), (0, .ref 54), (1, .int kd)], [.int (e_Mo_fault kd w)]), yhp w G sz)) 2 rfl ?_
      refine zbc (q1 := (102, [(2, .int (e_Mo_fault kd w)), (0, .ref 54), (1, .int kd)], [])) (q2 := (21, [(2, .int (e_Mo_fault kd w)), (0, .ref 54), (1, .int kd)], [])) (cB := zc .ne (e_Mo_fault kd w) 0) (off := 84) (lv := [(2, .int (e_Mo_fault kd w)), (0, .ref 54), (1, .int kd)]) (st := []) rfl rfl rfl rfl rfl (fun c18 => ?_) (fun c18 => ?_)
      · rw [c18]
        refine zeN (q := ((104, [(2, .int (e_Mo_fault kd w)), (0, .ref 54), (1, .int kd)], [.int 0, .ref 54]), yhp w G sz)) 2 rfl ?_
        refine ypI (v := 0) rfl rfl rfl rfl rfl rfl rfl ?_
        refine zeN (q := ((108, [(2, .int (e_Mo_fault kd w)), (0, .ref 54), (1, .int kd)], [.int (e_Mo_fault kd w)]), yhp (wI w 54 10 0) G sz)) 1 rfl ?_
        exact zer rfl rfl
      · rw [c18]
        refine zeN (q := ((22, [(2, .int (e_Mo_fault kd w)), (0, .ref 54), (1, .int kd)], [.ref 54]), yhp w G sz)) 1 rfl ?_
        refine ygf (kk := .inl (.ref 55)) (v := .ref 55) rfl rfl rfl rfl rfl rfl rfl ?_
        refine zeN (q := ((28, [(2, .int (e_Mo_fault kd w)), (0, .ref 54), (1, .int kd)], [.int 1, .int 64, .ref 55]), yhp w G sz)) 2 rfl ?_
        refine ybs (N := 65) rfl rfl rfl zIx_64 ?_
        refine zeN (q := ((30, [(2, .int (e_Mo_fault kd w)), (0, .ref 54), (1, .int kd)], [.ref 54]), yhp (wI w 55 (64 : Int32).toNatClampNeg (1 &&& 1)) G sz)) 1 rfl ?_
        refine ygf (kk := .inl (.ref 57)) (v := .ref 57) rfl rfl rfl rfl rfl rfl rfl ?_
        refine zeN (q := ((36, [(2, .int (e_Mo_fault kd w)), (0, .ref 54), (1, .int kd)], [.int kd, .int 64, .ref 57]), yhp (wI w 55 (64 : Int32).toNatClampNeg (1 &&& 1)) G sz)) 2 rfl ?_
        refine yis (N := 65) rfl rfl rfl zIx_64 ?_
        refine zeN (q := ((38, [(2, .int (e_Mo_fault kd w)), (0, .ref 54), (1, .int kd)], [.ref 54]), yhp (wI (wI w 55 (64 : Int32).toNatClampNeg (1 &&& 1)) 57 (64 : Int32).toNatClampNeg kd) G sz)) 1 rfl ?_
        refine ygf (kk := .inl (.ref 58)) (v := .ref 58) rfl rfl rfl rfl rfl rfl rfl ?_
        refine zeN (q := ((44, [(2, .int (e_Mo_fault kd w)), (0, .ref 54), (1, .int kd)], [.ref 54, .int 64, .ref 58]), yhp (wI (wI w 55 (64 : Int32).toNatClampNeg (1 &&& 1)) 57 (64 : Int32).toNatClampNeg kd) G sz)) 2 rfl ?_
        refine ygf (kk := .inr 0) (v := .int ((wI (wI w 55 (64 : Int32).toNatClampNeg (1 &&& 1)) 57 (64 : Int32).toNatClampNeg kd).1 54 10)) rfl rfl rfl rfl rfl rfl rfl ?_
        refine yis (N := 65) rfl rfl rfl zIx_64 ?_
        refine zeN (q := ((50, [(3, .int 0), (2, .int (e_Mo_fault kd w)), (0, .ref 54), (1, .int kd)], []), yhp (wI (wI (wI w 55 (64 : Int32).toNatClampNeg (1 &&& 1)) 57 (64 : Int32).toNatClampNeg kd) 58 (64 : Int32).toNatClampNeg ((wI (wI w 55 (64 : Int32).toNatClampNeg (1 &&& 1)) 57 (64 : Int32).toNatClampNeg kd).1 54 10)) G sz)) 2 rfl ?_
        refine zeS [(0, .ref 54), (1, .int kd), (2, .int (e_Mo_fault kd w)), (3, .int 0)] (zsub_pick [2, 3, 1, 0] rfl rfl) ?_
        refine t_Mo_shape_50 kd (e_Mo_fault kd w)  (by omega) 7 (wI (wI (wI w 55 (64 : Int32).toNatClampNeg (1 &&& 1)) 57 (64 : Int32).toNatClampNeg kd) 58 (64 : Int32).toNatClampNeg ((wI (wI w 55 (64 : Int32).toNatClampNeg (1 &&& 1)) 57 (64 : Int32).toNatClampNeg kd).1 54 10)) 0 (by rw [wI_ne (by decide), wI_ne (by decide), wI_ne (by decide)]; exact hd6) (by decide) (by decide) (by decide) ?_
        have hmv : ((g_Mo_shape_50 kd (e_Mo_fault kd w) 7 (wI (wI (wI w 55 (64 : Int32).toNatClampNeg (1 &&& 1)) 57 (64 : Int32).toNatClampNeg kd) 58 (64 : Int32).toNatClampNeg ((wI (wI w 55 (64 : Int32).toNatClampNeg (1 &&& 1)) 57 (64 : Int32).toNatClampNeg kd).1 54 10)) 0)).1 58 (64 : Int32).toNatClampNeg = w.1 54 10 := by rw [u_Mo_shape_50 _ _ _ _ (by decide) (by decide), wI_self, wI_ne (by decide), wI_ne (by decide)]
        have hm : (6 * 64 + w.1 54 10).toInt ≤ 390 := by rw [z_six (s := 64) (by decide) (by decide) hd0 hd6]; show (6 : Int) * 64 + _ ≤ 390; omega
        refine zeN (q := ((99, [(0, .ref 54), (1, .int kd), (2, .int (e_Mo_fault kd w))], [.int 64, .ref 54]), yhp ((g_Mo_shape_50 kd (e_Mo_fault kd w) 7 (wI (wI (wI w 55 (64 : Int32).toNatClampNeg (1 &&& 1)) 57 (64 : Int32).toNatClampNeg kd) 58 (64 : Int32).toNatClampNeg ((wI (wI w 55 (64 : Int32).toNatClampNeg (1 &&& 1)) 57 (64 : Int32).toNatClampNeg kd).1 54 10)) 0)) G sz)) 2 rfl ?_
        refine zec 1 (M' := M_Mo_bind) (qq := ([.ref 54, .int 64], [])) (s' := (102, [(0, .ref 54), (1, .int kd), (2, .int (e_Mo_fault kd w))], [])) rfl rfl (fun _ => rfl) rfl rfl (zhk rfl (zrc_ok (yhp_o rfl)) rfl) (r_Mo_bind 64 (w.1 54 10) _ zIx_64 hmv hm (by omega)) rfl ?_
        refine zeN (q := ((104, [(0, .ref 54), (1, .int kd), (2, .int (e_Mo_fault kd w))], [.int 0, .ref 54]), yhp (e_Mo_bind 64 (w.1 54 10) ((g_Mo_shape_50 kd (e_Mo_fault kd w) 7 (wI (wI (wI w 55 (64 : Int32).toNatClampNeg (1 &&& 1)) 57 (64 : Int32).toNatClampNeg kd) 58 (64 : Int32).toNatClampNeg ((wI (wI w 55 (64 : Int32).toNatClampNeg (1 &&& 1)) 57 (64 : Int32).toNatClampNeg kd).1 54 10)) 0))) G sz)) 2 rfl ?_
        refine ypI (v := 0) rfl rfl rfl rfl rfl rfl rfl ?_
        refine zeN (q := ((108, [(0, .ref 54), (1, .int kd), (2, .int (e_Mo_fault kd w))], [.int (e_Mo_fault kd w)]), yhp (wI (e_Mo_bind 64 (w.1 54 10) ((g_Mo_shape_50 kd (e_Mo_fault kd w) 7 (wI (wI (wI w 55 (64 : Int32).toNatClampNeg (1 &&& 1)) 57 (64 : Int32).toNatClampNeg kd) 58 (64 : Int32).toNatClampNeg ((wI (wI w 55 (64 : Int32).toNatClampNeg (1 &&& 1)) 57 (64 : Int32).toNatClampNeg kd).1 54 10)) 0))) 54 10 0) G sz)) 1 rfl ?_
        exact zer rfl rfl
    · rw [c6]
      refine zeN (q := ((10, [(0, .ref 54), (1, .int kd)], [.int ((-1))]), yhp w G sz)) 1 rfl ?_
      exact zer rfl rfl
set_option maxRecDepth 100000 in
theorem kf_Mo_shape (kd : Int32) (w : yW)  : yK [(55, none), (57, none), (58, none), (59, none), (60, none), (61, none), (62, none), (63, none), (64, none), (54, some 10)] w (e_Mo_shape kd w ).1 := by unfold e_Mo_shape; exact (yK_if1 (yK_p yK_rfl) (yK_if1 (yK_if1 (yK_p (yK_wI rfl yK_rfl)) (yK_p (yK_wI rfl (yK_tr (yK_tr (yK_wI rfl (yK_wI rfl (yK_wI rfl yK_rfl))) (yK_mono rfl (kf_Mo_shape_50 ..))) (yK_mono rfl (kf_Mo_bind ..)))))) (yK_p yK_rfl)))
