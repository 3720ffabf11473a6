-- making cells
section ZNW
variable {fr lo : Nat} {xs : zX} {M : zM} {h : zH} {r : Option Value × zH} {pc i : Nat} {lv : List (Nat × Value)} {rest : List Value} {x : zE}
theorem zsN {i : Jvm.ClassFile.Instr} {q : zS × zH} {call : Nat → List Value → zH → Option (Option Value × zH)} {st : List Value} (hi : xI x = i) (h0 : ∀ kv, zp i kv pc lv st = none) (h1 : zr i (xA x) (xB x) xs h.1 pc lv st = none) (h2 : zw i (xA x) (xB x) h.1 pc lv st = none) (h3 : zn i (xA x) h pc lv st = some q) : zstep zmt call fr lo xs x (pc, lv, st) h = some q := by
  unfold zstep
  simp only [hi, h0, h1, h2, h3]
theorem zsK {i : Jvm.ClassFile.Instr} {q : zS × zH} {call : Nat → List Value → zH → Option (Option Value × zH)} {st : List Value} (hi : xI x = i) (h0 : ∀ kv, zp i kv pc lv st = none) (h1 : zr i (xA x) (xB x) xs h.1 pc lv st = none) (h2 : zw i (xA x) (xB x) h.1 pc lv st = none) (h3 : zn i (xA x) h pc lv st = none) (h4 : zk zmt call fr lo i (xA x) (xB x) h pc lv st = some q) : zstep zmt call fr lo xs x (pc, lv, st) h = some q := by
  unfold zstep
  simp only [hi, h0, h1, h2, h3, h4]
theorem zenw {a : Nat} (hx : zlk2 (mT M) pc = some x) (hi : xI x = .new i) (ha : xA x = a) (k : zRun fr lo xs M (pc + 3, lv, .ref h.1.length :: rest) (h.1 ++ [.inr (a, zdf a)], h.2 + (zdf a).length) r) : zRun fr lo xs M (pc, lv, rest) h r := by
  refine ze1 (q := ((pc + 3, lv, .ref h.1.length :: rest), (h.1 ++ [.inr (a, zdf a)], h.2 + (zdf a).length))) hx (by rw [hi]; rfl) (fun call => zsN hi (fun _ => rfl) rfl rfl ?_) k
  rw [ha]
  rfl
theorem zena {n : Int32} {k : Nat} (hx : zlk2 (mT M) pc = some x) (hi : xI x = .newarray .int) (ha : xA x = 0) (hz : (decide (¬ n < 0) && Nat.ble (n.toNatClampNeg * 8) 536870912) = true) (hk : n.toNatClampNeg = k) (kk : zRun fr lo xs M (pc + 2, lv, .ref h.1.length :: rest) (h.1 ++ [.inl (0, List.replicate k (.int 0))], h.2 + k) r) : zRun fr lo xs M (pc, lv, .int n :: rest) h r := by
  refine ze1 (q := ((pc + 2, lv, .ref h.1.length :: rest), (h.1 ++ [.inl (0, List.replicate k (.int 0))], h.2 + k))) hx (by rw [hi]; rfl) (fun call => zsN hi (fun _ => rfl) rfl rfl ?_) kk
  rw [ha]
  show zna 0 (.int 0) h (pc + 2) lv (.int n :: rest) = _
  unfold zna
  simp only [hz]
  rw [hk]
theorem zeoi {u : Nat} (hx : zlk2 (mT M) pc = some x) (hi : xI x = .invokespecial i) (hb : xB x = 2) (hr : zcat rest + 12 ≤ lo) (k : zRun fr lo xs M (pc + 3, lv, rest) h r) : zRun fr lo xs M (pc, lv, .ref u :: rest) h r := by
  refine ze1 (q := ((pc + 3, lv, rest), h)) hx (by rw [hi]; rfl) (fun call => zsK hi (fun _ => rfl) rfl rfl rfl ?_) k
  rw [hb]
  show zoi (fr + 1) lo h (pc + 3) lv (.ref u :: rest) = _
  unfold zoi
  simp only [show Nat.ble 1 (fr + 1) = true from rfl, Nat.ble_eq_true_of_le hr, Bool.and_self]
theorem zecc {u : Nat} {l : List Value} (hx : zlk2 (mT M) pc = some x) (hi : xI x = .checkcast i) (hu : h.1[u]? = some (.inl (0, l))) (k : zRun fr lo xs M (pc + 3, lv, .ref u :: rest) h r) : zRun fr lo xs M (pc, lv, .ref u :: rest) h r := by
  refine ze1 (q := ((pc + 3, lv, .ref u :: rest), h)) hx (by rw [hi]; rfl) (fun call => zsR hi (fun _ => rfl) ?_) k
  show zcc h.1 (pc + 3) lv (.ref u :: rest) = _
  unfold zcc
  simp only [hu, Nat.beq_refl]
theorem zecl {u : Nat} {X : List Int32} (hx : zlk2 (mT M) pc = some x) (hi : xI x = .invokevirtual i) (hb : xB x = 1) (hu : h.1[u]? = some (.inl (0, X.map Value.int))) (hr : zcat rest + 14 ≤ lo) (k : zRun fr lo xs M (pc + 3, lv, .ref h.1.length :: rest) (h.1 ++ [.inl (0, X.map Value.int)], h.2 + X.length) r) : zRun fr lo xs M (pc, lv, .ref u :: rest) h r := by
  have hall : (X.map Value.int).all zisI = true := by
    rw [List.all_eq_true]
    intro v hv
    obtain ⟨y, _, rfl⟩ := List.mem_map.mp hv
    rfl
  refine ze1 (q := ((pc + 3, lv, .ref h.1.length :: rest), (h.1 ++ [.inl (0, X.map Value.int)], h.2 + X.length))) hx (by rw [hi]; rfl) (fun call => zsK hi (fun _ => rfl) rfl rfl rfl ?_) k
  rw [hb]
  show zcn (fr + 1) lo h (pc + 3) lv (.ref u :: rest) = _
  unfold zcn
  simp only [hu, show Nat.ble 1 (fr + 1) = true from rfl, Nat.ble_eq_true_of_le hr, hall, Bool.and_self, Nat.beq_refl, List.length_map]
theorem zeac {s d k : Nat} {n : Int32} {l m : List Value} (hx : zlk2 (mT M) pc = some x) (hi : xI x = .invokestatic i) (hb : xB x = 5) (hs : h.1[s]? = some (.inl (0, l))) (hd : h.1[d]? = some (.inl (0, m))) (hc : ((decide (¬ (0 : Int32) < 0) && (decide (¬ (0 : Int32) < 0) && decide (¬ n < 0))) && (Nat.ble ((0 : Int32).toNatClampNeg + n.toNatClampNeg) l.length && (Nat.ble ((0 : Int32).toNatClampNeg + n.toNatClampNeg) m.length && l.all zisI))) = true) (hk : n.toNatClampNeg = k) (hr : zcat rest + 18 ≤ lo) (kk : zRun fr lo xs M (pc + 3, lv, rest) (h.1.set d (.inl (0, zcp l m 0 0 k)), h.2) r) : zRun fr lo xs M (pc, lv, .int n :: .int 0 :: .ref d :: .int 0 :: .ref s :: rest) h r := by
  refine ze1 (q := ((pc + 3, lv, rest), (h.1.set d (.inl (0, zcp l m 0 0 k)), h.2))) hx (by rw [hi]; rfl) (fun call => zsK hi (fun _ => rfl) rfl rfl rfl ?_) kk
  rw [hb]
  show zac (fr + 1) lo h (pc + 3) lv (.int n :: .int 0 :: .ref d :: .int 0 :: .ref s :: rest) = _
  unfold zac
  simp only [hs, hd, show Nat.ble 1 (fr + 1) = true from rfl, Nat.ble_eq_true_of_le hr, hc, Bool.and_self, Nat.beq_refl]
  rw [hk]
  rfl
theorem zeP (n : Nat) {s s' : zS} (hs : ∀ h, znx (fr + 1) lo xs M n s h = some (s', h)) (k : zRun fr lo xs M s' h r) : zRun fr lo xs M s h r := zeN n (hs h) k
end ZNW
theorem zcp_0 {X : List Int32} {k : Nat} : zcp (X.map Value.int) (List.replicate k (.int 0)) 0 0 k = (X.take k).map Value.int := by
  unfold zcp
  simp
theorem set_end {α : Type} (l : List α) (a b : α) : (l ++ [a]).set l.length b = l ++ [b] := by simp
theorem get_end {α : Type} (l : List α) (a : α) : (l ++ [a])[l.length]? = some a := by simp
theorem get_app {α : Type} {l m : List α} {i : Nat} {a : α} (h : l[i]? = some a) : (l ++ m)[i]? = some a := by
  rw [List.getElem?_append_left (List.getElem?_eq_some_iff.mp h).1]
  exact h
set_option maxRecDepth 100000 in
theorem s_copyOf {fr lo : Nat} {h : zH} {a k : Nat} {X : List Int32} (ha : h.1[a]? = some (.inl (0, X.map Value.int))) (hX : X.length = 6) (hk : k ≤ 6) (hlo : 60 ≤ lo) : zAns (fr + 1) lo 14 [.ref a, .int (Int32.ofNat k)] h (some (.ref h.1.length), (h.1 ++ [.inl (0, (X.take k).map Value.int)], h.2 + k)) := by
  refine zeb (fr := fr) (M := M_Ar_copyOf) rfl (Nat.le_trans (by decide) hlo) rfl ?_
  have e0 : mL M_Ar_copyOf = 3 := rfl
  refine zeP (s' := (2, [(0, .ref a), (1, .int (Int32.ofNat k))], [.ref a, .int (Int32.ofNat k)])) 2 (fun _ => rfl) ?_
  refine zeln (l := X.map Value.int) rfl rfl ha rfl ?_
  rw [List.length_map, hX]
  refine zbc (q1 := (14, [(0, .ref a), (1, .int (Int32.ofNat k))], [])) (q2 := (6, [(0, .ref a), (1, .int (Int32.ofNat k))], [])) (cB := zc .ne (Int32.ofNat k) (Int32.ofNat 6)) (off := 11) (lv := [(0, .ref a), (1, .int (Int32.ofNat k))]) (st := []) rfl rfl rfl rfl rfl (fun c => ?_) (fun c => ?_)
  · have hne := of_decide_eq_true ((zc_ne (Int32.ofNat k) (Int32.ofNat 6)).symm.trans c)
    rw [z_nat (by omega), z_nat (by omega)] at hne
    have hk6 : k < 6 := by omega
    have hn0 : ¬ Int32.ofNat k < 0 := by
      intro hlt
      have := Int32.lt_iff_toInt_lt.mp hlt
      rw [z_nat (by omega)] at this
      have e : (0 : Int32).toInt = 0 := rfl
      omega
    have hcl := n_clamp (i := k) (by omega)
    refine zeP (s' := (15, [(0, .ref a), (1, .int (Int32.ofNat k))], [.int (Int32.ofNat k)])) 1 (fun _ => rfl) ?_
    refine zena (k := k) rfl rfl rfl (by rw [decide_eq_true hn0, hcl, Nat.ble_eq_true_of_le (by omega)]; rfl) hcl ?_
    refine zeP (s' := (23, [(2, .ref h.1.length), (0, .ref a), (1, .int (Int32.ofNat k))], [.ref a, .int 0, .ref h.1.length, .int 0, .ref a])) 6 (fun _ => rfl) ?_
    refine zeln (l := X.map Value.int) rfl rfl (get_app ha) rfl ?_
    rw [List.length_map, hX]
    refine zeP (s' := (25, [(2, .ref h.1.length), (0, .ref a), (1, .int (Int32.ofNat k))], [.int (Int32.ofNat k), .int (Int32.ofNat 6), .int 0, .ref h.1.length, .int 0, .ref a])) 1 (fun _ => rfl) ?_
    refine zemn rfl rfl rfl (Nat.le_trans (Nat.le_of_eq (rfl : _ = 17)) (by omega)) ?_
    rw [if_pos (Int32.lt_iff_toInt_lt.mpr (by rw [z_nat (by omega), z_nat (by omega)]; omega))]
    refine zeac (k := k) (l := X.map Value.int) (m := List.replicate k (.int 0)) rfl rfl rfl (get_app ha) (get_end ..) ?_ hcl (Nat.le_trans (Nat.le_of_eq (rfl : _ = 18)) (by omega)) ?_
    · have hall : (X.map Value.int).all zisI = true := by
        rw [List.all_eq_true]
        intro v hv
        obtain ⟨y, _, rfl⟩ := List.mem_map.mp hv
        rfl
      rw [hall, hcl, decide_eq_true hn0, List.length_map, hX, List.length_replicate, show (0 : Int32).toNatClampNeg = 0 from rfl, Nat.ble_eq_true_of_le (by omega), Nat.ble_eq_true_of_le (by omega)]
      rfl
    · rw [zcp_0, show ((h.1 ++ [(Sum.inl (0, List.replicate k (.int 0)) : zC)]).set h.1.length (.inl (0, (X.take k).map Value.int))) = h.1 ++ [.inl (0, (X.take k).map Value.int)] from set_end ..]
      refine zeP (s' := (32, [(2, .ref h.1.length), (0, .ref a), (1, .int (Int32.ofNat k))], [.ref h.1.length])) 1 (fun _ => rfl) ?_
      exact zer rfl rfl
  · have he := Classical.not_not.mp (of_decide_eq_false ((zc_ne (Int32.ofNat k) (Int32.ofNat 6)).symm.trans c))
    rw [z_nat (by omega), z_nat (by omega)] at he
    have hk6 : k = 6 := by omega
    subst hk6
    rw [List.take_of_length_le (by omega)]
    refine zeP (s' := (7, [(0, .ref a), (1, .int (Int32.ofNat 6))], [.ref a])) 1 (fun _ => rfl) ?_
    refine zecl rfl rfl rfl ha (Nat.le_trans (Nat.le_of_eq (rfl : _ = 14)) (by omega)) ?_
    rw [hX]
    refine zecc rfl rfl (get_end ..) ?_
    exact zer rfl rfl
def g_Bo_init_22 (X Y : List Int32) (b px py : Nat) : Nat → Int32 → Int32 → Int32 → Int32 × Int32
  | 0, lf, rg, i => (lf, rg)
  | n + 1, lf, rg, i => (bif zc .ge i (Int32.ofNat (X.map Value.int).length) then (lf, rg) else g_Bo_init_22 X Y b px py  n  (if (gI X i) < lf then (gI X i) else lf) (if rg < (gI X i) then (gI X i) else rg) (i + Int32.ofInt 1))
set_option maxRecDepth 100000 in
theorem t_Bo_init_22 {fr lo sz : Nat} {r : Option Value × zH} {G : List zC} (X Y : List Int32) (b px py : Nat) {w : yW} (hX : ∀ w : yW, (yhp w G sz).1[px]? = some (.inl (0, X.map Value.int))) (hY : ∀ w : yW, (yhp w G sz).1[py]? = some (.inl (0, Y.map Value.int))) (hn : X.length ≤ 1000) (hm : Y.length ≤ 1000) (hlo : 40 ≤ lo) : ∀ (n : Nat) (lf : Int32) (rg : Int32) (i : Int32) (h0 : 0 ≤ i.toInt) (h1 : i.toInt ≤ (X.length : Int)) (hf : (X.length : Int) < i.toInt + n) (k : zRun (fr + 0) lo none M_Bo_init (58, [(0, .ref b), (1, .ref px), (2, .ref py), (5, .ref px), (6, .int (Int32.ofNat (X.map Value.int).length)), (3, .int ((g_Bo_init_22 X Y b px py n lf rg i).1)), (4, .int ((g_Bo_init_22 X Y b px py n lf rg i).2))], []) (yhp w G sz) r), zRun (fr + 0) lo none M_Bo_init (22, [(0, .ref b), (1, .ref px), (2, .ref py), (5, .ref px), (6, .int (Int32.ofNat (X.map Value.int).length)), (3, .int lf), (4, .int rg), (7, .int i)], []) (yhp w G sz) r := by
  intro n
  induction n with
  | zero => intro lf rg i h0 h1 hf k; exfalso; omega
  | succ n ih =>
    intro lf rg i h0 h1 hf k
    rw [g_Bo_init_22] at k
    refine zeN (q := ((26, [(0, .ref b), (1, .ref px), (2, .ref py), (5, .ref px), (6, .int (Int32.ofNat (X.map Value.int).length)), (3, .int lf), (4, .int rg), (7, .int i)], [.int (Int32.ofNat (X.map Value.int).length), .int i]), yhp w G sz)) 2 rfl ?_
    refine zbc (q1 := (58, [(0, .ref b), (1, .ref px), (2, .ref py), (5, .ref px), (6, .int (Int32.ofNat (X.map Value.int).length)), (3, .int lf), (4, .int rg), (7, .int i)], [])) (q2 := (29, [(0, .ref b), (1, .ref px), (2, .ref py), (5, .ref px), (6, .int (Int32.ofNat (X.map Value.int).length)), (3, .int lf), (4, .int rg), (7, .int i)], [])) (cB := zc .ge i (Int32.ofNat (X.map Value.int).length)) (off := 32) (lv := [(0, .ref b), (1, .ref px), (2, .ref py), (5, .ref px), (6, .int (Int32.ofNat (X.map Value.int).length)), (3, .int lf), (4, .int rg), (7, .int i)]) (st := []) rfl rfl rfl rfl rfl (fun c26 => ?_) (fun c26 => ?_)
    · rw [c26] at k
      refine zeS [(0, .ref b), (1, .ref px), (2, .ref py), (5, .ref px), (6, .int (Int32.ofNat (X.map Value.int).length)), (3, .int lf), (4, .int rg)] (zsub_pick [0, 1, 2, 3, 4, 5, 6] rfl rfl) ?_
      exact k
    · rw [c26] at k
      have hcc := of_decide_eq_false (z_ge c26).symm
      rw [List.length_map, z_nat (by omega)] at hcc
      have hi : zIx i X.length := ⟨h0, by omega⟩
      have hi1 := z_inc (a := i) (by omega) (by omega)
      refine zeN (q := ((33, [(0, .ref b), (1, .ref px), (2, .ref py), (5, .ref px), (6, .int (Int32.ofNat (X.map Value.int).length)), (3, .int lf), (4, .int rg), (7, .int i)], [.int i, .ref px]), yhp w G sz)) 2 rfl ?_
      refine zeia (l := X.map Value.int) (k := i.toNatClampNeg) (v := .int (gI X i)) rfl rfl (hX _) (zIx_a (by assumption)) (zIx_b (by assumption)) ?_
      refine zeN (q := ((39, [(8, .int (gI X i)), (0, .ref b), (1, .ref px), (2, .ref py), (5, .ref px), (6, .int (Int32.ofNat (X.map Value.int).length)), (3, .int lf), (4, .int rg), (7, .int i)], [.int (gI X i), .int lf]), yhp w G sz)) 3 rfl ?_
      refine zemn rfl rfl rfl (Nat.le_trans (Nat.le_of_eq (rfl : _ = 13)) (by omega)) ?_
      refine zeN (q := ((47, [(3, .int (if (gI X i) < lf then (gI X i) else lf)), (8, .int (gI X i)), (0, .ref b), (1, .ref px), (2, .ref py), (5, .ref px), (6, .int (Int32.ofNat (X.map Value.int).length)), (4, .int rg), (7, .int i)], [.int (gI X i), .int rg]), yhp w G sz)) 3 rfl ?_
      refine zemx rfl rfl rfl (Nat.le_trans (Nat.le_of_eq (rfl : _ = 13)) (by omega)) ?_
      refine zeN (q := ((22, [(7, .int (i + Int32.ofInt 1)), (4, .int (if rg < (gI X i) then (gI X i) else rg)), (3, .int (if (gI X i) < lf then (gI X i) else lf)), (8, .int (gI X i)), (0, .ref b), (1, .ref px), (2, .ref py), (5, .ref px), (6, .int (Int32.ofNat (X.map Value.int).length))], []), yhp w G sz)) 3 rfl ?_
      refine zeS [(0, .ref b), (1, .ref px), (2, .ref py), (5, .ref px), (6, .int (Int32.ofNat (X.map Value.int).length)), (3, .int (if (gI X i) < lf then (gI X i) else lf)), (4, .int (if rg < (gI X i) then (gI X i) else rg)), (7, .int (i + Int32.ofInt 1))] (zsub_pick [4, 5, 6, 7, 8, 2, 1, 0] rfl rfl) ?_
      exact ih  (if (gI X i) < lf then (gI X i) else lf) (if rg < (gI X i) then (gI X i) else rg) (i + Int32.ofInt 1) (by omega) (by omega) (by omega) k
def g_Bo_init_77 (X Y : List Int32) (b px py : Nat) (lf rg : Int32) : Nat → Int32 → Int32 → Int32 → Int32 × Int32
  | 0, bt, tp, i => (bt, tp)
  | n + 1, bt, tp, i => (bif zc .ge i (Int32.ofNat (Y.map Value.int).length) then (bt, tp) else g_Bo_init_77 X Y b px py lf rg  n  (if (gI Y i) < bt then (gI Y i) else bt) (if tp < (gI Y i) then (gI Y i) else tp) (i + Int32.ofInt 1))
set_option maxRecDepth 100000 in
theorem t_Bo_init_77 {fr lo sz : Nat} {r : Option Value × zH} {G : List zC} (X Y : List Int32) (b px py : Nat) (lf rg : Int32) {w : yW} (hX : ∀ w : yW, (yhp w G sz).1[px]? = some (.inl (0, X.map Value.int))) (hY : ∀ w : yW, (yhp w G sz).1[py]? = some (.inl (0, Y.map Value.int))) (hn : X.length ≤ 1000) (hm : Y.length ≤ 1000) (hlo : 40 ≤ lo) : ∀ (n : Nat) (bt : Int32) (tp : Int32) (i : Int32) (h0 : 0 ≤ i.toInt) (h1 : i.toInt ≤ (Y.length : Int)) (hf : (Y.length : Int) < i.toInt + n) (k : zRun (fr + 0) lo none M_Bo_init (115, [(0, .ref b), (1, .ref px), (2, .ref py), (3, .int lf), (4, .int rg), (7, .ref py), (8, .int (Int32.ofNat (Y.map Value.int).length)), (5, .int ((g_Bo_init_77 X Y b px py lf rg n bt tp i).1)), (6, .int ((g_Bo_init_77 X Y b px py lf rg n bt tp i).2))], []) (yhp w G sz) r), zRun (fr + 0) lo none M_Bo_init (77, [(0, .ref b), (1, .ref px), (2, .ref py), (3, .int lf), (4, .int rg), (7, .ref py), (8, .int (Int32.ofNat (Y.map Value.int).length)), (5, .int bt), (6, .int tp), (9, .int i)], []) (yhp w G sz) r := by
  intro n
  induction n with
  | zero => intro bt tp i h0 h1 hf k; exfalso; omega
  | succ n ih =>
    intro bt tp i h0 h1 hf k
    rw [g_Bo_init_77] at k
    refine zeN (q := ((81, [(0, .ref b), (1, .ref px), (2, .ref py), (3, .int lf), (4, .int rg), (7, .ref py), (8, .int (Int32.ofNat (Y.map Value.int).length)), (5, .int bt), (6, .int tp), (9, .int i)], [.int (Int32.ofNat (Y.map Value.int).length), .int i]), yhp w G sz)) 2 rfl ?_
    refine zbc (q1 := (115, [(0, .ref b), (1, .ref px), (2, .ref py), (3, .int lf), (4, .int rg), (7, .ref py), (8, .int (Int32.ofNat (Y.map Value.int).length)), (5, .int bt), (6, .int tp), (9, .int i)], [])) (q2 := (84, [(0, .ref b), (1, .ref px), (2, .ref py), (3, .int lf), (4, .int rg), (7, .ref py), (8, .int (Int32.ofNat (Y.map Value.int).length)), (5, .int bt), (6, .int tp), (9, .int i)], [])) (cB := zc .ge i (Int32.ofNat (Y.map Value.int).length)) (off := 34) (lv := [(0, .ref b), (1, .ref px), (2, .ref py), (3, .int lf), (4, .int rg), (7, .ref py), (8, .int (Int32.ofNat (Y.map Value.int).length)), (5, .int bt), (6, .int tp), (9, .int i)]) (st := []) rfl rfl rfl rfl rfl (fun c81 => ?_) (fun c81 => ?_)
    · rw [c81] at k
      refine zeS [(0, .ref b), (1, .ref px), (2, .ref py), (3, .int lf), (4, .int rg), (7, .ref py), (8, .int (Int32.ofNat (Y.map Value.int).length)), (5, .int bt), (6, .int tp)] (zsub_pick [0, 1, 2, 3, 4, 5, 6, 7, 8] rfl rfl) ?_
      exact k
    · rw [c81] at k
      have hcc := of_decide_eq_false (z_ge c81).symm
      rw [List.length_map, z_nat (by omega)] at hcc
      have hi : zIx i Y.length := ⟨h0, by omega⟩
      have hi1 := z_inc (a := i) (by omega) (by omega)
      refine zeN (q := ((88, [(0, .ref b), (1, .ref px), (2, .ref py), (3, .int lf), (4, .int rg), (7, .ref py), (8, .int (Int32.ofNat (Y.map Value.int).length)), (5, .int bt), (6, .int tp), (9, .int i)], [.int i, .ref py]), yhp w G sz)) 2 rfl ?_
      refine zeia (l := Y.map Value.int) (k := i.toNatClampNeg) (v := .int (gI Y i)) rfl rfl (hY _) (zIx_a (by assumption)) (zIx_b (by assumption)) ?_
      refine zeN (q := ((95, [(10, .int (gI Y i)), (0, .ref b), (1, .ref px), (2, .ref py), (3, .int lf), (4, .int rg), (7, .ref py), (8, .int (Int32.ofNat (Y.map Value.int).length)), (5, .int bt), (6, .int tp), (9, .int i)], [.int (gI Y i), .int bt]), yhp w G sz)) 3 rfl ?_
      refine zemn rfl rfl rfl (Nat.le_trans (Nat.le_of_eq (rfl : _ = 13)) (by omega)) ?_
      refine zeN (q := ((104, [(5, .int (if (gI Y i) < bt then (gI Y i) else bt)), (10, .int (gI Y i)), (0, .ref b), (1, .ref px), (2, .ref py), (3, .int lf), (4, .int rg), (7, .ref py), (8, .int (Int32.ofNat (Y.map Value.int).length)), (6, .int tp), (9, .int i)], [.int (gI Y i), .int tp]), yhp w G sz)) 3 rfl ?_
      refine zemx rfl rfl rfl (Nat.le_trans (Nat.le_of_eq (rfl : _ = 13)) (by omega)) ?_
      refine zeN (q := ((77, [(9, .int (i + Int32.ofInt 1)), (6, .int (if tp < (gI Y i) then (gI Y i) else tp)), (5, .int (if (gI Y i) < bt then (gI Y i) else bt)), (10, .int (gI Y i)), (0, .ref b), (1, .ref px), (2, .ref py), (3, .int lf), (4, .int rg), (7, .ref py), (8, .int (Int32.ofNat (Y.map Value.int).length))], []), yhp w G sz)) 3 rfl ?_
      refine zeS [(0, .ref b), (1, .ref px), (2, .ref py), (3, .int lf), (4, .int rg), (7, .ref py), (8, .int (Int32.ofNat (Y.map Value.int).length)), (5, .int (if (gI Y i) < bt then (gI Y i) else bt)), (6, .int (if tp < (gI Y i) then (gI Y i) else tp)), (9, .int (i + Int32.ofInt 1))] (zsub_pick [4, 5, 6, 7, 8, 9, 10, 2, 1, 0] rfl rfl) ?_
      exact ih  (if (gI Y i) < bt then (gI Y i) else bt) (if tp < (gI Y i) then (gI Y i) else tp) (i + Int32.ofInt 1) (by omega) (by omega) (by omega) k
def g_Bo_init_0 (X Y : List Int32) (b px py : Nat)  : Int32 × Int32 × Int32 × Int32 := (((g_Bo_init_22 X Y b px py  (X.length + 1) 255 0 0).1), ((g_Bo_init_22 X Y b px py  (X.length + 1) 255 0 0).2), ((g_Bo_init_77 X Y b px py ((g_Bo_init_22 X Y b px py  (X.length + 1) 255 0 0).1) ((g_Bo_init_22 X Y b px py  (X.length + 1) 255 0 0).2)  (Y.length + 1) 255 0 0).1), ((g_Bo_init_77 X Y b px py ((g_Bo_init_22 X Y b px py  (X.length + 1) 255 0 0).1) ((g_Bo_init_22 X Y b px py  (X.length + 1) 255 0 0).2)  (Y.length + 1) 255 0 0).2))
set_option maxRecDepth 100000 in
theorem t_Bo_init_0 {fr lo sz : Nat} {r : Option Value × zH} {G : List zC} (X Y : List Int32) (b px py : Nat) {w : yW}  (hX : ∀ w : yW, (yhp w G sz).1[px]? = some (.inl (0, X.map Value.int))) (hY : ∀ w : yW, (yhp w G sz).1[py]? = some (.inl (0, Y.map Value.int))) (hn : X.length ≤ 1000) (hm : Y.length ≤ 1000) (hlo : 40 ≤ lo) (k : zRun (fr + 0) lo none M_Bo_init (115, [(0, .ref b), (1, .ref px), (2, .ref py), (3, .int ((g_Bo_init_0 X Y b px py ).1)), (4, .int ((g_Bo_init_0 X Y b px py ).2.1)), (5, .int ((g_Bo_init_0 X Y b px py ).2.2.1)), (6, .int ((g_Bo_init_0 X Y b px py ).2.2.2))], []) (yhp w G sz) r) : zRun (fr + 0) lo none M_Bo_init (0, [(0, .ref b), (1, .ref px), (2, .ref py)], []) (yhp w G sz) r := by
  unfold g_Bo_init_0 at k
  refine zeN (q := ((1, [(0, .ref b), (1, .ref px), (2, .ref py)], [.ref b]), yhp w G sz)) 1 rfl ?_
  refine zeoi rfl rfl rfl (Nat.le_trans (Nat.le_of_eq (rfl : _ = 12)) (by omega)) ?_
  refine zeN (q := ((16, [(5, .ref px), (4, .int 0), (3, .int 255), (0, .ref b), (1, .ref px), (2, .ref py)], [.ref px]), yhp w G sz)) 7 rfl ?_
  refine zeln (l := X.map Value.int) rfl rfl (hX _) rfl ?_
  refine zeN (q := ((22, [(7, .int 0), (6, .int (Int32.ofNat (X.map Value.int).length)), (5, .ref px), (4, .int 0), (3, .int 255), (0, .ref b), (1, .ref px), (2, .ref py)], []), yhp w G sz)) 3 rfl ?_
  refine zeS [(0, .ref b), (1, .ref px), (2, .ref py), (5, .ref px), (6, .int (Int32.ofNat (X.map Value.int).length)), (3, .int 255), (4, .int 0), (7, .int 0)] (zsub_pick [5, 6, 7, 2, 1, 4, 3, 0] rfl rfl) ?_
  refine t_Bo_init_22 X Y b px py hX hY hn hm (by omega) (X.length + 1)  255 0 0 (by decide) (by show (0 : Int) ≤ _; omega) (by show _ < (0 : Int) + _; omega) ?_
  refine zeN (q := ((71, [(7, .ref py), (6, .int 0), (5, .int 255), (0, .ref b), (1, .ref px), (2, .ref py), (3, .int ((g_Bo_init_22 X Y b px py  (X.length + 1) 255 0 0).1)), (4, .int ((g_Bo_init_22 X Y b px py  (X.length + 1) 255 0 0).2))], [.ref py]), yhp w G sz)) 7 rfl ?_
  refine zeln (l := Y.map Value.int) rfl rfl (hY _) rfl ?_
  refine zeN (q := ((77, [(9, .int 0), (8, .int (Int32.ofNat (Y.map Value.int).length)), (7, .ref py), (6, .int 0), (5, .int 255), (0, .ref b), (1, .ref px), (2, .ref py), (3, .int ((g_Bo_init_22 X Y b px py  (X.length + 1) 255 0 0).1)), (4, .int ((g_Bo_init_22 X Y b px py  (X.length + 1) 255 0 0).2))], []), yhp w G sz)) 3 rfl ?_
  refine zeS [(0, .ref b), (1, .ref px), (2, .ref py), (3, .int ((g_Bo_init_22 X Y b px py  (X.length + 1) 255 0 0).1)), (4, .int ((g_Bo_init_22 X Y b px py  (X.length + 1) 255 0 0).2)), (7, .ref py), (8, .int (Int32.ofNat (Y.map Value.int).length)), (5, .int 255), (6, .int 0), (9, .int 0)] (zsub_pick [5, 6, 7, 8, 9, 2, 1, 4, 3, 0] rfl rfl) ?_
  refine t_Bo_init_77 X Y b px py ((g_Bo_init_22 X Y b px py  (X.length + 1) 255 0 0).1) ((g_Bo_init_22 X Y b px py  (X.length + 1) 255 0 0).2) hX hY hn hm (by omega) (Y.length + 1)  255 0 0 (by decide) (by show (0 : Int) ≤ _; omega) (by show _ < (0 : Int) + _; omega) ?_
  refine zeS [(0, .ref b), (1, .ref px), (2, .ref py), (3, .int ((g_Bo_init_22 X Y b px py  (X.length + 1) 255 0 0).1)), (4, .int ((g_Bo_init_22 X Y b px py  (X.length + 1) 255 0 0).2)), (5, .int ((g_Bo_init_77 X Y b px py ((g_Bo_init_22 X Y b px py  (X.length + 1) 255 0 0).1) ((g_Bo_init_22 X Y b px py  (X.length + 1) 255 0 0).2)  (Y.length + 1) 255 0 0).1)), (6, .int ((g_Bo_init_77 X Y b px py ((g_Bo_init_22 X Y b px py  (X.length + 1) 255 0 0).1) ((g_Bo_init_22 X Y b px py  (X.length + 1) 255 0 0).2)  (Y.length + 1) 255 0 0).2))] (zsub_pick [0, 1, 2, 3, 4, 7, 8] rfl rfl) ?_
  exact k
theorem yset_end {w : yW} {G : List zC} {sz : Nat} {c c' : zC} : ((yhp w (G ++ [c]) sz).1.set (72 + G.length) c', (yhp w (G ++ [c]) sz).2) = yhp w (G ++ [c']) sz := by
  show ((ypic w ++ (G ++ [c])).set (72 + G.length) c', sz) = (ypic w ++ (G ++ [c']), sz)
  rw [← List.append_assoc, ← List.append_assoc]
  have e : 72 + G.length = (ypic w ++ G).length := by rw [List.length_append, ypic_len]
  rw [e, set_end]
theorem yget_end {w : yW} {G : List zC} {sz : Nat} {c : zC} : (yhp w (G ++ [c]) sz).1[72 + G.length]? = some c := by
  show (ypic w ++ (G ++ [c]))[72 + G.length]? = some c
  rw [← List.append_assoc]
  have e : 72 + G.length = (ypic w ++ G).length := by rw [List.length_append, ypic_len]
  rw [e, get_end]
theorem yhp_app {w : yW} {G H : List zC} {sz n : Nat} : ((yhp w G sz).1 ++ H, (yhp w G sz).2 + n) = yhp w (G ++ H) (sz + n) := by
  show (ypic w ++ G ++ H, sz + n) = (ypic w ++ (G ++ H), sz + n)
  rw [List.append_assoc]
theorem yhp_len {w : yW} {G : List zC} {sz : Nat} : (yhp w G sz).1.length = 72 + G.length := by
  show (ypic w ++ G).length = _
  rw [List.length_append, ypic_len]
set_option maxRecDepth 100000 in
theorem r_Bo_init {fr lo sz : Nat} {G : List zC} (X Y : List Int32) (b px py : Nat) {w : yW} (hb : b = 72 + G.length) (hX : ∀ w : yW, (yhp w (G ++ [.inr (7, [.int 0, .int 0, .int 0, .int 0])]) sz).1[px]? = some (.inl (0, X.map Value.int))) (hY : ∀ w : yW, (yhp w (G ++ [.inr (7, [.int 0, .int 0, .int 0, .int 0])]) sz).1[py]? = some (.inl (0, Y.map Value.int))) (hn : X.length ≤ 1000) (hm : Y.length ≤ 1000) (hlo : 70 ≤ lo) : zAns (fr + 1) lo 16 [.ref b, .ref px, .ref py] (yhp w (G ++ [.inr (7, [.int 0, .int 0, .int 0, .int 0])]) sz) (none, yhp w (G ++ [.inr (7, [.int (g_Bo_init_0 X Y b px py).1, .int (g_Bo_init_0 X Y b px py).2.2.1, .int (g_Bo_init_0 X Y b px py).2.1, .int (g_Bo_init_0 X Y b px py).2.2.2])]) sz) := by
  have hb0 := hb
  refine zeb (fr := fr) (M := M_Bo_init) rfl (Nat.le_trans (by decide) hlo) rfl ?_
  have e0 : mL M_Bo_init = 11 := rfl
  refine t_Bo_init_0 X Y b px py hX hY hn hm (by omega) ?_
  generalize g_Bo_init_0 X Y b px py = v
  refine zeP (s' := (117, [(0, .ref b), (1, .ref px), (2, .ref py), (3, .int v.1), (4, .int v.2.1), (5, .int v.2.2.1), (6, .int v.2.2.2)], [.int v.1, .ref b])) 2 (fun _ => rfl) ?_
  refine zepf (a := 7) (b := 0) (fs := [.int 0, .int 0, .int 0, .int 0]) rfl rfl rfl rfl (by rw [hb]; exact yget_end) (show (0 : Nat) < 4 by decide) rfl ?_
  rw [show ((yhp w (G ++ [.inr (7, [.int 0, .int 0, .int 0, .int 0])]) sz).1.set b (.inr (7, [.int 0, .int 0, .int 0, .int 0].set 0 (.int v.1))), (yhp w (G ++ [.inr (7, [.int 0, .int 0, .int 0, .int 0])]) sz).2) = yhp w (G ++ [.inr (7, [.int v.1, .int 0, .int 0, .int 0])]) sz from by rw [hb]; exact yset_end]
  refine zeP (s' := (123, [(0, .ref b), (1, .ref px), (2, .ref py), (3, .int v.1), (4, .int v.2.1), (5, .int v.2.2.1), (6, .int v.2.2.2)], [.int v.2.2.1, .ref b])) 2 (fun _ => rfl) ?_
  refine zepf (a := 7) (b := 1) (fs := [.int v.1, .int 0, .int 0, .int 0]) rfl rfl rfl rfl (by rw [hb]; exact yget_end) (show (1 : Nat) < 4 by decide) rfl ?_
  rw [show ((yhp w (G ++ [.inr (7, [.int v.1, .int 0, .int 0, .int 0])]) sz).1.set b (.inr (7, [.int v.1, .int 0, .int 0, .int 0].set 1 (.int v.2.2.1))), (yhp w (G ++ [.inr (7, [.int v.1, .int 0, .int 0, .int 0])]) sz).2) = yhp w (G ++ [.inr (7, [.int v.1, .int v.2.2.1, .int 0, .int 0])]) sz from by rw [hb]; exact yset_end]
  refine zeP (s' := (129, [(0, .ref b), (1, .ref px), (2, .ref py), (3, .int v.1), (4, .int v.2.1), (5, .int v.2.2.1), (6, .int v.2.2.2)], [.int v.2.1, .ref b])) 2 (fun _ => rfl) ?_
  refine zepf (a := 7) (b := 2) (fs := [.int v.1, .int v.2.2.1, .int 0, .int 0]) rfl rfl rfl rfl (by rw [hb]; exact yget_end) (show (2 : Nat) < 4 by decide) rfl ?_
  rw [show ((yhp w (G ++ [.inr (7, [.int v.1, .int v.2.2.1, .int 0, .int 0])]) sz).1.set b (.inr (7, [.int v.1, .int v.2.2.1, .int 0, .int 0].set 2 (.int v.2.1))), (yhp w (G ++ [.inr (7, [.int v.1, .int v.2.2.1, .int 0, .int 0])]) sz).2) = yhp w (G ++ [.inr (7, [.int v.1, .int v.2.2.1, .int v.2.1, .int 0])]) sz from by rw [hb]; exact yset_end]
  refine zeP (s' := (135, [(0, .ref b), (1, .ref px), (2, .ref py), (3, .int v.1), (4, .int v.2.1), (5, .int v.2.2.1), (6, .int v.2.2.2)], [.int v.2.2.2, .ref b])) 2 (fun _ => rfl) ?_
  refine zepf (a := 7) (b := 3) (fs := [.int v.1, .int v.2.2.1, .int v.2.1, .int 0]) rfl rfl rfl rfl (by rw [hb]; exact yget_end) (show (3 : Nat) < 4 by decide) rfl ?_
  rw [show ((yhp w (G ++ [.inr (7, [.int v.1, .int v.2.2.1, .int v.2.1, .int 0])]) sz).1.set b (.inr (7, [.int v.1, .int v.2.2.1, .int v.2.1, .int 0].set 3 (.int v.2.2.2))), (yhp w (G ++ [.inr (7, [.int v.1, .int v.2.2.1, .int v.2.1, .int 0])]) sz).2) = yhp w (G ++ [.inr (7, [.int v.1, .int v.2.2.1, .int v.2.1, .int v.2.2.2])]) sz from by rw [hb]; exact yset_end]
  exact zer rfl rfl
