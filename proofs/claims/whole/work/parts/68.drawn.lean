theorem yget_k {w : yW} {G T : List zC} {sz g k : Nat} (hg : g = 72 + G.length) : (yhp w (G ++ T) sz).1[g + k]? = T[k]? := by
  show (ypic w ++ (G ++ T))[g + k]? = _
  rw [← List.append_assoc, List.getElem?_append_right (by rw [List.length_append, ypic_len]; omega), List.length_append, ypic_len]
  congr 1
  omega
theorem yset_k {w : yW} {G T : List zC} {sz g k : Nat} {c : zC} (hg : g = 72 + G.length) : ((yhp w (G ++ T) sz).1.set (g + k) c, (yhp w (G ++ T) sz).2) = yhp w (G ++ T.set k c) sz := by
  show ((ypic w ++ (G ++ T)).set (g + k) c, sz) = (ypic w ++ (G ++ T.set k c), sz)
  rw [← List.append_assoc, List.set_append_right _ _ (by rw [List.length_append, ypic_len]; omega), List.length_append, ypic_len, show g + k - (72 + G.length) = k by omega, List.append_assoc]
theorem zRun_h {fr lo : Nat} {xs : zX} {M : zM} {s : zS} {h h' : zH} {r : Option Value × zH} (e : h = h') (k : zRun fr lo xs M s h' r) : zRun fr lo xs M s h r := by rw [e]; exact k
section YNW
variable {fr lo : Nat} {xs : zX} {M : zM} {w : yW} {G T : List zC} {sz g : Nat} {r : Option Value × zH} {pc i : Nat} {lv : List (Nat × Value)} {rest : List Value} {x : zE}
theorem yenw {a : Nat} (hg : g = 72 + G.length) (hx : zlk2 (mT M) pc = some x) (hi : xI x = .new i) (ha : xA x = a) (k : zRun fr lo xs M (pc + 3, lv, .ref g :: rest) (yhp w (G ++ [.inr (a, zdf a)]) (sz + (zdf a).length)) r) : zRun fr lo xs M (pc, lv, rest) (yhp w G sz) r := by
  refine zenw hx hi ha ?_
  rw [yhp_len, yhp_app, ← hg]
  exact k
theorem y_copyOf {c k : Nat} (hs : yshp[c]? = some (false, 0, List.replicate 6 (.inr 0))) (hg : g = 72 + G.length) (hk : k ≤ 6) (hlo : 60 ≤ lo) : zAns (fr + 1) lo 14 [.ref c, .int (Int32.ofNat k)] (yhp w G sz) (some (.ref g), yhp w (G ++ [.inl (0, ((yA w c 6).take k).map Value.int)]) (sz + k)) := by
  have h := s_copyOf (fr := fr) (lo := lo) (h := yhp w G sz) (a := c) (k := k) (yhp_A hs) yA_len hk hlo
  rw [yhp_len, yhp_app, ← hg] at h
  exact h
end YNW
set_option maxRecDepth 100000 in
theorem r_Ge_init {fr lo sz : Nat} {G : List zC} (X Y : List Int32) (g : Nat) (kd : Int32) {w : yW} (hg : g = 72 + G.length) (hn : X.length ≤ 1000) (hm : Y.length ≤ 1000) (hlo : 100 ≤ lo) : zAns (fr + 2) lo 15 [.ref g, .int kd, .ref (g + 1), .ref (g + 2)] (yhp w (G ++ [.inr (6, [.int 0, .null, .null, .null]), .inl (0, X.map Value.int), .inl (0, Y.map Value.int)]) sz) (none, yhp w (G ++ [.inr (6, [.int kd, .ref (g + 1), .ref (g + 2), .ref (g + 3)]), .inl (0, X.map Value.int), .inl (0, Y.map Value.int), .inr (7, [.int (g_Bo_init_0 X Y (g + 3) (g + 1) (g + 2)).1, .int (g_Bo_init_0 X Y (g + 3) (g + 1) (g + 2)).2.2.1, .int (g_Bo_init_0 X Y (g + 3) (g + 1) (g + 2)).2.1, .int (g_Bo_init_0 X Y (g + 3) (g + 1) (g + 2)).2.2.2])]) (sz + 4)) := by
  refine zeb (fr := fr + 1) (M := M_Ge_init) rfl (Nat.le_trans (by decide) hlo) rfl ?_
  have e0 : mL M_Ge_init = 4 := rfl
  refine zeP (s' := (1, [(0, .ref g), (1, .int kd), (2, .ref (g + 1)), (3, .ref (g + 2))], [.ref g])) 1 (fun _ => rfl) ?_
  refine zeoi rfl rfl rfl (Nat.le_trans (Nat.le_of_eq (rfl : _ = 12)) (by omega)) ?_
  refine zeP (s' := (6, [(0, .ref g), (1, .int kd), (2, .ref (g + 1)), (3, .ref (g + 2))], [.int kd, .ref g])) 2 (fun _ => rfl) ?_
  refine zepf (a := 6) (b := 0) (fs := [.int 0, .null, .null, .null]) rfl rfl rfl rfl (yget_k (k := 0) hg) (show (0 : Nat) < 4 by decide) rfl ?_
  rw [show ((yhp w (G ++ [.inr (6, [.int 0, .null, .null, .null]), .inl (0, X.map Value.int), .inl (0, Y.map Value.int)]) sz).1.set g (.inr (6, [.int 0, .null, .null, .null].set 0 (.int kd))), (yhp w (G ++ [.inr (6, [.int 0, .null, .null, .null]), .inl (0, X.map Value.int), .inl (0, Y.map Value.int)]) sz).2) = yhp w (G ++ [.inr (6, [.int kd, .null, .null, .null]), .inl (0, X.map Value.int), .inl (0, Y.map Value.int)]) sz from yset_k (k := 0) hg]
  refine zeP (s' := (11, [(0, .ref g), (1, .int kd), (2, .ref (g + 1)), (3, .ref (g + 2))], [.ref (g + 1), .ref g])) 2 (fun _ => rfl) ?_
  refine zepf (a := 6) (b := 1) (fs := [.int kd, .null, .null, .null]) rfl rfl rfl rfl (yget_k (k := 0) hg) (show (1 : Nat) < 4 by decide) rfl ?_
  rw [show ((yhp w (G ++ [.inr (6, [.int kd, .null, .null, .null]), .inl (0, X.map Value.int), .inl (0, Y.map Value.int)]) sz).1.set g (.inr (6, [.int kd, .null, .null, .null].set 1 (.ref (g + 1)))), (yhp w (G ++ [.inr (6, [.int kd, .null, .null, .null]), .inl (0, X.map Value.int), .inl (0, Y.map Value.int)]) sz).2) = yhp w (G ++ [.inr (6, [.int kd, .ref (g + 1), .null, .null]), .inl (0, X.map Value.int), .inl (0, Y.map Value.int)]) sz from yset_k (k := 0) hg]
  refine zeP (s' := (16, [(0, .ref g), (1, .int kd), (2, .ref (g + 1)), (3, .ref (g + 2))], [.ref (g + 2), .ref g])) 2 (fun _ => rfl) ?_
  refine zepf (a := 6) (b := 2) (fs := [.int kd, .ref (g + 1), .null, .null]) rfl rfl rfl rfl (yget_k (k := 0) hg) (show (2 : Nat) < 4 by decide) rfl ?_
  rw [show ((yhp w (G ++ [.inr (6, [.int kd, .ref (g + 1), .null, .null]), .inl (0, X.map Value.int), .inl (0, Y.map Value.int)]) sz).1.set g (.inr (6, [.int kd, .ref (g + 1), .null, .null].set 2 (.ref (g + 2)))), (yhp w (G ++ [.inr (6, [.int kd, .ref (g + 1), .null, .null]), .inl (0, X.map Value.int), .inl (0, Y.map Value.int)]) sz).2) = yhp w (G ++ [.inr (6, [.int kd, .ref (g + 1), .ref (g + 2), .null]), .inl (0, X.map Value.int), .inl (0, Y.map Value.int)]) sz from yset_k (k := 0) hg]
  refine zeP (s' := (20, [(0, .ref g), (1, .int kd), (2, .ref (g + 1)), (3, .ref (g + 2))], [.ref g])) 1 (fun _ => rfl) ?_
  refine yenw (a := 7) (g := g + 3) (by rw [List.length_append]; show g + 3 = 72 + (G.length + 3); omega) rfl rfl rfl ?_
  refine zeP (s' := (26, [(0, .ref g), (1, .int kd), (2, .ref (g + 1)), (3, .ref (g + 2))], [.ref (g + 2), .ref (g + 1), .ref (g + 3), .ref (g + 3), .ref g])) 3 (fun _ => rfl) ?_
  refine zec 2 (M' := M_Bo_init) (qq := ([.ref (g + 3), .ref (g + 1), .ref (g + 2)], [.ref (g + 3), .ref g])) (s' := (29, [(0, .ref g), (1, .int kd), (2, .ref (g + 1)), (3, .ref (g + 2))], [.ref (g + 3), .ref g])) rfl rfl (fun _ => rfl) rfl rfl rfl (r_Bo_init X Y (g + 3) (g + 1) (g + 2) (by rw [List.length_append]; show g + 3 = 72 + (G.length + 3); omega) (fun w => by rw [List.append_assoc]; exact yget_k (k := 1) hg) (fun w => by rw [List.append_assoc]; exact yget_k (k := 2) hg) hn hm (by omega)) rfl ?_
  generalize g_Bo_init_0 X Y (g + 3) (g + 1) (g + 2) = v
  refine zRun_h (h' := yhp w (G ++ [.inr (6, [.int kd, .ref (g + 1), .ref (g + 2), .null]), .inl (0, X.map Value.int), .inl (0, Y.map Value.int), .inr (7, [.int v.1, .int v.2.2.1, .int v.2.1, .int v.2.2.2])]) (sz + 4)) (congrArg (fun T => yhp w T (sz + 4)) (by rw [List.append_assoc]; rfl)) ?_
  refine zepf (a := 6) (b := 3) (fs := [.int kd, .ref (g + 1), .ref (g + 2), .null]) rfl rfl rfl rfl (yget_k (k := 0) hg) (show (3 : Nat) < 4 by decide) rfl ?_
  refine zRun_h (yset_k (k := 0) (c := .inr (6, [.int kd, .ref (g + 1), .ref (g + 2), .null].set 3 (.ref (g + 3)))) hg) ?_
  refine zRun_h (h' := yhp w (G ++ [.inr (6, [.int kd, .ref (g + 1), .ref (g + 2), .ref (g + 3)]), .inl (0, X.map Value.int), .inl (0, Y.map Value.int), .inr (7, [.int v.1, .int v.2.2.1, .int v.2.1, .int v.2.2.2])]) (sz + 4)) (congrArg (fun T => yhp w (G ++ T) (sz + 4)) rfl) ?_
  exact zer rfl rfl
def dCells (w : yW) (k g : Nat) (kd : Int32) : List zC := [.inr (6, [.int kd, .ref (g + 1), .ref (g + 2), .ref (g + 3)]), .inl (0, ((yA w 7 6).take k).map Value.int), .inl (0, ((yA w 8 6).take k).map Value.int), .inr (7, [.int (g_Bo_init_0 ((yA w 7 6).take k) ((yA w 8 6).take k) (g + 3) (g + 1) (g + 2)).1, .int (g_Bo_init_0 ((yA w 7 6).take k) ((yA w 8 6).take k) (g + 3) (g + 1) (g + 2)).2.2.1, .int (g_Bo_init_0 ((yA w 7 6).take k) ((yA w 8 6).take k) (g + 3) (g + 1) (g + 2)).2.1, .int (g_Bo_init_0 ((yA w 7 6).take k) ((yA w 8 6).take k) (g + 3) (g + 1) (g + 2)).2.2.2])]
set_option maxRecDepth 100000 in
theorem r_Dr_drawn {fr lo sz : Nat} {G : List zC} (g k : Nat) (kd : Int32) {w : yW} (hg : g = 72 + G.length) (hk : k ≤ 6) (hs : w.1 6 2 = Int32.ofNat k) (hlo : 130 ≤ lo) : zAns (fr + 3) lo 13 [.ref 6, .int kd] (yhp w G sz) (some (.ref g), yhp w (G ++ dCells w k g kd) (sz + (8 + 2 * k))) := by
  have l1 : ((yA w 7 6).take k).length ≤ 1000 := by rw [List.length_take, yA_len]; omega
  have l2 : ((yA w 8 6).take k).length ≤ 1000 := by rw [List.length_take, yA_len]; omega
  refine zeb (fr := fr + 2) (M := M_Dr_drawn) rfl (Nat.le_trans (by decide) hlo) rfl ?_
  have e0 : mL M_Dr_drawn = 2 := rfl
  refine yenw (a := 6) (g := g) hg rfl rfl rfl ?_
  refine zeP (s' := (6, [(0, .ref 6), (1, .int kd)], [.ref 6, .int kd, .ref g, .ref g])) 3 (fun _ => rfl) ?_
  refine ygf (kk := .inl (.ref 7)) (v := .ref 7) rfl rfl rfl rfl rfl rfl rfl ?_
  refine zeP (s' := (10, [(0, .ref 6), (1, .int kd)], [.ref 6, .ref 7, .int kd, .ref g, .ref g])) 1 (fun _ => rfl) ?_
  refine ygf (kk := .inr 0) (v := .int (w.1 6 2)) rfl rfl rfl rfl rfl rfl rfl ?_
  rw [hs]
  refine zec 0 (M' := M_Ar_copyOf) (qq := ([.ref 7, .int (Int32.ofNat k)], [.int kd, .ref g, .ref g])) (s' := (16, [(0, .ref 6), (1, .int kd)], [.ref (g + 1), .int kd, .ref g, .ref g])) rfl rfl (fun _ => rfl) rfl rfl rfl (y_copyOf (c := 7) (g := g + 1) rfl (by rw [List.length_append]; show g + 1 = 72 + (G.length + 1); omega) hk (by omega)) rfl ?_
  refine zeP (s' := (17, [(0, .ref 6), (1, .int kd)], [.ref 6, .ref (g + 1), .int kd, .ref g, .ref g])) 1 (fun _ => rfl) ?_
  refine ygf (kk := .inl (.ref 8)) (v := .ref 8) rfl rfl rfl rfl rfl rfl rfl ?_
  refine zeP (s' := (21, [(0, .ref 6), (1, .int kd)], [.ref 6, .ref 8, .ref (g + 1), .int kd, .ref g, .ref g])) 1 (fun _ => rfl) ?_
  refine ygf (kk := .inr 0) (v := .int (w.1 6 2)) rfl rfl rfl rfl rfl rfl rfl ?_
  rw [hs]
  refine zec 0 (M' := M_Ar_copyOf) (qq := ([.ref 8, .int (Int32.ofNat k)], [.ref (g + 1), .int kd, .ref g, .ref g])) (s' := (27, [(0, .ref 6), (1, .int kd)], [.ref (g + 2), .ref (g + 1), .int kd, .ref g, .ref g])) rfl rfl (fun _ => rfl) rfl rfl rfl (y_copyOf (c := 8) (g := g + 2) rfl (by rw [List.length_append, List.length_append]; show g + 2 = 72 + (G.length + 1 + 1); omega) hk (by omega)) rfl ?_
  unfold dCells
  generalize (yA w 7 6).take k = X at l1 ⊢
  generalize (yA w 8 6).take k = Y at l2 ⊢
  refine zRun_h (h' := yhp w (G ++ [.inr (6, [.int 0, .null, .null, .null]), .inl (0, X.map Value.int), .inl (0, Y.map Value.int)]) (sz + 4 + k + k)) (congrArg (fun T => yhp w T (sz + 4 + k + k)) (by rw [List.append_assoc, List.append_assoc]; rfl)) ?_
  refine zec 2 (M' := M_Ge_init) (qq := ([.ref g, .int kd, .ref (g + 1), .ref (g + 2)], [.ref g])) (s' := (30, [(0, .ref 6), (1, .int kd)], [.ref g])) rfl rfl (fun _ => rfl) rfl rfl rfl (r_Ge_init X Y g kd hg l1 l2 (by omega)) rfl ?_
  rw [show sz + (8 + 2 * k) = sz + 4 + k + k + 4 by omega]
  exact zer rfl rfl
