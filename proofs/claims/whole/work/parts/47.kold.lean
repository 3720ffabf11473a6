set_option maxRecDepth 100000 in
theorem kf_Mo_bind_52 (s i : Int32)  (w : yW)  : yK [(61, none), (62, none), (63, none), (64, none)] w (g_Mo_bind_52 s i w ) := by unfold g_Mo_bind_52; repeat' first | with_reducible refine yK_wI ?_ ?_ | with_reducible refine yK_wL ?_ ?_ | with_reducible refine yK_wR ?_ ?_ | with_reducible refine yK_if ?_ ?_ | with_reducible refine yK_if1 ?_ ?_ | with_reducible exact yK_rfl | exact (rfl : true = true) | dsimp only
set_option maxRecDepth 100000 in
theorem kf_Mo_bind_88 (s i : Int32)  (w : yW)  : yK [(61, none), (62, none), (63, none), (64, none)] w (g_Mo_bind_88 s i w ) := by unfold g_Mo_bind_88; repeat' first | with_reducible refine yK_wI ?_ ?_ | with_reducible refine yK_wL ?_ ?_ | with_reducible refine yK_wR ?_ ?_ | with_reducible refine yK_if ?_ ?_ | with_reducible refine yK_if1 ?_ ?_ | with_reducible exact yK_rfl | exact (rfl : true = true) | dsimp only
set_option maxRecDepth 100000 in
theorem kf_Mo_bind_124 (s i : Int32)  (w : yW)  : yK [(61, none), (62, none), (63, none), (64, none)] w (g_Mo_bind_124 s i w ) := by unfold g_Mo_bind_124; repeat' first | with_reducible refine yK_wI ?_ ?_ | with_reducible refine yK_wL ?_ ?_ | with_reducible refine yK_wR ?_ ?_ | with_reducible refine yK_if ?_ ?_ | with_reducible refine yK_if1 ?_ ?_ | with_reducible exact yK_rfl | exact (rfl : true = true) | dsimp only
set_option maxRecDepth 100000 in
theorem kf_Mo_bind_160 (s i : Int32)  (w : yW)  : yK [(61, none), (62, none), (63, none), (64, none)] w (g_Mo_bind_160 s i w ) := by unfold g_Mo_bind_160; repeat' first | with_reducible refine yK_wI ?_ ?_ | with_reducible refine yK_wL ?_ ?_ | with_reducible refine yK_wR ?_ ?_ | with_reducible refine yK_if ?_ ?_ | with_reducible refine yK_if1 ?_ ?_ | with_reducible exact yK_rfl | exact (rfl : true = true) | dsimp only
set_option maxRecDepth 100000 in
theorem kf_Mo_bind_37 (s mv : Int32) : ∀ (n : Nat) (w : yW) (v0 : Int32), yK [(61, none), (62, none), (63, none), (64, none)] w (g_Mo_bind_37 s mv n w v0) := by
  intro n
  induction n with
  | zero => intros; exact yK_rfl
  | succ n ih => intro w v0; rw [g_Mo_bind_37]; exact yK_if yK_rfl (yK_tr (yK_tr (yK_tr (yK_tr (kf_Mo_bind_52 ..) (kf_Mo_bind_88 ..)) (kf_Mo_bind_124 ..)) (kf_Mo_bind_160 ..)) (ih _ _))
set_option maxRecDepth 100000 in
theorem kf_Mo_bind (s mv : Int32)  (w : yW)  : yK [(61, none), (62, none), (63, none), (64, none)] w (e_Mo_bind s mv w ) := by unfold e_Mo_bind; exact yK_tr (yK_wI rfl (yK_wI rfl (yK_wI rfl (yK_wI rfl yK_rfl)))) (kf_Mo_bind_37 ..)
set_option maxRecDepth 100000 in
theorem kf_Mo_copyShape_26 (a b : Int32) : ∀ (n : Nat) (w : yW) (v0 : Int32), yK [(61, none), (62, none), (63, none), (64, none), (57, none), (58, none), (59, none), (60, none)] w (g_Mo_copyShape_26 a b n w v0) := by
  intro n
  induction n with
  | zero => intros; exact yK_rfl
  | succ n ih => intro w v0; rw [g_Mo_copyShape_26]; exact yK_if yK_rfl (yK_tr (yK_wI rfl (yK_wI rfl yK_rfl)) (ih _ _))
set_option maxRecDepth 100000 in
theorem kf_Mo_copyShape (a b mv : Int32)  (w : yW)  : yK [(61, none), (62, none), (63, none), (64, none), (57, none), (58, none), (59, none), (60, none)] w (e_Mo_copyShape a b mv w ) := by unfold e_Mo_copyShape; exact yK_tr (yK_tr (yK_wI rfl (yK_wI rfl yK_rfl)) (kf_Mo_copyShape_26 ..)) (yK_mono rfl (kf_Mo_bind ..))
set_option maxRecDepth 100000 in
theorem kf_Mo_reach_122 (ux uy vx vy al ln wx wy : Int64)  (w : yW)  : yK [(54, some 13), (54, some 14)] w (g_Mo_reach_122 ux uy vx vy al ln wx wy w ).1 := by unfold g_Mo_reach_122; repeat' first | with_reducible refine yK_wI ?_ ?_ | with_reducible refine yK_wL ?_ ?_ | with_reducible refine yK_wR ?_ ?_ | with_reducible refine yK_if ?_ ?_ | with_reducible refine yK_if1 ?_ ?_ | with_reducible exact yK_rfl | exact (rfl : true = true) | dsimp only
set_option maxRecDepth 100000 in
theorem kf_Mo_reach_190 (al ln t : Int64)  (w : yW)  : yK [(54, some 13), (54, some 14)] w (g_Mo_reach_190 al ln t w ).1 := by unfold g_Mo_reach_190; repeat' first | with_reducible refine yK_wI ?_ ?_ | with_reducible refine yK_wL ?_ ?_ | with_reducible refine yK_wR ?_ ?_ | with_reducible refine yK_if ?_ ?_ | with_reducible refine yK_if1 ?_ ?_ | with_reducible exact yK_rfl | exact (rfl : true = true) | dsimp only
set_option maxRecDepth 100000 in
theorem kf_Mo_reach_213 (t u : Int64)  (w : yW)  : yK [(54, some 13), (54, some 14)] w (g_Mo_reach_213 t u w ) := by unfold g_Mo_reach_213; repeat' first | with_reducible refine yK_wI ?_ ?_ | with_reducible refine yK_wL ?_ ?_ | with_reducible refine yK_wR ?_ ?_ | with_reducible refine yK_if ?_ ?_ | with_reducible refine yK_if1 ?_ ?_ | with_reducible exact yK_rfl | exact (rfl : true = true) | dsimp only
set_option maxRecDepth 100000 in
theorem kf_Mo_reach (a b c : Int32)  (w : yW)  : yK [(54, some 13), (54, some 14)] w (e_Mo_reach a b c w ) := by unfold e_Mo_reach; refine yK_tr ?_ (kf_Mo_reach_213 ..); rw [i_Mo_reach_190, i_Mo_reach_122]; exact yK_rfl
set_option maxRecDepth 100000 in
theorem kf_Mo_measureOut_0 (s u : Int32)  (w : yW)  : yK [(54, some 13), (54, some 14)] w (g_Mo_measureOut_0 s u w ) := by unfold g_Mo_measureOut_0; exact yK_if (yK_wL rfl (yK_wL rfl yK_rfl)) (yK_wL rfl (yK_wL rfl yK_rfl))
set_option maxRecDepth 100000 in
theorem kf_Mo_measureOut_49 (w0 : yW) (s u : Int32) (i j : Int32)  (w : yW)  : yK [(54, some 13), (54, some 14)] w (g_Mo_measureOut_49 w0 s u i j w ) := by unfold g_Mo_measureOut_49; exact yK_tr (yK_tr (yK_tr (kf_Mo_reach ..) (kf_Mo_reach ..)) (kf_Mo_reach ..)) (kf_Mo_reach ..)
set_option maxRecDepth 100000 in
theorem kf_Mo_measureOut_39 (w0 : yW) (s u : Int32) (i : Int32) : ∀ (n : Nat) (w : yW) (v0 : Int32), yK [(54, some 13), (54, some 14)] w (g_Mo_measureOut_39 w0 s u i n w v0) := by
  intro n
  induction n with
  | zero => intros; exact yK_rfl
  | succ n ih => intro w v0; rw [g_Mo_measureOut_39]; exact yK_if yK_rfl (yK_tr (kf_Mo_measureOut_49 ..) (ih _ _))
set_option maxRecDepth 100000 in
theorem kf_Mo_measureOut_27 (w0 : yW) (s u : Int32) : ∀ (n : Nat) (w : yW) (v0 : Int32), yK [(54, some 13), (54, some 14)] w (g_Mo_measureOut_27 w0 s u n w v0) := by
  intro n
  induction n with
  | zero => intros; exact yK_rfl
  | succ n ih => intro w v0; rw [g_Mo_measureOut_27]; exact yK_if yK_rfl (yK_tr (kf_Mo_measureOut_39 ..) (ih _ _))
set_option maxRecDepth 100000 in
theorem kf_Mo_measureOut (s u : Int32)  (w : yW)  : yK [(54, some 13), (54, some 14)] w (e_Mo_measureOut s u w ) := by unfold e_Mo_measureOut; exact yK_tr (kf_Mo_measureOut_0 ..) (kf_Mo_measureOut_27 ..)
set_option maxRecDepth 100000 in
theorem kf_Mo_around (s : Int32)  (w : yW)  : yK [(54, some 17), (54, some 18), (54, some 19), (54, some 20)] w (e_Mo_around s w ) := by unfold e_Mo_around; exact yK_wI rfl (yK_wI rfl (yK_wI rfl (yK_wI rfl yK_rfl)))
set_option maxRecDepth 100000 in
theorem kf_Mo_finds (s u l : Int32)  (w : yW)  : yK [(54, some 13), (54, some 14)] w (e_Mo_finds s u l w ).1 := by unfold e_Mo_finds; exact yK_if1 (yK_if1 (kf_Mo_measureOut ..) (kf_Mo_measureOut ..)) yK_rfl
set_option maxRecDepth 100000 in
theorem kf_Mo_vertex (x y : Int32)  (w : yW)  : yK [(54, some 10), (65, none), (66, none)] w (e_Mo_vertex x y w ).1 := by unfold e_Mo_vertex; repeat' first | with_reducible refine yK_wI ?_ ?_ | with_reducible refine yK_wL ?_ ?_ | with_reducible refine yK_wR ?_ ?_ | with_reducible refine yK_if ?_ ?_ | with_reducible refine yK_if1 ?_ ?_ | with_reducible exact yK_rfl | exact (rfl : true = true) | dsimp only
set_option maxRecDepth 100000 in
theorem kf_Mo_copyRow (a b mv : Int32)  (w : yW)  : yK [(61, none), (62, none), (63, none), (64, none), (55, none), (56, none), (57, none), (58, none), (59, none), (60, none)] w (e_Mo_copyRow a b mv w ) := by unfold e_Mo_copyRow; exact yK_tr (yK_wI rfl (yK_wI rfl yK_rfl)) (yK_mono rfl (kf_Mo_copyShape ..))
/-- what keeps the reference's runs within its arrays -/
def yM (w : yW) : Prop := ∀ s, s < 65 → (w.1 55 s = 0 ∨ w.1 55 s = 1) ∧ (0 ≤ (w.1 58 s).toInt ∧ (w.1 58 s).toInt ≤ 6) ∧ (¬ w.1 55 s = 0 → 1 ≤ (w.1 58 s).toInt ∧ (0 ≤ (w.1 61 s).toInt ∧ (w.1 61 s).toInt ≤ 255) ∧ (0 ≤ (w.1 62 s).toInt ∧ (w.1 62 s).toInt ≤ 255) ∧ (0 ≤ (w.1 63 s).toInt ∧ (w.1 63 s).toInt ≤ 255) ∧ (0 ≤ (w.1 64 s).toInt ∧ (w.1 64 s).toInt ≤ 255))
theorem yM_K {S : List (Nat × Option Nat)} {w w' : yW} (k : yK S w w') (hS : (ySt S 55 0 || (ySt S 58 0 || (ySt S 61 0 || (ySt S 62 0 || (ySt S 63 0 || ySt S 64 0))))) = false) (hS2 : S.all (fun p => p.2.isNone || Nat.beq p.1 54) = true) (h : yM w) : yM w' := by
  have key : ∀ c, ySt S c 0 = false → Nat.beq c 54 = false → ∀ j, ySt S c j = false := by
    clear k hS h
    intro c h0 hc j
    induction S with
    | nil => rfl
    | cons p S ih =>
      obtain ⟨c0, o⟩ := p
      rw [List.all_cons, Bool.and_eq_true] at hS2
      cases o with
      | none =>
        unfold ySt at h0 ⊢
        rw [Bool.or_eq_false_iff] at h0 ⊢
        exact ⟨h0.1, ih hS2.2 h0.2⟩
      | some j0 =>
        unfold ySt at h0 ⊢
        rw [Bool.or_eq_false_iff] at h0 ⊢
        have h1 := hS2.1
        simp only [Option.isNone_some, Bool.false_or] at h1
        have := Nat.eq_of_beq_eq_true h1
        subst this
        rw [hc]
        exact ⟨rfl, ih hS2.2 h0.2⟩
  simp only [Bool.or_eq_false_iff] at hS
  obtain ⟨a1, a2, a3, a4, a5, a6⟩ := hS
  intro s hs
  rw [yKi k (key 55 a1 rfl s), yKi k (key 58 a2 rfl s), yKi k (key 61 a3 rfl s), yKi k (key 62 a4 rfl s), yKi k (key 63 a5 rfl s), yKi k (key 64 a6 rfl s)]
  exact h s hs
theorem zIx_n {s : Int32} {N : Nat} (h : zIx s N) : s.toNatClampNeg < N := by
  have h1 := zIx_a h
  have h2 := h.2
  omega
section YMQ
variable {fr lo sz : Nat} {G : List zC} {w : yW}
theorem p_Mo_home (s : Int32) (hs : zIx s 65) (hM : yM w) (hne : ¬ w.1 55 s.toNatClampNeg = 0) (hlo : 22 ≤ lo) : zAns (fr + 1) lo 131 [.ref 54, .int s] (yhp w G sz) (some (.int (e_Mo_home s w).2), yhp w G sz) :=
  have h := (hM _ (zIx_n hs)).2.2 hne
  q_Mo_home s w hs h.2.1 h.2.2.1 h.2.2.2.1 h.2.2.2.2 hlo
theorem i_Mo_shares (s q l : Int32) : (e_Mo_shares s q l w).1 = w := by unfold e_Mo_shares; repeat' first | exact rfl | refine yf3 ?_ ?_
theorem p_Mo_shares (s q l : Int32) (hs : zIx s 65) (hq : zIx q 65) (hM : yM w) (hlo : 45 ≤ lo) : zAns (fr + 2) lo 133 [.ref 54, .int s, .int q, .int l] (yhp w G sz) (some (.int (e_Mo_shares s q l w).2), yhp w G sz) := by
  have h := (hM _ (zIx_n hs)).2.2
  have a := r_Mo_shares (fr := fr) (G := G) (sz := sz) s q l w hs hq (fun e => (h e).2.1) (fun e => (h e).2.2.1) (fun e => (h e).2.2.2.1) (fun e => (h e).2.2.2.2) hlo
  rw [i_Mo_shares] at a
  exact a
theorem i_Mo_close (s : Int32) (t u : Int64) : (e_Mo_close s t u w).1 = w := by unfold e_Mo_close; repeat' first | exact rfl | refine yf3 ?_ ?_
theorem p_Mo_close (s : Int32) (t u : Int64) (hs : zIx s 65) (hlo : 52 ≤ lo) : zAns (fr + 2) lo 129 [.ref 54, .int s, .long t, .long u] (yhp w G sz) (some (.int (e_Mo_close s t u w).2), yhp w G sz) := by
  have a := r_Mo_close (fr := fr) (G := G) (sz := sz) s t u w hs hlo
  rw [i_Mo_close] at a
  exact a
theorem i_Mo_size_7 (t : Int32) : ∀ (n : Nat) (w : yW) (c q : Int32), (g_Mo_size_7 t n w c q).1 = w
  | 0, w, c, q => rfl
  | n + 1, w, c, q => by
    rw [g_Mo_size_7]
    repeat' first | exact rfl | refine yf3 ?_ ?_ | exact i_Mo_size_7 t n w _ _
theorem p_Mo_size (t : Int32) (h0 : 0 ≤ t.toInt) (h1 : t.toInt ≤ 1) (hlo : 23 ≤ lo) : zAns (fr + 1) lo 110 [.ref 54, .int t] (yhp w G sz) (some (.int (e_Mo_size t w).2), yhp w G sz) := by
  have a := r_Mo_size (fr := fr) (G := G) (sz := sz) t w h0 h1 hlo
  have e : (e_Mo_size t w).1 = w := i_Mo_size_7 t 17 w 0 (16 * t)
  rw [e] at a
  exact a
theorem yM_g {s : Int32} (hs : zIx s 65) (hM : yM w) (hne : ¬ w.1 55 s.toNatClampNeg = 0) : 1 ≤ (gI (yA w 58 65) s).toInt ∧ (gI (yA w 58 65) s).toInt ≤ 6 := by
  rw [yA_g hs]
  have h := hM _ (zIx_n hs)
  exact ⟨(h.2.2 hne).1, h.2.1.2⟩
theorem p_Mo_measureOut (s u : Int32) (hs : zIx s 65) (hu : zIx u 65) (hM : yM w) (h1 : ¬ w.1 55 s.toNatClampNeg = 0) (h2 : ¬ w.1 55 u.toNatClampNeg = 0) (hlo : 161 ≤ lo) : zAns (fr + 6) lo 117 [.ref 54, .int s, .int u] (yhp w G sz) (none, yhp (e_Mo_measureOut s u w) G sz) :=
  r_Mo_measureOut s u w hs (yM_g hs hM h1).1 (yM_g hs hM h1).2 hu (yM_g hu hM h2).1 (yM_g hu hM h2).2 hlo
theorem p_Mo_finds (s u l : Int32) (hs : zIx s 65) (hu : zIx u 65) (hM : yM w) (h1 : ¬ w.1 55 s.toNatClampNeg = 0) (hlo : 184 ≤ lo) : zAns (fr + 7) lo 116 [.ref 54, .int s, .int u, .int l] (yhp w G sz) (some (.int (e_Mo_finds s u l w).2), yhp (e_Mo_finds s u l w).1 G sz) :=
  r_Mo_finds s u l w hs (yM_g hs hM h1).1 (yM_g hs hM h1).2 hu (fun h2 => (yM_g hu hM h2).1) (fun h2 => (yM_g hu hM h2).2) hlo
theorem p_Mo_copyShape (a b : Int32) (ha : zIx a 65) (hb : zIx b 65) (h : 0 ≤ (w.1 58 a.toNatClampNeg).toInt ∧ (w.1 58 a.toNatClampNeg).toInt ≤ 6) (hlo : 45 ≤ lo) : zAns (fr + 2) lo 111 [.ref 54, .int a, .int b] (yhp w G sz) (none, yhp (e_Mo_copyShape a b (w.1 58 a.toNatClampNeg) w) G sz) :=
  r_Mo_copyShape a b _ w ha hb rfl h.1 h.2 hlo
theorem p_Mo_copyRow (a b : Int32) (ha : zIx a 65) (hb : zIx b 65) (h : 0 ≤ (w.1 58 a.toNatClampNeg).toInt ∧ (w.1 58 a.toNatClampNeg).toInt ≤ 6) (hlo : 68 ≤ lo) : zAns (fr + 3) lo 152 [.ref 54, .int a, .int b] (yhp w G sz) (none, yhp (e_Mo_copyRow a b (w.1 58 a.toNatClampNeg) w) G sz) :=
  r_Mo_copyRow a b _ w ha hb rfl h.1 h.2 hlo
end YMQ
