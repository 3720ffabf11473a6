-- every call: class and reference answer alike
/-- the class leaves the reference's cells -/
def cS (w w' : yW) : Prop := (∀ d j, 54 ≤ d → w'.1 d j = w.1 d j) ∧ True
theorem cS_r {w : yW} : cS w w := ⟨fun _ _ _ => rfl, trivial⟩
theorem cS_t {w w' w'' : yW} (h1 : cS w w') (h2 : cS w' w'') : cS w w'' := ⟨fun d j a => (h2.1 d j a).trans (h1.1 d j a), trivial⟩
theorem cS_St : ∀ {S : List (Nat × Option Nat)} {d j : Nat}, S.all (fun p => Nat.blt p.1 54) = true → 54 ≤ d → ySt S d j = false
  | [], _, _, _, _ => rfl
  | (c0, none) :: S, d, j, h, hd => by
    rw [List.all_cons, Bool.and_eq_true] at h
    have h1 : c0 < 54 := Nat.le_of_ble_eq_true h.1
    unfold ySt
    rw [nb_f (show d ≠ c0 by omega), cS_St h.2 hd]
    rfl
  | (c0, some j0) :: S, d, j, h, hd => by
    rw [List.all_cons, Bool.and_eq_true] at h
    have h1 : c0 < 54 := Nat.le_of_ble_eq_true h.1
    unfold ySt
    rw [nb_f (show d ≠ c0 by omega), cS_St h.2 hd]
    rfl
theorem cS_K {S : List (Nat × Option Nat)} {w w' : yW} (h : S.all (fun p => Nat.blt p.1 54) = true) (k : yK S w w') : cS w w' := ⟨fun d j a => yKi k (cS_St h a), trivial⟩
theorem cS_put {T : Nat} (hT : T < 2) (q v : Int32) (o : Option Nat) (w : yW) : cS w (e_Ta_put (14 + 12 * T) q v o w) := by
  rcases (show T = 0 ∨ T = 1 by omega) with rfl | rfl
  · exact cS_K rfl (kf_Ta_put ..)
  · exact cS_K rfl (kf_Ta_put ..)
theorem cS_add {T : Nat} (hT : T < 2) (G : List zC) (x : Nat) (w : yW) : cS w (e_In_add G (20 + 12 * T) x w) := by
  rcases (show T = 0 ∨ T = 1 by omega) with rfl | rfl
  · exact cS_K rfl (kf_In_add ..)
  · exact cS_K rfl (kf_In_add ..)
theorem cS_reb {T : Nat} (hT : T < 2) (G : List zC) (e : Nat) (w : yW) : cS w (e_In_rebuild G (20 + 12 * T) e w) := by
  rcases (show T = 0 ∨ T = 1 by omega) with rfl | rfl
  · exact cS_K rfl (kf_In_rebuild ..)
  · exact cS_K rfl (kf_In_rebuild ..)
theorem cS_insert (G : List zC) (t v : Int32) (w : yW) : cS w (e_ST_insert G t v w).1 := by
  unfold e_ST_insert
  rcases isT_cases t with ⟨T, hT, e, k1, k2⟩ | ⟨k1, k2⟩
  · rw [e, n_clamp (by omega)]
    cases zc .eq (e_ST_isTable (Int32.ofNat T)) 0
    · cases yS (w.2.2 0 5)
      · exact cS_r
      · cases zc .ne (e_Ta_leastFreeRow (14 + 12 * T) w) 16
        · exact cS_r
        · exact cS_t (cS_put hT ..) (cS_add hT ..)
    · exact cS_r
  · rw [k1]
    exact cS_r
theorem pl_no {t q : Int32} {w : yW} (k : e_ST_isTable t = 0) : e_ST_placeOf t q w = none := by
  unfold e_ST_placeOf
  rw [k]
  rfl
theorem cS_delete (G : List zC) (t q : Int32) (w : yW) : cS w (e_ST_delete G t q w).1 := by
  unfold e_ST_delete
  rcases isT_cases t with ⟨T, hT, e, k1, k2⟩ | ⟨k1, k2⟩
  · rw [e, n_clamp (by omega)]
    cases yS (e_ST_placeOf (Int32.ofNat T) q w)
    · exact cS_r
    · exact cS_t (cS_put hT ..) (cS_reb hT ..)
  · rw [pl_no k1]
    exact cS_r
theorem cS_update (G : List zC) (t q v mv : Int32) (w : yW) : cS w (e_ST_update G t q v mv w).1 := by
  unfold e_ST_update
  rcases isT_cases t with ⟨T, hT, e, k1, k2⟩ | ⟨k1, k2⟩
  · rw [e, n_clamp (by omega)]
    cases yN (e_ST_placeOf (Int32.ofNat T) q w)
    · cases zc .eq mv 0
      · cases yS (w.2.2 0 5)
        · exact cS_r
        · exact cS_t (cS_put hT ..) (cS_reb hT ..)
      · exact cS_put hT ..
    · exact cS_r
  · rw [pl_no k1]
    exact cS_r
theorem kf_se53 (t li a b fo : Int32) : ∀ (n : Nat) (w : yW) (q : Int32), cS w (g_ST_select_53 t li a b fo n w q) := by
  intro n
  induction n with
  | zero => intro w q; exact cS_r
  | succ n ih =>
    intro w q
    rw [g_ST_select_53]
    cases zc .ge q 16
    · cases zc .eq (e_ST_hasBit fo q) 0
      · cases zc .gt a (e_Ta_amountOf (14 + 12 * t.toNatClampNeg) q w)
        · cases zc .gt (e_Ta_amountOf (14 + 12 * t.toNatClampNeg) q w) b
          · exact cS_t (cS_K rfl (kf_ST_addAnswer ..)) (ih _ _)
          · exact ih _ _
        · exact ih _ _
      · exact ih _ _
    · exact cS_r
theorem cS_wI {w : yW} {c j : Nat} {v : Int32} (h : c < 54) : cS w (wI w c j v) := ⟨fun d k a => wI_nc (by omega), trivial⟩
theorem cS_select (G : List zC) (t li a b : Int32) (w : yW) : cS w (e_ST_select G t li a b w).1 := by
  cases h1 : zc .eq (e_ST_isTable t) 0 with
  | true =>
    unfold e_ST_select
    rw [h1]
    exact cS_r
  | false =>
    cases h2 : yN (w.2.2 0 5) with
    | true =>
      unfold e_ST_select
      rw [h1, h2]
      exact cS_r
    | false =>
      cases h3 : zc .ge li 0 with
      | false =>
        unfold e_ST_select
        rw [h1, h2, h3]
        exact cS_r
      | true =>
        rw [sel_c h1 h2 h3 rfl rfl rfl rfl rfl]
        exact cS_t (cS_t (cS_t (cS_t (cS_K rfl (kf_ST_clearAnswers ..)) (cS_K rfl (kf_ST_searchReads ..))) (cS_wI (by omega))) (cS_K rfl (kf_ST_rowsFound ..))) (kf_se53 ..)
theorem kf_jo12 (G : List zC) (li : Int32) : ∀ (n : Nat) (w : yW) (q : Int32), cS w (g_ST_join_12 G li n w q) := by
  intro n
  induction n with
  | zero => intro w q; exact cS_r
  | succ n ih =>
    intro w q
    rw [g_ST_join_12]
    cases zc .ge q 16
    · cases yN (e_Ta_placeAt (14 + 12 * (0 : Int32).toNatClampNeg) q w)
      · exact cS_t (cS_t (cS_t (cS_t (cS_K rfl (kf_ST_searchReads ..)) (cS_wI (by omega))) (cS_K rfl (kf_ST_rowsFound ..))) (cS_K rfl (kf_ST_addPairs ..))) (ih _ _)
      · exact ih _ _
    · exact cS_r
theorem cS_join (G : List zC) (li : Int32) (w : yW) : cS w (e_ST_join G li w).1 := by
  unfold e_ST_join
  cases zc .ge li 0
  · exact cS_r
  · exact cS_t (cS_K rfl (kf_ST_clearAnswers ..)) (kf_jo12 ..)
theorem kf_od5 (G : List zC) (x c : Nat) : ∀ (n : Nat) (w : yW) (od q : Int32), cS w (g_ST_orderByDistance_5 G x c n w od q).1 := by
  intro n
  induction n with
  | zero => intro w od q; exact cS_r
  | succ n ih =>
    intro w od q
    rw [g_ST_orderByDistance_5]
    cases zc .ge q 16
    · cases yN (e_Ta_placeAt c q w)
      · refine cS_t (w' := wD w (38 + q.toNatClampNeg) (gD G x (yd (e_Ta_placeAt c q w)) (w.2.1 (38 + q.toNatClampNeg) 0, w.2.1 (38 + q.toNatClampNeg) 1))) ⟨fun _ _ _ => rfl, trivial⟩ (cS_t (cS_K rfl (kf_ST_putInOrder ..)) (ih _ _ _))
      · exact ih _ _ _
    · exact cS_r
theorem kf_ne49 (t ka od : Int32) : ∀ (n : Nat) (w : yW) (q : Int32), cS w (g_ST_nearest_49 t ka od n w q) := by
  intro n
  induction n with
  | zero => intro w q; exact cS_r
  | succ n ih =>
    intro w q
    rw [g_ST_nearest_49]
    cases zc .ge q ka
    · cases zc .ge q od
      · exact cS_t (cS_K rfl (kf_ST_addAnswer ..)) (ih _ _)
      · exact cS_r
    · exact cS_r
theorem cS_od (G : List zC) (x c : Nat) (w : yW) : cS w (e_ST_orderByDistance G x c w).1 := by
  unfold e_ST_orderByDistance
  exact kf_od5 ..
theorem cS_78 (G : List zC) (t ka od : Int32) (w : yW) : cS w (g_ST_nearest_78 G t ka od w) := by
  unfold g_ST_nearest_78
  cases zc .ge od ka
  · exact cS_wI (by omega)
  · exact cS_wI (by omega)
theorem cS_nearest (G : List zC) (t ka : Int32) (w : yW) : cS w (e_ST_nearest G t ka w).1 := by
  cases h1 : zc .eq (e_ST_isTable t) 0 with
  | true =>
    unfold e_ST_nearest
    rw [h1]
    exact cS_r
  | false =>
    cases h2 : yN (w.2.2 0 5) with
    | true =>
      unfold e_ST_nearest
      rw [h1, h2]
      exact cS_r
    | false =>
      cases h3 : zc .lt ka 1 with
      | true =>
        unfold e_ST_nearest
        rw [h1, h2, h3]
        exact cS_r
      | false =>
        cases h4 : zc .le ka 16 with
        | false =>
          unfold e_ST_nearest
          rw [h1, h2, h3, h4]
          exact cS_r
        | true =>
          rw [near_c h1 h2 h3 h4 rfl rfl rfl]
          exact cS_t (cS_t (cS_t (cS_K rfl (kf_ST_clearAnswers w)) (cS_od ..)) (kf_ne49 ..)) (cS_78 ..)
theorem cS_roll (G : List zC) (w : yW) : cS w (e_ST_rollback G w) := by
  rw [rb_eq]
  exact cS_t (cS_t (cS_t (cS_K rfl (kf_Ta_copy ..)) (cS_reb (by omega) ..)) (cS_K rfl (kf_Ta_copy ..))) (cS_reb (by omega) ..)
theorem cS_crash (G : List zC) (w : yW) : cS w (e_ST_crash G w) := by
  unfold e_ST_crash
  exact ⟨fun d j a => (cS_t (cS_t (cS_roll G w) (cS_K rfl (kf_Dr_clear ..))) (cS_K rfl (kf_ST_clearAnswers ..)) : cS w (e_ST_clearAnswers (e_Dr_clear (e_ST_rollback G w)))).1 d j a, trivial⟩
theorem cS_keep (w : yW) : cS w (e_ST_keepPresentTables w) := by
  rw [kp_eq]
  exact cS_t (cS_K rfl (kf_Ta_copy ..)) (cS_K rfl (kf_Ta_copy ..))
theorem cS_46 (G : List zC) (mo ch wr fn ws : Int32) (w : yW) : cS w (g_ST_commit_46 G mo ch wr fn ws w).1 := by
  unfold g_ST_commit_46
  cases zc .lt mo 0
  · cases zc .lt mo ws
    · exact cS_r
    · exact cS_r
  · exact cS_r
theorem cS_63 (G : List zC) (mo ch wr fn ws : Int32) (w : yW) (rs : Int32) : cS w (g_ST_commit_63 G mo ch wr fn ws w rs).1 := by
  unfold g_ST_commit_63
  cases zc .eq rs 0
  · exact cS_t (cS_K rfl (kf_Fr_switchTo ..)) (cS_keep _)
  · exact cS_r
theorem cS_81 (G : List zC) (mo ch wr fn ws : Int32) (w : yW) (rs : Int32) : cS w (g_ST_commit_81 G mo ch wr fn ws w rs).1 := by
  unfold g_ST_commit_81
  cases zc .lt mo 0
  · cases zc .gt mo ws
    · exact cS_crash ..
    · exact cS_r
  · exact cS_r
theorem cS_commit (G : List zC) (mo : Int32) (w : yW) : cS w (e_ST_commit G mo w).1 := by
  rw [cm_c (mo := mo) (w := w) (G := G) rfl rfl rfl rfl rfl rfl rfl]
  cases zc .ne (e_ST_changedPages G w) 0
  · exact cS_r
  · cases zc .le (e_Ig_bitCount (e_ST_changedPages G w &&& e_ST_pagesWithRows w) + 1) (e_Fr_countFree w)
    · exact cS_r
    · rw [cond_true, cond_true]
      cases zc .eq _ 0
      · exact cS_t (cS_t (cS_46 ..) (cS_63 ..)) (cS_81 ..)
      · exact cS_t (cS_t (cS_46 ..) (cS_63 ..)) (cS_81 ..)
theorem cS_yM {w w' : yW} {G : List zC} (h : INV w G) (c : cS w w') : yM w' := yM_i (fun d j hd => c.1 d j (by omega)) (iM_yM h)
theorem cS_yMm {w w' : yW} {G : List zC} (h : INV w G) (c : cS w w') : yMm w' := fun s hs => (cS_yM h c s hs).2.1
theorem iyI {w : yW} {G : List zC} (h : INV w G) (t : Int32) (ht : zIx t 2) : yIn w (20 + 12 * t.toNatClampNeg) := by
  have e : t.toNatClampNeg < 2 := by
    have : (t.toNatClampNeg : Int) = t.toInt := by
      show ((t.toInt.toNat : Nat) : Int) = t.toInt
      have := ht.1
      omega
    have := ht.2
    omega
  exact (h.2.2.2.2.2.2.2.2.1 _ e).1
/-- a turn of the law: the class's call, then the reference's, with the same answer -/
def zTn (a b : Nat) (as : List Value) (w : yW) (G : List zC) (sz : Nat) : Prop := ∃ (v : Int32) (w1 : yW) (G1 : List zC) (s1 : Nat) (w2 : yW), zAns 9 420 a (.ref 0 :: as) (yhp w G sz) (some (.int v), yhp w1 G1 s1) ∧ zAns 9 420 b (.ref 54 :: as) (yhp w1 G1 s1) (some (.int v), yhp w2 G1 s1) ∧ INV w2 G1 ∧ G1.length ≤ G.length + 4 ∧ s1 ≤ sz + 20
def zTv (a b : Nat) (w : yW) (G : List zC) (sz : Nat) : Prop := ∃ (w1 w2 : yW), zAns 9 420 a [.ref 0] (yhp w G sz) (none, yhp w1 G sz) ∧ zAns 9 420 b [.ref 54] (yhp w1 G sz) (none, yhp w2 G sz) ∧ INV w2 G
theorem zTn_of {a b : Nat} {as : List Value} {w w1 w2 : yW} {G : List zC} {sz : Nat} {v1 v2 : Int32} (h1 : zAns 9 420 a (.ref 0 :: as) (yhp w G sz) (some (.int v1), yhp w1 G sz)) (h2 : zAns 9 420 b (.ref 54 :: as) (yhp w1 G sz) (some (.int v2), yhp w2 G sz)) (e : v1 = v2 ∧ INV w2 G) : zTn a b as w G sz := by
  obtain ⟨rfl, hi⟩ := e
  exact ⟨v1, w1, G, sz, w2, h1, h2, hi, by omega, by omega⟩
section OPS
variable {w : yW} {G : List zC} {sz : Nat}
theorem op_vertex (h : INV w G) (x y : Int32) : zTn 7 98 [.int x, .int y] w G sz :=
  zTn_of (r_ST_vertex (fr := 6) x y w (by rw [h.1.1]; exact h.1.2.1.1) (by decide)) (r_Mo_vertex (fr := 8) x y _ (by rw [yKi (kf_ST_vertex x y w) rfl]; exact h.1.2.1.1) (by decide)) (sim_vertex h x y)
theorem op_insert (h : INV w G) (t v : Int32) : zTn 29 108 [.int t, .int v] w G sz :=
  zTn_of (r_ST_insert (fr := 5) G t v w (iyI h t) h.2.2.2.2.2.2.2.2.2 (by decide)) (r_Mo_insert (fr := 6) t v _ (cS_yM h (cS_insert G t v w)) (fun h0 h1 hs => free_n h (funext fun j => (cS_insert G t v w).1 55 j (by decide)) t h0 h1 hs) (by decide)) (sim_insert h t v)
theorem op_delete (h : INV w G) (t q : Int32) : zTn 39 112 [.int t, .int q] w G sz :=
  zTn_of (r_ST_delete (fr := 4) G t q w (iyI h t) h.2.2.2.2.2.2.2.2.2 (by decide)) (r_Mo_delete (fr := 6) t q _ (by decide)) (sim_delete h t q)
theorem op_update (h : INV w G) (t q v mv : Int32) : zTn 43 114 [.int t, .int q, .int v, .int mv] w G sz :=
  zTn_of (r_ST_update (fr := 4) G t q v mv w (iyI h t) h.2.2.2.2.2.2.2.2.2 (by decide)) (r_Mo_update (fr := 6) t q v mv _ (cS_yM h (cS_update G t q v mv w)) (by decide)) (sim_update h t q v mv)
theorem op_select (h : INV w G) (t li a b : Int32) : zTn 44 115 [.int t, .int li, .int a, .int b] w G sz :=
  zTn_of (r_ST_select (fr := 2) G t li a b w (iyI h t) h.2.2.2.2.2.2.2.2.2 (by decide)) (r_Mo_select (fr := 1) t li a b _ (cS_yM h (cS_select G t li a b w)) (by decide)) (sim_select h t li a b)
theorem op_nearest (h : INV w G) (t ka : Int32) : zTn 67 135 [.int t, .int ka] w G sz :=
  zTn_of (r_ST_nearest (fr := 2) G t ka w (iyI h t) h.2.2.2.2.2.2.2.2.2 h.2.2.2.2.2.2.2.1 (by decide)) (r_Mo_nearest (fr := 2) t ka _ (cS_yM h (cS_nearest G t ka w)) (sim_nearest h t ka).2 (by decide)) (sim_nearest h t ka).1
theorem op_join (h : INV w G) (li : Int32) : zTn 72 137 [.int li] w G sz :=
  zTn_of (r_ST_join (fr := 2) G li w h.2.2.2.2.2.2.2.2.2 (h.2.2.2.2.2.2.2.2.1 1 (by decide)).1 (by decide)) (r_Mo_join (fr := 1) li _ (cS_yM h (cS_join G li w)) (by decide)) (sim_join h li)
theorem op_result (h : INV w G) (x : Int32) : zTn 74 138 [.int x] w G sz :=
  zTn_of (r_ST_result (fr := 8) x w (by rw [h.2.2.2.2.2.1.1]; exact h.2.2.2.2.2.1.2.1.2) (by decide)) (r_Mo_result (fr := 8) x w h.2.2.2.2.2.1.2.1.2 (by decide)) ⟨sim_result h x, h⟩
theorem op_reads (h : INV w G) : zTn 75 139 [] w G sz :=
  zTn_of (r_ST_reads (fr := 8) w (by decide)) (r_Mo_reads (fr := 8) w (by decide)) ⟨sim_reads h, h⟩
theorem op_measure (h : INV w G) (t q : Int32) : zTn 76 140 [.int t, .int q] w G sz :=
  zTn_of (r_ST_measure (fr := 3) G t q w h.2.2.2.2.2.2.2.2.2 (by decide)) (r_Mo_measure (fr := 2) t q _ (cS_yM h (cS_K rfl (kf_ST_measure G t q w))) (fun u _ _ => mo_nz foc u _) (by decide)) (sim_measure h t q)
theorem op_value (h : INV w G) (t q : Int32) : zTn 78 141 [.int t, .int q] w G sz :=
  zTn_of (r_ST_value (fr := 6) t q w (by decide)) (r_Mo_value (fr := 6) t q w (by decide)) ⟨sim_value h t q, h⟩
theorem op_rows (h : INV w G) (t : Int32) : zTn 79 142 [.int t] w G sz :=
  zTn_of (r_ST_rows (fr := 7) t w (by decide)) (r_Mo_rows (fr := 7) t w (by decide)) ⟨sim_rows h t, h⟩
theorem op_nodes (h : INV w G) (t : Int32) : zTn 80 143 [.int t] w G sz :=
  zTn_of (r_ST_nodes (fr := 7) t w (by decide)) (r_Mo_nodes (fr := 4) t w (iM_yM h) (by decide)) (sim_nodes h t)
theorem op_commit (h : INV w G) (mo : Int32) : zTn 81 144 [.int mo] w G sz :=
  zTn_of (r_ST_commit (fr := 2) G mo w h.2.2.2.2.2.2.2.2.2 (iyI h) (by decide)) (r_Mo_commit (fr := 3) mo _ (cS_yMm h (cS_commit G mo w)) (by decide)) (sim_commit h mo)
theorem op_frame (h : INV w G) (x : Int32) : zTn 95 153 [.int x] w G sz :=
  zTn_of (r_ST_frame (fr := 7) x w (by decide)) (r_Mo_frame (fr := 8) x w (by decide)) ⟨sim_frame h x, h⟩
theorem op_rollback (h : INV w G) : zTv 94 151 w G sz :=
  ⟨_, _, r_ST_rollback (fr := 4) G w h.2.2.2.2.2.2.2.2.2 (iyI h) (by decide), r_Mo_rollback (fr := 5) _ (cS_yMm h (cS_roll G w)) (by decide), sim_rollback h⟩
theorem op_crash (h : INV w G) : zTv 93 150 w G sz :=
  ⟨_, _, r_ST_crash (fr := 3) G w h.2.2.2.2.2.2.2.2.2 (iyI h) (by decide), r_Mo_crash (fr := 4) _ (cS_yMm h (cS_crash G w)) (by decide), sim_crash h⟩
theorem op_shape (h : INV w G) (kd : Int32) : zTn 10 99 [.int kd] w G sz := by
  cases h1 : zc .lt kd 0 with
  | true =>
    have e := sim_shape_a h kd (Or.inl h1)
    refine zTn_of (r_ST_shape_a (fr := 2) kd w h1 (by decide)) (r_Mo_shape (fr := 4) kd w h.1.2.1.1 h.1.2.1.2 (by decide)) ?_
    rw [e]
    exact ⟨rfl, h⟩
  | false =>
    cases h2 : zc .le kd 2 with
    | false =>
      have e := sim_shape_a h kd (Or.inr ⟨h1, h2⟩)
      refine zTn_of (r_ST_shape_b (fr := 2) kd w h1 h2 (by decide)) (r_Mo_shape (fr := 4) kd w h.1.2.1.1 h.1.2.1.2 (by decide)) ?_
      rw [e]
      exact ⟨rfl, h⟩
    | true =>
      cases h3 : zc .ne (e_Dr_hasCountFor kd w) 0 with
      | false =>
        have e := sim_shape_c h kd h1 h2 h3
        exact zTn_of (r_ST_shape_c (fr := 2) kd w h1 h2 h3 (by decide)) (r_Mo_shape (fr := 4) kd (e_Dr_clear w) (by rw [yKi (kf_Dr_clear w) rfl]; exact h.1.2.1.1) (by rw [yKi (kf_Dr_clear w) rfl]; exact h.1.2.1.2) (by decide)) ⟨e.1.symm, e.2⟩
      | true =>
        obtain ⟨k, hk, hs, hx, e1, e2⟩ := sim_shape_d h kd h1 h2 h3
        have f10 : (g_ST_shape_40 (G ++ dCells w k (72 + G.length) kd) kd (72 + G.length) w).1.1 54 10 = w.1 54 10 := by
          have kk : (e_Dr_clear w).1 54 10 = w.1 54 10 := yKi (kf_Dr_clear w) rfl
          unfold g_ST_shape_40
          cases zc .ne (f_Ge_fault (gX (G ++ dCells w k (72 + G.length) kd) (72 + G.length)) (gY (G ++ dCells w k (72 + G.length) kd) (72 + G.length)) (gK (G ++ dCells w k (72 + G.length) kd) (72 + G.length))) 0
          · exact kk
          · exact kk
        refine ⟨_, _, _, _, _, r_ST_shape_d (fr := 2) kd w (72 + G.length) k rfl hk hs hx h1 h2 h3 (by decide), ?_, e2, ?_, by omega⟩
        · rw [e1]
          exact r_Mo_shape (fr := 4) kd _ (by rw [f10]; exact h.1.2.1.1) (by rw [f10]; exact h.1.2.1.2) (by decide)
        · rw [List.length_append]
          exact Nat.le_refl _
end OPS
