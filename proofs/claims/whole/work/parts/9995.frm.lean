-- commit: frames
def uF (w : yW) (f : Nat) : Bool := anF (fun p => decide (w.1 70 p = Int32.ofNat f)) 9 0
theorem cl_16 (U : Nat → Bool) : ∀ n, cntM U n + lfC U n = n
  | 0 => rfl
  | n + 1 => by
    rw [cntM_succ, lfC_succ]
    have := cl_16 U n
    cases U n with
    | false => rw [if_neg (by decide), if_neg (by decide)]; omega
    | true => rw [if_pos rfl, if_pos rfl]; omega
theorem anF_end (f : Nat → Bool) (n i : Nat) : anF f (n + 1) i = (anF f n i || f (i + n)) := by
  apply Bool.eq_iff_iff.mpr
  rw [Bool.or_eq_true, anF_iff, anF_iff]
  constructor
  · rintro ⟨j, h1, h2, h3⟩
    by_cases e : j = i + n
    · rw [← e]; exact Or.inr h3
    · exact Or.inl ⟨j, h1, by omega, h3⟩
  · rintro (⟨j, h1, h2, h3⟩ | h)
    · exact ⟨j, h1, by omega, h3⟩
    · exact ⟨i + n, by omega, by omega, h⟩
theorem mkM_cg {f g : Nat → Bool} : ∀ {n : Nat}, (∀ i, i < n → f i = g i) → mkM f n = mkM g n
  | 0, _ => rfl
  | n + 1, h => by
    rw [mkM, mkM, mkM_cg (fun i hi => h i (by omega)), h n (by omega)]
theorem mkM_or1 {f : Nat → Bool} {V : Nat} (hV : V < 16) : mkM (fun g => f g || g == V) 16 = mkM f 16 ||| 2 ^ V := by
  apply Nat.eq_of_testBit_eq
  intro i
  rw [Nat.testBit_or, mkM_tb, mkM_tb, Nat.testBit_two_pow]
  by_cases e : V = i
  · subst e
    rw [decide_eq_true rfl, decide_eq_true hV, beq_self_eq_true, Bool.or_true, Bool.or_true, Bool.true_and]
  · rw [decide_eq_false e, show (i == V) = false from beq_eq_false_iff_ne.mpr (fun h => e h.symm), Bool.or_false, Bool.or_false]
theorem nn1 {f : Nat} (hf : f < 16) : ¬ (-1 : Int32) = Int32.ofNat f := fun h => by
  have := congrArg Int32.toInt h
  rw [z_nat (by omega), show (-1 : Int32).toInt = -1 from rfl] at this
  omega
theorem nnE {f g : Nat} (hf : f < 2147483648) (hg : g < 2147483648) : Int32.ofNat f = Int32.ofNat g ↔ f = g := ⟨fun h => by
  have := congrArg Int32.toInt h
  rw [z_nat hf, z_nat hg] at this
  omega, fun h => by rw [h]⟩
theorem tk_L {w : yW} (hr : iFr w) : ∀ (f p : Nat), p ≤ 9 → 9 < p + f → g_Fr_takenFrames_13 w f (Int32.ofNat (mkM (fun g => anF (fun q => decide (w.1 70 q = Int32.ofNat g)) p 0) 16)) (Int32.ofNat p) = Int32.ofNat (mkM (uF w) 16)
  | 0, p, h1, h2 => by omega
  | f + 1, p, h1, h2 => by
    rw [g_Fr_takenFrames_13, zc_ge, z_nat (show p < 2147483648 by omega), z_nat (show 9 < 2147483648 by omega)]
    by_cases e : p = 9
    · rw [decide_eq_true (by omega), cond_true, e]
      rfl
    · rw [decide_eq_false (by omega), cond_false, n_clamp (by omega), (hr.1 p (by omega)).1, n_inc2]
      have ih := tk_L hr f (p + 1) (by omega) (by omega)
      rcases (hr.1 p (by omega)).2 with hv | hv
      · rw [hv, show zc .eq (-1) (-1) = true from rfl, cond_true, show (0 : Int32) = Int32.ofNat 0 from rfl, mk_or, Nat.or_zero]
        rw [mkM_cg (g := fun g => anF (fun q => decide (w.1 70 q = Int32.ofNat g)) p 0) (fun i hi => by
          show anF _ (p + 1) 0 = _
          rw [anF_end, Nat.zero_add, hv, decide_eq_false (nn1 hi), Bool.or_false])] at ih
        exact ih
      · have eV : w.1 70 p = Int32.ofNat (w.1 70 p).toInt.toNat := z_ofn hv.1
        have hV : (w.1 70 p).toInt.toNat < 16 := by omega
        generalize (w.1 70 p).toInt.toNat = V at eV hV
        rw [eV, zcE, decide_eq_false (fun h => nn1 hV h.symm), cond_false, mk_1 ⟨V, hV⟩, mk_or]
        have em : mkM (fun g => anF (fun q => decide (w.1 70 q = Int32.ofNat g)) (p + 1) 0) 16 = mkM (fun g => anF (fun q => decide (w.1 70 q = Int32.ofNat g)) p 0) 16 ||| 2 ^ V := by
          rw [← mkM_or1 hV]
          apply mkM_cg
          intro i hi
          rw [anF_end, Nat.zero_add, eV]
          congr 1
          apply Bool.eq_iff_iff.mpr
          rw [decide_eq_true_iff, nnE (by omega) (by omega), beq_iff_eq]
          exact eq_comm
        rw [em] at ih
        exact ih
theorem free_c {w : yW} (hr : iFr w) : e_Fr_takenFrames w = Int32.ofNat (mkM (uF w) 16) ∧ e_Fr_countFree w = Int32.ofNat (lfC (uF w) 16) := by
  have k : e_Fr_takenFrames w = Int32.ofNat (mkM (uF w) 16) := by
    have k := tk_L hr 10 0 (by omega) (by omega)
    rw [(mkM_0 (fun g => anF (fun q => decide (w.1 70 q = Int32.ofNat g)) 0 0) 16).mpr (List.countP_eq_zero.mpr (fun a _ h => by cases h))] at k
    exact k
  refine ⟨k, ?_⟩
  unfold e_Fr_countFree
  have hc := cl_16 (uF w) 16
  rw [k, bits_n, show (16 : Int32) = Int32.ofNat 16 from rfl, mk_sub (by omega), show 16 - cntM (uF w) 16 = lfC (uF w) 16 by omega]
def uS (U W : Nat → Bool) : Nat → Nat → Bool
  | 0 => U
  | k + 1 => if W k then (fun f => uS U W k f || f == lfr (uS U W k) 16 0) else uS U W k
theorem uS_cnt {U W : Nat → Bool} : ∀ k, cntM W k ≤ lfC U 16 → lfC (uS U W k) 16 + cntM W k = lfC U 16
  | 0, _ => rfl
  | k + 1, h => by
    rw [cntM_succ] at h ⊢
    rw [uS]
    cases hW : W k with
    | false =>
      rw [hW, if_neg (by decide)] at h
      rw [if_neg (by decide), if_neg (by decide)]
      exact uS_cnt k h
    | true =>
      rw [hW, if_pos rfl] at h
      rw [if_pos rfl, if_pos rfl]
      have ih := uS_cnt (U := U) (W := W) k (by omega)
      have hl : lfr (uS U W k) 16 0 < 16 := lf_lt.mpr (by omega)
      have := lf_up (V := fun f => uS U W k f || f == lfr (uS U W k) 16 0) hl (fun f => rfl)
      omega
theorem uS_lt {U W : Nat → Bool} {k : Nat} (hW : W k = true) (h : cntM W (k + 1) ≤ lfC U 16) : lfr (uS U W k) 16 0 < 16 := by
  rw [cntM_succ, hW, if_pos rfl] at h
  have := uS_cnt (U := U) (W := W) k (by omega)
  exact lf_lt.mpr (by omega)
theorem cntM_mono (W : Nat → Bool) {a : Nat} : ∀ {b : Nat}, a ≤ b → cntM W a ≤ cntM W b
  | 0, h => by rw [show a = 0 by omega]; exact Nat.le_refl _
  | b + 1, h => by
    by_cases e : a = b + 1
    · rw [e]; exact Nat.le_refl _
    · have := cntM_mono W (a := a) (b := b) (by omega)
      rw [cntM_succ]
      omega
theorem lfF_L {V : Nat → Bool} : ∀ (n f : Nat), f ≤ 15 → 15 < f + n → g_Fr_leastFree_2 (Int32.ofNat (mkM V 16)) n (Int32.ofNat f) = Int32.ofNat (lfr V (15 - f) f)
  | 0, f, h1, h2 => by omega
  | n + 1, f, h1, h2 => by
    rw [g_Fr_leastFree_2, zc_ge, z_nat (by omega), show (15 : Int32).toInt = 15 from rfl]
    by_cases e : f = 15
    · rw [decide_eq_true (by omega), cond_true, e]
      rfl
    · rw [decide_eq_false (by omega), cond_false, hb_n (by omega), b2_eq, n_inc2, lfF_L n (f + 1) (by omega) (by omega), show 15 - f = (15 - (f + 1)) + 1 by omega, lfr]
      cases V f <;> rfl
theorem lfF_n {V : Nat → Bool} (h : lfr V 16 0 < 16) : e_Fr_leastFree (Int32.ofNat (mkM V 16)) = Int32.ofNat (lfr V 16 0) := by
  unfold e_Fr_leastFree
  rw [← lfr_15 h]
  exact lfF_L 16 0 (by omega) (by omega)
/-- the frame of a page after a commit -/
def nFr (U W C : Nat → Bool) (w : yW) (p : Nat) : Int32 := if W p then Int32.ofNat (lfr (uS U W p) 16 0) else if C p then -1 else w.1 70 p
theorem sw_L {w : yW} {U W C V : Nat → Bool} (hr : iFr w) (hV : ∀ p, p < 8 → V p = W p) (hf : cntM W 9 ≤ lfC U 16) : ∀ (f p : Nat) (w1 : yW), p ≤ 8 → 8 < p + f → (∀ q, q < p → w1.1 5 q = nFr U W C w q) → (∀ q, p ≤ q → w1.1 5 q = w.1 5 q) →
    (g_Fr_switchTo_8 (Int32.ofNat (mkM C 16)) (Int32.ofNat (mkM V 16)) f w1 (Int32.ofNat (mkM (uS U W p) 16)) (Int32.ofNat p)).2 = Int32.ofNat (mkM (uS U W 8) 16) ∧ (∀ q, q < 8 → (g_Fr_switchTo_8 (Int32.ofNat (mkM C 16)) (Int32.ofNat (mkM V 16)) f w1 (Int32.ofNat (mkM (uS U W p) 16)) (Int32.ofNat p)).1.1 5 q = nFr U W C w q) ∧ (∀ d j, d ≠ 5 → (g_Fr_switchTo_8 (Int32.ofNat (mkM C 16)) (Int32.ofNat (mkM V 16)) f w1 (Int32.ofNat (mkM (uS U W p) 16)) (Int32.ofNat p)).1.1 d j = w1.1 d j) ∧ (g_Fr_switchTo_8 (Int32.ofNat (mkM C 16)) (Int32.ofNat (mkM V 16)) f w1 (Int32.ofNat (mkM (uS U W p) 16)) (Int32.ofNat p)).1.2 = w1.2
  | 0, p, w1, h1, h2, _, _ => by omega
  | f + 1, p, w1, h1, h2, ha, hb => by
    rw [g_Fr_switchTo_8, zc_ge, z_nat (by omega), show (8 : Int32).toInt = 8 from rfl]
    by_cases e : p = 8
    · rw [decide_eq_true (by omega), cond_true]
      rw [e] at ha
      rw [e]
      exact ⟨rfl, ha, fun _ _ _ => rfl, rfl⟩
    · rw [decide_eq_false (by omega), cond_false, hb_n (by omega), hb_n (by omega), b2_eq, b2_eq, n_clamp (show p < 2147483648 by omega), n_inc2, hV p (by omega), wI_self]
      have hu : W p = false → uS U W (p + 1) = uS U W p := fun hW => by rw [uS, hW, if_neg (by decide)]
      cases hW : W p with
      | false =>
        rw [Bool.not_false, cond_true]
        cases hC : C p with
        | false =>
          rw [Bool.not_false, cond_true]
          have hv : nFr U W C w p = w.1 5 p := by
            unfold nFr
            rw [hW, hC, if_neg (by decide), if_neg (by decide)]
            exact (hr.1 p (by omega)).1.symm
          have ih := sw_L (C := C) hr hV hf f (p + 1) w1 (by omega) (by omega) (fun q hq => by
            by_cases eq : q = p
            · rw [eq, hv]
              exact hb p (Nat.le_refl _)
            · exact ha q (by omega)) (fun q hq => hb q (by omega))
          rw [hu hW] at ih
          exact ih
        | true =>
          rw [Bool.not_true, cond_false]
          have hv : nFr U W C w p = -1 := by
            unfold nFr
            rw [hW, hC, if_neg (by decide), if_pos rfl]
          have ih := sw_L (C := C) hr hV hf f (p + 1) (wI w1 5 p (-1)) (by omega) (by omega) (fun q hq => by
            by_cases eq : q = p
            · rw [eq, wI_self, hv]
            · rw [wI_nc (by omega)]
              exact ha q (by omega)) (fun q hq => by
            rw [wI_nc (by omega)]
            exact hb q (by omega))
          rw [hu hW] at ih
          exact ⟨ih.1, ih.2.1, fun d j hd => (ih.2.2.1 d j hd).trans (wI_nc (by omega)), ih.2.2.2⟩
      | true =>
        rw [Bool.not_true, cond_false]
        have hl := uS_lt (U := U) hW (Nat.le_trans (cntM_mono W (show p + 1 ≤ 9 by omega)) hf)
        rw [lfF_n hl, mk_1 ⟨_, hl⟩, mk_or, ← mkM_or1 hl]
        have hus : uS U W (p + 1) = fun g => uS U W p g || g == lfr (uS U W p) 16 0 := by rw [uS, hW, if_pos rfl]
        have ih := sw_L (C := C) hr hV hf f (p + 1) (wI w1 5 p (Int32.ofNat (lfr (uS U W p) 16 0))) (by omega) (by omega) (fun q hq => by
          by_cases eq : q = p
          · rw [eq, wI_self]
            unfold nFr
            rw [hW, if_pos rfl]
          · rw [wI_nc (by omega)]
            exact ha q (by omega)) (fun q hq => by
          rw [wI_nc (by omega)]
          exact hb q (by omega))
        rw [hus] at ih
        exact ⟨ih.1, ih.2.1, fun d j hd => (ih.2.2.1 d j hd).trans (wI_nc (by omega)), ih.2.2.2⟩
theorem sw_n {w : yW} {W C V : Nat → Bool} (hr : iFr w) (hV : ∀ p, p < 8 → V p = W p) (h8 : W 8 = true) (hf : cntM W 9 ≤ lfC (uF w) 16) : (∀ q, q < 9 → (e_Fr_switchTo (Int32.ofNat (mkM C 16)) (Int32.ofNat (mkM V 16)) w).1 5 q = nFr (uF w) W C w q) ∧ (∀ d j, d ≠ 5 → (e_Fr_switchTo (Int32.ofNat (mkM C 16)) (Int32.ofNat (mkM V 16)) w).1 d j = w.1 d j) ∧ (e_Fr_switchTo (Int32.ofNat (mkM C 16)) (Int32.ofNat (mkM V 16)) w).2 = w.2 := by
  have k := sw_L (U := uF w) (C := C) hr hV hf 9 0 w (by omega) (by omega) (fun q hq => absurd hq (Nat.not_lt_zero _)) (fun _ _ => rfl)
  rw [show uS (uF w) W 0 = uF w from rfl, ← (free_c hr).1, show Int32.ofNat 0 = 0 from rfl] at k
  unfold e_Fr_switchTo
  generalize g_Fr_switchTo_8 (Int32.ofNat (mkM C 16)) (Int32.ofNat (mkM V 16)) 9 w (e_Fr_takenFrames w) 0 = Z at k
  rw [k.1, lfF_n (uS_lt h8 hf), show (8 : Int32).toNatClampNeg = 8 from rfl]
  refine ⟨fun q hq => ?_, fun d j hd => (wI_nc (by omega)).trans (k.2.2.1 d j hd), k.2.2.2⟩
  by_cases e : q = 8
  · rw [e, wI_self]
    unfold nFr
    rw [h8, if_pos rfl]
  · rw [wI_nc (by omega)]
    exact k.2.1 q (by omega)
theorem isF_L {w1 : yW} {f : Nat} : ∀ (n p : Nat), p ≤ 9 → 9 < p + n → g_Mo_isFree_2 (Int32.ofNat f) w1 n (Int32.ofNat p) = b2 (!anF (fun q => decide (w1.1 70 q = Int32.ofNat f) || decide (w1.1 71 q = Int32.ofNat f)) (9 - p) p)
  | 0, p, h1, h2 => by omega
  | n + 1, p, h1, h2 => by
    rw [g_Mo_isFree_2, zc_ge, z_nat (by omega), show (9 : Int32).toInt = 9 from rfl]
    by_cases e : p = 9
    · rw [decide_eq_true (by omega), cond_true, e]
      rfl
    · rw [decide_eq_false (by omega), cond_false, n_clamp (by omega), zcE, zcN, n_inc2, isF_L n (p + 1) (by omega) (by omega), show 9 - p = (9 - (p + 1)) + 1 by omega, anF]
      cases decide (w1.1 70 p = Int32.ofNat f) <;> cases decide (w1.1 71 p = Int32.ofNat f) <;> rfl
theorem wrt_L {w1 : yW} {V : Nat → Bool} {p : Int32} (hV : ∀ f, f < 16 → V f = anF (fun q => decide (w1.1 70 q = Int32.ofNat f) || decide (w1.1 71 q = Int32.ofNat f)) 9 0) : ∀ (n f : Nat), f ≤ 16 → 16 < f + n → g_Mo_write_2 p n w1 (Int32.ofNat f) = (w1, Int32.ofNat (lfr V (16 - f) f))
  | 0, f, h1, h2 => by omega
  | n + 1, f, h1, h2 => by
    rw [g_Mo_write_2, zc_ge, z_nat (by omega), show (16 : Int32).toInt = 16 from rfl]
    by_cases e : f = 16
    · rw [decide_eq_true (by omega), cond_true, e]
      rfl
    · have k : e_Mo_isFree (Int32.ofNat f) w1 = b2 (!V f) := by
        rw [hV f (by omega)]
        exact isF_L 10 0 (by omega) (by omega)
      rw [decide_eq_false (by omega), cond_false, k, b2_ne, n_inc2, wrt_L hV n (f + 1) (by omega) (by omega), show 16 - f = (16 - (f + 1)) + 1 by omega, lfr]
      cases V f <;> rfl
theorem wrt_n {w1 : yW} {V : Nat → Bool} {p : Nat} (hp : p < 9) (hV : ∀ f, f < 16 → V f = anF (fun q => decide (w1.1 70 q = Int32.ofNat f) || decide (w1.1 71 q = Int32.ofNat f)) 9 0) : e_Mo_write (Int32.ofNat p) w1 = (wI w1 71 p (Int32.ofNat (lfr V 16 0)), b2 (decide (lfr V 16 0 < 16))) := by
  have k := wrt_L (p := Int32.ofNat p) hV 17 0 (by omega) (by omega)
  have k : g_Mo_write_2 (Int32.ofNat p) 17 w1 0 = (w1, Int32.ofNat (lfr V 16 0)) := k
  have hle := (@lfr_all V 16 0).2.1
  unfold e_Mo_write
  rw [k, n_clamp (show p < 2147483648 by omega)]
  show (bif zc .ge (Int32.ofNat (lfr V 16 0)) 16 then (wI w1 71 p (Int32.ofNat (lfr V 16 0)), 0) else (wI w1 71 p (Int32.ofNat (lfr V 16 0)), 1)) = _
  rw [zc_ge, z_nat (by omega), show (16 : Int32).toInt = 16 from rfl]
  by_cases c : lfr V 16 0 < 16
  · rw [decide_eq_true c, decide_eq_false (by omega)]
    rfl
  · rw [decide_eq_false c, decide_eq_true (by omega)]
    rfl
def RIx (w1 : yW) (U W : Nat → Bool) (k : Nat) : Prop := (∀ f, f < 16 → uS U W k f = anF (fun q => decide (w1.1 70 q = Int32.ofNat f) || decide (w1.1 71 q = Int32.ofNat f)) 9 0) ∧ ∀ p, p < 9 → w1.1 71 p = if p < k ∧ W p = true then Int32.ofNat (lfr (uS U W p) 16 0) else -1
theorem skp {w1 : yW} {U W : Nat → Bool} {k : Nat} (hW : W k = false) (h : RIx w1 U W k) : RIx w1 U W (k + 1) := by
  refine ⟨fun f hf => ?_, fun p hp => ?_⟩
  · rw [uS, hW, if_neg (by decide)]
    exact h.1 f hf
  · rw [h.2 p hp]
    by_cases c : p < k ∧ W p = true
    · rw [if_pos c, if_pos ⟨by omega, c.2⟩]
    · rw [if_neg c, if_neg (fun c2 => c ⟨by
        by_cases e : p = k
        · rw [e, hW] at c2
          cases c2.2
        · omega, c2.2⟩)]
theorem wst {w1 : yW} {U W : Nat → Bool} {k : Nat} (hk : k < 9) (hW : W k = true) (hc : cntM W k ≤ lfC U 16) (h : RIx w1 U W k) : e_Mo_write (Int32.ofNat k) w1 = (wI w1 71 k (Int32.ofNat (lfr (uS U W k) 16 0)), b2 (decide (cntM W (k + 1) ≤ lfC U 16))) ∧ (cntM W (k + 1) ≤ lfC U 16 → RIx (wI w1 71 k (Int32.ofNat (lfr (uS U W k) 16 0))) U W (k + 1)) := by
  have hcn := uS_cnt (U := U) (W := W) k hc
  refine ⟨?_, fun hc1 => ?_⟩
  · rw [wrt_n hk h.1]
    congr 2
    apply decide_eq_decide.mpr
    rw [lf_lt, cntM_succ, hW, if_pos rfl]
    omega
  · have hl := uS_lt hW hc1
    have o71 : w1.1 71 k = -1 := by
      rw [h.2 k hk, if_neg (by omega)]
    refine ⟨fun f hf => ?_, fun p hp => ?_⟩
    · rw [uS, hW, if_pos rfl]
      show (uS U W k f || f == lfr (uS U W k) 16 0) = _
      rw [h.1 f hf]
      generalize lfr (uS U W k) 16 0 = a at hl
      apply Bool.eq_iff_iff.mpr
      rw [Bool.or_eq_true, anF_iff, anF_iff, beq_iff_eq]
      constructor
      · rintro (⟨q, q1, q2, q3⟩ | e)
        · refine ⟨q, q1, q2, ?_⟩
          rw [Bool.or_eq_true, decide_eq_true_iff, decide_eq_true_iff] at q3 ⊢
          rw [wI_nc (by omega)]
          rcases q3 with q3 | q3
          · exact Or.inl q3
          · right
            by_cases eq : q = k
            · rw [eq, o71] at q3
              exact absurd q3 (nn1 hf)
            · rw [wI_nc (by omega)]
              exact q3
        · refine ⟨k, by omega, by omega, ?_⟩
          rw [Bool.or_eq_true, decide_eq_true_iff, decide_eq_true_iff, wI_self, e]
          exact Or.inr rfl
      · rintro ⟨q, q1, q2, q3⟩
        rw [Bool.or_eq_true, decide_eq_true_iff, decide_eq_true_iff, wI_nc (by omega)] at q3
        by_cases eq : q = k
        · rcases q3 with q3 | q3
          · left
            refine ⟨q, q1, q2, ?_⟩
            rw [Bool.or_eq_true, decide_eq_true_iff]
            exact Or.inl q3
          · rw [eq, wI_self, nnE (by omega) (by omega)] at q3
            exact Or.inr q3.symm
        · rw [wI_nc (by omega)] at q3
          left
          refine ⟨q, q1, q2, ?_⟩
          rw [Bool.or_eq_true, decide_eq_true_iff, decide_eq_true_iff]
          exact q3
    · by_cases e : p = k
      · rw [e, wI_self, if_pos ⟨by omega, hW⟩]
      · rw [wI_nc (by omega), h.2 p hp]
        by_cases c : p < k ∧ W p = true
        · rw [if_pos c, if_pos ⟨by omega, c.2⟩]
        · rw [if_neg c, if_neg (fun c2 => c ⟨by omega, c2.2⟩)]
theorem c10_L {mo : Int32} : ∀ (n p : Nat) (w : yW), p ≤ 9 → 9 < p + n → (∀ q, q < p → w.1 71 q = -1) → (∀ q, q < 9 → (g_Mo_commit_10 mo n w (Int32.ofNat p)).1 71 q = -1) ∧ (∀ d j, d ≠ 71 → (g_Mo_commit_10 mo n w (Int32.ofNat p)).1 d j = w.1 d j) ∧ (g_Mo_commit_10 mo n w (Int32.ofNat p)).2 = w.2
  | 0, p, w, h1, h2, _ => by omega
  | n + 1, p, w, h1, h2, ha => by
    rw [g_Mo_commit_10, zc_ge, z_nat (by omega), show (9 : Int32).toInt = 9 from rfl]
    by_cases e : p = 9
    · rw [decide_eq_true (by omega), cond_true]
      rw [e] at ha
      exact ⟨ha, fun _ _ _ => rfl, rfl⟩
    · rw [decide_eq_false (by omega), cond_false, n_clamp (by omega), n_inc2]
      have ih := c10_L (mo := mo) n (p + 1) (wI w 71 p (-1)) (by omega) (by omega) (fun q hq => by
        by_cases eq : q = p
        · rw [eq, wI_self]
        · rw [wI_nc (by omega)]
          exact ha q (by omega))
      exact ⟨ih.1, fun d j hd => (ih.2.1 d j hd).trans (wI_nc (by omega)), ih.2.2⟩
