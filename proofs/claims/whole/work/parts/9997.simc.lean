-- commit, crash inside it
theorem rb_n2 {w : yW} {G : List zC} (hy : ∀ t, t < 2 → yIn w (20 + 12 * t)) (hk : yRk w G) :
    (∀ d j, ¬ ((d = 15 ∨ d = 27) ∧ j < 16) → ¬ (20 ≤ d ∧ d ≤ 25) → ¬ (32 ≤ d ∧ d ≤ 37) → (e_ST_rollback G w).1 d j = w.1 d j) ∧ (∀ d j, ¬ ((d = 16 ∨ d = 28) ∧ j < 16) → (e_ST_rollback G w).2.2 d j = w.2.2 d j) ∧ (∀ t q, t < 2 → q < 16 → (e_ST_rollback G w).1 (15 + 12 * t) q = w.1 (18 + 12 * t) q ∧ (e_ST_rollback G w).2.2 (16 + 12 * t) q = w.2.2 (19 + 12 * t) q) ∧ iIdx (e_ST_rollback G w) G ∧ yRk (e_ST_rollback G w) G := by
  rw [rb_eq]
  obtain ⟨a1, a2, a3, a4, a5⟩ := rb_step (T := 0) (hy 0 (by omega)) hk
  generalize e_In_rebuild G (20 + 12 * 0) (14 + 12 * 0) (e_Ta_copy (14 + 12 * 0) (17 + 12 * 0) w) = w1 at a1 a2 a3 a4 a5
  have hy := hy 1 (by omega)
  obtain ⟨b1, b2, b3, b4, b5⟩ := rb_step (T := 1) (w := w1) ⟨fun j hj => by rw [a1 _ _ (by omega) (by omega)]; exact hy.1 j hj, by rw [a1 _ _ (by omega) (by omega)]; exact hy.2⟩ a5
  generalize e_In_rebuild G (20 + 12 * 1) (14 + 12 * 1) (e_Ta_copy (14 + 12 * 1) (17 + 12 * 1) w1) = w2 at b1 b2 b3 b4 b5
  refine ⟨fun d j x y z => ?_, fun d j x => ?_, fun t q ht hq => ?_, fun t ht => ?_, b5⟩
  · rw [b1 d j (by omega) (by omega), a1 d j (by omega) (by omega)]
  · rw [b2 d j (by omega), a2 d j (by omega)]
  · by_cases e : t = 0
    · rw [e, b1 _ _ (by omega) (by omega), b2 _ _ (by omega)]
      exact a3 q hq
    · rw [show t = 1 by omega, (b3 q hq).1, (b3 q hq).2, a1 _ _ (by omega) (by omega), a2 _ _ (by omega)]
      exact ⟨rfl, rfl⟩
  · by_cases e : t = 0
    · rw [e]
      refine iIxd_eq (b1 _ _ (by omega) (by omega)) (fun j => b1 _ _ (by omega) (by omega)) (fun j => b1 _ _ (by omega) (by omega)) (fun j => b1 _ _ (by omega) (by omega)) (fun j => b1 _ _ (by omega) (by omega)) (fun j => b1 _ _ (by omega) (by omega)) (fun j => b2 _ _ (by omega)) ?_ a4
      funext j
      rw [b2 _ _ (by omega)]
    · rw [show t = 1 by omega]
      exact b4
theorem cr_n {w : yW} {G : List zC} (hy : ∀ t, t < 2 → yIn w (20 + 12 * t)) (hk : yRk w G) :
    (∀ d j, ¬ ((d = 15 ∨ d = 27) ∧ j < 16) → ¬ (20 ≤ d ∧ d ≤ 25) → ¬ (32 ≤ d ∧ d ≤ 37) → ¬ (d = 6 ∧ j = 2) → ¬ (d = 0 ∧ (j = 7 ∨ j = 8)) → (e_ST_crash G w).1 d j = w.1 d j) ∧ (∀ d j, ¬ ((d = 16 ∨ d = 28) ∧ j < 16) → ¬ (d = 0 ∧ j = 5) → (e_ST_crash G w).2.2 d j = w.2.2 d j) ∧ (∀ t q, t < 2 → q < 16 → (e_ST_crash G w).1 (15 + 12 * t) q = w.1 (18 + 12 * t) q ∧ (e_ST_crash G w).2.2 (16 + 12 * t) q = w.2.2 (19 + 12 * t) q) ∧ iIdx (e_ST_crash G w) G ∧ yRk (e_ST_crash G w) G ∧ (e_ST_crash G w).1 6 2 = 0 ∧ (e_ST_crash G w).1 0 7 = 0 ∧ (e_ST_crash G w).1 0 8 = 0 ∧ (e_ST_crash G w).2.2 0 5 = none := by
  obtain ⟨r1, r2, r3, r4, r5⟩ := rb_n2 hy hk
  unfold e_ST_crash e_ST_clearAnswers e_Dr_clear
  generalize e_ST_rollback G w = w1 at r1 r2 r3 r4 r5
  have a1 : ∀ d j, ¬ (d = 6 ∧ j = 2) → ¬ (d = 0 ∧ (j = 7 ∨ j = 8)) → (wR (wI (wI (wI w1 6 2 0) 0 7 0) 0 8 0) 0 5 none).1 d j = w1.1 d j := fun d j a b => by
    show (wI (wI (wI w1 6 2 0) 0 7 0) 0 8 0).1 d j = w1.1 d j
    rw [wI_nc (by omega), wI_nc (by omega), wI_nc a]
  have a2 : ∀ d j, ¬ (d = 0 ∧ j = 5) → (wR (wI (wI (wI w1 6 2 0) 0 7 0) 0 8 0) 0 5 none).2.2 d j = w1.2.2 d j := fun d j a => by
    rw [wR_r, if_neg a]
    rfl
  have a3 : (wR (wI (wI (wI w1 6 2 0) 0 7 0) 0 8 0) 0 5 none).1 6 2 = 0 := by
    show (wI (wI (wI w1 6 2 0) 0 7 0) 0 8 0).1 6 2 = 0
    rw [wI_nc (by omega), wI_nc (by omega), wI_self]
  have a4 : (wR (wI (wI (wI w1 6 2 0) 0 7 0) 0 8 0) 0 5 none).1 0 7 = 0 := by
    show (wI (wI (wI w1 6 2 0) 0 7 0) 0 8 0).1 0 7 = 0
    rw [wI_nc (by omega), wI_self]
  have a5 : (wR (wI (wI (wI w1 6 2 0) 0 7 0) 0 8 0) 0 5 none).1 0 8 = 0 := by
    show (wI (wI (wI w1 6 2 0) 0 7 0) 0 8 0).1 0 8 = 0
    rw [wI_self]
  have a6 : (wR (wI (wI (wI w1 6 2 0) 0 7 0) 0 8 0) 0 5 none).2.2 0 5 = none := by rw [wR_r, if_pos ⟨rfl, rfl⟩]
  have a7 : yRk (wR (wI (wI (wI w1 6 2 0) 0 7 0) 0 8 0) 0 5 none) G := yRk_R (yRk_I (yRk_I (yRk_I r5))) (fun y hy => by cases hy)
  generalize wR (wI (wI (wI w1 6 2 0) 0 7 0) 0 8 0) 0 5 none = w2 at a1 a2 a3 a4 a5 a6 a7
  refine ⟨fun d j a b c e f => by rw [a1 d j e f, r1 d j a b c], fun d j a b => by rw [a2 d j b, r2 d j a], fun t q ht hq => by rw [a1 _ _ (by omega) (by omega), a2 _ _ (by omega)]; exact r3 t q ht hq, fun t ht => ?_, a7, a3, a4, a5, a6⟩
  refine iIxd_eq (a1 _ _ (by omega) (by omega)) (fun j => a1 _ _ (by omega) (by omega)) (fun j => a1 _ _ (by omega) (by omega)) (fun j => a1 _ _ (by omega) (by omega)) (fun j => a1 _ _ (by omega) (by omega)) (fun j => a1 _ _ (by omega) (by omega)) (fun j => a2 _ _ (by omega)) ?_ (r4 t ht)
  funext j
  rw [a2 _ _ (by omega)]
/-- class crashed at c1, the reference then crashes at what it has: v is both before the crash -/
theorem crashX {v c1 r1 : yW} {G : List zC} (h : INV v G) (hc : ∀ d j, d < 54 → v.1 d j = c1.1 d j) (hr : v.2.2 = c1.2.2) (e1 : ∀ d j, d < 54 → r1.1 d j = (e_ST_crash G c1).1 d j) (e2 : r1.2.2 = (e_ST_crash G c1).2.2) (e3 : ∀ d j, 54 ≤ d → r1.1 d j = v.1 d j) : INV (e_Mo_crash r1) G := by
  have hy : ∀ t, t < 2 → yIn c1 (20 + 12 * t) := fun t ht => by
    have k := (h.2.2.2.2.2.2.2.2.1 t ht).1
    exact ⟨fun j hj => by rw [← hc _ _ (by omega)]; exact k.1 j hj, by rw [← hc _ _ (by omega)]; exact k.2⟩
  have hk : yRk c1 G := yRk_2 h.2.2.2.2.2.2.2.2.2 hr.symm
  obtain ⟨q1, q2, q3, q4, q5, q6, q7, q8, q9⟩ := cr_n hy hk
  generalize e_ST_crash G c1 = c2 at e1 e2 q1 q2 q3 q4 q5 q6 q7 q8 q9
  refine crash_inv (w1 := r1) h (fun d j a b c e f => ?_) (fun d j a b => ?_) (fun t q ht hq => ?_) (fun t ht => ?_) (yRk_2 q5 e2) (fun d j a b => ?_) ?_ ?_ ?_ ?_ ?_ ?_ ?_ ?_ ?_
  · by_cases hd : d < 54
    · rw [e1 d j hd, q1 d j a b c e f, hc d j hd]
    · exact e3 d j (by omega)
  · rw [e2, q2 d j a b, hr]
  · rw [e1 _ _ (by omega), e2, hc _ _ (by omega), hr]
    exact q3 t q ht hq
  · refine iIxd_eq (e1 _ _ (by omega)) (fun j => e1 _ _ (by omega)) (fun j => e1 _ _ (by omega)) (fun j => e1 _ _ (by omega)) (fun j => e1 _ _ (by omega)) (fun j => e1 _ _ (by omega)) (fun j => by rw [e2]) (by rw [e2]) (q4 t ht)
  · unfold e_Mo_crash
    generalize e_Mo_rollback r1 = z
    rw [cl64, wI_nc b, wI_nc (by omega), wI_nc (by omega), wI_nc (by omega)]
  · unfold e_Mo_crash
    generalize e_Mo_rollback r1 = z
    rfl
  · unfold e_Mo_crash
    generalize e_Mo_rollback r1 = z
    rw [cl64, wI_self]
    rfl
  · unfold e_Mo_crash
    generalize e_Mo_rollback r1 = z
    rw [cl64, wI_nc (by omega), wI_nc (by omega), wI_nc (by omega), wI_self]
  · unfold e_Mo_crash
    generalize e_Mo_rollback r1 = z
    rw [cl64, wI_nc (by omega), wI_nc (by omega), wI_self]
  · unfold e_Mo_crash
    generalize e_Mo_rollback r1 = z
    rw [cl64, wI_nc (by omega), wI_self]
  · rw [e1 _ _ (by omega), q6]
  · rw [e1 _ _ (by omega), q7]
  · rw [e1 _ _ (by omega), q8]
  · rw [e2, q9]
theorem cm_c {w : yW} {a b c : yW × Int32} {G : List zC} {mo ch wr fn ws : Int32} (eC : e_ST_changedPages G w = ch) (eW : ch &&& e_ST_pagesWithRows w = wr) (eF : e_Ig_bitCount wr + 1 = fn) (eS : fn + 1 = ws) (ea : g_ST_commit_46 G mo ch wr fn ws w = a) (eb : g_ST_commit_63 G mo ch wr fn ws a.1 a.2 = b) (ec : g_ST_commit_81 G mo ch wr fn ws b.1 b.2 = c) : e_ST_commit G mo w = (bif zc .ne ch 0 then (bif zc .le fn (e_Fr_countFree w) then (bif zc .eq c.2 0 then (c.1, mo) else (c.1, ws)) else (w, (-1))) else (w, 0)) := by
  subst eC
  subst eW
  subst eF
  subst eS
  subst ea
  subst eb
  subst ec
  rfl
theorem cm_m {w A : yW} {B : yW × Int32 × Int32 × Int32} {D : yW × Int32} {mo : Int32} (eA : g_Mo_commit_10 mo 10 w 0 = A) (eB : g_Mo_commit_34 mo 9 A 0 0 1 0 = B) (eD : g_Mo_commit_117 mo B.2.1 B.2.2.1 B.1 B.2.2.2 = D) : e_Mo_commit mo w = (bif zc .ne B.2.2.1 0 then g_Mo_commit_138 mo B.2.1 D.1 D.2 else (B.1, 0)) := by
  subst eA
  subst eB
  subst eD
  rfl
def cW (w : yW) (G : List zC) (p : Nat) : Bool := p == 8 || (pgF (dS w G) p && pgF (pR w) p)
/-- the reference's first half: frames are found -/
theorem crun {w Z : yW} {G : List zC} {mo : Int32} (h : INV w G) (hZ : ∀ d j, 54 ≤ d → Z.1 d j = w.1 d j) : ∃ (B : yW × Int32 × Int32 × Int32) (D : yW × Int32), e_Mo_commit mo Z = (bif zc .ne B.2.2.1 0 then g_Mo_commit_138 mo B.2.1 D.1 D.2 else (B.1, 0)) ∧ B.2.1 = Int32.ofNat (cntM (cW w G) 8) ∧ B.2.2.1 = b2 (decide (0 < cntM (pgF (dS w G)) 8)) ∧ ((∀ d j, d ≠ 71 → B.1.1 d j = Z.1 d j) ∧ B.1.2 = Z.2) ∧ D.2 = b2 (decide (cntM (cW w G) 9 ≤ lfC (uF w) 16)) ∧ ((∀ d j, d ≠ 71 → D.1.1 d j = Z.1 d j) ∧ D.1.2 = Z.2) ∧ (cntM (cW w G) 9 ≤ lfC (uF w) 16 → RIx D.1 (uF w) (cW w G) 9) := by
  have hsZ : sRw w Z := fun d j a b => hZ d j (by omega)
  have hW : ∀ p, p < 8 → cW w G p = (pgF (dS w G) p && pgF (pR w) p) := fun p hp => by
    unfold cW
    rw [show (p == 8) = false from beq_eq_false_iff_ne.mpr (by omega), Bool.false_or]
  have h8 : cW w G 8 = true := rfl
  obtain ⟨a1, a2, a3⟩ := c10_L (mo := mo) 10 0 Z (by omega) (by omega) (fun q hq => absurd hq (Nat.not_lt_zero _))
  rw [show Int32.ofNat 0 = 0 from rfl] at a1 a2 a3
  have hcm := cm_m (w := Z) (mo := mo) rfl rfl rfl
  generalize g_Mo_commit_10 mo 10 Z 0 = A at hcm a1 a2 a3
  have hI0 : RIx A (uF w) (cW w G) 0 := by
    refine ⟨fun f hf => ?_, fun p hp => ?_⟩
    · show anF (fun p => decide (w.1 70 p = Int32.ofNat f)) 9 0 = _
      apply Bool.eq_iff_iff.mpr
      rw [anF_iff, anF_iff]
      constructor
      · rintro ⟨q, q1, q2, q3⟩
        refine ⟨q, q1, q2, ?_⟩
        rw [a2 70 q (by omega), hZ 70 q (by omega), q3]
        rfl
      · rintro ⟨q, q1, q2, q3⟩
        refine ⟨q, q1, q2, ?_⟩
        rw [a2 70 q (by omega), hZ 70 q (by omega), a1 q (by omega), decide_eq_false (nn1 hf), Bool.or_false] at q3
        exact q3
    · rw [a1 p hp, if_neg (fun c => absurd c.1 (Nat.not_lt_zero _))]
  have k := c34_L (w0 := Z) (mo := mo) (U := uF w) (W := cW w G) h hsZ rfl hW 9 0 A (by omega) (by omega) a2 a3 (fun _ => hI0)
  have e1 : (1 : Int32) = b2 (decide (cntM (cW w G) 0 ≤ lfC (uF w) 16)) := by
    rw [decide_eq_true (show cntM (cW w G) 0 ≤ lfC (uF w) 16 from Nat.zero_le _)]
    rfl
  rw [show Int32.ofNat (cntM (cW w G) 0) = 0 from rfl, show b2 (decide (0 < cntM (pgF (dS w G)) 0)) = 0 from rfl, ← e1, show Int32.ofNat 0 = 0 from rfl] at k
  generalize g_Mo_commit_34 mo 9 A 0 0 1 0 = B at hcm k
  obtain ⟨b1, b2', b3, b4, b5, b6⟩ := k
  refine ⟨B, _, hcm, b1, b2', ⟨b4, b5⟩, ?_⟩
  rw [b1, b2', b3]
  have hcn : cntM (cW w G) 9 = cntM (cW w G) 8 + 1 := by rw [cntM_succ, h8, if_pos rfl]
  by_cases hc : cntM (cW w G) 8 ≤ lfC (uF w) 16
  · obtain ⟨k1, k2⟩ := wst (show 8 < 9 by omega) h8 hc (b6 hc)
    have e117 : g_Mo_commit_117 mo (Int32.ofNat (cntM (cW w G) 8)) (b2 (decide (0 < cntM (pgF (dS w G)) 8))) B.1 (b2 (decide (cntM (cW w G) 8 ≤ lfC (uF w) 16))) = (wI B.1 71 8 (Int32.ofNat (lfr (uS (uF w) (cW w G) 8) 16 0)), b2 (decide (cntM (cW w G) 9 ≤ lfC (uF w) 16))) := by
      have k1 : e_Mo_write 8 B.1 = _ := k1
      unfold g_Mo_commit_117
      rw [decide_eq_true hc, k1]
      show (bif zc .eq (b2 (decide (cntM (cW w G) 9 ≤ lfC (uF w) 16))) 0 then _ else _) = _
      cases decide (cntM (cW w G) 9 ≤ lfC (uF w) 16) <;> rfl
    rw [e117]
    exact ⟨rfl, ⟨fun d j hd => (wI_nc (by omega)).trans (b4 d j hd), b5⟩, k2⟩
  · have e117 : g_Mo_commit_117 mo (Int32.ofNat (cntM (cW w G) 8)) (b2 (decide (0 < cntM (pgF (dS w G)) 8))) B.1 (b2 (decide (cntM (cW w G) 8 ≤ lfC (uF w) 16))) = (B.1, b2 (decide (cntM (cW w G) 9 ≤ lfC (uF w) 16))) := by
      unfold g_Mo_commit_117
      rw [decide_eq_false hc, decide_eq_false (show ¬ cntM (cW w G) 9 ≤ lfC (uF w) 16 by omega)]
      rfl
    rw [e117]
    exact ⟨rfl, ⟨b4, b5⟩, fun hc2 => absurd hc2 (by omega)⟩
/-- the reference's second half: the commit itself -/
theorem crun2 {w Z D : yW} {G : List zC} {mo wr : Int32} (h : INV w G) (hZ : ∀ d j, 54 ≤ d → Z.1 d j = w.1 d j) (d1 : ∀ d j, d ≠ 71 → D.1 d j = Z.1 d j) (d2 : D.2 = Z.2) (hI : RIx D (uF w) (cW w G) 9) : ∃ F : yW, g_Mo_commit_163 mo wr D = (bif zc .ne mo wr then (F, wr) else (e_Mo_crash F, wr)) ∧ (∀ q, q < 9 → F.1 70 q = nFr (uF w) (cW w G) (pgF (dS w G)) w q) ∧ (∀ d j, d ≠ 70 → d ≠ 71 → ¬ (55 ≤ d ∧ d ≤ 58 ∧ 32 ≤ j ∧ j < 64) → ¬ ((d = 59 ∨ d = 60) ∧ 192 ≤ j ∧ j < 384) → ¬ (61 ≤ d ∧ d ≤ 64 ∧ 32 ≤ j ∧ j < 64) → F.1 d j = Z.1 d j) ∧ F.2 = Z.2 ∧ iMany F ∧ (∀ r, r < 32 → rEq F G (32 + r) (w.2.2 (16 + 12 * (r / 16)) (r % 16)) ∧ F.1 56 (32 + r) = w.1 56 r) := by
  have hsD : sRw w D := fun d j a b => (d1 d j (by omega)).trans (hZ d j (by omega))
  have hW : ∀ p, p < 8 → cW w G p = (pgF (dS w G) p && pgF (pR w) p) := fun p hp => by
    unfold cW
    rw [show (p == 8) = false from beq_eq_false_iff_ne.mpr (by omega), Bool.false_or]
  obtain ⟨e1, e2, e3⟩ := c166_L (mo := mo) (wr := wr) (U := uF w) (W := cW w G) h rfl hW rfl 10 0 D (by omega) (by omega) hsD (fun q hq => by
    rw [hI.2 q hq]
    by_cases c : cW w G q = true
    · rw [if_pos ⟨hq, c⟩, if_pos c]
    · rw [if_neg (fun c2 => c c2.2), if_neg c]) (fun q hq => absurd hq (Nat.not_lt_zero _)) (fun q _ => by rw [d1 70 q (by omega), hZ 70 q (by omega)])
  rw [show Int32.ofNat 0 = 0 from rfl] at e1 e2 e3
  unfold g_Mo_commit_163 g_Mo_commit_209 g_Mo_commit_236
  generalize g_Mo_commit_166 mo wr 10 D 0 = E at e1 e2 e3
  have hsE : sRw w E := fun d j a b => (e2 d j (by omega)).trans (hsD d j a b)
  have hm : iMany E := fun s hs => by
    rw [hsE 55 s (by omega) (by omega), hsE 58 s (by omega) (by omega)]
    exact h.2.2.2.2.1 s hs
  obtain ⟨f1, f2, f3, f4⟩ := mcom_L (G := G) (mo := mo) (wr := wr) (o := fun r => w.2.2 (16 + 12 * (r / 16)) (r % 16)) 33 0 E (by omega) (by omega) hm (fun r hr => by
    have k := (h.2.2.1 (r / 16) (r % 16) (by omega) (by omega)).1
    rw [show 16 * (r / 16) + r % 16 = r by omega] at k
    exact rEq_i (fun d j a b _ _ _ => hsE d j a b) k) (fun r hr => absurd hr (Nat.not_lt_zero _))
  have ee : g_Mo_commit_212 mo wr 33 E (Int32.ofNat 0) = g_Mo_commit_212 mo wr 33 E 0 := rfl
  generalize g_Mo_commit_212 mo wr 33 E (Int32.ofNat 0) = F at f1 f2 f3 f4 ee
  rw [← ee]
  refine ⟨F, rfl, fun q hq => ?_, fun d j a b x y z => ?_, ?_, f3, fun r hr => ⟨(f4 r hr).1, ?_⟩⟩
  · rw [f1 70 q (by omega) (by omega) (by omega)]
    exact e1 q hq
  · rw [f1 d j x y z, e2 d j a, d1 d j b]
  · rw [f2, e3, d2]
  · rw [(f4 r hr).2, hsE 56 r (by omega) (by omega)]
