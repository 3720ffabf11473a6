-- rollback and crash
theorem and1 {x : Int32} (h : x = 0 ∨ x = 1) : x &&& 1 = x := by
  rcases h with h | h <;> rw [h] <;> rfl
/-- a row of the reference goes to another place -/
theorem row_cp {w : yW} {G : List zC} {a b : Nat} {mv : Int32} {o : Option Nat} (ha : a < 65) (hb : b < 65) (hab : a ≠ b) (hm : (w.1 55 a = 0 ∨ w.1 55 a = 1) ∧ 0 ≤ (w.1 58 a).toInt ∧ (w.1 58 a).toInt ≤ 6) (h : rEq w G a o) :
    (∀ c j, ¬ (55 ≤ c ∧ c ≤ 58 ∧ j = b) → ¬ ((c = 59 ∨ c = 60) ∧ 6 * b ≤ j ∧ j < 6 * b + 6) → ¬ (61 ≤ c ∧ c ≤ 64 ∧ j = b) → (e_Mo_copyRow (Int32.ofNat a) (Int32.ofNat b) mv w).1 c j = w.1 c j)
    ∧ (e_Mo_copyRow (Int32.ofNat a) (Int32.ofNat b) mv w).2 = w.2 ∧ rEq (e_Mo_copyRow (Int32.ofNat a) (Int32.ofNat b) mv w) G b o ∧ (e_Mo_copyRow (Int32.ofNat a) (Int32.ofNat b) mv w).1 56 b = w.1 56 a
    ∧ (((e_Mo_copyRow (Int32.ofNat a) (Int32.ofNat b) mv w).1 55 b = 0 ∨ (e_Mo_copyRow (Int32.ofNat a) (Int32.ofNat b) mv w).1 55 b = 1) ∧ 0 ≤ ((e_Mo_copyRow (Int32.ofNat a) (Int32.ofNat b) mv w).1 58 b).toInt ∧ ((e_Mo_copyRow (Int32.ofNat a) (Int32.ofNat b) mv w).1 58 b).toInt ≤ 6) := by
  unfold e_Mo_copyRow
  rw [n_clamp (by omega), n_clamp (by omega), and1 hm.1]
  have f3 : ∀ d j, ¬ (d = 55 ∧ j = b) → ¬ (d = 56 ∧ j = b) → (wI (wI w 55 b (w.1 55 a)) 56 b ((wI w 55 b (w.1 55 a)).1 56 a)).1 d j = w.1 d j := fun d j c e => by rw [wI_nc e, wI_nc c]
  have v55 : (wI (wI w 55 b (w.1 55 a)) 56 b ((wI w 55 b (w.1 55 a)).1 56 a)).1 55 b = w.1 55 a := by rw [wI_ne (by decide), wI_self]
  have v56 : (wI (wI w 55 b (w.1 55 a)) 56 b ((wI w 55 b (w.1 55 a)).1 56 a)).1 56 b = w.1 56 a := by rw [wI_self, wI_ne (by decide)]
  have r3 : (wI (wI w 55 b (w.1 55 a)) 56 b ((wI w 55 b (w.1 55 a)).1 56 a)).2 = w.2 := rfl
  generalize wI (wI w 55 b (w.1 55 a)) 56 b ((wI w 55 b (w.1 55 a)).1 56 a) = w3 at f3 v55 v56 r3
  have hn : w3.1 58 a = Int32.ofNat (w.1 58 a).toInt.toNat := by rw [f3 _ _ (by omega) (by omega)]; exact z_ofn hm.2.1
  have hn6 : (w.1 58 a).toInt.toNat ≤ 6 := by omega
  obtain ⟨c1, c2, c3, c4, c5, c6, c7, c8⟩ := cs_n (mv := mv) ha hb hab hn6 w3 hn
  have cj := cs_2 (Int32.ofNat a) (Int32.ofNat b) mv w3
  have h3 : rEq w3 G a o := rEq_i (fun d j x y z u v => f3 d j (by omega) (by omega)) h
  generalize e_Mo_copyShape (Int32.ofNat a) (Int32.ofNat b) mv w3 = w4 at c1 c2 c3 c4 c5 c6 c7 c8 cj
  have q55 : w4.1 55 b = w.1 55 a := by rw [c1 _ _ (by omega) (by omega) (by omega) (by omega), v55]
  refine ⟨fun c j x y z => ?_, cj.trans r3, ?_, ?_, ?_, ?_⟩
  · rw [c1 c j (by omega) (by omega) (by omega) (by omega), f3 c j (by omega) (by omega)]
  · cases o with
    | none => exact q55.trans h
    | some x => exact rEq_cs hn6 hn h3 (q55.trans h.1) c2 c3 c4 c5 c6 c7 c8
  · rw [c1 _ _ (by omega) (by omega) (by omega) (by omega), v56]
  · rw [q55]; exact hm.1
  · rw [c3, z_nat (by omega)]; omega
theorem mroll_L {G : List zC} {o : Nat → Option Nat} : ∀ (n S : Nat) (w : yW), S ≤ 32 → 32 < S + n → iMany w → (∀ r, r < 32 → rEq w G (32 + r) (o r)) → (∀ r, r < S → rEq w G r (o r) ∧ w.1 56 r = w.1 56 (32 + r)) →
    (∀ c j, ¬ (55 ≤ c ∧ c ≤ 58 ∧ j < 32) → ¬ ((c = 59 ∨ c = 60) ∧ j < 192) → ¬ (61 ≤ c ∧ c ≤ 64 ∧ j < 32) → (g_Mo_rollback_2 n w (Int32.ofNat S)).1 c j = w.1 c j) ∧ (g_Mo_rollback_2 n w (Int32.ofNat S)).2 = w.2 ∧ iMany (g_Mo_rollback_2 n w (Int32.ofNat S)) ∧ (∀ r, r < 32 → rEq (g_Mo_rollback_2 n w (Int32.ofNat S)) G r (o r) ∧ (g_Mo_rollback_2 n w (Int32.ofNat S)).1 56 r = w.1 56 (32 + r))
  | 0, S, w, h1, h2, hm, hc, hp => by omega
  | n + 1, S, w, h1, h2, hm, hc, hp => by
    rw [g_Mo_rollback_2, zc_ge, z_nat (by omega), show (32 : Int32).toInt = 32 from rfl]
    by_cases hS : S = 32
    · subst hS
      rw [decide_eq_true (by omega)]
      exact ⟨fun _ _ _ _ _ => rfl, rfl, hm, fun r hr => hp r hr⟩
    · rw [decide_eq_false (by omega), n_inc2, show (32 : Int32) = Int32.ofNat 32 from rfl, mk_add, n_clamp (by omega)]
      show (∀ c j, _ → _ → _ → (g_Mo_rollback_2 n (e_Mo_copyRow (Int32.ofNat (S + 32)) (Int32.ofNat S) (w.1 58 (S + 32)) w) (Int32.ofNat (S + 1))).1 c j = w.1 c j) ∧ _
      generalize w.1 58 (S + 32) = mv
      have hm0 := hm (S + 32) (by omega)
      have hc0 := hc S (by omega)
      rw [show 32 + S = S + 32 by omega] at hc0
      obtain ⟨f1, f2, f3, f4, f5⟩ := row_cp (mv := mv) (b := S) (by omega) (by omega) (by omega) hm0 hc0
      show (∀ c j, _ → _ → _ → (g_Mo_rollback_2 n (e_Mo_copyRow (Int32.ofNat (S + 32)) (Int32.ofNat S) mv w) (Int32.ofNat (S + 1))).1 c j = w.1 c j) ∧ (g_Mo_rollback_2 n (e_Mo_copyRow (Int32.ofNat (S + 32)) (Int32.ofNat S) mv w) (Int32.ofNat (S + 1))).2 = w.2 ∧ iMany (g_Mo_rollback_2 n (e_Mo_copyRow (Int32.ofNat (S + 32)) (Int32.ofNat S) mv w) (Int32.ofNat (S + 1))) ∧ (∀ r, r < 32 → rEq (g_Mo_rollback_2 n (e_Mo_copyRow (Int32.ofNat (S + 32)) (Int32.ofNat S) mv w) (Int32.ofNat (S + 1))) G r (o r) ∧ (g_Mo_rollback_2 n (e_Mo_copyRow (Int32.ofNat (S + 32)) (Int32.ofNat S) mv w) (Int32.ofNat (S + 1))).1 56 r = w.1 56 (32 + r))
      generalize e_Mo_copyRow (Int32.ofNat (S + 32)) (Int32.ofNat S) mv w = w1 at f1 f2 f3 f4 f5
      have hre : ∀ s o, s < 65 → s ≠ S → rEq w G s o → rEq w1 G s o := fun s o hs hne hq => rEq_i (fun d j x y z u v => f1 d j (by omega) (by omega) (by omega)) hq
      obtain ⟨k1, k2, k3, k4⟩ := mroll_L (o := o) n (S + 1) w1 (by omega) (by omega) (fun s hs => by
        by_cases e : s = S
        · rw [e]; exact f5
        · rw [f1 55 s (by omega) (by omega) (by omega), f1 58 s (by omega) (by omega) (by omega)]; exact hm s hs) (fun r hr => hre _ _ (by omega) (by omega) (hc r hr)) (fun r hr => by
        by_cases e : r = S
        · rw [e]
          refine ⟨f3, ?_⟩
          rw [f4, f1 _ _ (by omega) (by omega) (by omega), show 32 + S = S + 32 by omega]
        · rw [f1 56 r (by omega) (by omega) (by omega), f1 56 (32 + r) (by omega) (by omega) (by omega)]
          exact ⟨hre _ _ (by omega) e (hp r (by omega)).1, (hp r (by omega)).2⟩)
      refine ⟨fun c j x y z => ?_, k2.trans f2, k3, fun r hr => ⟨(k4 r hr).1, ?_⟩⟩
      · rw [k1 c j x y z, f1 c j (by omega) (by omega) (by omega)]
      · rw [(k4 r hr).2, f1 _ _ (by omega) (by omega) (by omega)]
theorem mroll_n {G : List zC} {o : Nat → Option Nat} {w : yW} (hm : iMany w) (hc : ∀ r, r < 32 → rEq w G (32 + r) (o r)) :
    (∀ c j, ¬ (55 ≤ c ∧ c ≤ 58 ∧ j < 32) → ¬ ((c = 59 ∨ c = 60) ∧ j < 192) → ¬ (61 ≤ c ∧ c ≤ 64 ∧ j < 32) → (e_Mo_rollback w).1 c j = w.1 c j) ∧ (e_Mo_rollback w).2 = w.2 ∧ iMany (e_Mo_rollback w) ∧ (∀ r, r < 32 → rEq (e_Mo_rollback w) G r (o r) ∧ (e_Mo_rollback w).1 56 r = w.1 56 (32 + r)) := by
  have k := mroll_L (G := G) (o := o) 33 0 w (by omega) (by omega) hm hc (fun r hr2 => absurd hr2 (Nat.not_lt_zero _))
  have ee : g_Mo_rollback_2 33 w (Int32.ofNat 0) = e_Mo_rollback w := rfl
  revert k
  generalize g_Mo_rollback_2 33 w (Int32.ofNat 0) = z at ee
  rw [ee]
  exact id
theorem tcp_L {c e : Nat} (hce : c ≠ e) : ∀ (n Q : Nat) (w : yW), Q ≤ 16 → 16 < Q + n → (∀ q, q < Q → w.1 (c + 1) q = w.1 (e + 1) q ∧ w.2.2 (c + 2) q = w.2.2 (e + 2) q) →
    (∀ d j, ¬ (d = c + 1 ∧ j < 16) → (g_Ta_copy_2 c e n w (Int32.ofNat Q)).1 d j = w.1 d j) ∧ (∀ d j, ¬ (d = c + 2 ∧ j < 16) → (g_Ta_copy_2 c e n w (Int32.ofNat Q)).2.2 d j = w.2.2 d j) ∧ (∀ q, q < 16 → (g_Ta_copy_2 c e n w (Int32.ofNat Q)).1 (c + 1) q = w.1 (e + 1) q ∧ (g_Ta_copy_2 c e n w (Int32.ofNat Q)).2.2 (c + 2) q = w.2.2 (e + 2) q)
  | 0, Q, w, h1, h2, hp => by omega
  | n + 1, Q, w, h1, h2, hp => by
    rw [g_Ta_copy_2, zc_ge, z_nat (by omega), show (16 : Int32).toInt = 16 from rfl]
    by_cases hQ : Q = 16
    · subst hQ
      rw [decide_eq_true (by omega)]
      exact ⟨fun _ _ _ => rfl, fun _ _ _ => rfl, hp⟩
    · rw [decide_eq_false (by omega), n_inc2, n_clamp (by omega)]
      have f1 : ∀ d j, ¬ (d = c + 1 ∧ j = Q) → (wR (wI w (c + 1) Q (w.1 (e + 1) Q)) (c + 2) Q ((wI w (c + 1) Q (w.1 (e + 1) Q)).2.2 (e + 2) Q)).1 d j = w.1 d j := fun d j hd => wI_nc hd
      have f2 : ∀ d j, (wR (wI w (c + 1) Q (w.1 (e + 1) Q)) (c + 2) Q ((wI w (c + 1) Q (w.1 (e + 1) Q)).2.2 (e + 2) Q)).2.2 d j = if d = c + 2 ∧ j = Q then w.2.2 (e + 2) Q else w.2.2 d j := fun d j => wR_r (w := wI w (c + 1) Q (w.1 (e + 1) Q)) d j
      have f3 : (wR (wI w (c + 1) Q (w.1 (e + 1) Q)) (c + 2) Q ((wI w (c + 1) Q (w.1 (e + 1) Q)).2.2 (e + 2) Q)).1 (c + 1) Q = w.1 (e + 1) Q := wI_self ..
      rw [cond_false]
      generalize wR (wI w (c + 1) Q (w.1 (e + 1) Q)) (c + 2) Q ((wI w (c + 1) Q (w.1 (e + 1) Q)).2.2 (e + 2) Q) = w1 at f1 f2 f3 ⊢
      obtain ⟨k1, k2, k3⟩ := tcp_L hce n (Q + 1) w1 (by omega) (by omega) (fun q hq => by
        by_cases e2 : q = Q
        · rw [e2, f3, f1 _ _ (by omega), f2, f2, if_pos ⟨rfl, rfl⟩, if_neg (by omega)]
          exact ⟨rfl, rfl⟩
        · rw [f1 _ _ (by omega), f1 _ _ (by omega), f2, f2, if_neg (by omega), if_neg (by omega)]
          exact hp q (by omega))
      refine ⟨fun d j hd => ?_, fun d j hd => ?_, fun q hq => ?_⟩
      · rw [k1 d j hd, f1 d j (by omega)]
      · rw [k2 d j hd, f2, if_neg (by omega)]
      · rw [(k3 q hq).1, (k3 q hq).2, f1 _ _ (by omega), f2, if_neg (by omega)]
        exact ⟨rfl, rfl⟩
/-- one table goes back to what is committed -/
theorem rb_step {w : yW} {G : List zC} {T : Nat} (hy : yIn w (20 + 12 * T)) (hk : yRk w G) :
    (∀ d j, ¬ (d = 15 + 12 * T ∧ j < 16) → ¬ (20 + 12 * T ≤ d ∧ d ≤ 25 + 12 * T) → (e_In_rebuild G (20 + 12 * T) (14 + 12 * T) (e_Ta_copy (14 + 12 * T) (17 + 12 * T) w)).1 d j = w.1 d j)
    ∧ (∀ d j, ¬ (d = 16 + 12 * T ∧ j < 16) → (e_In_rebuild G (20 + 12 * T) (14 + 12 * T) (e_Ta_copy (14 + 12 * T) (17 + 12 * T) w)).2.2 d j = w.2.2 d j)
    ∧ (∀ q, q < 16 → (e_In_rebuild G (20 + 12 * T) (14 + 12 * T) (e_Ta_copy (14 + 12 * T) (17 + 12 * T) w)).1 (15 + 12 * T) q = w.1 (18 + 12 * T) q ∧ (e_In_rebuild G (20 + 12 * T) (14 + 12 * T) (e_Ta_copy (14 + 12 * T) (17 + 12 * T) w)).2.2 (16 + 12 * T) q = w.2.2 (19 + 12 * T) q)
    ∧ iIxd (e_In_rebuild G (20 + 12 * T) (14 + 12 * T) (e_Ta_copy (14 + 12 * T) (17 + 12 * T) w)) G (20 + 12 * T) (16 + 12 * T) (fun r => oH G ((e_In_rebuild G (20 + 12 * T) (14 + 12 * T) (e_Ta_copy (14 + 12 * T) (17 + 12 * T) w)).2.2 (16 + 12 * T) r))
    ∧ yRk (e_In_rebuild G (20 + 12 * T) (14 + 12 * T) (e_Ta_copy (14 + 12 * T) (17 + 12 * T) w)) G := by
  obtain ⟨k1, k2, k3⟩ := tcp_L (c := 14 + 12 * T) (e := 17 + 12 * T) (by omega) 17 0 w (by omega) (by omega) (fun q hq => absurd hq (Nat.not_lt_zero _))
  have hk1 : yRk (e_Ta_copy (14 + 12 * T) (17 + 12 * T) w) G := yRk_2c 17 w 0 hk
  rw [show 14 + 12 * T + 1 = 15 + 12 * T by omega, show 14 + 12 * T + 2 = 16 + 12 * T by omega, show 17 + 12 * T + 1 = 18 + 12 * T by omega, show 17 + 12 * T + 2 = 19 + 12 * T by omega] at *
  have ee : e_Ta_copy (14 + 12 * T) (17 + 12 * T) w = g_Ta_copy_2 (14 + 12 * T) (17 + 12 * T) 17 w (Int32.ofNat 0) := rfl
  rw [← ee] at k1 k2 k3
  generalize e_Ta_copy (14 + 12 * T) (17 + 12 * T) w = w1 at k1 k2 k3 hk1
  have hy1 : yIn w1 (20 + 12 * T) := ⟨fun j hj => by rw [k1 _ _ (by omega)]; exact hy.1 j hj, by rw [k1 _ _ (by omega)]; exact hy.2⟩
  have hreb := reb_n (c := 20 + 12 * T) (e := 14 + 12 * T) hy1 hk1
  rw [show 14 + 12 * T + 2 = 16 + 12 * T by omega] at hreb
  have ej : (e_In_rebuild G (20 + 12 * T) (14 + 12 * T) w1).2.2 = w1.2.2 := congrArg Prod.snd (jf_In_rebuild ..)
  have hout : ∀ d j, ¬ (20 + 12 * T ≤ d ∧ d ≤ 25 + 12 * T) → (e_In_rebuild G (20 + 12 * T) (14 + 12 * T) w1).1 d j = w1.1 d j := fun d j hdj => reb_1 (Or.inl (by omega)) (by omega) (by omega) (by omega) (by omega) (by omega)
  generalize e_In_rebuild G (20 + 12 * T) (14 + 12 * T) w1 = w2 at hreb ej hout
  refine ⟨fun d j a b => ?_, fun d j a => ?_, fun q hq => ?_, ?_, yRk_2 hk1 ej⟩
  · rw [hout d j b, k1 d j a]
  · rw [ej, k2 d j a]
  · rw [hout _ _ (by omega), ej]; exact k3 q hq
  · rw [ej]; exact hreb
theorem rb_eq (G : List zC) (w : yW) : e_ST_rollback G w = e_In_rebuild G (20 + 12 * 1) (14 + 12 * 1) (e_Ta_copy (14 + 12 * 1) (17 + 12 * 1) (e_In_rebuild G (20 + 12 * 0) (14 + 12 * 0) (e_Ta_copy (14 + 12 * 0) (17 + 12 * 0) w))) := by
  unfold e_ST_rollback
  rw [g_ST_rollback_2, show zc .ge 0 2 = false from rfl, cond_false, show (0 : Int32) + Int32.ofInt 1 = 1 from rfl, g_ST_rollback_2, show zc .ge 1 2 = false from rfl, cond_false, show (1 : Int32) + Int32.ofInt 1 = 2 from rfl, g_ST_rollback_2, show zc .ge 2 2 = true from rfl, cond_true, show (0 : Int32).toNatClampNeg = 0 from rfl, show (1 : Int32).toNatClampNeg = 1 from rfl]
theorem rb_n {w : yW} {G : List zC} (h : INV w G) :
    (∀ d j, ¬ ((d = 15 ∨ d = 27) ∧ j < 16) → ¬ (20 ≤ d ∧ d ≤ 25) → ¬ (32 ≤ d ∧ d ≤ 37) → (e_ST_rollback G w).1 d j = w.1 d j) ∧ (∀ d j, ¬ ((d = 16 ∨ d = 28) ∧ j < 16) → (e_ST_rollback G w).2.2 d j = w.2.2 d j) ∧ (∀ t q, t < 2 → q < 16 → (e_ST_rollback G w).1 (15 + 12 * t) q = w.1 (18 + 12 * t) q ∧ (e_ST_rollback G w).2.2 (16 + 12 * t) q = w.2.2 (19 + 12 * t) q) ∧ iIdx (e_ST_rollback G w) G ∧ yRk (e_ST_rollback G w) G := by
  obtain ⟨hd, hf0, hp, hc, hm, ha, hr, hO, hi, hk⟩ := h
  rw [rb_eq]
  obtain ⟨a1, a2, a3, a4, a5⟩ := rb_step (T := 0) (hi 0 (by omega)).1 hk
  generalize e_In_rebuild G (20 + 12 * 0) (14 + 12 * 0) (e_Ta_copy (14 + 12 * 0) (17 + 12 * 0) w) = w1 at a1 a2 a3 a4 a5
  have hy := (hi 1 (by omega)).1
  obtain ⟨b1, b2, b3, b4, b5⟩ := rb_step (T := 1) (w := w1) ⟨fun j hj => by rw [a1 _ _ (by omega) (by omega)]; exact hy.1 j hj, by rw [a1 _ _ (by omega) (by omega)]; exact hy.2⟩ a5
  generalize e_In_rebuild G (20 + 12 * 1) (14 + 12 * 1) (e_Ta_copy (14 + 12 * 1) (17 + 12 * 1) w1) = w2 at b1 b2 b3 b4 b5
  refine ⟨fun d j x y z => ?_, fun d j x => ?_, fun t q ht hq => ?_, fun t ht => ?_, b5⟩
  · rw [b1 d j (by omega) (by omega), a1 d j (by omega) (by omega)]
  · rw [b2 d j (by omega), a2 d j (by omega)]
  · by_cases e : t = 0
    · rw [e, b1 _ _ (by omega) (by omega), b2 _ _ (by omega)]
      exact a3 q hq
    · rw [show t = 1 by omega, (b3 q hq).1, (b3 q hq).2, a1 _ _ (by omega) (by omega), a2 _ _ (by omega)]
      exact ⟨rfl, rfl⟩
  · by_cases e : t = 0
    · rw [e]
      refine iIxd_eq (b1 _ _ (by omega) (by omega)) (fun j => b1 _ _ (by omega) (by omega)) (fun j => b1 _ _ (by omega) (by omega)) (fun j => b1 _ _ (by omega) (by omega)) (fun j => b1 _ _ (by omega) (by omega)) (fun j => b1 _ _ (by omega) (by omega)) (fun j => b2 _ _ (by omega)) ?_ a4
      funext j
      rw [b2 _ _ (by omega)]
    · rw [show t = 1 by omega]
      exact b4
theorem sim_rollback {w : yW} {G : List zC} (h : INV w G) : INV (e_Mo_rollback (e_ST_rollback G w)) G := by
  obtain ⟨r1, r2, r3, r4, r5⟩ := rb_n h
  obtain ⟨hd, hf0, hp, hc, hm, ha, hr, hO, hi, hk⟩ := h
  generalize e_ST_rollback G w = w1 at r1 r2 r3 r4 r5
  obtain ⟨m1, m2, m3, m4⟩ := mroll_n (G := G) (o := fun r => w.2.2 (19 + 12 * (r / 16)) (r % 16)) (w := w1) (fun s hs => by rw [r1 55 s (by omega) (by omega) (by omega), r1 58 s (by omega) (by omega) (by omega)]; exact hm s hs) (fun r hr2 => by
    have k := (hc (r / 16) (r % 16) (by omega) (by omega)).1
    rw [show 16 * (r / 16) + r % 16 = r by omega] at k
    exact rEq_i (fun d j x y z u v => r1 d j (by omega) (by omega) (by omega)) k)
  generalize e_Mo_rollback w1 = w2 at m1 m2 m3 m4
  have fi : ∀ d j, ¬ (d = 15 ∨ d = 27) → ¬ (20 ≤ d ∧ d ≤ 25) → ¬ (32 ≤ d ∧ d ≤ 37) → ¬ (55 ≤ d ∧ d ≤ 58 ∧ j < 32) → ¬ ((d = 59 ∨ d = 60) ∧ j < 192) → ¬ (61 ≤ d ∧ d ≤ 64 ∧ j < 32) → w2.1 d j = w.1 d j := fun d j a b c e f g => by rw [m1 d j e f g, r1 d j (by omega) b c]
  have fr : ∀ d j, w2.2.2 d j = w1.2.2 d j := fun d j => by rw [m2]
  have hre : ∀ s o, 32 ≤ s → s < 65 → rEq w G s o → rEq w2 G s o := fun s o hs hs2 hq => rEq_i (fun d j x y z u v => fi d j (by omega) (by omega) (by omega) (by omega) (by omega) (by omega)) hq
  have f0 : ∀ d j, ¬ (d = 15 ∨ d = 27) → ¬ (20 ≤ d ∧ d ≤ 25) → ¬ (32 ≤ d ∧ d ≤ 37) → ¬ (55 ≤ d ∧ d ≤ 64) → w2.1 d j = w.1 d j := fun d j a b c e => fi d j a b c (by omega) (by omega) (by omega)
  refine ⟨?_, ?_, ?_, ?_, m3, ?_, ?_, ?_, ?_, yRk_2 r5 (by rw [m2])⟩
  · obtain ⟨d1, d2, d3⟩ := hd
    unfold iDraft
    rw [f0 6 2 (by omega) (by omega) (by omega) (by omega), f0 54 10 (by omega) (by omega) (by omega) (by omega)]
    refine ⟨d1, d2, fun i hi2 => ?_⟩
    rw [f0 7 i (by omega) (by omega) (by omega) (by omega), f0 8 i (by omega) (by omega) (by omega) (by omega), f0 65 i (by omega) (by omega) (by omega) (by omega), f0 66 i (by omega) (by omega) (by omega) (by omega)]
    exact d3 i hi2
  · unfold iFoc
    rw [fr, r2 _ _ (by omega)]
    exact hre 64 _ (by omega) (by omega) hf0
  · intro t q ht hq
    have k := m4 (16 * t + q) (by omega)
    rw [show (16 * t + q) / 16 = t by omega, show (16 * t + q) % 16 = q by omega] at k
    rw [fr, (r3 t q ht hq).2]
    refine ⟨k.1, fun hne => ?_⟩
    rw [k.2, m1 _ _ (by omega) (by omega) (by omega), (r3 t q ht hq).1, r1 _ _ (by omega) (by omega) (by omega)]
    exact (hc t q ht hq).2 hne
  · intro t q ht hq
    rw [fr, r2 _ _ (by omega)]
    have k := hc t q ht hq
    refine ⟨hre _ _ (by omega) (by omega) k.1, fun hne => ?_⟩
    rw [fi 56 _ (by omega) (by omega) (by omega) (by omega) (by omega) (by omega), f0 (18 + 12 * t) _ (by omega) (by omega) (by omega) (by omega)]
    exact k.2 hne
  · obtain ⟨a1, a2, a3, a4⟩ := ha
    unfold iAns
    rw [f0 0 7 (by omega) (by omega) (by omega) (by omega), f0 54 21 (by omega) (by omega) (by omega) (by omega), f0 0 8 (by omega) (by omega) (by omega) (by omega), f0 54 22 (by omega) (by omega) (by omega) (by omega)]
    refine ⟨a1, a2, fun i hi2 => ?_, a4⟩
    rw [f0 9 i (by omega) (by omega) (by omega) (by omega), f0 69 i (by omega) (by omega) (by omega) (by omega)]
    exact a3 i hi2
  · refine ⟨fun p hp2 => ?_, ?_⟩
    · rw [f0 5 p (by omega) (by omega) (by omega) (by omega), f0 70 p (by omega) (by omega) (by omega) (by omega)]
      exact hr.1 p hp2
    · rw [f0 70 8 (by omega) (by omega) (by omega) (by omega)]
      exact hr.2
  · intro j hj
    rw [f0 13 j (by omega) (by omega) (by omega) (by omega)]
    exact hO j hj
  · intro t ht
    refine iIxd_eq (m1 _ _ (by omega) (by omega) (by omega)) (fun j => m1 _ _ (by omega) (by omega) (by omega)) (fun j => m1 _ _ (by omega) (by omega) (by omega)) (fun j => m1 _ _ (by omega) (by omega) (by omega)) (fun j => m1 _ _ (by omega) (by omega) (by omega)) (fun j => m1 _ _ (by omega) (by omega) (by omega)) (fun j => fr _ j) ?_ (r4 t ht)
    funext j
    rw [fr]
