-- nearest
theorem near_c {w A Y : yW} {O : yW × Int32} {G : List zC} {t ka : Int32} (h1 : zc .eq (e_ST_isTable t) 0 = false) (h2 : yN (w.2.2 0 5) = false) (h3 : zc .lt ka 1 = false) (h4 : zc .le ka 16 = true) (eA : e_ST_clearAnswers w = A) (eO : e_ST_orderByDistance G (yd (A.2.2 0 5)) (14 + 12 * t.toNatClampNeg) A = O) (eY : g_ST_nearest_49 t ka O.2 17 O.1 0 = Y) : e_ST_nearest G t ka w = (g_ST_nearest_78 G t ka O.2 Y, (g_ST_nearest_78 G t ka O.2 Y).1 0 7) := by
  subst eA
  subst eO
  subst eY
  unfold e_ST_nearest
  rw [h1, h2, h3, h4]
  rfl
theorem near_m {w : yW} {t ka : Int32} (h1 : zc .eq (f_Mo_isTable t) 0 = false) (h2 : zc .eq (w.1 55 64) 0 = false) (h3 : zc .lt ka 1 = false) (h4 : zc .le ka 16 = true) : e_Mo_nearest t ka w = g_Mo_nearest_232 t ka (g_Mo_nearest_220 t ka (N_Mo_nearest t ka w) (W_Mo_nearest t ka w)).2 (W_Mo_nearest t ka w) := by
  have h2 : zc .eq (w.1 55 (64 : Int32).toNatClampNeg) 0 = false := h2
  have hi := i_Mo_nearest_220 t ka (N_Mo_nearest t ka w) (W_Mo_nearest t ka w)
  have e : e_Mo_nearest t ka w = g_Mo_nearest_232 t ka (g_Mo_nearest_220 t ka (N_Mo_nearest t ka w) (W_Mo_nearest t ka w)).2 (g_Mo_nearest_220 t ka (N_Mo_nearest t ka w) (W_Mo_nearest t ka w)).1 := by
    unfold e_Mo_nearest
    rw [h1, h2, h3, h4]
    rfl
  rw [e, hi]
theorem e232a (t ka : Int32) (w : yW) : g_Mo_nearest_232 t ka (b2 false) w = (wI ((e_Mo_readBy 64 t (w.2.1 67 (w.1 69 ((w.1 54 21) - 1).toNatClampNeg).toNatClampNeg) (w.2.1 68 (w.1 69 ((w.1 54 21) - 1).toNatClampNeg).toNatClampNeg) w).1) 54 22 ((e_Mo_readBy 64 t (w.2.1 67 (w.1 69 ((w.1 54 21) - 1).toNatClampNeg).toNatClampNeg) (w.2.1 68 (w.1 69 ((w.1 54 21) - 1).toNatClampNeg).toNatClampNeg) w).2), (wI ((e_Mo_readBy 64 t (w.2.1 67 (w.1 69 ((w.1 54 21) - 1).toNatClampNeg).toNatClampNeg) (w.2.1 68 (w.1 69 ((w.1 54 21) - 1).toNatClampNeg).toNatClampNeg) w).1) 54 22 ((e_Mo_readBy 64 t (w.2.1 67 (w.1 69 ((w.1 54 21) - 1).toNatClampNeg).toNatClampNeg) (w.2.1 68 (w.1 69 ((w.1 54 21) - 1).toNatClampNeg).toNatClampNeg) w).2)).1 54 21) := by
  unfold g_Mo_nearest_232 g_Mo_nearest_292
  rw [show zc .eq (b2 false) 0 = true from rfl, cond_true]
theorem e232b (t ka : Int32) (w : yW) : g_Mo_nearest_232 t ka (b2 true) w = (wI ((e_Mo_readBy 64 t 0 0 w).1) 54 22 ((e_Mo_readBy 64 t 0 0 w).2), (wI ((e_Mo_readBy 64 t 0 0 w).1) 54 22 ((e_Mo_readBy 64 t 0 0 w).2)).1 54 21) := by
  unfold g_Mo_nearest_232 g_Mo_nearest_292
  rw [show zc .eq (b2 true) 0 = false from rfl, cond_false]
theorem tk_getD {S : List Nat} {n i : Nat} (hi : i < n) (hn : n ≤ S.length) : ((S.take n).map Int32.ofNat).getD i 0 = Int32.ofNat (S.getD i 0) := by
  rw [List.getD_eq_getElem?_getD, List.getElem?_map, List.getElem?_take_of_lt hi, List.getD_eq_getElem?_getD, List.getElem?_eq_getElem (by omega)]
  rfl
theorem od_0 (G : List zC) (x c : Nat) (A : yW) : e_ST_orderByDistance G x c A = g_ST_orderByDistance_5 G x c 17 A (Int32.ofNat ([] : List Nat).length) (Int32.ofNat 0) := by
  unfold e_ST_orderByDistance
  rw [show Int32.ofNat ([] : List Nat).length = 0 from rfl, show Int32.ofNat 0 = 0 from rfl]
def nHf (t ka : Int32) (w : yW) : Prop := zc .eq (f_Mo_isTable t) 0 = false → zc .eq (w.1 55 (64 : Int32).toNatClampNeg) 0 = false → zc .lt ka 1 = false → zc .le ka 16 = true → zc .eq (g_Mo_nearest_220 t ka (N_Mo_nearest t ka w) (W_Mo_nearest t ka w)).2 0 = true → zIx ((W_Mo_nearest t ka w).1 54 21 - 1) 256 ∧ zIx ((W_Mo_nearest t ka w).1 69 ((W_Mo_nearest t ka w).1 54 21 - 1).toNatClampNeg) 16
theorem sim_nearest {w : yW} {G : List zC} (h : INV w G) (t ka : Int32) : ((e_ST_nearest G t ka w).2 = (e_Mo_nearest t ka (e_ST_nearest G t ka w).1).2 ∧ INV (e_Mo_nearest t ka (e_ST_nearest G t ka w).1).1 G) ∧ nHf t ka (e_ST_nearest G t ka w).1 := by
  have same : (e_ST_nearest G t ka w) = (w, -1) → e_Mo_nearest t ka w = (w, -1) → nHf t ka w → ((e_ST_nearest G t ka w).2 = (e_Mo_nearest t ka (e_ST_nearest G t ka w).1).2 ∧ INV (e_Mo_nearest t ka (e_ST_nearest G t ka w).1).1 G) ∧ nHf t ka (e_ST_nearest G t ka w).1 := by
    intro e1 e2 e3
    rw [e1]
    show (-1 = (e_Mo_nearest t ka w).2 ∧ INV (e_Mo_nearest t ka w).1 G) ∧ nHf t ka w
    rw [e2]
    exact ⟨⟨rfl, h⟩, e3⟩
  rcases isT_cases t with ⟨T, hT, e, k1, k2⟩ | ⟨k1, k2⟩
  · cases hx : w.2.2 0 5 with
    | none =>
      have hf := h.2.1
      unfold iFoc at hf
      rw [hx] at hf
      have hf : w.1 55 (64 : Int32).toNatClampNeg = 0 := hf
      refine same ?_ ?_ ?_
      · unfold e_ST_nearest
        rw [k1, hx]
        rfl
      · unfold e_Mo_nearest
        rw [k2, hf]
        rfl
      · intro _ c
        rw [hf] at c
        cases c
    | some x =>
      have he := h.2.1
      unfold iFoc at he
      rw [hx] at he
      have hf : w.1 55 64 = 1 := he.1
      have hf2 : w.1 55 (64 : Int32).toNatClampNeg = 1 := hf
      cases hl : zc .lt ka 1 with
      | true =>
        refine same ?_ ?_ ?_
        · unfold e_ST_nearest
          rw [k1, hx, hl]
          rfl
        · unfold e_Mo_nearest
          rw [k2, hf2, hl]
          rfl
        · intro _ _ c
          rw [hl] at c
          cases c
      | false =>
        cases hg : zc .le ka 16 with
        | false =>
          refine same ?_ ?_ ?_
          · unfold e_ST_nearest
            rw [k1, hx, hl, hg]
            rfl
          · unfold e_Mo_nearest
            rw [k2, hf2, hl, hg]
            rfl
          · intro _ _ _ c
            rw [hg] at c
            cases c
        | true =>
          have hk1 : ¬ ka.toInt < 1 := by
            rw [zc_lt] at hl
            exact of_decide_eq_false hl
          have hk2 : ka.toInt ≤ 16 := by
            rw [zc_le] at hg
            exact of_decide_eq_true hg
          obtain ⟨K, hK, hK1⟩ : ∃ K, ka = Int32.ofNat K ∧ 1 ≤ K ∧ K ≤ 16 := ⟨ka.toInt.toNat, by
            apply Int32.toInt_inj.mp
            rw [z_nat (by omega)]
            omega, by omega, by omega⟩
          subst e
          subst hK
          obtain ⟨a1, a2, a3, a4⟩ := ca_f w
          have hkc := near_c (w := w) (G := G) (t := Int32.ofNat T) (ka := Int32.ofNat K) (by rw [k1]; rfl) (by rw [hx]; rfl) hl hg rfl rfl rfl
          generalize e_ST_clearAnswers w = A at a1 a2 a3 a4 hkc
          rw [show yd (A.2.2 0 5) = x by rw [a2, hx]; rfl, n_clamp (show T < 2147483648 by omega)] at hkc
          have hO := h.2.2.2.2.2.2.2.1
          obtain ⟨S, o1, o2, o3, o4⟩ := od_L (x := x) (p := 64) h hT (by omega) he 17 0 A [] (by omega) (by omega) (by rw [a2]) ⟨fun i hi => absurd hi (Nat.not_lt_zero _), List.Pairwise.nil, List.Perm.refl _, fun r hr => absurd hr List.not_mem_nil, fun j hj => by rw [a1 13 j (by omega)]; exact hO j hj⟩
          rw [od_0] at hkc
          generalize g_ST_orderByDistance_5 G x (14 + 12 * T) 17 A (Int32.ofNat ([] : List Nat).length) (Int32.ofNat 0) = O at hkc o1 o2 o3 o4
          rw [o1] at hkc
          obtain ⟨p1, p2, p3, p4, p5⟩ := o2
          have hln := perm_len p3
          obtain ⟨y1, y2, y3⟩ := n49_L (S := S) (K := K) (m := min K S.length) (t := Int32.ofNat T) hK1.2 rfl 17 0 O.1 (by omega) (by omega) p1 hln (by
            rw [List.take_zero]
            exact cA_nil (by rw [o3 0 7 (by omega), a3]))
          rw [show Int32.ofNat 0 = 0 from rfl] at y1 y2 y3
          generalize g_ST_nearest_49 (Int32.ofNat T) (Int32.ofNat K) (Int32.ofNat S.length) 17 O.1 0 = Y at hkc y1 y2 y3
          have fY : ∀ d j, ¬ (d = 0 ∧ (j = 7 ∨ j = 8)) → d ≠ 9 → d ≠ 13 → Y.1 d j = w.1 d j := fun d j p q r => by rw [y2 d j (by omega) q, o3 d j r, a1 d j p]
          have fYr : Y.2.2 = w.2.2 := by rw [y3, o4]
          have hcY : cRw w Y := ⟨fun d j p q => fY d j (by omega) (by omega) (by omega), fYr⟩
          have eZ : g_ST_nearest_78 G (Int32.ofNat T) (Int32.ofNat K) (Int32.ofNat S.length) Y = wI Y 0 8 (bif zc .ge (Int32.ofNat S.length) (Int32.ofNat K) then e_ST_readsWithin G x (Int32.ofNat T) (38 + (Y.1 13 (Int32.ofNat K - 1).toNatClampNeg).toNatClampNeg) Y else e_In_size (20 + 12 * T) Y + Int32.ofNat S.length) := by
            unfold g_ST_nearest_78
            rw [show yd (Y.2.2 0 5) = x by rw [fYr, hx]; rfl, n_clamp (show T < 2147483648 by omega)]
            cases zc .ge (Int32.ofNat S.length) (Int32.ofNat K) <;> rfl
          rw [eZ] at hkc
          generalize hcnt : (bif zc .ge (Int32.ofNat S.length) (Int32.ofNat K) then e_ST_readsWithin G x (Int32.ofNat T) (38 + (Y.1 13 (Int32.ofNat K - 1).toNatClampNeg).toNatClampNeg) Y else e_In_size (20 + 12 * T) Y + Int32.ofNat S.length) = cnt at hkc
          have z1 : ∀ d j, ¬ (d = 0 ∧ j = 8) → (wI Y 0 8 cnt).1 d j = Y.1 d j := fun d j p => wI_nc p
          have z2 : (wI Y 0 8 cnt).1 0 8 = cnt := wI_self ..
          have z3 : (wI Y 0 8 cnt).2 = Y.2 := rfl
          generalize wI Y 0 8 cnt = Z at hkc z1 z2 z3
          have hsZ : sRw w Z := fun d j p q => by rw [z1 d j (by omega), fY d j (by omega) (by omega) (by omega)]
          rw [hkc]
          show (Z.1 0 7 = (e_Mo_nearest (Int32.ofNat T) (Int32.ofNat K) Z).2 ∧ INV (e_Mo_nearest (Int32.ofNat T) (Int32.ofNat K) Z).1 G) ∧ nHf (Int32.ofNat T) (Int32.ofNat K) Z
          obtain ⟨r1, r2, r3, r4, r5, r6⟩ := near_r (K := K) h hsZ hT he hK1.2 p2 p3
          have hkm := near_m (w := Z) (t := Int32.ofNat T) (ka := Int32.ofNat K) (by rw [k2]; rfl) (by rw [hsZ 55 64 (by omega) (by omega), hf]; rfl) hl hg
          unfold nHf
          rw [r1] at hkm ⊢
          generalize W_Mo_nearest (Int32.ofNat T) (Int32.ofNat K) Z = R at hkm r2 r3 r4 r5 r6
          have hsR : sRw w R := fun d j p q => by rw [r5 d j (by omega) (by omega)]; exact hsZ d j p q
          have h220 : (g_Mo_nearest_220 (Int32.ofNat T) (Int32.ofNat K) (Int32.ofNat S.length) R).2 = b2 (!zc .ge (Int32.ofNat S.length) (Int32.ofNat K)) := by
            unfold g_Mo_nearest_220
            cases zc .ge (Int32.ofNat S.length) (Int32.ofNat K) <;> rfl
          rw [h220] at hkm ⊢
          have hSl : ∀ i, i < S.length → S.getD i 0 < 16 ∧ rowP w T (S.getD i 0) = true ∧ S.getD i 0 ∈ S := fun i hi => by
            have g := getD_lt (S := S) (B := 16) (fun r hr => ((perm_mem p3).mp hr).1) hi
            exact ⟨g.1, ((perm_mem p3).mp g.2).2, g.2⟩
          have main : ∀ W : yW, W.1 54 21 = R.1 54 21 → (∀ j, W.1 69 j = R.1 69 j) → (∀ d j, ¬ (d = 54 ∧ 17 ≤ j ∧ j ≤ 22) → d ≠ 69 → W.1 d j = Z.1 d j) → W.2.2 = w.2.2 → W.1 54 22 = cnt → Z.1 0 7 = W.1 54 21 ∧ INV W G := fun W w1 w2 w3 w4 w5 => by
            have hcA : cA W ((S.take (min K S.length)).map Int32.ofNat) := cA_i (by rw [w3 0 7 (by omega) (by omega), z1 0 7 (by omega)]) (fun j => by rw [w3 9 j (by omega) (by omega), z1 9 j (by omega)]) y1
            have hle : ((S.take (min K S.length)).map Int32.ofNat).length = min K S.length := by
              rw [List.length_map, List.length_take]
              omega
            have hrA : rA W ((S.take (min K S.length)).map Int32.ofNat) := by
              refine ⟨by rw [w1, r2, hle], fun i hi => ?_⟩
              rw [hle] at hi
              rw [w2, r3 i hi, tk_getD hi (by omega)]
            refine ⟨by rw [w1, r2, z1 0 7 (by omega), y1.1, hle], ?_⟩
            refine INV_ans h ⟨fun d j p q r u v => by rw [w3 d j (by omega) v, z1 d j (by omega), fY d j p q r], w4⟩ (iAns_n hcA hrA (by rw [w5, w3 0 8 (by omega) (by omega), z2])) ?_
            intro j hj
            rw [w3 13 j (by omega) (by omega), z1 13 j (by omega), y2 13 j (by omega) (by omega)]
            exact p5 j hj
          have hRr : R.2.2 = w.2.2 := by rw [r6, z3, fYr]
          cases hc : zc .ge (Int32.ofNat S.length) (Int32.ofNat K) with
          | true =>
            have hKn : K ≤ S.length := by
              rw [zc_ge, z_nat (by omega), z_nat (by omega)] at hc
              have := of_decide_eq_true hc
              omega
            have hmin : min K S.length = K := Nat.min_eq_left hKn
            rw [hmin] at r2 r3
            obtain ⟨k, hk⟩ : ∃ k, K = k + 1 := ⟨K - 1, by omega⟩
            have e21 : R.1 54 21 - 1 = Int32.ofNat k := by rw [r2, hk, n_dec1]
            have g := hSl k (by omega)
            have e69 : R.1 69 k = Int32.ofNat (S.getD k 0) := r3 k (by omega)
            refine ⟨?_, fun _ _ _ _ _ => ?_⟩
            · rw [hc, Bool.not_true, e232a] at hkm
              rw [e21, n_clamp (show k < 2147483648 by omega), e69, n_clamp (show S.getD k 0 < 2147483648 by omega), (r4 _ g.1 g.2.1).1, (r4 _ g.1 g.2.1).2] at hkm
              rw [hc, cond_true, hk, n_dec1, n_clamp (show k < 2147483648 by omega), y2 13 k (by omega) (by omega), p1 k (by omega), n_clamp (show S.getD k 0 < 2147483648 by omega)] at hcnt
              have hdd := dP_b (T := T) h hT g.1 (show 64 < 65 by omega) he
              have kr := reads_n (w1 := Y) (w' := R) (dd := 38 + S.getD k 0) (t := (dP w G x T (S.getD k 0)).1) (u := (dP w G x T (S.getD k 0)).2) h hcY hsR hT (show 64 < 65 by omega) he (by rw [y3]; exact (p4 _ g.2.2).1) (by rw [y3]; exact (p4 _ g.2.2).2) hdd.2.1 hdd.2.2
              have kf := kf_Mo_readBy (Int32.ofNat 64) (Int32.ofNat T) (dP w G x T (S.getD k 0)).1 (dP w G x T (S.getD k 0)).2 R
              have kr2 := kr.2
              rw [kr.1] at hcnt
              rw [show (64 : Int32) = Int32.ofNat 64 from rfl] at hkm
              generalize e_Mo_readBy (Int32.ofNat 64) (Int32.ofNat T) (dP w G x T (S.getD k 0)).1 (dP w G x T (S.getD k 0)).2 R = B at hkm kf kr2 hcnt
              have m0 := main (wI B.1 54 22 B.2) (by rw [wI_nc (by omega), yKi kf (ySt_54 (by omega))]) (fun j => by rw [wI_nc (by omega), yKi kf (ySt_54 (by omega))]) (fun d j p q => by rw [wI_nc (by omega), yKi kf (ySt_54 (by omega)), r5 d j (by omega) q]) (by
                show B.1.2.2 = _
                rw [kr2, hRr]) (by rw [wI_self, hcnt])
              rw [hkm]
              exact m0
            · rw [e21, n_clamp (show k < 2147483648 by omega), e69]
              refine ⟨⟨?_, ?_⟩, ⟨?_, ?_⟩⟩
              · rw [z_nat (by omega)]; omega
              · rw [z_nat (by omega)]; omega
              · rw [z_nat (by omega)]; omega
              · rw [z_nat (by omega)]; omega
          | false =>
            refine ⟨?_, fun _ _ _ _ c => ?_⟩
            · rw [hc, Bool.not_false, e232b, show (64 : Int32) = Int32.ofNat 64 from rfl] at hkm
              have kr := rb0_n (w' := R) h hsR hT
              have kf := kf_Mo_readBy (Int32.ofNat 64) (Int32.ofNat T) 0 0 R
              generalize e_Mo_readBy (Int32.ofNat 64) (Int32.ofNat T) 0 0 R = B at hkm kf kr
              have m0 := main (wI B.1 54 22 B.2) (by rw [wI_nc (by omega), yKi kf (ySt_54 (by omega))]) (fun j => by rw [wI_nc (by omega), yKi kf (ySt_54 (by omega))]) (fun d j p q => by rw [wI_nc (by omega), yKi kf (ySt_54 (by omega)), r5 d j (by omega) q]) (by
                show B.1.2.2 = _
                rw [kr.2, hRr]) (by
                rw [wI_self, kr.1, ← hcnt, hc, cond_false, cnt_len, ← p3.length_eq]
                unfold e_In_size
                rw [hcY.1 (20 + 12 * T) 5 (by omega) (by omega)])
              rw [hkm]
              exact m0
            · exact absurd c (by decide)
  · refine same ?_ ?_ ?_
    · unfold e_ST_nearest
      rw [k1]
      rfl
    · unfold e_Mo_nearest
      rw [k2]
      rfl
    · intro c
      rw [k2] at c
      cases c
