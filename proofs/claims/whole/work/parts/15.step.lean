-- steps as equations
theorem zq1 {mt : List zM} {call : Nat → List Value → zH → Option (Option Value × zH)} {fr lo : Nat} {xs : zX} {M : zM} {f : Nat} {s : zS} {h : zH} {x : zE} {q : zS × zH} (hx : zlk2 (mT M) s.1 = some x) (hr : zre (mR M) (xI x) s.2.2 = none) (hs : zstep mt call fr lo xs x s h = some q) :
    zloop mt call fr lo xs M (f + 1) s h = zloop mt call fr lo xs M f q.1 q.2 := by
  rw [zloop]
  simp only [hx, hr, hs]
theorem zqr {mt : List zM} {call : Nat → List Value → zH → Option (Option Value × zH)} {fr lo : Nat} {xs : zX} {M : zM} {f : Nat} {s : zS} {h : zH} {x : zE} {r : Option Value} (hx : zlk2 (mT M) s.1 = some x) (hr : zre (mR M) (xI x) s.2.2 = some r) :
    zloop mt call fr lo xs M (f + 1) s h = some (r, h) := by
  rw [zloop]
  simp only [hx, hr]
/-- a branch whose condition is known -/
theorem zqb {mt : List zM} {call : Nat → List Value → zH → Option (Option Value × zH)} {fr lo : Nat} {xs : zX} {M : zM} {f : Nat} {s q : zS} {h : zH} {x : zE} {cB v : Bool} {off : Int} {lv : List (Nat × Value)} {r : List Value} (hx : zlk2 (mT M) s.1 = some x) (hr : zre (mR M) (xI x) s.2.2 = none) (hs : zp (xI x) (xV x) s.1 s.2.1 s.2.2 = zbr cB s.1 off lv r) (hc : cB = v) (hq : zbr v s.1 off lv r = some q) :
    zloop mt call fr lo xs M (f + 1) s h = zloop mt call fr lo xs M f q h := by
  refine zq1 (q := (q, h)) hx hr ?_
  unfold zstep
  rw [hs, hc, hq]
theorem zcall_len {mt : List zM} {f fr lo a : Nat} {as : List Value} {h : zH} {r : Option Value × zH} (hz : zcall mt f fr lo a as h = some r) : h.1.length ≤ r.2.1.length ∧ h.2 ≤ r.2.2 := by
  have key : ∀ {call : Nat → List Value → zH → Option (Option Value × zH)} {fr : Nat}, zbody mt call fr lo none f a as h = some r → h.1.length ≤ r.2.1.length ∧ h.2 ≤ r.2.2 := fun hb => by
    unfold zbody at hb
    split at hb
    · cases hb
    · split at hb
      · exact zloop_len hb
      · cases hb
  cases fr with
  | zero => exact key (show zbody mt (fun _ _ _ => none) 0 lo none f a as h = some r from hz)
  | succ fr => exact key (fr := fr + 1) hz
theorem zcal_len {mt : List zM} {f fr lo a : Nat} {as : List Value} {h : zH} {r : Option Value × zH} (hz : zcal mt f fr lo a as h = some r) : h.1.length ≤ r.2.1.length ∧ h.2 ≤ r.2.2 := by
  unfold zcal at hz
  split at hz
  · cases hz
  · split at hz
    · exact zcall_len hz
    · cases hz
/-- a call whose result is known -/
theorem zqc {mt : List zM} {g fr0 lo0 : Nat} {fr lo : Nat} {xs : zX} {M : zM} {f : Nat} {s s' : zS} {h : zH} {x : zE} {M' : zM} {qq : List Value × List Value} {r : Option Value × zH} (kind : Nat) (hx : zlk2 (mT M) s.1 = some x) (hr : zre (mR M) (xI x) s.2.2 = none)
    (hs : zstep mt (zcal mt g fr0 lo0) fr lo xs x s h = zcm mt (zcal mt g fr0 lo0) kind (xA x) h (s.1 + 3) s.2.1 s.2.2) (hM : mt[xA x]? = some M') (hp : zpop (zco kind (mN M')) s.2.2 = some qq) (hk : (Nat.beq (mK M') kind && (zrc kind (mW M').2.2.2 qq.1 h.1 && Nat.ble (zcat qq.2) 8)) = true)
    (hc : zcal mt g fr0 lo0 (xA x) qq.1 h = some r) (hs' : (s.1 + 3, s.2.1, r.1.toList ++ qq.2) = s') :
    zloop mt (zcal mt g fr0 lo0) fr lo xs M (f + 1) s h = zloop mt (zcal mt g fr0 lo0) fr lo xs M f s' r.2 := by
  refine zq1 (q := (s', r.2)) hx hr ?_
  have hl := zcal_len hc
  rw [hs]
  unfold zcm
  rw [hM]
  dsimp only
  rw [hp]
  dsimp only
  rw [hk]
  dsimp only
  rw [hc]
  dsimp only
  have h1 : Nat.ble h.1.length r.2.1.length = true := Nat.ble_eq_true_of_le hl.1
  have h2 : Nat.ble h.2 r.2.2 = true := Nat.ble_eq_true_of_le hl.2
  rw [h1, h2, ← hs']
  rfl
theorem zcal_go {mt : List zM} {f fr lo a : Nat} {as : List Value} {h : zH} {M : zM} (hM : mt[a]? = some M) (h1 : Nat.ble (19 + mL M) lo = true) (h2 : Nat.ble (zcat as) (mL M) = true) :
    zcal mt f (fr + 1) lo a as h = zloop mt (zcal mt f fr (lo - (19 + mL M))) (fr + 1) (lo - (19 + mL M)) none M f (0, lv_args 0 as, []) h := by
  have e : zcal mt f (fr + 1) lo a as h = zbody mt (zcal mt f fr (lo - (19 + mL M))) (fr + 1) (lo - (19 + mL M)) none f a as h := by
    conv => lhs; unfold zcal
    rw [hM]
    dsimp only
    rw [h1]
    rfl
  rw [e]
  unfold zbody
  rw [hM]
  dsimp only
  rw [h2]
theorem zcb (c : Jvm.ClassFile.Cond) {x y : Int32} {k : Int} {v : Bool} (hk : y.toInt = k) (h : (match c with | .eq => decide (x.toInt = k) | .ne => decide (¬ x.toInt = k) | .lt => decide (x.toInt < k) | .ge => decide (k ≤ x.toInt) | .gt => decide (k < x.toInt) | .le => decide (x.toInt ≤ k)) = v) : zc c x y = v := by
  subst hk
  rw [← h]
  cases c with
  | eq => exact decide_eq_decide.mpr ⟨fun e => by rw [e], fun e => Int32.toInt_inj.mp e⟩
  | ne => exact decide_eq_decide.mpr ⟨fun e e2 => e (Int32.toInt_inj.mp e2), fun e e2 => e (by rw [e2])⟩
  | lt => exact decide_eq_decide.mpr Int32.lt_iff_toInt_lt
  | ge => exact decide_eq_decide.mpr Int32.le_iff_toInt_le
  | gt => exact decide_eq_decide.mpr Int32.lt_iff_toInt_lt
  | le => exact decide_eq_decide.mpr Int32.le_iff_toInt_le
