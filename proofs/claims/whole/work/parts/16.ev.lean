-- runs without counting fuel
theorem zcm_mono {mt : List zM} {c1 c2 : Nat → List Value → zH → Option (Option Value × zH)} (hc : ∀ a as h r, c1 a as h = some r → c2 a as h = some r) {kind a pc : Nat} {h : zH} {lv : List (Nat × Value)} {st : List Value} {q : zS × zH} (hz : zcm mt c1 kind a h pc lv st = some q) : zcm mt c2 kind a h pc lv st = some q := by
  unfold zcm at hz ⊢
  split at hz
  · cases hz
  · next M hM =>
    split at hz
    · cases hz
    · next qq hq =>
      split at hz
      · cases hz
      · next hb =>
        split at hz
        · cases hz
        · next r hr =>
          rw [hc _ _ _ _ hr]
          exact hz
theorem zk_mono {mt : List zM} {c1 c2 : Nat → List Value → zH → Option (Option Value × zH)} (hc : ∀ a as h r, c1 a as h = some r → c2 a as h = some r) {fr lo : Nat} {i : Jvm.ClassFile.Instr} {a b pc : Nat} {h : zH} {lv : List (Nat × Value)} {st : List Value} {q : zS × zH} (hz : zk mt c1 fr lo i a b h pc lv st = some q) : zk mt c2 fr lo i a b h pc lv st = some q := by
  cases i with
  | invokestatic k =>
    rcases b with _ | _ | _ | _ | _ | _ | b
    · exact zcm_mono hc (show zcm mt c1 0 a h (pc + 3) lv st = some q from hz)
    · exact zcm_mono hc (show zcm mt c1 0 a h (pc + 3) lv st = some q from hz)
    all_goals exact hz
  | invokevirtual k =>
    rcases b with _ | _ | b
    · exact zcm_mono hc (show zcm mt c1 1 a h (pc + 3) lv st = some q from hz)
    all_goals exact hz
  | invokespecial k =>
    rcases b with _ | _ | _ | b
    · exact zcm_mono hc (show zcm mt c1 2 a h (pc + 3) lv st = some q from hz)
    · exact zcm_mono hc (show zcm mt c1 2 a h (pc + 3) lv st = some q from hz)
    all_goals exact hz
  | _ => exact znq hz
theorem zstep_mono {mt : List zM} {c1 c2 : Nat → List Value → zH → Option (Option Value × zH)} (hc : ∀ a as h r, c1 a as h = some r → c2 a as h = some r) {fr lo : Nat} {xs : zX} {x : zE} {s : zS} {h : zH} {q : zS × zH} (hz : zstep mt c1 fr lo xs x s h = some q) : zstep mt c2 fr lo xs x s h = some q := by
  unfold zstep at hz ⊢
  split at hz
  · exact hz
  · split at hz
    · exact hz
    · split at hz
      · exact hz
      · split at hz
        · exact hz
        · exact zk_mono hc hz
theorem zloop_mono {mt : List zM} {c1 c2 : Nat → List Value → zH → Option (Option Value × zH)} (hc : ∀ a as h r, c1 a as h = some r → c2 a as h = some r) {fr lo : Nat} {xs : zX} {M : zM} {r : Option Value × zH} (d : Nat) : ∀ {f : Nat} {s : zS} {h : zH}, zloop mt c1 fr lo xs M f s h = some r → zloop mt c2 fr lo xs M (f + d) s h = some r
  | 0, s, h, hz => by cases hz
  | f + 1, s, h, hz => by
    rw [show f + 1 + d = (f + d) + 1 by omega]
    rw [zloop] at hz ⊢
    split at hz
    · cases hz
    · split at hz
      · exact hz
      · split at hz
        · cases hz
        · next q hq =>
          rw [zstep_mono hc hq]
          exact zloop_mono hc d hz
theorem zbody_mono {mt : List zM} {c1 c2 : Nat → List Value → zH → Option (Option Value × zH)} (hc : ∀ a as h r, c1 a as h = some r → c2 a as h = some r) {fr lo : Nat} {xs : zX} {f a : Nat} {as : List Value} {h : zH} {r : Option Value × zH} (d : Nat) (hz : zbody mt c1 fr lo xs f a as h = some r) : zbody mt c2 fr lo xs (f + d) a as h = some r := by
  unfold zbody at hz ⊢
  split at hz
  · cases hz
  · split at hz
    · exact zloop_mono hc d hz
    · cases hz
theorem zcall_mono {mt : List zM} {f : Nat} (d : Nat) : ∀ (fr : Nat) {lo a : Nat} {as : List Value} {h : zH} {r : Option Value × zH}, zcall mt f fr lo a as h = some r → zcall mt (f + d) fr lo a as h = some r := by
  intro fr
  induction fr with
  | zero =>
    intro lo a as h r hz
    exact zbody_mono (fun _ _ _ _ h => h) d (show zbody mt (fun _ _ _ => none) 0 lo none f a as h = some r from hz)
  | succ fr ih =>
    intro lo a as h r hz
    refine zbody_mono (c1 := zcal mt f fr lo) (c2 := zcal mt (f + d) fr lo) (fun a as h r hc => ?_) d hz
    unfold zcal at hc ⊢
    split at hc
    · cases hc
    · split at hc
      · exact ih hc
      · cases hc
theorem zcal_mono {mt : List zM} {f fr lo a : Nat} {as : List Value} {h : zH} {r : Option Value × zH} (d : Nat) (hz : zcal mt f fr lo a as h = some r) : zcal mt (f + d) fr lo a as h = some r := by
  unfold zcal at hz ⊢
  split at hz
  · cases hz
  · split at hz
    · exact zcall_mono d fr hz
    · cases hz
/-- a method's run from a frame, with room for fr frames below and lo words, comes to r -/
def zRun (fr lo : Nat) (xs : zX) (M : zM) (s : zS) (h : zH) (r : Option Value × zH) : Prop := ∃ F, zloop zmt (zcal zmt F fr lo) (fr + 1) lo xs M F s h = some r
/-- a call, with room for fr frames below the called one and lo words for it and them, comes to r -/
def zAns (fr lo a : Nat) (as : List Value) (h : zH) (r : Option Value × zH) : Prop := ∃ F, zcal zmt F fr lo a as h = some r
section ZE
variable {fr lo : Nat} {xs : zX} {M : zM} {h : zH} {r : Option Value × zH} {pc : Nat} {lv : List (Nat × Value)} {st : List Value} {x : zE}
/-- a step that makes no call -/
theorem ze1 {s : zS} {q : zS × zH} (hx : zlk2 (mT M) s.1 = some x) (hr : zre (mR M) (xI x) s.2.2 = none) (hs : ∀ call, zstep zmt call (fr + 1) lo xs x s h = some q) (k : zRun fr lo xs M q.1 q.2 r) : zRun fr lo xs M s h r := by
  obtain ⟨F, hF⟩ := k
  have h1 := zloop_mono (c2 := zcal zmt (F + 1) fr lo) (fun _ _ _ _ h => zcal_mono 1 h) 0 hF
  refine ⟨F + 1, ?_⟩
  rw [zloop]
  simp only [hx, hr, hs]
  exact h1
theorem zer {s : zS} {v : Option Value} (hx : zlk2 (mT M) s.1 = some x) (hr : zre (mR M) (xI x) s.2.2 = some v) : zRun fr lo xs M s h (v, h) := by
  refine ⟨1, ?_⟩
  rw [zloop]
  simp only [hx, hr]
/-- a call -/
theorem zec {s s' : zS} {M' : zM} {qq : List Value × List Value} {ra : Option Value × zH} (kind : Nat) (hx : zlk2 (mT M) s.1 = some x) (hr : zre (mR M) (xI x) s.2.2 = none)
    (hs : ∀ call, zstep zmt call (fr + 1) lo xs x s h = zcm zmt call kind (xA x) h (s.1 + 3) s.2.1 s.2.2) (hM : zmt[xA x]? = some M') (hp : zpop (zco kind (mN M')) s.2.2 = some qq) (hk : (Nat.beq (mK M') kind && (zrc kind (mW M').2.2.2 qq.1 h.1 && Nat.ble (zcat qq.2) 8)) = true)
    (hc : zAns fr lo (xA x) qq.1 h ra) (hs' : (s.1 + 3, s.2.1, ra.1.toList ++ qq.2) = s') (k : zRun fr lo xs M s' ra.2 r) : zRun fr lo xs M s h r := by
  obtain ⟨F, hF⟩ := k
  obtain ⟨G, hG⟩ := hc
  have h1 := zloop_mono (c2 := zcal zmt (F + G + 1) fr lo) (fun _ _ _ _ h => by have e := zcal_mono (G + 1) h; rw [show F + (G + 1) = F + G + 1 by omega] at e; exact e) G hF
  have h2 := zcal_mono (F + 1) hG
  rw [show G + (F + 1) = F + G + 1 by omega] at h2
  refine ⟨F + G + 1, ?_⟩
  rw [zqc kind hx hr (hs _) hM hp hk h2 hs']
  exact h1
/-- a method's body -/
theorem zeb {a : Nat} {as : List Value} (hM : zmt[a]? = some M) (h1 : 19 + mL M ≤ lo) (h2 : Nat.ble (zcat as) (mL M) = true) (k : zRun fr (lo - (19 + mL M)) none M (0, lv_args 0 as, []) h r) : zAns (fr + 1) lo a as h r := by
  obtain ⟨F, hF⟩ := k
  refine ⟨F, ?_⟩
  rw [zcal_go hM (Nat.ble_eq_true_of_le h1) h2]
  exact hF
/-- a branch -/
theorem zeb2 {s q : zS} {cB v : Bool} {off : Int} {lv : List (Nat × Value)} {st : List Value} (hx : zlk2 (mT M) s.1 = some x) (hr : zre (mR M) (xI x) s.2.2 = none) (hs : zp (xI x) (xV x) s.1 s.2.1 s.2.2 = zbr cB s.1 off lv st) (hc : cB = v) (hq : zbr v s.1 off lv st = some q) (k : zRun fr lo xs M q h r) : zRun fr lo xs M s h r := by
  refine ze1 (q := (q, h)) hx hr (fun call => ?_) k
  unfold zstep
  rw [hs, hc, hq]
end ZE
