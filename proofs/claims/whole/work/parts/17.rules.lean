-- rules: several steps at once; reading and writing where the cell is known
noncomputable def znx (fr lo : Nat) (xs : zX) (M : zM) : Nat → zS → zH → Option (zS × zH)
  | 0, s, h => some (s, h)
  | n + 1, s, h => match zlk2 (mT M) s.1 with
    | none => none
    | some x => match zre (mR M) (xI x) s.2.2 with
      | some _ => none
      | none => match zstep zmt (fun _ _ _ => none) fr lo xs x s h with
        | none => none
        | some q => znx fr lo xs M n q.1 q.2
section ZRU
variable {fr lo : Nat} {xs : zX} {M : zM} {h : zH} {r : Option Value × zH} {pc : Nat} {lv : List (Nat × Value)} {rest : List Value} {x : zE}
theorem zeN : ∀ (n : Nat) {s : zS} {h : zH} {q : zS × zH}, znx (fr + 1) lo xs M n s h = some q → zRun fr lo xs M q.1 q.2 r → zRun fr lo xs M s h r
  | 0, s, h, q, hs, k => by
    obtain rfl := Option.some.inj hs
    exact k
  | n + 1, s, h, q, hs, k => by
    rw [znx] at hs
    split at hs
    · cases hs
    · next x hx =>
      split at hs
      · cases hs
      · next hr =>
        split at hs
        · cases hs
        · next q1 h1 => exact ze1 hx hr (fun call => zstep_mono (fun _ _ _ _ h => by cases h) h1) (zeN n hs k)
theorem zsR {i : Jvm.ClassFile.Instr} {s' : zS} {call : Nat → List Value → zH → Option (Option Value × zH)} {st : List Value} (hi : xI x = i) (h0 : ∀ kv, zp i kv pc lv st = none) (h1 : zr i (xA x) (xB x) xs h.1 pc lv st = some s') : zstep zmt call fr lo xs x (pc, lv, st) h = some (s', h) := by
  unfold zstep
  simp only [hi, h0, h1]
theorem zsW {i : Jvm.ClassFile.Instr} {q : zS × List zC} {call : Nat → List Value → zH → Option (Option Value × zH)} {st : List Value} (hi : xI x = i) (h0 : ∀ kv, zp i kv pc lv st = none) (h1 : zr i (xA x) (xB x) xs h.1 pc lv st = none) (h2 : zw i (xA x) (xB x) h.1 pc lv st = some q) : zstep zmt call fr lo xs x (pc, lv, st) h = some (q.1, (q.2, h.2)) := by
  unfold zstep
  simp only [hi, h0, h1, h2]
theorem zegf {a b u i : Nat} {fs : List Value} {v : Value} (hx : zlk2 (mT M) pc = some x) (hi : xI x = .getfield i) (ha : xA x = a) (hb : xB x = b) (hu : h.1[u]? = some (.inr (a, fs))) (hv : fs[b]? = some v) (k : zRun fr lo xs M (pc + 3, lv, v :: rest) h r) : zRun fr lo xs M (pc, lv, .ref u :: rest) h r := by
  refine ze1 (q := ((pc + 3, lv, v :: rest), h)) hx (by rw [hi]; rfl) (fun call => zsR hi (fun _ => rfl) ?_) k
  rw [ha, hb]
  show zgf a b h.1 (pc + 3) lv (.ref u :: rest) = _
  simp [zgf, hu, hv, Nat.beq_refl]
theorem zin_ok {j : Int32} {k n : Nat} (hj : j.toInt = (k : Int)) (hk : k < n) : zin j n = true ∧ j.toNatClampNeg = k := by
  have e : j.toNatClampNeg = k := by
    show j.toInt.toNat = k
    rw [hj]
    rfl
  refine ⟨decide_eq_true (fun hh => ?_), e⟩
  rcases hh with h1 | h1
  · have h2 := Int32.lt_iff_toInt_lt.mp h1
    rw [hj] at h2
    have h3 : (k : Int) < 0 := h2
    omega
  · omega
theorem zal_eq {t0 : Nat → Bool} {hp : List zC} {j : Int32} {u k t : Nat} {l : List Value} {v : Value} (hu : hp[u]? = some (.inl (t, l))) (ht : t0 t = true) (hj : j.toInt = (k : Int)) (hv : l[k]? = some v) : zal t0 xs hp pc lv (.int j :: .ref u :: rest) = some (pc, lv, v :: rest) := by
  obtain ⟨h1, h2⟩ := zin_ok hj (List.getElem?_eq_some_iff.mp hv).1
  simp [zal, hu, ht, h1, h2, hv]
theorem zeia {u k : Nat} {j : Int32} {l : List Value} {v : Value} (hx : zlk2 (mT M) pc = some x) (hi : xI x = .iaload) (hu : h.1[u]? = some (.inl (0, l))) (hj : j.toInt = (k : Int)) (hv : l[k]? = some v) (kk : zRun fr lo xs M (pc + 1, lv, v :: rest) h r) : zRun fr lo xs M (pc, lv, .int j :: .ref u :: rest) h r :=
  ze1 (q := ((pc + 1, lv, v :: rest), h)) hx (by rw [hi]; rfl) (fun call => zsR hi (fun _ => rfl) (zal_eq (xs := xs) (t0 := fun t => Nat.beq t 0) hu rfl hj hv)) kk
theorem zeba {u k : Nat} {j : Int32} {l : List Value} {v : Value} (hx : zlk2 (mT M) pc = some x) (hi : xI x = .baload) (hu : h.1[u]? = some (.inl (1, l))) (hj : j.toInt = (k : Int)) (hv : l[k]? = some v) (kk : zRun fr lo xs M (pc + 1, lv, v :: rest) h r) : zRun fr lo xs M (pc, lv, .int j :: .ref u :: rest) h r :=
  ze1 (q := ((pc + 1, lv, v :: rest), h)) hx (by rw [hi]; rfl) (fun call => zsR hi (fun _ => rfl) (zal_eq (xs := xs) (t0 := fun t => Nat.beq t 1) hu rfl hj hv)) kk
theorem zela {u k : Nat} {j : Int32} {l : List Value} {v : Value} (hx : zlk2 (mT M) pc = some x) (hi : xI x = .laload) (hu : h.1[u]? = some (.inl (2, l))) (hj : j.toInt = (k : Int)) (hv : l[k]? = some v) (kk : zRun fr lo xs M (pc + 1, lv, v :: rest) h r) : zRun fr lo xs M (pc, lv, .int j :: .ref u :: rest) h r :=
  ze1 (q := ((pc + 1, lv, v :: rest), h)) hx (by rw [hi]; rfl) (fun call => zsR hi (fun _ => rfl) (zal_eq (xs := xs) (t0 := fun t => Nat.beq t 2) hu rfl hj hv)) kk
theorem zeaa {u k t : Nat} {j : Int32} {l : List Value} {v : Value} (hx : zlk2 (mT M) pc = some x) (hi : xI x = .aaload) (hu : h.1[u]? = some (.inl (t, l))) (ht : zrt t = true) (hj : j.toInt = (k : Int)) (hv : l[k]? = some v) (kk : zRun fr lo xs M (pc + 1, lv, v :: rest) h r) : zRun fr lo xs M (pc, lv, .int j :: .ref u :: rest) h r :=
  ze1 (q := ((pc + 1, lv, v :: rest), h)) hx (by rw [hi]; rfl) (fun call => zsR hi (fun _ => rfl) (zal_eq (xs := xs) (t0 := zrt) hu ht hj hv)) kk
theorem zeln {u t : Nat} {l : List Value} (hx : zlk2 (mT M) pc = some x) (hi : xI x = .arraylength) (hu : h.1[u]? = some (.inl (t, l))) (ht : Nat.blt t zNT = true) (kk : zRun fr lo xs M (pc + 1, lv, .int (Int32.ofNat l.length) :: rest) h r) : zRun fr lo xs M (pc, lv, .ref u :: rest) h r := by
  refine ze1 (q := ((pc + 1, lv, .int (Int32.ofNat l.length) :: rest), h)) hx (by rw [hi]; rfl) (fun call => zsR hi (fun _ => rfl) ?_) kk
  show zle xs h.1 (pc + 1) lv (.ref u :: rest) = _
  simp [zle, hu, ht]
theorem zepf {a b u i : Nat} {fs : List Value} {v : Value} (hx : zlk2 (mT M) pc = some x) (hi : xI x = .putfield i) (ha : xA x = a) (hb : xB x = b) (hu : h.1[u]? = some (.inr (a, fs))) (hl : b < fs.length) (hf : zfit (zty a b) v = true) (k : zRun fr lo xs M (pc + 3, lv, rest) (h.1.set u (.inr (a, fs.set b v)), h.2) r) : zRun fr lo xs M (pc, lv, v :: .ref u :: rest) h r := by
  refine ze1 (q := ((pc + 3, lv, rest), (h.1.set u (.inr (a, fs.set b v)), h.2))) hx (by rw [hi]; rfl) (fun call => zsW (q := ((pc + 3, lv, rest), h.1.set u (.inr (a, fs.set b v)))) hi (fun _ => rfl) rfl ?_) k
  rw [ha, hb]
  show zpf a b h.1 (pc + 3) lv (v :: .ref u :: rest) = _
  have h1 : Nat.blt b fs.length = true := Nat.ble_eq_true_of_le hl
  simp [zpf, hu, Nat.beq_refl, h1, hf]
theorem zeis {u k : Nat} {j z : Int32} {l : List Value} (hx : zlk2 (mT M) pc = some x) (hi : xI x = .iastore) (hu : h.1[u]? = some (.inl (0, l))) (hj : j.toInt = (k : Int)) (hk : k < l.length) (kk : zRun fr lo xs M (pc + 1, lv, rest) (h.1.set u (.inl (0, l.set k (.int z))), h.2) r) : zRun fr lo xs M (pc, lv, .int z :: .int j :: .ref u :: rest) h r := by
  obtain ⟨h1, h2⟩ := zin_ok hj hk
  refine ze1 (q := ((pc + 1, lv, rest), (h.1.set u (.inl (0, l.set k (.int z))), h.2))) hx (by rw [hi]; rfl) (fun call => zsW (q := ((pc + 1, lv, rest), h.1.set u (.inl (0, l.set k (.int z))))) hi (fun _ => rfl) rfl ?_) kk
  show zis h.1 (pc + 1) lv (.int z :: .int j :: .ref u :: rest) = _
  simp [zis, hu, h1, h2]
theorem zebs {u k : Nat} {j z : Int32} {l : List Value} (hx : zlk2 (mT M) pc = some x) (hi : xI x = .bastore) (hu : h.1[u]? = some (.inl (1, l))) (hj : j.toInt = (k : Int)) (hk : k < l.length) (kk : zRun fr lo xs M (pc + 1, lv, rest) (h.1.set u (.inl (1, l.set k (.int (z &&& 1)))), h.2) r) : zRun fr lo xs M (pc, lv, .int z :: .int j :: .ref u :: rest) h r := by
  obtain ⟨h1, h2⟩ := zin_ok hj hk
  refine ze1 (q := ((pc + 1, lv, rest), (h.1.set u (.inl (1, l.set k (.int (z &&& 1)))), h.2))) hx (by rw [hi]; rfl) (fun call => zsW (q := ((pc + 1, lv, rest), h.1.set u (.inl (1, l.set k (.int (z &&& 1)))))) hi (fun _ => rfl) rfl ?_) kk
  show zbs h.1 (pc + 1) lv (.int z :: .int j :: .ref u :: rest) = _
  simp [zbs, hu, h1, h2]
theorem zels {u k : Nat} {j : Int32} {z : Int64} {l : List Value} (hx : zlk2 (mT M) pc = some x) (hi : xI x = .lastore) (hu : h.1[u]? = some (.inl (2, l))) (hj : j.toInt = (k : Int)) (hk : k < l.length) (kk : zRun fr lo xs M (pc + 1, lv, rest) (h.1.set u (.inl (2, l.set k (.long z))), h.2) r) : zRun fr lo xs M (pc, lv, .long z :: .int j :: .ref u :: rest) h r := by
  obtain ⟨h1, h2⟩ := zin_ok hj hk
  refine ze1 (q := ((pc + 1, lv, rest), (h.1.set u (.inl (2, l.set k (.long z))), h.2))) hx (by rw [hi]; rfl) (fun call => zsW (q := ((pc + 1, lv, rest), h.1.set u (.inl (2, l.set k (.long z))))) hi (fun _ => rfl) rfl ?_) kk
  show zls h.1 (pc + 1) lv (.long z :: .int j :: .ref u :: rest) = _
  simp [zls, hu, h1, h2]
theorem zeas {u k t : Nat} {j : Int32} {v : Value} {l : List Value} (hx : zlk2 (mT M) pc = some x) (hi : xI x = .aastore) (hu : h.1[u]? = some (.inl (t, l))) (hv : zes h.1 t v = true) (hj : j.toInt = (k : Int)) (hk : k < l.length) (kk : zRun fr lo xs M (pc + 1, lv, rest) (h.1.set u (.inl (t, l.set k v)), h.2) r) : zRun fr lo xs M (pc, lv, v :: .int j :: .ref u :: rest) h r := by
  obtain ⟨h1, h2⟩ := zin_ok hj hk
  refine ze1 (q := ((pc + 1, lv, rest), (h.1.set u (.inl (t, l.set k v)), h.2))) hx (by rw [hi]; rfl) (fun call => zsW (q := ((pc + 1, lv, rest), h.1.set u (.inl (t, l.set k v)))) hi (fun _ => rfl) rfl ?_) kk
  show zas h.1 (pc + 1) lv (v :: .int j :: .ref u :: rest) = _
  simp [zas, hu, hv, h1, h2]
/-- a branch both ways -/
theorem zbc {s q1 q2 : zS} {cB : Bool} {off : Int} {lv : List (Nat × Value)} {st : List Value} (hx : zlk2 (mT M) s.1 = some x) (hr : zre (mR M) (xI x) s.2.2 = none) (hs : zp (xI x) (xV x) s.1 s.2.1 s.2.2 = zbr cB s.1 off lv st) (hq1 : zbr true s.1 off lv st = some q1) (hq2 : zbr false s.1 off lv st = some q2) (k1 : cB = true → zRun fr lo xs M q1 h r) (k2 : cB = false → zRun fr lo xs M q2 h r) : zRun fr lo xs M s h r := by
  cases hc : cB with
  | true => exact zeb2 hx hr hs hc hq1 (k1 hc)
  | false => exact zeb2 hx hr hs hc hq2 (k2 hc)
end ZRU
