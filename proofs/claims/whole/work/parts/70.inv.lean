-- what class and reference have in common
/-- reference's slot s holds what the class has at a place -/
def rEq (w : yW) (G : List zC) (s : Nat) (o : Option Nat) : Prop := match o with
  | none => w.1 55 s = 0
  | some x => w.1 55 s = 1 ∧ yOk G x ∧ w.1 57 s = gK G x ∧ w.1 58 s = Int32.ofNat (gX G x).length ∧ (∀ i, i < (gX G x).length → w.1 59 (6 * s + i) = (gX G x).getD i 0 ∧ w.1 60 (6 * s + i) = (gY G x).getD i 0) ∧ w.1 61 s = gB G x 0 ∧ w.1 63 s = gB G x 1 ∧ w.1 62 s = gB G x 2 ∧ w.1 64 s = gB G x 3
def iDraft (w : yW) : Prop := w.1 6 2 = w.1 54 10 ∧ (0 ≤ (w.1 54 10).toInt ∧ (w.1 54 10).toInt ≤ 6) ∧ ∀ i, i < (w.1 54 10).toInt.toNat → w.1 7 i = w.1 65 i ∧ w.1 8 i = w.1 66 i ∧ (0 ≤ (w.1 65 i).toInt ∧ (w.1 65 i).toInt ≤ 255) ∧ (0 ≤ (w.1 66 i).toInt ∧ (w.1 66 i).toInt ≤ 255)
def iFoc (w : yW) (G : List zC) : Prop := rEq w G 64 (w.2.2 0 5)
def iPres (w : yW) (G : List zC) : Prop := ∀ t q, t < 2 → q < 16 → rEq w G (16 * t + q) (w.2.2 (16 + 12 * t) q) ∧ (w.2.2 (16 + 12 * t) q ≠ none → w.1 (15 + 12 * t) q = w.1 56 (16 * t + q))
def iComm (w : yW) (G : List zC) : Prop := ∀ t q, t < 2 → q < 16 → rEq w G (32 + (16 * t + q)) (w.2.2 (19 + 12 * t) q) ∧ (w.2.2 (19 + 12 * t) q ≠ none → w.1 (18 + 12 * t) q = w.1 56 (32 + (16 * t + q)))
def iMany (w : yW) : Prop := ∀ s, s < 65 → (w.1 55 s = 0 ∨ w.1 55 s = 1) ∧ 0 ≤ (w.1 58 s).toInt ∧ (w.1 58 s).toInt ≤ 6
def iAns (w : yW) : Prop := w.1 0 7 = w.1 54 21 ∧ (0 ≤ (w.1 54 21).toInt ∧ (w.1 54 21).toInt ≤ 256) ∧ (∀ i, i < (w.1 54 21).toInt.toNat → w.1 9 i = w.1 69 i) ∧ w.1 0 8 = w.1 54 22
def iFr (w : yW) : Prop := (∀ p, p < 9 → w.1 5 p = w.1 70 p ∧ (w.1 70 p = -1 ∨ (0 ≤ (w.1 70 p).toInt ∧ (w.1 70 p).toInt < 16))) ∧ ¬ w.1 70 8 = -1
def iOrd (w : yW) : Prop := ∀ j, j < 16 → zIx (w.1 13 j) 16
/-- a row's bound and how many levels its squares have, from its place -/
def oB (G : List zC) (k : Nat) (o : Option Nat) : Int := match o with
  | none => 0
  | some x => (gB G x k).toInt
def oH (G : List zC) (o : Option Nat) : Nat := match o with
  | none => 0
  | some x => (f_Bo_homeLevel (gB G x 0) (gB G x 1) (gB G x 2) (gB G x 3)).toInt.toNat + 1
/-- an index (cell c) of the rows of a table (places in cell e), rows of depth d -/
def iIxd (w : yW) (G : List zC) (c e : Nat) (d : Nat → Nat) : Prop := yIn w c ∧ ∃ sq, ixI (w.1 c 5).toInt.toNat sq (fun i q => (w.1 (c + 1) (4 * i + q)).toInt.toNat) d (fun r => oB G 0 (w.2.2 e r)) (fun r => oB G 1 (w.2.2 e r)) ∧ ixR (w.1 c 5).toInt.toNat sq (fun i => (w.1 (c + 2) i).toInt) (fun i => (w.1 (c + 3) i).toInt) (fun i => (w.1 (c + 4) i).toInt) (fun i => (w.1 (c + 5) i).toInt) d (fun r => oB G 0 (w.2.2 e r)) (fun r => oB G 1 (w.2.2 e r)) (fun r => oB G 2 (w.2.2 e r)) (fun r => oB G 3 (w.2.2 e r))
def iIdx (w : yW) (G : List zC) : Prop := ∀ t, t < 2 → iIxd w G (20 + 12 * t) (16 + 12 * t) (fun r => oH G (w.2.2 (16 + 12 * t) r))
def INV (w : yW) (G : List zC) : Prop := iDraft w ∧ iFoc w G ∧ iPres w G ∧ iComm w G ∧ iMany w ∧ iAns w ∧ iFr w ∧ iOrd w ∧ iIdx w G ∧ yRk w G
section IKS
variable {S : List (Nat × Option Nat)} {w w' : yW} {G : List zC}
theorem rEq_K {s : Nat} {o : Option Nat} (k : yK S w w') (hs : s < 65) (h55 : ySt S 55 s = false) (h57 : ySt S 57 s = false) (h58 : ySt S 58 s = false) (h59 : ∀ j, ySt S 59 j = false) (h60 : ∀ j, ySt S 60 j = false) (h61 : ySt S 61 s = false) (h62 : ySt S 62 s = false) (h63 : ySt S 63 s = false) (h64 : ySt S 64 s = false) (h : rEq w G s o) : rEq w' G s o := by
  cases o with
  | none => exact (yKi k h55).trans h
  | some x =>
    obtain ⟨a1, a2, a3, a4, a5, a6, a7, a8, a9⟩ := h
    exact ⟨(yKi k h55).trans a1, a2, (yKi k h57).trans a3, (yKi k h58).trans a4, fun i hi => ⟨(yKi k (h59 _)).trans (a5 i hi).1, (yKi k (h60 _)).trans (a5 i hi).2⟩, (yKi k h61).trans a6, (yKi k h63).trans a7, (yKi k h62).trans a8, (yKi k h64).trans a9⟩
/-- none of the reference's row cells is written -/
def ySr (S : List (Nat × Option Nat)) : Bool := !(ySt S 55 0 || (ySt S 56 0 || (ySt S 57 0 || (ySt S 58 0 || (ySt S 59 0 || (ySt S 60 0 || (ySt S 61 0 || (ySt S 62 0 || (ySt S 63 0 || ySt S 64 0))))))))) && S.all (fun p => p.2.isNone || (Nat.beq p.1 54 || (Nat.beq p.1 0 || (Nat.beq p.1 6 || (Nat.beq p.1 20 || Nat.beq p.1 32)))))
theorem ySt_all {c : Nat} (h54 : Nat.beq c 54 = false) (h0' : Nat.beq c 0 = false) (h6 : Nat.beq c 6 = false) (h20 : Nat.beq c 20 = false) (h32 : Nat.beq c 32 = false) : ∀ {S : List (Nat × Option Nat)}, S.all (fun p => p.2.isNone || (Nat.beq p.1 54 || (Nat.beq p.1 0 || (Nat.beq p.1 6 || (Nat.beq p.1 20 || Nat.beq p.1 32))))) = true → ySt S c 0 = false → ∀ j, ySt S c j = false
  | [], _, _, j => rfl
  | (c0, none) :: S, hS, h0, j => by
    rw [List.all_cons, Bool.and_eq_true] at hS
    unfold ySt at h0 ⊢
    rw [Bool.or_eq_false_iff] at h0 ⊢
    exact ⟨h0.1, ySt_all h54 h0' h6 h20 h32 hS.2 h0.2 j⟩
  | (c0, some j0) :: S, hS, h0, j => by
    rw [List.all_cons, Bool.and_eq_true] at hS
    unfold ySt at h0 ⊢
    rw [Bool.or_eq_false_iff] at h0 ⊢
    refine ⟨?_, ySt_all h54 h0' h6 h20 h32 hS.2 h0.2 j⟩
    have h1 := hS.1
    simp only [Option.isNone_some, Bool.false_or, Bool.or_eq_true] at h1
    cases hb : Nat.beq c c0
    · rfl
    · have e := Nat.eq_of_beq_eq_true hb
      subst e
      rw [h54, h0', h6, h20, h32] at h1
      simp at h1
theorem rEq_S {s : Nat} {o : Option Nat} (k : yK S w w') (hS : ySr S = true) (hs : s < 65) (h : rEq w G s o) : rEq w' G s o := by
  unfold ySr at hS
  rw [Bool.and_eq_true, Bool.not_eq_true'] at hS
  simp only [Bool.or_eq_false_iff] at hS
  obtain ⟨⟨a1, a2, a3, a4, a5, a6, a7, a8, a9, a10⟩, hA⟩ := hS
  exact rEq_K k hs (ySt_all rfl rfl rfl rfl rfl hA a1 s) (ySt_all rfl rfl rfl rfl rfl hA a3 s) (ySt_all rfl rfl rfl rfl rfl hA a4 s) (ySt_all rfl rfl rfl rfl rfl hA a5) (ySt_all rfl rfl rfl rfl rfl hA a6) (ySt_all rfl rfl rfl rfl rfl hA a7 s) (ySt_all rfl rfl rfl rfl rfl hA a8 s) (ySt_all rfl rfl rfl rfl rfl hA a9 s) (ySt_all rfl rfl rfl rfl rfl hA a10 s) h
theorem w56_S (k : yK S w w') (hS : ySr S = true) (j : Nat) : w'.1 56 j = w.1 56 j := by
  unfold ySr at hS
  rw [Bool.and_eq_true, Bool.not_eq_true'] at hS
  simp only [Bool.or_eq_false_iff] at hS
  exact yKi k (ySt_all rfl rfl rfl rfl rfl hS.2 hS.1.2.1 j)
theorem iMany_S (k : yK S w w') (hS : ySr S = true) (h : iMany w) : iMany w' := by
  unfold ySr at hS
  rw [Bool.and_eq_true, Bool.not_eq_true'] at hS
  simp only [Bool.or_eq_false_iff] at hS
  obtain ⟨⟨a1, a2, a3, a4, a5, a6, a7, a8, a9, a10⟩, hA⟩ := hS
  intro s hs
  rw [yKi k (ySt_all rfl rfl rfl rfl rfl hA a1 s), yKi k (ySt_all rfl rfl rfl rfl rfl hA a4 s)]
  exact h s hs
theorem iDraft_K (k : yK S w w') (h1 : ySt S 6 2 = false) (h2 : ySt S 54 10 = false) (h3 : ∀ j, ySt S 7 j = false) (h4 : ∀ j, ySt S 8 j = false) (h5 : ∀ j, ySt S 65 j = false) (h6 : ∀ j, ySt S 66 j = false) (h : iDraft w) : iDraft w' := by
  unfold iDraft
  rw [yKi k h1, yKi k h2]
  refine ⟨h.1, h.2.1, fun i hi => ?_⟩
  rw [yKi k (h3 i), yKi k (h4 i), yKi k (h5 i), yKi k (h6 i)]
  exact h.2.2 i hi
theorem iAns_K (k : yK S w w') (h1 : ySt S 0 7 = false) (h2 : ySt S 54 21 = false) (h3 : ∀ j, ySt S 9 j = false) (h4 : ∀ j, ySt S 69 j = false) (h5 : ySt S 0 8 = false) (h6 : ySt S 54 22 = false) (h : iAns w) : iAns w' := by
  unfold iAns
  rw [yKi k h1, yKi k h2, yKi k h5, yKi k h6]
  refine ⟨h.1, h.2.1, fun i hi => ?_, h.2.2.2⟩
  rw [yKi k (h3 i), yKi k (h4 i)]
  exact h.2.2.1 i hi
theorem iFr_K (k : yK S w w') (h1 : ∀ j, ySt S 5 j = false) (h2 : ∀ j, ySt S 70 j = false) (h : iFr w) : iFr w' := by
  unfold iFr
  refine ⟨fun p hp => ?_, ?_⟩
  · rw [yKi k (h1 p), yKi k (h2 p)]
    exact h.1 p hp
  · rw [yKi k (h2 8)]
    exact h.2
theorem iOrd_K (k : yK S w w') (h1 : ∀ j, ySt S 13 j = false) (h : iOrd w) : iOrd w' := fun j hj => by
  rw [yKi k (h1 j)]
  exact h j hj
theorem iFoc_K (k : yK S w w') (hS : ySr S = true) (h5 : ySt S 0 5 = false) (h : iFoc w G) : iFoc w' G := by
  unfold iFoc
  rw [yKr k h5]
  exact rEq_S k hS (by decide) h
theorem iPres_K (k : yK S w w') (hS : ySr S = true) (h1 : ∀ j, ySt S 15 j = false) (h2 : ∀ j, ySt S 16 j = false) (h3 : ∀ j, ySt S 27 j = false) (h4 : ∀ j, ySt S 28 j = false) (h : iPres w G) : iPres w' G := by
  intro t q ht hq
  have e1 : ySt S (16 + 12 * t) q = false := yf2 (P := fun t => ySt S (16 + 12 * t) q = false) (h2 q) (h4 q) ht
  have e2 : ySt S (15 + 12 * t) q = false := yf2 (P := fun t => ySt S (15 + 12 * t) q = false) (h1 q) (h3 q) ht
  rw [yKr k e1, yKi k e2, w56_S k hS]
  exact ⟨rEq_S k hS (by omega) (h t q ht hq).1, (h t q ht hq).2⟩
theorem iComm_K (k : yK S w w') (hS : ySr S = true) (h1 : ∀ j, ySt S 18 j = false) (h2 : ∀ j, ySt S 19 j = false) (h3 : ∀ j, ySt S 30 j = false) (h4 : ∀ j, ySt S 31 j = false) (h : iComm w G) : iComm w' G := by
  intro t q ht hq
  have e1 : ySt S (19 + 12 * t) q = false := yf2 (P := fun t => ySt S (19 + 12 * t) q = false) (h2 q) (h4 q) ht
  have e2 : ySt S (18 + 12 * t) q = false := yf2 (P := fun t => ySt S (18 + 12 * t) q = false) (h1 q) (h3 q) ht
  rw [yKr k e1, yKi k e2, w56_S k hS]
  exact ⟨rEq_S k hS (by omega) (h t q ht hq).1, (h t q ht hq).2⟩
theorem yRk_K (k : yK S w w') (h : yRk w G) (h2 : w'.2.2 = w.2.2) : yRk w' G := yRk_2 h h2
end IKS
theorem iM_yM {w : yW} {G : List zC} (h : INV w G) : yM w := by
  obtain ⟨_, hf, hp, hc, hm, _⟩ := h
  have ok : ∀ s o, rEq w G s o → ¬ w.1 55 s = 0 → 1 ≤ (w.1 58 s).toInt ∧ (0 ≤ (w.1 61 s).toInt ∧ (w.1 61 s).toInt ≤ 255) ∧ (0 ≤ (w.1 62 s).toInt ∧ (w.1 62 s).toInt ≤ 255) ∧ (0 ≤ (w.1 63 s).toInt ∧ (w.1 63 s).toInt ≤ 255) ∧ (0 ≤ (w.1 64 s).toInt ∧ (w.1 64 s).toInt ≤ 255) := by
    intro s o h hne
    cases o with
    | none => exact absurd h hne
    | some x =>
      obtain ⟨_, hx, _, h58, _, h61, h63, h62, h64⟩ := h
      obtain ⟨_, _, _, _, _, _, n1, n6, cX, cY, lX, lY, gX', gY', _, _⟩ := hx
      have bl : ∀ {Z : List Int32} {v : Int32}, zCo Z → zLow Z v → 0 ≤ v.toInt ∧ v.toInt ≤ 255 := fun hz hl => by
        obtain ⟨⟨a, ha, e⟩, _⟩ := hl
        have := hz a ha
        omega
      have bh : ∀ {Z : List Int32} {v : Int32}, zCo Z → zHgh Z v → 0 ≤ v.toInt ∧ v.toInt ≤ 255 := fun hz hl => by
        obtain ⟨⟨a, ha, e⟩, _⟩ := hl
        have := hz a ha
        omega
      rw [h58, h61, h62, h63, h64, z_nat (by omega)]
      exact ⟨by omega, bl cX lX, bh cX gX', bl cY lY, bh cY gY'⟩
  intro s hs
  refine ⟨(hm s hs).1, (hm s hs).2, ?_⟩
  by_cases h64 : s = 64
  · subst h64
    exact ok 64 _ hf
  · by_cases h32 : s < 32
    · have e : s = 16 * (s / 16) + s % 16 := by omega
      have := (hp (s / 16) (s % 16) (by omega) (by omega)).1
      rw [← e] at this
      exact ok s _ this
    · have e : s = 32 + (16 * ((s - 32) / 16) + (s - 32) % 16) := by omega
      have := (hc ((s - 32) / 16) ((s - 32) % 16) (by omega) (by omega)).1
      rw [← e] at this
      exact ok s _ this
theorem iIxd_eq {w w' : yW} {G : List zC} {c e : Nat} {d d' : Nat → Nat} (h0 : w'.1 c 5 = w.1 c 5) (h1 : ∀ j, w'.1 (c + 1) j = w.1 (c + 1) j) (h2 : ∀ j, w'.1 (c + 2) j = w.1 (c + 2) j) (h3 : ∀ j, w'.1 (c + 3) j = w.1 (c + 3) j) (h4 : ∀ j, w'.1 (c + 4) j = w.1 (c + 4) j) (h5 : ∀ j, w'.1 (c + 5) j = w.1 (c + 5) j) (he : ∀ j, w'.2.2 e j = w.2.2 e j) (hd : d' = d) (h : iIxd w G c e d) : iIxd w' G c e d' := by
  have f1 : w'.1 (c + 1) = w.1 (c + 1) := funext h1
  have f2 : w'.1 (c + 2) = w.1 (c + 2) := funext h2
  have f3 : w'.1 (c + 3) = w.1 (c + 3) := funext h3
  have f4 : w'.1 (c + 4) = w.1 (c + 4) := funext h4
  have f5 : w'.1 (c + 5) = w.1 (c + 5) := funext h5
  have fe : w'.2.2 e = w.2.2 e := funext he
  subst hd
  unfold iIxd yIn
  rw [h0, f1, f2, f3, f4, f5, fe]
  exact h
theorem iIdx_K {S : List (Nat × Option Nat)} {w w' : yW} {G : List zC} (k : yK S w w') (a0 : ySt S 20 5 = false) (a1 : ∀ j, ySt S 21 j = false) (a2 : ∀ j, ySt S 22 j = false) (a3 : ∀ j, ySt S 23 j = false) (a4 : ∀ j, ySt S 24 j = false) (a5 : ∀ j, ySt S 25 j = false) (a6 : ∀ j, ySt S 16 j = false)
    (b0 : ySt S 32 5 = false) (b1 : ∀ j, ySt S 33 j = false) (b2 : ∀ j, ySt S 34 j = false) (b3 : ∀ j, ySt S 35 j = false) (b4 : ∀ j, ySt S 36 j = false) (b5 : ∀ j, ySt S 37 j = false) (b6 : ∀ j, ySt S 28 j = false) (h : iIdx w G) : iIdx w' G := by
  intro t ht
  have r : ∀ j, w'.2.2 (16 + 12 * t) j = w.2.2 (16 + 12 * t) j := fun j => yKr k (yf2 (P := fun t => ySt S (16 + 12 * t) j = false) (a6 j) (b6 j) ht)
  refine iIxd_eq (yKi k (yf2 (P := fun t => ySt S (20 + 12 * t) 5 = false) a0 b0 ht)) (fun j => yKi k (yf2 (P := fun t => ySt S (20 + 12 * t + 1) j = false) (a1 j) (b1 j) ht)) (fun j => yKi k (yf2 (P := fun t => ySt S (20 + 12 * t + 2) j = false) (a2 j) (b2 j) ht)) (fun j => yKi k (yf2 (P := fun t => ySt S (20 + 12 * t + 3) j = false) (a3 j) (b3 j) ht)) (fun j => yKi k (yf2 (P := fun t => ySt S (20 + 12 * t + 4) j = false) (a4 j) (b4 j) ht)) (fun j => yKi k (yf2 (P := fun t => ySt S (20 + 12 * t + 5) j = false) (a5 j) (b5 j) ht)) r ?_ (h t ht)
  funext j
  rw [r j]
