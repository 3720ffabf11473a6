-- the reference's reading methods over the picture
theorem ylist_c {w : yW} {c j : Nat} {ks : List (Value ⊕ Nat)} {v : Value} (hk : ks[j]? = some (.inl v)) : (ylist w c ks)[j]? = some v := ylist_get hk
/-- an int array of the picture as a list -/
def yA (w : yW) (c N : Nat) : List Int32 := (List.range N).map (w.1 c)
theorem yA_len {w : yW} {c N : Nat} : (yA w c N).length = N := by rw [yA, List.length_map, List.length_range]
theorem yA_get {w : yW} {c N k : Nat} (hk : k < N) : (yA w c N)[k]? = some (w.1 c k) := by
  rw [yA, List.getElem?_map, List.getElem?_range hk]
  rfl
theorem yA_g {w : yW} {c N : Nat} {j : Int32} (hj : zIx j N) : gI (yA w c N) j = w.1 c j.toNatClampNeg := by
  have h1 := zIx_a hj
  have h2 : j.toNatClampNeg < N := by have := hj.2; omega
  rw [gI, List.getD_eq_getElem?_getD, yA_get h2]
  rfl
theorem ylist_A {w : yW} {c N : Nat} : ylist w c (List.replicate N (.inr 0)) = (yA w c N).map Value.int := by
  apply List.ext_getElem?
  intro i
  by_cases hi : i < N
  · rw [ylist_get (k := .inr 0) (by rw [List.getElem?_replicate, if_pos hi]), List.getElem?_map, yA_get hi]
    rfl
  · rw [List.getElem?_eq_none (by rw [ylist_len, List.length_replicate]; omega), List.getElem?_eq_none (by rw [List.length_map, yA_len]; omega)]
theorem yhp_A {w : yW} {G : List zC} {n c t N : Nat} (hs : yshp[c]? = some (false, t, List.replicate N (.inr 0))) : (yhp w G n).1[c]? = some (.inl (t, (yA w c N).map Value.int)) := by
  rw [yhp_a hs, ylist_A]
theorem zIx_A {w : yW} {c N : Nat} {j : Int32} (hj : zIx j N) : zIx j (yA w c N).length := zIx_s hj yA_len
section YWR
variable {fr lo : Nat} {w : yW} {G : List zC} {n : Nat}
theorem y_turn (a b c : Int32) (ha : zIx a 390) (hb : zIx b 390) (hc : zIx c 390) (hlo : 48 ≤ lo) : zAns (fr + 2) lo 123 [.ref 54, .int a, .int b, .int c] (yhp w G n) (some (.long (f_Mo_turn (yA w 59 390) (yA w 60 390) a b c)), yhp w G n) :=
  s_Mo_turn _ _ a b c 54 _ (yhp_o rfl) 59 (ylist_c rfl) (yhp_A rfl) 60 (ylist_c rfl) (yhp_A rfl) (by rw [yA_len, yA_len]) (zIx_A ha) (zIx_A hb) (zIx_A hc) hlo
theorem y_sides (s : Int32) (hs : zIx s 65) (hlo : 21 ≤ lo) : zAns (fr + 1) lo 119 [.ref 54, .int s] (yhp w G n) (some (.int (f_Mo_sides (yA w 57 65) (yA w 58 65) s)), yhp w G n) :=
  s_Mo_sides _ _ s 54 _ (yhp_o rfl) 57 (ylist_c rfl) (yhp_A rfl) 58 (ylist_c rfl) (yhp_A rfl) (by rw [yA_len, yA_len]) (zIx_A hs) hlo
theorem y_corner (s j e : Int32) (hs : zIx s 65) (hnz : ¬ gI (yA w 58 65) s = 0) (hlo : 23 ≤ lo) : zAns (fr + 1) lo 120 [.ref 54, .int s, .int j, .int e] (yhp w G n) (some (.int (f_Mo_corner (yA w 58 65) s j e)), yhp w G n) :=
  s_Mo_corner _ s j e 54 _ (yhp_o rfl) 58 (ylist_c rfl) (yhp_A rfl) (zIx_A hs) hnz hlo
theorem y_meet (s u : Int32) (hs : zIx s 65) (hk1 : 1 ≤ (gI (yA w 58 65) s).toInt) (hk2 : (gI (yA w 58 65) s).toInt ≤ 6) (hu : zIx u 65) (hq1 : 1 ≤ (gI (yA w 58 65) u).toInt) (hq2 : (gI (yA w 58 65) u).toInt ≤ 6) (hlo : 133 ≤ lo) : zAns (fr + 5) lo 118 [.ref 54, .int s, .int u] (yhp w G n) (some (.int (f_Mo_meet (yA w 59 390) (yA w 60 390) (yA w 57 65) (yA w 58 65) s u)), yhp w G n) :=
  s_Mo_meet _ _ _ _ s u 54 _ (yhp_o rfl) 57 (ylist_c rfl) (yhp_A rfl) 58 (ylist_c rfl) (yhp_A rfl) 59 (ylist_c rfl) (yhp_A rfl) 60 (ylist_c rfl) (yhp_A rfl) yA_len yA_len yA_len yA_len (zIx_A hs) hk1 hk2 (zIx_A hu) hq1 hq2 hlo
end YWR
