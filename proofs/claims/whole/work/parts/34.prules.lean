-- rules over the picture of the fixed cells
theorem yset_o {w w' : yW} {G : List zC} {n c b a : Nat} {ks : List (Value ⊕ Nat)} {k : Value ⊕ Nat} {v : Value} (h : ydif w w' c b) (hs : yshp[c]? = some (true, a, ks)) (hk : ks[b]? = some k) (hv : ysl w' c b k = v) : ((yhp w G n).1.set c (.inr (a, (ylist w c ks).set b v)), (yhp w G n).2) = yhp w' G n := by
  rw [yset_list h hk hv]
  exact yset_pic h hs rfl
theorem yset_a {w w' : yW} {G : List zC} {n c b a : Nat} {ks : List (Value ⊕ Nat)} {k : Value ⊕ Nat} {v : Value} (h : ydif w w' c b) (hs : yshp[c]? = some (false, a, ks)) (hk : ks[b]? = some k) (hv : ysl w' c b k = v) : ((yhp w G n).1.set c (.inl (a, (ylist w c ks).set b v)), (yhp w G n).2) = yhp w' G n := by
  rw [yset_list h hk hv]
  exact yset_pic h hs rfl
theorem ysI (w : yW) (c j : Nat) (v : Int32) : ysl (wI w c j v) c j (.inr 0) = .int v := congrArg Value.int (wI_self w c j v)
theorem ysL (w : yW) (c j : Nat) (v : Int64) : ysl (wL w c j v) c j (.inr 1) = .long v := congrArg Value.long (wL_self w c j v)
theorem ysR (w : yW) (c j : Nat) (v : Option Nat) : ysl (wR w c j v) c j (.inr 2) = yrv v := congrArg yrv (wR_self w c j v)
section YRU
variable {fr lo : Nat} {xs : zX} {M : zM} {w : yW} {G : List zC} {n : Nat} {r : Option Value × zH} {pc : Nat} {lv : List (Nat × Value)} {rest : List Value} {x : zE} {c : Nat} {j : Int32} {N : Nat}
theorem yIx_r {k : Value ⊕ Nat} (hj : zIx j N) : (List.replicate N k)[j.toNatClampNeg]? = some k := by
  have h1 := zIx_a hj
  have h2 : j.toNatClampNeg < N := by have := hj.2; omega
  rw [List.getElem?_replicate, if_pos h2]
theorem yIx_l {k : Value ⊕ Nat} (hj : zIx j N) : j.toNatClampNeg < (ylist w c (List.replicate N k)).length := by
  have h1 := zIx_a hj
  have := hj.2
  rw [ylist_len, List.length_replicate]
  omega
theorem ygf {a b i : Nat} {ks : List (Value ⊕ Nat)} {kk : Value ⊕ Nat} {v : Value} (hx : zlk2 (mT M) pc = some x) (hi : xI x = .getfield i) (ha : xA x = a) (hb : xB x = b) (hs : yshp[c]? = some (true, a, ks)) (hk : ks[b]? = some kk) (hv : ysl w c b kk = v) (k : zRun fr lo xs M (pc + 3, lv, v :: rest) (yhp w G n) r) : zRun fr lo xs M (pc, lv, .ref c :: rest) (yhp w G n) r :=
  zegf hx hi ha hb (yhp_o hs) (hv ▸ ylist_get hk) k
theorem yia (hx : zlk2 (mT M) pc = some x) (hi : xI x = .iaload) (hs : yshp[c]? = some (false, 0, List.replicate N (.inr 0))) (hj : zIx j N) (kk : zRun fr lo xs M (pc + 1, lv, .int (w.1 c j.toNatClampNeg) :: rest) (yhp w G n) r) : zRun fr lo xs M (pc, lv, .int j :: .ref c :: rest) (yhp w G n) r :=
  zeia hx hi (yhp_a hs) (zIx_a hj) (ylist_get (yIx_r hj)) kk
theorem yba (hx : zlk2 (mT M) pc = some x) (hi : xI x = .baload) (hs : yshp[c]? = some (false, 1, List.replicate N (.inr 0))) (hj : zIx j N) (kk : zRun fr lo xs M (pc + 1, lv, .int (w.1 c j.toNatClampNeg) :: rest) (yhp w G n) r) : zRun fr lo xs M (pc, lv, .int j :: .ref c :: rest) (yhp w G n) r :=
  zeba hx hi (yhp_a hs) (zIx_a hj) (ylist_get (yIx_r hj)) kk
theorem yla (hx : zlk2 (mT M) pc = some x) (hi : xI x = .laload) (hs : yshp[c]? = some (false, 2, List.replicate N (.inr 1))) (hj : zIx j N) (kk : zRun fr lo xs M (pc + 1, lv, .long (w.2.1 c j.toNatClampNeg) :: rest) (yhp w G n) r) : zRun fr lo xs M (pc, lv, .int j :: .ref c :: rest) (yhp w G n) r :=
  zela hx hi (yhp_a hs) (zIx_a hj) (ylist_get (yIx_r hj)) kk
theorem yaa (hx : zlk2 (mT M) pc = some x) (hi : xI x = .aaload) (hs : yshp[c]? = some (false, 6, List.replicate N (.inr 2))) (hj : zIx j N) (kk : zRun fr lo xs M (pc + 1, lv, yrv (w.2.2 c j.toNatClampNeg) :: rest) (yhp w G n) r) : zRun fr lo xs M (pc, lv, .int j :: .ref c :: rest) (yhp w G n) r :=
  zeaa hx hi (yhp_a hs) rfl (zIx_a hj) (ylist_get (yIx_r hj)) kk
theorem yln {t : Nat} {k : Value ⊕ Nat} (hx : zlk2 (mT M) pc = some x) (hi : xI x = .arraylength) (hs : yshp[c]? = some (false, t, List.replicate N k)) (ht : Nat.blt t zNT = true) (kk : zRun fr lo xs M (pc + 1, lv, .int (Int32.ofNat N) :: rest) (yhp w G n) r) : zRun fr lo xs M (pc, lv, .ref c :: rest) (yhp w G n) r := by
  refine zeln hx hi (yhp_a hs) ht ?_
  rw [ylist_len, List.length_replicate]
  exact kk
theorem ypI {a b i : Nat} {ks : List (Value ⊕ Nat)} {v : Int32} (hx : zlk2 (mT M) pc = some x) (hi : xI x = .putfield i) (ha : xA x = a) (hb : xB x = b) (hs : yshp[c]? = some (true, a, ks)) (hk : ks[b]? = some (.inr 0)) (hf : zfit (zty a b) (.int v) = true) (k : zRun fr lo xs M (pc + 3, lv, rest) (yhp (wI w c b v) G n) r) : zRun fr lo xs M (pc, lv, .int v :: .ref c :: rest) (yhp w G n) r := by
  refine zepf hx hi ha hb (yhp_o hs) (by rw [ylist_len]; exact (List.getElem?_eq_some_iff.mp hk).1) hf ?_
  rw [yset_o (ydI w c b v) hs hk (ysI w c b v)]
  exact k
theorem ypL {a b i : Nat} {ks : List (Value ⊕ Nat)} {v : Int64} (hx : zlk2 (mT M) pc = some x) (hi : xI x = .putfield i) (ha : xA x = a) (hb : xB x = b) (hs : yshp[c]? = some (true, a, ks)) (hk : ks[b]? = some (.inr 1)) (hf : zfit (zty a b) (.long v) = true) (k : zRun fr lo xs M (pc + 3, lv, rest) (yhp (wL w c b v) G n) r) : zRun fr lo xs M (pc, lv, .long v :: .ref c :: rest) (yhp w G n) r := by
  refine zepf hx hi ha hb (yhp_o hs) (by rw [ylist_len]; exact (List.getElem?_eq_some_iff.mp hk).1) hf ?_
  rw [yset_o (ydL w c b v) hs hk (ysL w c b v)]
  exact k
theorem ypR {a b i : Nat} {ks : List (Value ⊕ Nat)} {v : Option Nat} (hx : zlk2 (mT M) pc = some x) (hi : xI x = .putfield i) (ha : xA x = a) (hb : xB x = b) (hs : yshp[c]? = some (true, a, ks)) (hk : ks[b]? = some (.inr 2)) (hf : zfit (zty a b) (yrv v) = true) (k : zRun fr lo xs M (pc + 3, lv, rest) (yhp (wR w c b v) G n) r) : zRun fr lo xs M (pc, lv, yrv v :: .ref c :: rest) (yhp w G n) r := by
  refine zepf hx hi ha hb (yhp_o hs) (by rw [ylist_len]; exact (List.getElem?_eq_some_iff.mp hk).1) hf ?_
  rw [yset_o (ydR w c b v) hs hk (ysR w c b v)]
  exact k
theorem yis {z : Int32} (hx : zlk2 (mT M) pc = some x) (hi : xI x = .iastore) (hs : yshp[c]? = some (false, 0, List.replicate N (.inr 0))) (hj : zIx j N) (kk : zRun fr lo xs M (pc + 1, lv, rest) (yhp (wI w c j.toNatClampNeg z) G n) r) : zRun fr lo xs M (pc, lv, .int z :: .int j :: .ref c :: rest) (yhp w G n) r := by
  refine zeis hx hi (yhp_a hs) (zIx_a hj) (yIx_l hj) ?_
  rw [yset_a (ydI w c _ z) hs (yIx_r hj) (ysI w c _ z)]
  exact kk
theorem ybs {z : Int32} (hx : zlk2 (mT M) pc = some x) (hi : xI x = .bastore) (hs : yshp[c]? = some (false, 1, List.replicate N (.inr 0))) (hj : zIx j N) (kk : zRun fr lo xs M (pc + 1, lv, rest) (yhp (wI w c j.toNatClampNeg (z &&& 1)) G n) r) : zRun fr lo xs M (pc, lv, .int z :: .int j :: .ref c :: rest) (yhp w G n) r := by
  refine zebs hx hi (yhp_a hs) (zIx_a hj) (yIx_l hj) ?_
  rw [yset_a (ydI w c _ (z &&& 1)) hs (yIx_r hj) (ysI w c _ (z &&& 1))]
  exact kk
theorem yls {z : Int64} (hx : zlk2 (mT M) pc = some x) (hi : xI x = .lastore) (hs : yshp[c]? = some (false, 2, List.replicate N (.inr 1))) (hj : zIx j N) (kk : zRun fr lo xs M (pc + 1, lv, rest) (yhp (wL w c j.toNatClampNeg z) G n) r) : zRun fr lo xs M (pc, lv, .long z :: .int j :: .ref c :: rest) (yhp w G n) r := by
  refine zels hx hi (yhp_a hs) (zIx_a hj) (yIx_l hj) ?_
  rw [yset_a (ydL w c _ z) hs (yIx_r hj) (ysL w c _ z)]
  exact kk
theorem yas {v : Option Nat} (hx : zlk2 (mT M) pc = some x) (hi : xI x = .aastore) (hs : yshp[c]? = some (false, 6, List.replicate N (.inr 2))) (hv : zes (yhp w G n).1 6 (yrv v) = true) (hj : zIx j N) (kk : zRun fr lo xs M (pc + 1, lv, rest) (yhp (wR w c j.toNatClampNeg v) G n) r) : zRun fr lo xs M (pc, lv, yrv v :: .int j :: .ref c :: rest) (yhp w G n) r := by
  refine zeas hx hi (yhp_a hs) hv (zIx_a hj) (yIx_l hj) ?_
  rw [yset_a (ydR w c _ v) hs (yIx_r hj) (ysR w c _ v)]
  exact kk
end YRU
