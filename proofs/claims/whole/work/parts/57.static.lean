def e_ST_isTable (t : Int32) : Int32 := (bif zc .lt t 0 then 0 else (bif zc .ge t 2 then 0 else 1))
set_option maxRecDepth 100000 in
theorem r_ST_isTable {fr lo sz : Nat} {G : List zC} (t : Int32) {w : yW}  (hlo : 20 ≤ lo) : zAns (fr + 1) lo 30 [.int t] (yhp w G sz) (some (.int ((e_ST_isTable t))), yhp w G sz) := by
  unfold e_ST_isTable
  refine zeb (fr := fr + 0) (M := M_ST_isTable) rfl (Nat.le_trans (by decide) hlo) rfl ?_
  have e0 : mL M_ST_isTable = 1 := rfl
  refine zeN (q := ((1, [(0, .int t)], [.int t]), yhp w G sz)) 1 rfl ?_
  refine zbc (q1 := (13, [(0, .int t)], [])) (q2 := (4, [(0, .int t)], [])) (cB := zc .lt t 0) (off := 12) (lv := [(0, .int t)]) (st := []) rfl rfl rfl rfl rfl (fun c1 => ?_) (fun c1 => ?_)
  · rw [c1]
    refine zeN (q := ((14, [(0, .int t)], [.int 0]), yhp w G sz)) 1 rfl ?_
    exact zer rfl rfl
  · rw [c1]
    refine zeN (q := ((6, [(0, .int t)], [.int 2, .int t]), yhp w G sz)) 2 rfl ?_
    refine zbc (q1 := (13, [(0, .int t)], [])) (q2 := (9, [(0, .int t)], [])) (cB := zc .ge t 2) (off := 7) (lv := [(0, .int t)]) (st := []) rfl rfl rfl rfl rfl (fun c6 => ?_) (fun c6 => ?_)
    · rw [c6]
      refine zeN (q := ((14, [(0, .int t)], [.int 0]), yhp w G sz)) 1 rfl ?_
      exact zer rfl rfl
    · rw [c6]
      refine zeN (q := ((14, [(0, .int t)], [.int 1]), yhp w G sz)) 2 rfl ?_
      exact zer rfl rfl
def e_ST_hasBit (a b : Int32) : Int32 := (bif zc .eq ((a >>> (b &&& 31)) &&& 1) 0 then 0 else 1)
set_option maxRecDepth 100000 in
theorem r_ST_hasBit {fr lo sz : Nat} {G : List zC} (a b : Int32) {w : yW}  (hlo : 21 ≤ lo) : zAns (fr + 1) lo 65 [.int a, .int b] (yhp w G sz) (some (.int ((e_ST_hasBit a b))), yhp w G sz) := by
  unfold e_ST_hasBit
  refine zeb (fr := fr + 0) (M := M_ST_hasBit) rfl (Nat.le_trans (by decide) hlo) rfl ?_
  have e0 : mL M_ST_hasBit = 2 := rfl
  refine zeN (q := ((5, [(0, .int a), (1, .int b)], [.int ((a >>> (b &&& 31)) &&& 1)]), yhp w G sz)) 5 rfl ?_
  refine zbc (q1 := (12, [(0, .int a), (1, .int b)], [])) (q2 := (8, [(0, .int a), (1, .int b)], [])) (cB := zc .eq ((a >>> (b &&& 31)) &&& 1) 0) (off := 7) (lv := [(0, .int a), (1, .int b)]) (st := []) rfl rfl rfl rfl rfl (fun c5 => ?_) (fun c5 => ?_)
  · rw [c5]
    refine zeN (q := ((13, [(0, .int a), (1, .int b)], [.int 0]), yhp w G sz)) 1 rfl ?_
    exact zer rfl rfl
  · rw [c5]
    refine zeN (q := ((13, [(0, .int a), (1, .int b)], [.int 1]), yhp w G sz)) 2 rfl ?_
    exact zer rfl rfl
def e_Dr_isCoordinate (x : Int32) : Int32 := (bif zc .lt x 0 then 0 else (bif zc .gt x 255 then 0 else 1))
set_option maxRecDepth 100000 in
theorem r_Dr_isCoordinate {fr lo sz : Nat} {G : List zC} (x : Int32) {w : yW}  (hlo : 20 ≤ lo) : zAns (fr + 1) lo 9 [.int x] (yhp w G sz) (some (.int ((e_Dr_isCoordinate x))), yhp w G sz) := by
  unfold e_Dr_isCoordinate
  refine zeb (fr := fr + 0) (M := M_Dr_isCoordinate) rfl (Nat.le_trans (by decide) hlo) rfl ?_
  have e0 : mL M_Dr_isCoordinate = 1 := rfl
  refine zeN (q := ((1, [(0, .int x)], [.int x]), yhp w G sz)) 1 rfl ?_
  refine zbc (q1 := (15, [(0, .int x)], [])) (q2 := (4, [(0, .int x)], [])) (cB := zc .lt x 0) (off := 14) (lv := [(0, .int x)]) (st := []) rfl rfl rfl rfl rfl (fun c1 => ?_) (fun c1 => ?_)
  · rw [c1]
    refine zeN (q := ((16, [(0, .int x)], [.int 0]), yhp w G sz)) 1 rfl ?_
    exact zer rfl rfl
  · rw [c1]
    refine zeN (q := ((8, [(0, .int x)], [.int 255, .int x]), yhp w G sz)) 2 rfl ?_
    refine zbc (q1 := (15, [(0, .int x)], [])) (q2 := (11, [(0, .int x)], [])) (cB := zc .gt x 255) (off := 7) (lv := [(0, .int x)]) (st := []) rfl rfl rfl rfl rfl (fun c8 => ?_) (fun c8 => ?_)
    · rw [c8]
      refine zeN (q := ((16, [(0, .int x)], [.int 0]), yhp w G sz)) 1 rfl ?_
      exact zer rfl rfl
    · rw [c8]
      refine zeN (q := ((16, [(0, .int x)], [.int 1]), yhp w G sz)) 2 rfl ?_
      exact zer rfl rfl
def e_ST_pageBit (a b : Int32) : Int32 := 1 <<< (((4 * a) + (b / 4)) &&& 31)
set_option maxRecDepth 100000 in
theorem r_ST_pageBit {fr lo sz : Nat} {G : List zC} (a b : Int32) {w : yW}  (hlo : 21 ≤ lo) : zAns (fr + 1) lo 85 [.int a, .int b] (yhp w G sz) (some (.int ((e_ST_pageBit a b))), yhp w G sz) := by
  unfold e_ST_pageBit
  refine zeb (fr := fr + 0) (M := M_ST_pageBit) rfl (Nat.le_trans (by decide) hlo) rfl ?_
  have e0 : mL M_ST_pageBit = 2 := rfl
  refine zeN (q := ((6, [(0, .int a), (1, .int b)], [.int 4, .int b, .int (4 * a), .int 1]), yhp w G sz)) 6 rfl ?_
  refine zedi rfl rfl (by decide) ?_
  refine zeN (q := ((9, [(0, .int a), (1, .int b)], [.int (1 <<< (((4 * a) + (b / 4)) &&& 31))]), yhp w G sz)) 2 rfl ?_
  exact zer rfl rfl
def e_Ig_bitCount (a : Int32) : Int32 := (((((((a - (((a.toUInt32 >>> ((1 : Int32).toUInt32 &&& Int32.toUInt32 31)).toInt32) &&& 1431655765)) &&& 858993459) + ((((a - (((a.toUInt32 >>> ((1 : Int32).toUInt32 &&& Int32.toUInt32 31)).toInt32) &&& 1431655765)).toUInt32 >>> ((2 : Int32).toUInt32 &&& Int32.toUInt32 31)).toInt32) &&& 858993459)) + (((((a - (((a.toUInt32 >>> ((1 : Int32).toUInt32 &&& Int32.toUInt32 31)).toInt32) &&& 1431655765)) &&& 858993459) + ((((a - (((a.toUInt32 >>> ((1 : Int32).toUInt32 &&& Int32.toUInt32 31)).toInt32) &&& 1431655765)).toUInt32 >>> ((2 : Int32).toUInt32 &&& Int32.toUInt32 31)).toInt32) &&& 858993459)).toUInt32 >>> ((4 : Int32).toUInt32 &&& Int32.toUInt32 31)).toInt32)) &&& 252645135) + (((((((a - (((a.toUInt32 >>> ((1 : Int32).toUInt32 &&& Int32.toUInt32 31)).toInt32) &&& 1431655765)) &&& 858993459) + ((((a - (((a.toUInt32 >>> ((1 : Int32).toUInt32 &&& Int32.toUInt32 31)).toInt32) &&& 1431655765)).toUInt32 >>> ((2 : Int32).toUInt32 &&& Int32.toUInt32 31)).toInt32) &&& 858993459)) + (((((a - (((a.toUInt32 >>> ((1 : Int32).toUInt32 &&& Int32.toUInt32 31)).toInt32) &&& 1431655765)) &&& 858993459) + ((((a - (((a.toUInt32 >>> ((1 : Int32).toUInt32 &&& Int32.toUInt32 31)).toInt32) &&& 1431655765)).toUInt32 >>> ((2 : Int32).toUInt32 &&& Int32.toUInt32 31)).toInt32) &&& 858993459)).toUInt32 >>> ((4 : Int32).toUInt32 &&& Int32.toUInt32 31)).toInt32)) &&& 252645135).toUInt32 >>> ((8 : Int32).toUInt32 &&& Int32.toUInt32 31)).toInt32)) + ((((((((a - (((a.toUInt32 >>> ((1 : Int32).toUInt32 &&& Int32.toUInt32 31)).toInt32) &&& 1431655765)) &&& 858993459) + ((((a - (((a.toUInt32 >>> ((1 : Int32).toUInt32 &&& Int32.toUInt32 31)).toInt32) &&& 1431655765)).toUInt32 >>> ((2 : Int32).toUInt32 &&& Int32.toUInt32 31)).toInt32) &&& 858993459)) + (((((a - (((a.toUInt32 >>> ((1 : Int32).toUInt32 &&& Int32.toUInt32 31)).toInt32) &&& 1431655765)) &&& 858993459) + ((((a - (((a.toUInt32 >>> ((1 : Int32).toUInt32 &&& Int32.toUInt32 31)).toInt32) &&& 1431655765)).toUInt32 >>> ((2 : Int32).toUInt32 &&& Int32.toUInt32 31)).toInt32) &&& 858993459)).toUInt32 >>> ((4 : Int32).toUInt32 &&& Int32.toUInt32 31)).toInt32)) &&& 252645135) + (((((((a - (((a.toUInt32 >>> ((1 : Int32).toUInt32 &&& Int32.toUInt32 31)).toInt32) &&& 1431655765)) &&& 858993459) + ((((a - (((a.toUInt32 >>> ((1 : Int32).toUInt32 &&& Int32.toUInt32 31)).toInt32) &&& 1431655765)).toUInt32 >>> ((2 : Int32).toUInt32 &&& Int32.toUInt32 31)).toInt32) &&& 858993459)) + (((((a - (((a.toUInt32 >>> ((1 : Int32).toUInt32 &&& Int32.toUInt32 31)).toInt32) &&& 1431655765)) &&& 858993459) + ((((a - (((a.toUInt32 >>> ((1 : Int32).toUInt32 &&& Int32.toUInt32 31)).toInt32) &&& 1431655765)).toUInt32 >>> ((2 : Int32).toUInt32 &&& Int32.toUInt32 31)).toInt32) &&& 858993459)).toUInt32 >>> ((4 : Int32).toUInt32 &&& Int32.toUInt32 31)).toInt32)) &&& 252645135).toUInt32 >>> ((8 : Int32).toUInt32 &&& Int32.toUInt32 31)).toInt32)).toUInt32 >>> ((16 : Int32).toUInt32 &&& Int32.toUInt32 31)).toInt32)) &&& 63
set_option maxRecDepth 100000 in
theorem r_Ig_bitCount {fr lo sz : Nat} {G : List zC} (a : Int32) {w : yW}  (hlo : 20 ≤ lo) : zAns (fr + 1) lo 48 [.int a] (yhp w G sz) (some (.int ((e_Ig_bitCount a))), yhp w G sz) := by
  unfold e_Ig_bitCount
  refine zeb (fr := fr + 0) (M := M_Ig_bitCount) rfl (Nat.le_trans (by decide) hlo) rfl ?_
  have e0 : mL M_Ig_bitCount = 1 := rfl
  refine zeN (q := ((52, [(0, .int (((((((a - (((a.toUInt32 >>> ((1 : Int32).toUInt32 &&& Int32.toUInt32 31)).toInt32) &&& 1431655765)) &&& 858993459) + ((((a - (((a.toUInt32 >>> ((1 : Int32).toUInt32 &&& Int32.toUInt32 31)).toInt32) &&& 1431655765)).toUInt32 >>> ((2 : Int32).toUInt32 &&& Int32.toUInt32 31)).toInt32) &&& 858993459)) + (((((a - (((a.toUInt32 >>> ((1 : Int32).toUInt32 &&& Int32.toUInt32 31)).toInt32) &&& 1431655765)) &&& 858993459) + ((((a - (((a.toUInt32 >>> ((1 : Int32).toUInt32 &&& Int32.toUInt32 31)).toInt32) &&& 1431655765)).toUInt32 >>> ((2 : Int32).toUInt32 &&& Int32.toUInt32 31)).toInt32) &&& 858993459)).toUInt32 >>> ((4 : Int32).toUInt32 &&& Int32.toUInt32 31)).toInt32)) &&& 252645135) + (((((((a - (((a.toUInt32 >>> ((1 : Int32).toUInt32 &&& Int32.toUInt32 31)).toInt32) &&& 1431655765)) &&& 858993459) + ((((a - (((a.toUInt32 >>> ((1 : Int32).toUInt32 &&& Int32.toUInt32 31)).toInt32) &&& 1431655765)).toUInt32 >>> ((2 : Int32).toUInt32 &&& Int32.toUInt32 31)).toInt32) &&& 858993459)) + (((((a - (((a.toUInt32 >>> ((1 : Int32).toUInt32 &&& Int32.toUInt32 31)).toInt32) &&& 1431655765)) &&& 858993459) + ((((a - (((a.toUInt32 >>> ((1 : Int32).toUInt32 &&& Int32.toUInt32 31)).toInt32) &&& 1431655765)).toUInt32 >>> ((2 : Int32).toUInt32 &&& Int32.toUInt32 31)).toInt32) &&& 858993459)).toUInt32 >>> ((4 : Int32).toUInt32 &&& Int32.toUInt32 31)).toInt32)) &&& 252645135).toUInt32 >>> ((8 : Int32).toUInt32 &&& Int32.toUInt32 31)).toInt32)) + ((((((((a - (((a.toUInt32 >>> ((1 : Int32).toUInt32 &&& Int32.toUInt32 31)).toInt32) &&& 1431655765)) &&& 858993459) + ((((a - (((a.toUInt32 >>> ((1 : Int32).toUInt32 &&& Int32.toUInt32 31)).toInt32) &&& 1431655765)).toUInt32 >>> ((2 : Int32).toUInt32 &&& Int32.toUInt32 31)).toInt32) &&& 858993459)) + (((((a - (((a.toUInt32 >>> ((1 : Int32).toUInt32 &&& Int32.toUInt32 31)).toInt32) &&& 1431655765)) &&& 858993459) + ((((a - (((a.toUInt32 >>> ((1 : Int32).toUInt32 &&& Int32.toUInt32 31)).toInt32) &&& 1431655765)).toUInt32 >>> ((2 : Int32).toUInt32 &&& Int32.toUInt32 31)).toInt32) &&& 858993459)).toUInt32 >>> ((4 : Int32).toUInt32 &&& Int32.toUInt32 31)).toInt32)) &&& 252645135) + (((((((a - (((a.toUInt32 >>> ((1 : Int32).toUInt32 &&& Int32.toUInt32 31)).toInt32) &&& 1431655765)) &&& 858993459) + ((((a - (((a.toUInt32 >>> ((1 : Int32).toUInt32 &&& Int32.toUInt32 31)).toInt32) &&& 1431655765)).toUInt32 >>> ((2 : Int32).toUInt32 &&& Int32.toUInt32 31)).toInt32) &&& 858993459)) + (((((a - (((a.toUInt32 >>> ((1 : Int32).toUInt32 &&& Int32.toUInt32 31)).toInt32) &&& 1431655765)) &&& 858993459) + ((((a - (((a.toUInt32 >>> ((1 : Int32).toUInt32 &&& Int32.toUInt32 31)).toInt32) &&& 1431655765)).toUInt32 >>> ((2 : Int32).toUInt32 &&& Int32.toUInt32 31)).toInt32) &&& 858993459)).toUInt32 >>> ((4 : Int32).toUInt32 &&& Int32.toUInt32 31)).toInt32)) &&& 252645135).toUInt32 >>> ((8 : Int32).toUInt32 &&& Int32.toUInt32 31)).toInt32)).toUInt32 >>> ((16 : Int32).toUInt32 &&& Int32.toUInt32 31)).toInt32)))], [.int ((((((((a - (((a.toUInt32 >>> ((1 : Int32).toUInt32 &&& Int32.toUInt32 31)).toInt32) &&& 1431655765)) &&& 858993459) + ((((a - (((a.toUInt32 >>> ((1 : Int32).toUInt32 &&& Int32.toUInt32 31)).toInt32) &&& 1431655765)).toUInt32 >>> ((2 : Int32).toUInt32 &&& Int32.toUInt32 31)).toInt32) &&& 858993459)) + (((((a - (((a.toUInt32 >>> ((1 : Int32).toUInt32 &&& Int32.toUInt32 31)).toInt32) &&& 1431655765)) &&& 858993459) + ((((a - (((a.toUInt32 >>> ((1 : Int32).toUInt32 &&& Int32.toUInt32 31)).toInt32) &&& 1431655765)).toUInt32 >>> ((2 : Int32).toUInt32 &&& Int32.toUInt32 31)).toInt32) &&& 858993459)).toUInt32 >>> ((4 : Int32).toUInt32 &&& Int32.toUInt32 31)).toInt32)) &&& 252645135) + (((((((a - (((a.toUInt32 >>> ((1 : Int32).toUInt32 &&& Int32.toUInt32 31)).toInt32) &&& 1431655765)) &&& 858993459) + ((((a - (((a.toUInt32 >>> ((1 : Int32).toUInt32 &&& Int32.toUInt32 31)).toInt32) &&& 1431655765)).toUInt32 >>> ((2 : Int32).toUInt32 &&& Int32.toUInt32 31)).toInt32) &&& 858993459)) + (((((a - (((a.toUInt32 >>> ((1 : Int32).toUInt32 &&& Int32.toUInt32 31)).toInt32) &&& 1431655765)) &&& 858993459) + ((((a - (((a.toUInt32 >>> ((1 : Int32).toUInt32 &&& Int32.toUInt32 31)).toInt32) &&& 1431655765)).toUInt32 >>> ((2 : Int32).toUInt32 &&& Int32.toUInt32 31)).toInt32) &&& 858993459)).toUInt32 >>> ((4 : Int32).toUInt32 &&& Int32.toUInt32 31)).toInt32)) &&& 252645135).toUInt32 >>> ((8 : Int32).toUInt32 &&& Int32.toUInt32 31)).toInt32)) + ((((((((a - (((a.toUInt32 >>> ((1 : Int32).toUInt32 &&& Int32.toUInt32 31)).toInt32) &&& 1431655765)) &&& 858993459) + ((((a - (((a.toUInt32 >>> ((1 : Int32).toUInt32 &&& Int32.toUInt32 31)).toInt32) &&& 1431655765)).toUInt32 >>> ((2 : Int32).toUInt32 &&& Int32.toUInt32 31)).toInt32) &&& 858993459)) + (((((a - (((a.toUInt32 >>> ((1 : Int32).toUInt32 &&& Int32.toUInt32 31)).toInt32) &&& 1431655765)) &&& 858993459) + ((((a - (((a.toUInt32 >>> ((1 : Int32).toUInt32 &&& Int32.toUInt32 31)).toInt32) &&& 1431655765)).toUInt32 >>> ((2 : Int32).toUInt32 &&& Int32.toUInt32 31)).toInt32) &&& 858993459)).toUInt32 >>> ((4 : Int32).toUInt32 &&& Int32.toUInt32 31)).toInt32)) &&& 252645135) + (((((((a - (((a.toUInt32 >>> ((1 : Int32).toUInt32 &&& Int32.toUInt32 31)).toInt32) &&& 1431655765)) &&& 858993459) + ((((a - (((a.toUInt32 >>> ((1 : Int32).toUInt32 &&& Int32.toUInt32 31)).toInt32) &&& 1431655765)).toUInt32 >>> ((2 : Int32).toUInt32 &&& Int32.toUInt32 31)).toInt32) &&& 858993459)) + (((((a - (((a.toUInt32 >>> ((1 : Int32).toUInt32 &&& Int32.toUInt32 31)).toInt32) &&& 1431655765)) &&& 858993459) + ((((a - (((a.toUInt32 >>> ((1 : Int32).toUInt32 &&& Int32.toUInt32 31)).toInt32) &&& 1431655765)).toUInt32 >>> ((2 : Int32).toUInt32 &&& Int32.toUInt32 31)).toInt32) &&& 858993459)).toUInt32 >>> ((4 : Int32).toUInt32 &&& Int32.toUInt32 31)).toInt32)) &&& 252645135).toUInt32 >>> ((8 : Int32).toUInt32 &&& Int32.toUInt32 31)).toInt32)).toUInt32 >>> ((16 : Int32).toUInt32 &&& Int32.toUInt32 31)).toInt32)) &&& 63)]), yhp w G sz)) 41 rfl ?_
  exact zer rfl rfl
theorem z_sT {t : Int32} (h : ¬ e_ST_isTable t = 0) : zIx t 2 := by
  unfold e_ST_isTable at h
  cases c1 : zc .lt t 0
  · cases c2 : zc .ge t 2
    · have h1 := of_decide_eq_false ((zc_lt t 0).symm.trans c1)
      have h2 := of_decide_eq_false ((zc_ge t 2).symm.trans c2)
      have e : (2 : Int32).toInt = 2 := rfl
      exact ⟨by have := z_i0; omega, by omega⟩
    · rw [c1, c2] at h
      exact absurd rfl h
  · rw [c1] at h
    exact absurd rfl h
theorem z_sTn {t : Int32} {b : Bool} (h : zc .eq (e_ST_isTable t) 0 = false) : zIx t 2 := z_sT (of_decide_eq_false h)
theorem z_sTm {t : Int32} (h : zc .ne (e_ST_isTable t) 0 = true) : zIx t 2 := z_sT (of_decide_eq_true h)
