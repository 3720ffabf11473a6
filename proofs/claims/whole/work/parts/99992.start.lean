-- the start: both made new
def w0 : yW := (fun c j => bif (Nat.beq c 5 || Nat.beq c 70) && Nat.blt j 8 then -1 else 0, fun c j => bif (Nat.beq c 10 || (Nat.beq c 11 || (Nat.ble 38 c && Nat.ble c 53))) && Nat.beq j 1 then 1 else 0, fun _ _ => none)
theorem iIx0 {c e : Nat} (h0 : ∀ j, w0.1 c j = 0) (h1 : ∀ j, w0.1 (c + 1) j = 0) : iIxd w0 [] c e (fun r => oH [] (w0.2.2 e r)) := by
  have hN : (w0.1 c 5).toInt.toNat = 0 := by
    rw [show w0.1 c 5 = 0 from h0 5]
    rfl
  refine ⟨⟨fun j _ => ?_, ?_⟩, fun _ => (0, 0, 0), ?_, ?_⟩
  · rw [h1 j]
    exact ⟨by decide, by decide⟩
  · rw [show w0.1 c 5 = 0 from h0 5]
    exact ⟨by decide, by decide⟩
  · rw [hN]
    exact ⟨fun i j hi => absurd hi (Nat.not_lt_zero _), fun i hi => absurd hi (Nat.not_lt_zero _), fun r l _ hl => absurd hl (Nat.not_lt_zero _), fun hi => absurd hi (Nat.lt_irrefl _), fun i q hi => absurd hi (Nat.not_lt_zero _), Nat.zero_le _⟩
  · rw [hN]
    exact fun i hi => absurd hi (Nat.not_lt_zero _)
theorem fr0 : ∀ p : Fin 9, w0.1 70 p.1 = -1 ∨ (0 ≤ (w0.1 70 p.1).toInt ∧ (w0.1 70 p.1).toInt < 16) := by decide +kernel
theorem INV_0 : INV w0 [] := by
  refine ⟨⟨rfl, ⟨by decide, by decide⟩, fun i hi => absurd hi (Nat.not_lt_zero i)⟩, rfl, fun t q _ _ => ⟨rfl, fun hne => absurd rfl hne⟩, fun t q _ _ => ⟨rfl, fun hne => absurd rfl hne⟩, fun s _ => ⟨Or.inl rfl, ?_, ?_⟩, ⟨rfl, ⟨by decide, by decide⟩, fun i hi => absurd hi (Nat.not_lt_zero i), rfl⟩, ⟨fun p hp => ⟨rfl, fr0 ⟨p, hp⟩⟩, by decide⟩, fun j _ => ⟨?_, ?_⟩, fun t ht => ?_, fun c j x hx => by cases hx⟩
  · show 0 ≤ (0 : Int32).toInt
    decide
  · show (0 : Int32).toInt ≤ 6
    decide
  · show 0 ≤ (0 : Int32).toInt
    decide
  · show (0 : Int32).toInt < 16
    decide
  · rcases (show t = 0 ∨ t = 1 by omega) with rfl | rfl
    · exact iIx0 (fun _ => rfl) (fun _ => rfl)
    · exact iIx0 (fun _ => rfl) (fun _ => rfl)
def zs1 : zH := ((ypic w0).take 54, 2580)
def zs2 : zH := ((ypic w0).take 54 ++ [.inr (8, df_Mo)], 2606)
set_option maxRecDepth 1000000 in
theorem zc_ST : zcal zmt 100000 9 420 0 [.ref 0] ([.inr (0, df_ST)], 13) = some (none, zs1) := zreq_ok (by decide +kernel)
set_option maxRecDepth 1000000 in
theorem zc_Mo : zcal zmt 100000 9 420 97 [.ref 54] zs2 = some (none, yhp w0 [] 4224) := zreq_ok (by decide +kernel)
set_option maxRecDepth 1000000 in
set_option maxHeartbeats 4000000 in
theorem start_run {L : Nat} {xs : Nat → Int32} (hL : L ≤ 2560) : zFi L xs (0, [(0, .retAddr 0)], []) ([], 0) := by
  refine zFi_of (s' := (18, [(3, .int (Int32.ofNat (5 * 0))), (2, .ref 54), (1, .ref 0), (0, .retAddr 0)], [])) (h' := yhp w0 [] 4224) (fun r kr => ?_) (law_L (by omega) 600 0 w0 [] 4224 (by omega) INV_0 (by decide) (by omega) (by omega))
  refine zeN (q := ((4, [(0, .retAddr 0)], [.ref 0, .ref 0]), ([.inr (0, df_ST)], 13))) 2 rfl ?_
  refine zec 2 (s' := (7, [(0, .retAddr 0)], [.ref 0])) rfl rfl (fun _ => rfl) rfl rfl rfl ⟨100000, zc_ST⟩ rfl ?_
  refine zeN (q := ((12, [(1, .ref 0), (0, .retAddr 0)], [.ref 54, .ref 54]), zs2)) 3 rfl ?_
  refine zec 2 (s' := (15, [(1, .ref 0), (0, .retAddr 0)], [.ref 54])) rfl rfl (fun _ => rfl) rfl rfl rfl ⟨100000, zc_Mo⟩ rfl ?_
  exact zeN (q := ((18, [(3, .int (Int32.ofNat (5 * 0))), (2, .ref 54), (1, .ref 0), (0, .retAddr 0)], []), yhp w0 [] 4224)) 3 rfl kr
