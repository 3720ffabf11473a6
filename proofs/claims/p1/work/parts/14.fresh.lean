-- equality of results that the kernel can decide
def zceq (a b : zC) : Bool := match a with
  | .inl p => match b with
    | .inl q => Nat.beq p.1 q.1 && decide (p.2 = q.2)
    | .inr _ => false
  | .inr p => match b with
    | .inl _ => false
    | .inr q => Nat.beq p.1 q.1 && decide (p.2 = q.2)
theorem zceq_ok {a b : zC} (h : zceq a b = true) : a = b := by
  rcases a with ⟨t, l⟩ | ⟨t, l⟩ <;> rcases b with ⟨t2, l2⟩ | ⟨t2, l2⟩
  · have h2 := Bool.and_eq_true_iff.mp (show (Nat.beq t t2 && decide (l = l2)) = true from h)
    rw [Nat.eq_of_beq_eq_true h2.1, of_decide_eq_true h2.2]
  · cases h
  · cases h
  · have h2 := Bool.and_eq_true_iff.mp (show (Nat.beq t t2 && decide (l = l2)) = true from h)
    rw [Nat.eq_of_beq_eq_true h2.1, of_decide_eq_true h2.2]
def zhl (h k : List zC) : Bool := match h with
  | [] => match k with
    | [] => true
    | _ :: _ => false
  | a :: r => match k with
    | [] => false
    | b :: r2 => zceq a b && zhl r r2
theorem zhl_ok : ∀ {h k : List zC}, zhl h k = true → h = k
  | [], [], _ => rfl
  | [], _ :: _, h => by cases h
  | _ :: _, [], h => by cases h
  | a :: r, b :: r2, h => by
    have h2 := Bool.and_eq_true_iff.mp (show (zceq a b && zhl r r2) = true from h)
    rw [zceq_ok h2.1, zhl_ok h2.2]
def zreq (r : Option (Option Value × zH)) (v : Option Value) (k : zH) : Bool := match r with
  | some q => decide (q.1 = v) && (Nat.beq q.2.2 k.2 && zhl q.2.1 k.1)
  | none => false
theorem zreq_ok {r : Option (Option Value × zH)} {v : Option Value} {k : zH} (h : zreq r v k = true) : r = some (v, k) := by
  cases r with
  | none => cases h
  | some q =>
    obtain ⟨w, hh, n⟩ := q
    obtain ⟨k1, k2⟩ := k
    have h2 := Bool.and_eq_true_iff.mp (show (decide (w = v) && (Nat.beq n k2 && zhl hh k1)) = true from h)
    have h3 := Bool.and_eq_true_iff.mp h2.2
    rw [of_decide_eq_true h2.1, Nat.eq_of_beq_eq_true h3.1, zhl_ok h3.2]
def zh1 : zH := ([.inr (0, [.ref 1, .ref 2, .ref 3, .ref 4, .ref 6, .null, .ref 9, .int 0, .int 0, .ref 10, .ref 11, .ref 12, .ref 13]),
  .inl (3, [.ref 14, .ref 26]),
  .inl (3, [.ref 17, .ref 29]),
  .inl (4, [.ref 20, .ref 32]),
  .inr (1, [.ref 5]),
  .inl (0, [.int (-1), .int (-1), .int (-1), .int (-1), .int (-1), .int (-1), .int (-1), .int (-1), .int 0]),
  .inr (2, [.ref 7, .ref 8, .int 0]),
  .inl (0, List.replicate 6 (.int 0)),
  .inl (0, List.replicate 6 (.int 0)),
  .inl (0, List.replicate 256 (.int 0)),
  .inr (3, [.long 0, .long 1]),
  .inr (3, [.long 0, .long 1]),
  .inl (5, [.ref 38, .ref 39, .ref 40, .ref 41, .ref 42, .ref 43, .ref 44, .ref 45, .ref 46, .ref 47, .ref 48, .ref 49, .ref 50, .ref 51, .ref 52, .ref 53]),
  .inl (0, List.replicate 16 (.int 0)),
  .inr (4, [.ref 15, .ref 16]),
  .inl (0, List.replicate 16 (.int 0)),
  .inl (6, List.replicate 16 (.null)),
  .inr (4, [.ref 18, .ref 19]),
  .inl (0, List.replicate 16 (.int 0)),
  .inl (6, List.replicate 16 (.null)),
  .inr (5, [.ref 21, .ref 22, .ref 23, .ref 24, .ref 25, .int 0]),
  .inl (0, List.replicate 516 (.int 0)),
  .inl (0, List.replicate 129 (.int 0)),
  .inl (0, List.replicate 129 (.int 0)),
  .inl (0, List.replicate 129 (.int 0)),
  .inl (0, List.replicate 129 (.int 0)),
  .inr (4, [.ref 27, .ref 28]),
  .inl (0, List.replicate 16 (.int 0)),
  .inl (6, List.replicate 16 (.null)),
  .inr (4, [.ref 30, .ref 31]),
  .inl (0, List.replicate 16 (.int 0)),
  .inl (6, List.replicate 16 (.null)),
  .inr (5, [.ref 33, .ref 34, .ref 35, .ref 36, .ref 37, .int 0]),
  .inl (0, List.replicate 516 (.int 0)),
  .inl (0, List.replicate 129 (.int 0)),
  .inl (0, List.replicate 129 (.int 0)),
  .inl (0, List.replicate 129 (.int 0)),
  .inl (0, List.replicate 129 (.int 0)),
  .inr (3, [.long 0, .long 1]),
  .inr (3, [.long 0, .long 1]),
  .inr (3, [.long 0, .long 1]),
  .inr (3, [.long 0, .long 1]),
  .inr (3, [.long 0, .long 1]),
  .inr (3, [.long 0, .long 1]),
  .inr (3, [.long 0, .long 1]),
  .inr (3, [.long 0, .long 1]),
  .inr (3, [.long 0, .long 1]),
  .inr (3, [.long 0, .long 1]),
  .inr (3, [.long 0, .long 1]),
  .inr (3, [.long 0, .long 1]),
  .inr (3, [.long 0, .long 1]),
  .inr (3, [.long 0, .long 1]),
  .inr (3, [.long 0, .long 1]),
  .inr (3, [.long 0, .long 1])], 2580)
def zh2 : zH := ([.inr (0, [.ref 1, .ref 2, .ref 3, .ref 4, .ref 6, .null, .ref 9, .int 0, .int 0, .ref 10, .ref 11, .ref 12, .ref 13]),
  .inl (3, [.ref 14, .ref 26]),
  .inl (3, [.ref 17, .ref 29]),
  .inl (4, [.ref 20, .ref 32]),
  .inr (1, [.ref 5]),
  .inl (0, [.int (-1), .int (-1), .int (-1), .int (-1), .int (-1), .int (-1), .int (-1), .int (-1), .int 0]),
  .inr (2, [.ref 7, .ref 8, .int 0]),
  .inl (0, List.replicate 6 (.int 0)),
  .inl (0, List.replicate 6 (.int 0)),
  .inl (0, List.replicate 256 (.int 0)),
  .inr (3, [.long 0, .long 1]),
  .inr (3, [.long 0, .long 1]),
  .inl (5, [.ref 38, .ref 39, .ref 40, .ref 41, .ref 42, .ref 43, .ref 44, .ref 45, .ref 46, .ref 47, .ref 48, .ref 49, .ref 50, .ref 51, .ref 52, .ref 53]),
  .inl (0, List.replicate 16 (.int 0)),
  .inr (4, [.ref 15, .ref 16]),
  .inl (0, List.replicate 16 (.int 0)),
  .inl (6, List.replicate 16 (.null)),
  .inr (4, [.ref 18, .ref 19]),
  .inl (0, List.replicate 16 (.int 0)),
  .inl (6, List.replicate 16 (.null)),
  .inr (5, [.ref 21, .ref 22, .ref 23, .ref 24, .ref 25, .int 0]),
  .inl (0, List.replicate 516 (.int 0)),
  .inl (0, List.replicate 129 (.int 0)),
  .inl (0, List.replicate 129 (.int 0)),
  .inl (0, List.replicate 129 (.int 0)),
  .inl (0, List.replicate 129 (.int 0)),
  .inr (4, [.ref 27, .ref 28]),
  .inl (0, List.replicate 16 (.int 0)),
  .inl (6, List.replicate 16 (.null)),
  .inr (4, [.ref 30, .ref 31]),
  .inl (0, List.replicate 16 (.int 0)),
  .inl (6, List.replicate 16 (.null)),
  .inr (5, [.ref 33, .ref 34, .ref 35, .ref 36, .ref 37, .int 0]),
  .inl (0, List.replicate 516 (.int 0)),
  .inl (0, List.replicate 129 (.int 0)),
  .inl (0, List.replicate 129 (.int 0)),
  .inl (0, List.replicate 129 (.int 0)),
  .inl (0, List.replicate 129 (.int 0)),
  .inr (3, [.long 0, .long 1]),
  .inr (3, [.long 0, .long 1]),
  .inr (3, [.long 0, .long 1]),
  .inr (3, [.long 0, .long 1]),
  .inr (3, [.long 0, .long 1]),
  .inr (3, [.long 0, .long 1]),
  .inr (3, [.long 0, .long 1]),
  .inr (3, [.long 0, .long 1]),
  .inr (3, [.long 0, .long 1]),
  .inr (3, [.long 0, .long 1]),
  .inr (3, [.long 0, .long 1]),
  .inr (3, [.long 0, .long 1]),
  .inr (3, [.long 0, .long 1]),
  .inr (3, [.long 0, .long 1]),
  .inr (3, [.long 0, .long 1]),
  .inr (3, [.long 0, .long 1]),
  .inr (8, List.replicate 10 (.null) ++ [.int 0] ++ [.null, .null] ++ [.long 0, .long 0] ++ [.null, .null] ++ List.replicate 6 (.int 0) ++ [.null, .null, .null])], 2606)
def zh3 : zH := ([.inr (0, [.ref 1, .ref 2, .ref 3, .ref 4, .ref 6, .null, .ref 9, .int 0, .int 0, .ref 10, .ref 11, .ref 12, .ref 13]),
  .inl (3, [.ref 14, .ref 26]),
  .inl (3, [.ref 17, .ref 29]),
  .inl (4, [.ref 20, .ref 32]),
  .inr (1, [.ref 5]),
  .inl (0, [.int (-1), .int (-1), .int (-1), .int (-1), .int (-1), .int (-1), .int (-1), .int (-1), .int 0]),
  .inr (2, [.ref 7, .ref 8, .int 0]),
  .inl (0, List.replicate 6 (.int 0)),
  .inl (0, List.replicate 6 (.int 0)),
  .inl (0, List.replicate 256 (.int 0)),
  .inr (3, [.long 0, .long 1]),
  .inr (3, [.long 0, .long 1]),
  .inl (5, [.ref 38, .ref 39, .ref 40, .ref 41, .ref 42, .ref 43, .ref 44, .ref 45, .ref 46, .ref 47, .ref 48, .ref 49, .ref 50, .ref 51, .ref 52, .ref 53]),
  .inl (0, List.replicate 16 (.int 0)),
  .inr (4, [.ref 15, .ref 16]),
  .inl (0, List.replicate 16 (.int 0)),
  .inl (6, List.replicate 16 (.null)),
  .inr (4, [.ref 18, .ref 19]),
  .inl (0, List.replicate 16 (.int 0)),
  .inl (6, List.replicate 16 (.null)),
  .inr (5, [.ref 21, .ref 22, .ref 23, .ref 24, .ref 25, .int 0]),
  .inl (0, List.replicate 516 (.int 0)),
  .inl (0, List.replicate 129 (.int 0)),
  .inl (0, List.replicate 129 (.int 0)),
  .inl (0, List.replicate 129 (.int 0)),
  .inl (0, List.replicate 129 (.int 0)),
  .inr (4, [.ref 27, .ref 28]),
  .inl (0, List.replicate 16 (.int 0)),
  .inl (6, List.replicate 16 (.null)),
  .inr (4, [.ref 30, .ref 31]),
  .inl (0, List.replicate 16 (.int 0)),
  .inl (6, List.replicate 16 (.null)),
  .inr (5, [.ref 33, .ref 34, .ref 35, .ref 36, .ref 37, .int 0]),
  .inl (0, List.replicate 516 (.int 0)),
  .inl (0, List.replicate 129 (.int 0)),
  .inl (0, List.replicate 129 (.int 0)),
  .inl (0, List.replicate 129 (.int 0)),
  .inl (0, List.replicate 129 (.int 0)),
  .inr (3, [.long 0, .long 1]),
  .inr (3, [.long 0, .long 1]),
  .inr (3, [.long 0, .long 1]),
  .inr (3, [.long 0, .long 1]),
  .inr (3, [.long 0, .long 1]),
  .inr (3, [.long 0, .long 1]),
  .inr (3, [.long 0, .long 1]),
  .inr (3, [.long 0, .long 1]),
  .inr (3, [.long 0, .long 1]),
  .inr (3, [.long 0, .long 1]),
  .inr (3, [.long 0, .long 1]),
  .inr (3, [.long 0, .long 1]),
  .inr (3, [.long 0, .long 1]),
  .inr (3, [.long 0, .long 1]),
  .inr (3, [.long 0, .long 1]),
  .inr (3, [.long 0, .long 1]),
  .inr (8, [.ref 55, .ref 56, .ref 57, .ref 58, .ref 59, .ref 60, .ref 61, .ref 62, .ref 63, .ref 64, .int 0, .ref 65, .ref 66, .long 0, .long 0, .ref 67, .ref 68, .int 0, .int 0, .int 0, .int 0, .int 0, .int 0, .ref 69, .ref 70, .ref 71]),
  .inl (1, List.replicate 65 (.int 0)),
  .inl (0, List.replicate 65 (.int 0)),
  .inl (0, List.replicate 65 (.int 0)),
  .inl (0, List.replicate 65 (.int 0)),
  .inl (0, List.replicate 390 (.int 0)),
  .inl (0, List.replicate 390 (.int 0)),
  .inl (0, List.replicate 65 (.int 0)),
  .inl (0, List.replicate 65 (.int 0)),
  .inl (0, List.replicate 65 (.int 0)),
  .inl (0, List.replicate 65 (.int 0)),
  .inl (0, List.replicate 6 (.int 0)),
  .inl (0, List.replicate 6 (.int 0)),
  .inl (2, List.replicate 16 (.long 0)),
  .inl (2, List.replicate 16 (.long 0)),
  .inl (0, List.replicate 256 (.int 0)),
  .inl (0, [.int (-1), .int (-1), .int (-1), .int (-1), .int (-1), .int (-1), .int (-1), .int (-1), .int 0]),
  .inl (0, List.replicate 9 (.int 0))], 4224)
set_option maxRecDepth 1000000 in
theorem zc_ST : zcal zmt 100000 9 420 0 [.ref 0] ([.inr (0, df_ST)], 13) = some (none, zh1) := zreq_ok (by decide +kernel)
set_option maxRecDepth 1000000 in
theorem zc_Mo : zcal zmt 100000 9 420 96 [.ref 54] zh2 = some (none, zh3) := zreq_ok (by decide +kernel)
