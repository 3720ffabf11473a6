-- equality of results that the kernel can decide
def zceq (a b : zC) : Bool := match a with
  | .inl p => match b with
    | .inl q => Nat.beq p.1 q.1 && decide (p.2 = q.2)
    | .inr _ => false
  | .inr p => match b with
    | .inl _ => false
    | .inr q => Nat.beq p.1 q.1 && decide (p.2 = q.2)
theorem zceq_ok {a b : zC} (h : zceq a b = true) : a = b := by
  rcases a with ⟨t, l⟩ | ⟨t, l⟩ <;> rcases b with ⟨t2, l2⟩ | ⟨t2, l2⟩
  · have h2 := Bool.and_eq_true_iff.mp (show (Nat.beq t t2 && decide (l = l2)) = true from h)
    rw [Nat.eq_of_beq_eq_true h2.1, of_decide_eq_true h2.2]
  · cases h
  · cases h
  · have h2 := Bool.and_eq_true_iff.mp (show (Nat.beq t t2 && decide (l = l2)) = true from h)
    rw [Nat.eq_of_beq_eq_true h2.1, of_decide_eq_true h2.2]
def zhl (h k : List zC) : Bool := match h with
  | [] => match k with
    | [] => true
    | _ :: _ => false
  | a :: r => match k with
    | [] => false
    | b :: r2 => zceq a b && zhl r r2
theorem zhl_ok : ∀ {h k : List zC}, zhl h k = true → h = k
  | [], [], _ => rfl
  | [], _ :: _, h => by cases h
  | _ :: _, [], h => by cases h
  | a :: r, b :: r2, h => by
    have h2 := Bool.and_eq_true_iff.mp (show (zceq a b && zhl r r2) = true from h)
    rw [zceq_ok h2.1, zhl_ok h2.2]
def zreq (r : Option (Option Value × zH)) (v : Option Value) (k : zH) : Bool := match r with
  | some q => decide (q.1 = v) && (Nat.beq q.2.2 k.2 && zhl q.2.1 k.1)
  | none => false
theorem zreq_ok {r : Option (Option Value × zH)} {v : Option Value} {k : zH} (h : zreq r v k = true) : r = some (v, k) := by
  cases r with
  | none => cases h
  | some q =>
    obtain ⟨w, hh, n⟩ := q
    obtain ⟨k1, k2⟩ := k
    have h2 := Bool.and_eq_true_iff.mp (show (decide (w = v) && (Nat.beq n k2 && zhl hh k1)) = true from h)
    have h3 := Bool.and_eq_true_iff.mp h2.2
    rw [of_decide_eq_true h2.1, Nat.eq_of_beq_eq_true h3.1, zhl_ok h3.2]
