theorem zdf_map (sa b a : Nat) {C : vw_C} (h : zcl[a]? = some C) : (zdf a).map (zt sa b) = zdf a := by
  match a, h with
  | 0, _ => rfl
  | 1, _ => rfl
  | 2, _ => rfl
  | 3, _ => rfl
  | 4, _ => rfl
  | 5, _ => rfl
  | 6, _ => rfl
  | 7, _ => rfl
  | 8, _ => rfl
  | n + 9, h => exact absurd h (by simp [zcl])
