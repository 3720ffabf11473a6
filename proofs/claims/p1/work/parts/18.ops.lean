set_option maxRecDepth 100000 in
theorem zo_insert (t v : Int32) : zPair 28 107 [.int t, .int v] := by
  rcases zix t 2 (by decide) with h | h | ⟨j, hj, rfl⟩
  · exact zi_insert_lt t v h
  · exact zi_insert_ge t v h
  · rcases (show j = 0 ∨ j = 1 by omega) with rfl | rfl
    · exact zi_insert_0 v
    · exact zi_insert_1 v
set_option maxRecDepth 100000 in
theorem zo_select (t l p q : Int32) : zPair 43 114 [.int t, .int l, .int p, .int q] := by
  rcases zix t 2 (by decide) with h | h | ⟨j, hj, rfl⟩
  · exact zi_select_lt t l p q h
  · exact zi_select_ge t l p q h
  · rcases (show j = 0 ∨ j = 1 by omega) with rfl | rfl
    · exact zi_select_0 l p q
    · exact zi_select_1 l p q
set_option maxRecDepth 100000 in
theorem zo_nearest (t k : Int32) : zPair 66 134 [.int t, .int k] := by
  rcases zix t 2 (by decide) with h | h | ⟨j, hj, rfl⟩
  · exact zi_nearest_lt t k h
  · exact zi_nearest_ge t k h
  · rcases (show j = 0 ∨ j = 1 by omega) with rfl | rfl
    · exact zi_nearest_0 k
    · exact zi_nearest_1 k
set_option maxRecDepth 100000 in
theorem zo_rows (t : Int32) : zPair 78 141 [.int t] := by
  rcases zix t 2 (by decide) with h | h | ⟨j, hj, rfl⟩
  · exact zi_rows_lt t  h
  · exact zi_rows_ge t  h
  · exact zck_ok (zal1 zr_rows hj)
set_option maxRecDepth 100000 in
theorem zo_nodes (t : Int32) : zPair 79 142 [.int t] := by
  rcases zix t 2 (by decide) with h | h | ⟨j, hj, rfl⟩
  · exact zi_nodes_lt t  h
  · exact zi_nodes_ge t  h
  · exact zck_ok (zal1 zr_nodes hj)
set_option maxRecDepth 100000 in
theorem zo_delete (t r : Int32) : zPair 38 111 [.int t, .int r] := by
  rcases zix t 2 (by decide) with h | h | ⟨j, hj, rfl⟩
  · exact zi_delete_lt t r h
  · exact zi_delete_ge t r h
  · rcases zix r 16 (by decide) with h | h | ⟨i, hi, rfl⟩
    · rcases (show j = 0 ∨ j = 1 by omega) with rfl | rfl
      · exact zi_delete_0_lt r h
      · exact zi_delete_1_lt r h
    · rcases (show j = 0 ∨ j = 1 by omega) with rfl | rfl
      · exact zi_delete_0_ge r h
      · exact zi_delete_1_ge r h
    · exact zck_ok (zal1 (zal1 zr_delete hj) hi)
set_option maxRecDepth 100000 in
theorem zo_measure (t r : Int32) : zPair 75 139 [.int t, .int r] := by
  rcases zix t 2 (by decide) with h | h | ⟨j, hj, rfl⟩
  · exact zi_measure_lt t r h
  · exact zi_measure_ge t r h
  · rcases zix r 16 (by decide) with h | h | ⟨i, hi, rfl⟩
    · rcases (show j = 0 ∨ j = 1 by omega) with rfl | rfl
      · exact zi_measure_0_lt r h
      · exact zi_measure_1_lt r h
    · rcases (show j = 0 ∨ j = 1 by omega) with rfl | rfl
      · exact zi_measure_0_ge r h
      · exact zi_measure_1_ge r h
    · exact zck_ok (zal1 (zal1 zr_measure hj) hi)
set_option maxRecDepth 100000 in
theorem zo_value (t r : Int32) : zPair 77 140 [.int t, .int r] := by
  rcases zix t 2 (by decide) with h | h | ⟨j, hj, rfl⟩
  · exact zi_value_lt t r h
  · exact zi_value_ge t r h
  · rcases zix r 16 (by decide) with h | h | ⟨i, hi, rfl⟩
    · rcases (show j = 0 ∨ j = 1 by omega) with rfl | rfl
      · exact zi_value_0_lt r h
      · exact zi_value_1_lt r h
    · rcases (show j = 0 ∨ j = 1 by omega) with rfl | rfl
      · exact zi_value_0_ge r h
      · exact zi_value_1_ge r h
    · exact zck_ok (zal1 (zal1 zr_value hj) hi)
set_option maxRecDepth 100000 in
theorem zo_update (t r v w : Int32) : zPair 42 113 [.int t, .int r, .int v, .int w] := by
  rcases zix t 2 (by decide) with h | h | ⟨j, hj, rfl⟩
  · exact zi_update_lt t r v w h
  · exact zi_update_ge t r v w h
  · rcases zix r 16 (by decide) with h | h | ⟨i, hi, rfl⟩
    · rcases (show j = 0 ∨ j = 1 by omega) with rfl | rfl
      · exact zi_update_0_lt r v w h
      · exact zi_update_1_lt r v w h
    · rcases (show j = 0 ∨ j = 1 by omega) with rfl | rfl
      · exact zi_update_0_ge r v w h
      · exact zi_update_1_ge r v w h
    · rcases (show j = 0 ∨ j = 1 by omega) with rfl | rfl
      · rcases (show i = 0 ∨ i = 1 ∨ i = 2 ∨ i = 3 ∨ i = 4 ∨ i = 5 ∨ i = 6 ∨ i = 7 ∨ i = 8 ∨ i = 9 ∨ i = 10 ∨ i = 11 ∨ i = 12 ∨ i = 13 ∨ i = 14 ∨ i = 15 by omega) with rfl | rfl | rfl | rfl | rfl | rfl | rfl | rfl | rfl | rfl | rfl | rfl | rfl | rfl | rfl | rfl
        · exact zi_update_0_0 v w
        · exact zi_update_0_1 v w
        · exact zi_update_0_2 v w
        · exact zi_update_0_3 v w
        · exact zi_update_0_4 v w
        · exact zi_update_0_5 v w
        · exact zi_update_0_6 v w
        · exact zi_update_0_7 v w
        · exact zi_update_0_8 v w
        · exact zi_update_0_9 v w
        · exact zi_update_0_10 v w
        · exact zi_update_0_11 v w
        · exact zi_update_0_12 v w
        · exact zi_update_0_13 v w
        · exact zi_update_0_14 v w
        · exact zi_update_0_15 v w
      · rcases (show i = 0 ∨ i = 1 ∨ i = 2 ∨ i = 3 ∨ i = 4 ∨ i = 5 ∨ i = 6 ∨ i = 7 ∨ i = 8 ∨ i = 9 ∨ i = 10 ∨ i = 11 ∨ i = 12 ∨ i = 13 ∨ i = 14 ∨ i = 15 by omega) with rfl | rfl | rfl | rfl | rfl | rfl | rfl | rfl | rfl | rfl | rfl | rfl | rfl | rfl | rfl | rfl
        · exact zi_update_1_0 v w
        · exact zi_update_1_1 v w
        · exact zi_update_1_2 v w
        · exact zi_update_1_3 v w
        · exact zi_update_1_4 v w
        · exact zi_update_1_5 v w
        · exact zi_update_1_6 v w
        · exact zi_update_1_7 v w
        · exact zi_update_1_8 v w
        · exact zi_update_1_9 v w
        · exact zi_update_1_10 v w
        · exact zi_update_1_11 v w
        · exact zi_update_1_12 v w
        · exact zi_update_1_13 v w
        · exact zi_update_1_14 v w
        · exact zi_update_1_15 v w
set_option maxRecDepth 100000 in
theorem zo_shape (k : Int32) : zPair 10 98 [.int k] := by
  rcases zix k 3 (by decide) with h | h | ⟨j, hj, rfl⟩
  · exact zi_shape_lt k h
  · exact zi_shape_ge k h
  · exact zck_ok (zal1 zr_shape hj)
set_option maxRecDepth 100000 in
theorem zo_frame (k : Int32) : zPair 94 152 [.int k] := by
  rcases zix k 9 (by decide) with h | h | ⟨j, hj, rfl⟩
  · exact zi_frame_lt k h
  · exact zi_frame_ge k h
  · exact zck_ok (zal1 zr_frame hj)
set_option maxRecDepth 100000 in
theorem zo_result (k : Int32) : zPair 73 137 [.int k] := by
  by_cases h : k.toInt < 0
  · exact zi_result_lt k h
  · exact zi_result_ge k (by omega)
set_option maxRecDepth 100000 in
theorem zo_join (k : Int32) : zPair 71 136 [.int k] := by
  by_cases h : k.toInt < 0
  · exact zi_join_lt k h
  · exact zi_join_ge k (by omega)
set_option maxRecDepth 100000 in
theorem zo_commit (k : Int32) : zPair 80 143 [.int k] := zi_commit k
set_option maxRecDepth 100000 in
theorem zo_vertex (a b : Int32) : zPair 7 97 [.int a, .int b] := by
  by_cases h : a.toInt < 0
  · exact zi_vertex_alt a b h
  · by_cases h1 : 256 ≤ a.toInt
    · exact zi_vertex_age a b h1
    · by_cases h2 : b.toInt < 0
      · exact zi_vertex_blt a b (by omega) (by omega) h2
      · by_cases h3 : 256 ≤ b.toInt
        · exact zi_vertex_bge a b (by omega) (by omega) h3
        · exact zi_vertex_in a b (by omega) (by omega) (by omega) (by omega)
