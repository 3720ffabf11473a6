set_option maxRecDepth 1000000 in
theorem zo_reads : zPair 74 138 [] := zck_ok (by decide +kernel)
set_option maxRecDepth 1000000 in
theorem zo_rollback : zPairV 93 150 := zckV_ok (by decide +kernel)
set_option maxRecDepth 1000000 in
theorem zo_crash : zPairV 92 149 := zckV_ok (by decide +kernel)
set_option maxRecDepth 1000000 in
theorem zr_delete : ((List.range 2).all fun a => (List.range 16).all fun b => zck 38 111 [.int (nI a), .int (nI b)]) = true := by decide +kernel
set_option maxRecDepth 1000000 in
theorem zr_measure : ((List.range 2).all fun a => (List.range 16).all fun b => zck 75 139 [.int (nI a), .int (nI b)]) = true := by decide +kernel
set_option maxRecDepth 1000000 in
theorem zr_value : ((List.range 2).all fun a => (List.range 16).all fun b => zck 77 140 [.int (nI a), .int (nI b)]) = true := by decide +kernel
set_option maxRecDepth 1000000 in
theorem zr_rows : ((List.range 2).all fun a => zck 78 141 [.int (nI a)]) = true := by decide +kernel
set_option maxRecDepth 1000000 in
theorem zr_nodes : ((List.range 2).all fun a => zck 79 142 [.int (nI a)]) = true := by decide +kernel
set_option maxRecDepth 1000000 in
theorem zr_shape : ((List.range 3).all fun a => zck 10 98 [.int (nI a)]) = true := by decide +kernel
set_option maxRecDepth 1000000 in
theorem zr_frame : ((List.range 9).all fun a => zck 94 152 [.int (nI a)]) = true := by decide +kernel
