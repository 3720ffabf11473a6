section
-- ===== PART A: goes FIRST, ahead of the names: the tables' words, and 'selects' of the private methods out of them =====
/-- a private method of a class that the tables say can be made, by its rows of tables_1 -/
def lw_okq (q : MethodName × Nat) : Prop := (q.1.cls ≠ "java/lang/invoke/MethodHandle" ∧ q.1.cls ≠ "java/lang/invoke/VarHandle") ∧ Cond.instantiable q.1.cls q.2 ∈ tables_1 ∧ Cond.privateMethod q.1 ∈ tables_1 ∧ Cond.instanceMethod q.1 ∈ tables_1
theorem lw_p0 : lw_okq (⟨"SpatialTables$Geometry", "hasEqualNeighbours", "()Z"⟩, 4) := ⟨⟨by decide +kernel, by decide +kernel⟩, List.mem_of_getElem? (i := 176) (by decide +kernel), List.mem_of_getElem? (i := 247) (by decide +kernel), List.mem_of_getElem? (i := 248) (by decide +kernel)⟩
theorem lw_p1 : lw_okq (⟨"SpatialTables$Geometry", "touchesItself", "()Z"⟩, 4) := ⟨⟨by decide +kernel, by decide +kernel⟩, List.mem_of_getElem? (i := 176) (by decide +kernel), List.mem_of_getElem? (i := 259) (by decide +kernel), List.mem_of_getElem? (i := 260) (by decide +kernel)⟩
theorem lw_p2 : lw_okq (⟨"SpatialTables$Geometry", "mayNotMeetAsTheyDo", "(II)Z"⟩, 4) := ⟨⟨by decide +kernel, by decide +kernel⟩, List.mem_of_getElem? (i := 176) (by decide +kernel), List.mem_of_getElem? (i := 263) (by decide +kernel), List.mem_of_getElem? (i := 264) (by decide +kernel)⟩
theorem lw_p3 : lw_okq (⟨"SpatialTables$Geometry", "foldsBack", "(II)Z"⟩, 4) := ⟨⟨by decide +kernel, by decide +kernel⟩, List.mem_of_getElem? (i := 176) (by decide +kernel), List.mem_of_getElem? (i := 267) (by decide +kernel), List.mem_of_getElem? (i := 268) (by decide +kernel)⟩
theorem lw_p4 : lw_okq (⟨"SpatialTables$Geometry", "turn", "(III)I"⟩, 4) := ⟨⟨by decide +kernel, by decide +kernel⟩, List.mem_of_getElem? (i := 176) (by decide +kernel), List.mem_of_getElem? (i := 275) (by decide +kernel), List.mem_of_getElem? (i := 276) (by decide +kernel)⟩
theorem lw_p5 : lw_okq (⟨"SpatialTables$Geometry", "isBeside", "(ILSpatialTables$Geometry;I)Z"⟩, 4) := ⟨⟨by decide +kernel, by decide +kernel⟩, List.mem_of_getElem? (i := 176) (by decide +kernel), List.mem_of_getElem? (i := 282) (by decide +kernel), List.mem_of_getElem? (i := 283) (by decide +kernel)⟩
theorem lw_p6 : lw_okq (⟨"SpatialTables$Index", "newNode", "()I"⟩, 6) := ⟨⟨by decide +kernel, by decide +kernel⟩, List.mem_of_getElem? (i := 84) (by decide +kernel), List.mem_of_getElem? (i := 310) (by decide +kernel), List.mem_of_getElem? (i := 311) (by decide +kernel)⟩
theorem lw_p7 : lw_okq (⟨"SpatialTables$Index", "stretch", "(ILSpatialTables$Bound;)V"⟩, 6) := ⟨⟨by decide +kernel, by decide +kernel⟩, List.mem_of_getElem? (i := 84) (by decide +kernel), List.mem_of_getElem? (i := 314) (by decide +kernel), List.mem_of_getElem? (i := 315) (by decide +kernel)⟩
theorem lw_p8 : lw_okq (⟨"SpatialTables$Index", "partOf", "(II)I"⟩, 6) := ⟨⟨by decide +kernel, by decide +kernel⟩, List.mem_of_getElem? (i := 84) (by decide +kernel), List.mem_of_getElem? (i := 328) (by decide +kernel), List.mem_of_getElem? (i := 329) (by decide +kernel)⟩
theorem lw_p9 : lw_okq (⟨"SpatialTables", "placeOf", "(II)LSpatialTables$Geometry;"⟩, 13) := ⟨⟨by decide +kernel, by decide +kernel⟩, List.mem_of_getElem? (i := 15) (by decide +kernel), List.mem_of_getElem? (i := 336) (by decide +kernel), List.mem_of_getElem? (i := 337) (by decide +kernel)⟩
theorem lw_p10 : lw_okq (⟨"SpatialTables", "clearAnswers", "()V"⟩, 13) := ⟨⟨by decide +kernel, by decide +kernel⟩, List.mem_of_getElem? (i := 15) (by decide +kernel), List.mem_of_getElem? (i := 358) (by decide +kernel), List.mem_of_getElem? (i := 359) (by decide +kernel)⟩
theorem lw_p11 : lw_okq (⟨"SpatialTables", "searchReads", "(LSpatialTables$Geometry;II)I"⟩, 13) := ⟨⟨by decide +kernel, by decide +kernel⟩, List.mem_of_getElem? (i := 15) (by decide +kernel), List.mem_of_getElem? (i := 362) (by decide +kernel), List.mem_of_getElem? (i := 363) (by decide +kernel)⟩
theorem lw_p12 : lw_okq (⟨"SpatialTables", "readsWithin", "(LSpatialTables$Bound;ILSpatialTables$Distance;)I"⟩, 13) := ⟨⟨by decide +kernel, by decide +kernel⟩, List.mem_of_getElem? (i := 15) (by decide +kernel), List.mem_of_getElem? (i := 380) (by decide +kernel), List.mem_of_getElem? (i := 381) (by decide +kernel)⟩
theorem lw_p13 : lw_okq (⟨"SpatialTables", "rowsFound", "(LSpatialTables$Geometry;II)I"⟩, 13) := ⟨⟨by decide +kernel, by decide +kernel⟩, List.mem_of_getElem? (i := 15) (by decide +kernel), List.mem_of_getElem? (i := 409) (by decide +kernel), List.mem_of_getElem? (i := 410) (by decide +kernel)⟩
theorem lw_p14 : lw_okq (⟨"SpatialTables$Distance", "lessenBySides", "(LSpatialTables$Geometry;ILSpatialTables$Geometry;I)V"⟩, 2) := ⟨⟨by decide +kernel, by decide +kernel⟩, List.mem_of_getElem? (i := 57) (by decide +kernel), List.mem_of_getElem? (i := 425) (by decide +kernel), List.mem_of_getElem? (i := 426) (by decide +kernel)⟩
theorem lw_p15 : lw_okq (⟨"SpatialTables$Distance", "lessenByEnd", "(LSpatialTables$Geometry;ILSpatialTables$Geometry;I)V"⟩, 2) := ⟨⟨by decide +kernel, by decide +kernel⟩, List.mem_of_getElem? (i := 57) (by decide +kernel), List.mem_of_getElem? (i := 430) (by decide +kernel), List.mem_of_getElem? (i := 431) (by decide +kernel)⟩
def lw_privs_1 : List (MethodName × Nat) := [(⟨"SpatialTables$Geometry", "hasEqualNeighbours", "()Z"⟩, 4), (⟨"SpatialTables$Geometry", "touchesItself", "()Z"⟩, 4), (⟨"SpatialTables$Geometry", "mayNotMeetAsTheyDo", "(II)Z"⟩, 4), (⟨"SpatialTables$Geometry", "foldsBack", "(II)Z"⟩, 4), (⟨"SpatialTables$Geometry", "turn", "(III)I"⟩, 4), (⟨"SpatialTables$Geometry", "isBeside", "(ILSpatialTables$Geometry;I)Z"⟩, 4), (⟨"SpatialTables$Index", "newNode", "()I"⟩, 6), (⟨"SpatialTables$Index", "stretch", "(ILSpatialTables$Bound;)V"⟩, 6), (⟨"SpatialTables$Index", "partOf", "(II)I"⟩, 6), (⟨"SpatialTables", "placeOf", "(II)LSpatialTables$Geometry;"⟩, 13), (⟨"SpatialTables", "clearAnswers", "()V"⟩, 13), (⟨"SpatialTables", "searchReads", "(LSpatialTables$Geometry;II)I"⟩, 13), (⟨"SpatialTables", "readsWithin", "(LSpatialTables$Bound;ILSpatialTables$Distance;)I"⟩, 13), (⟨"SpatialTables", "rowsFound", "(LSpatialTables$Geometry;II)I"⟩, 13), (⟨"SpatialTables$Distance", "lessenBySides", "(LSpatialTables$Geometry;ILSpatialTables$Geometry;I)V"⟩, 2), (⟨"SpatialTables$Distance", "lessenByEnd", "(LSpatialTables$Geometry;ILSpatialTables$Geometry;I)V"⟩, 2)]
theorem lw_r1 : ∀ q ∈ lw_privs_1, lw_okq q := List.forall_mem_cons.mpr ⟨lw_p0, List.forall_mem_cons.mpr ⟨lw_p1, List.forall_mem_cons.mpr ⟨lw_p2, List.forall_mem_cons.mpr ⟨lw_p3, List.forall_mem_cons.mpr ⟨lw_p4, List.forall_mem_cons.mpr ⟨lw_p5, List.forall_mem_cons.mpr ⟨lw_p6, List.forall_mem_cons.mpr ⟨lw_p7, List.forall_mem_cons.mpr ⟨lw_p8, List.forall_mem_cons.mpr ⟨lw_p9, List.forall_mem_cons.mpr ⟨lw_p10, List.forall_mem_cons.mpr ⟨lw_p11, List.forall_mem_cons.mpr ⟨lw_p12, List.forall_mem_cons.mpr ⟨lw_p13, List.forall_mem_cons.mpr ⟨lw_p14, List.forall_mem_cons.mpr ⟨lw_p15, fun _ h => absurd h List.not_mem_nil⟩⟩⟩⟩⟩⟩⟩⟩⟩⟩⟩⟩⟩⟩⟩⟩
theorem lw_p16 : lw_okq (⟨"SpatialTables$Distance", "lessen", "(JJ)V"⟩, 2) := ⟨⟨by decide +kernel, by decide +kernel⟩, List.mem_of_getElem? (i := 57) (by decide +kernel), List.mem_of_getElem? (i := 435) (by decide +kernel), List.mem_of_getElem? (i := 436) (by decide +kernel)⟩
theorem lw_p17 : lw_okq (⟨"SpatialTables", "addAnswer", "(I)V"⟩, 13) := ⟨⟨by decide +kernel, by decide +kernel⟩, List.mem_of_getElem? (i := 15) (by decide +kernel), List.mem_of_getElem? (i := 450) (by decide +kernel), List.mem_of_getElem? (i := 451) (by decide +kernel)⟩
theorem lw_p18 : lw_okq (⟨"SpatialTables", "orderByDistance", "(LSpatialTables$Geometry;LSpatialTables$Table;)I"⟩, 13) := ⟨⟨by decide +kernel, by decide +kernel⟩, List.mem_of_getElem? (i := 15) (by decide +kernel), List.mem_of_getElem? (i := 458) (by decide +kernel), List.mem_of_getElem? (i := 459) (by decide +kernel)⟩
theorem lw_p19 : lw_okq (⟨"SpatialTables", "putInOrder", "(II)V"⟩, 13) := ⟨⟨by decide +kernel, by decide +kernel⟩, List.mem_of_getElem? (i := 15) (by decide +kernel), List.mem_of_getElem? (i := 462) (by decide +kernel), List.mem_of_getElem? (i := 463) (by decide +kernel)⟩
theorem lw_p20 : lw_okq (⟨"SpatialTables", "addPairs", "(II)V"⟩, 13) := ⟨⟨by decide +kernel, by decide +kernel⟩, List.mem_of_getElem? (i := 15) (by decide +kernel), List.mem_of_getElem? (i := 478) (by decide +kernel), List.mem_of_getElem? (i := 479) (by decide +kernel)⟩
theorem lw_p21 : lw_okq (⟨"SpatialTables", "changedPages", "()I"⟩, 13) := ⟨⟨by decide +kernel, by decide +kernel⟩, List.mem_of_getElem? (i := 15) (by decide +kernel), List.mem_of_getElem? (i := 514) (by decide +kernel), List.mem_of_getElem? (i := 515) (by decide +kernel)⟩
theorem lw_p22 : lw_okq (⟨"SpatialTables", "pagesWithRows", "()I"⟩, 13) := ⟨⟨by decide +kernel, by decide +kernel⟩, List.mem_of_getElem? (i := 15) (by decide +kernel), List.mem_of_getElem? (i := 531) (by decide +kernel), List.mem_of_getElem? (i := 532) (by decide +kernel)⟩
theorem lw_p23 : lw_okq (⟨"SpatialTables$Frames", "takenFrames", "()I"⟩, 1) := ⟨⟨by decide +kernel, by decide +kernel⟩, List.mem_of_getElem? (i := 27) (by decide +kernel), List.mem_of_getElem? (i := 539) (by decide +kernel), List.mem_of_getElem? (i := 540) (by decide +kernel)⟩
theorem lw_p24 : lw_okq (⟨"SpatialTables", "keepPresentTables", "()V"⟩, 13) := ⟨⟨by decide +kernel, by decide +kernel⟩, List.mem_of_getElem? (i := 15) (by decide +kernel), List.mem_of_getElem? (i := 552) (by decide +kernel), List.mem_of_getElem? (i := 553) (by decide +kernel)⟩
theorem lw_p25 : lw_okq (⟨"SpatialTablesModel", "fault", "(I)I"⟩, 26) := ⟨⟨by decide +kernel, by decide +kernel⟩, List.mem_of_getElem? (i := 578) (by decide +kernel), List.mem_of_getElem? (i := 673) (by decide +kernel), List.mem_of_getElem? (i := 674) (by decide +kernel)⟩
theorem lw_p26 : lw_okq (⟨"SpatialTablesModel", "clash", "(II)Z"⟩, 26) := ⟨⟨by decide +kernel, by decide +kernel⟩, List.mem_of_getElem? (i := 578) (by decide +kernel), List.mem_of_getElem? (i := 677) (by decide +kernel), List.mem_of_getElem? (i := 678) (by decide +kernel)⟩
theorem lw_p27 : lw_okq (⟨"SpatialTablesModel", "stuck", "(III)Z"⟩, 26) := ⟨⟨by decide +kernel, by decide +kernel⟩, List.mem_of_getElem? (i := 578) (by decide +kernel), List.mem_of_getElem? (i := 681) (by decide +kernel), List.mem_of_getElem? (i := 682) (by decide +kernel)⟩
theorem lw_p28 : lw_okq (⟨"SpatialTablesModel", "apart", "(IIII)Z"⟩, 26) := ⟨⟨by decide +kernel, by decide +kernel⟩, List.mem_of_getElem? (i := 578) (by decide +kernel), List.mem_of_getElem? (i := 694) (by decide +kernel), List.mem_of_getElem? (i := 695) (by decide +kernel)⟩
theorem lw_p29 : lw_okq (⟨"SpatialTablesModel", "bind", "(I)V"⟩, 26) := ⟨⟨by decide +kernel, by decide +kernel⟩, List.mem_of_getElem? (i := 578) (by decide +kernel), List.mem_of_getElem? (i := 698) (by decide +kernel), List.mem_of_getElem? (i := 699) (by decide +kernel)⟩
theorem lw_p30 : lw_okq (⟨"SpatialTablesModel", "size", "(I)I"⟩, 26) := ⟨⟨by decide +kernel, by decide +kernel⟩, List.mem_of_getElem? (i := 578) (by decide +kernel), List.mem_of_getElem? (i := 709) (by decide +kernel), List.mem_of_getElem? (i := 710) (by decide +kernel)⟩
theorem lw_p31 : lw_okq (⟨"SpatialTablesModel", "copyShape", "(II)V"⟩, 26) := ⟨⟨by decide +kernel, by decide +kernel⟩, List.mem_of_getElem? (i := 578) (by decide +kernel), List.mem_of_getElem? (i := 713) (by decide +kernel), List.mem_of_getElem? (i := 714) (by decide +kernel)⟩
def lw_privs_2 : List (MethodName × Nat) := [(⟨"SpatialTables$Distance", "lessen", "(JJ)V"⟩, 2), (⟨"SpatialTables", "addAnswer", "(I)V"⟩, 13), (⟨"SpatialTables", "orderByDistance", "(LSpatialTables$Geometry;LSpatialTables$Table;)I"⟩, 13), (⟨"SpatialTables", "putInOrder", "(II)V"⟩, 13), (⟨"SpatialTables", "addPairs", "(II)V"⟩, 13), (⟨"SpatialTables", "changedPages", "()I"⟩, 13), (⟨"SpatialTables", "pagesWithRows", "()I"⟩, 13), (⟨"SpatialTables$Frames", "takenFrames", "()I"⟩, 1), (⟨"SpatialTables", "keepPresentTables", "()V"⟩, 13), (⟨"SpatialTablesModel", "fault", "(I)I"⟩, 26), (⟨"SpatialTablesModel", "clash", "(II)Z"⟩, 26), (⟨"SpatialTablesModel", "stuck", "(III)Z"⟩, 26), (⟨"SpatialTablesModel", "apart", "(IIII)Z"⟩, 26), (⟨"SpatialTablesModel", "bind", "(I)V"⟩, 26), (⟨"SpatialTablesModel", "size", "(I)I"⟩, 26), (⟨"SpatialTablesModel", "copyShape", "(II)V"⟩, 26)]
theorem lw_r2 : ∀ q ∈ lw_privs_2, lw_okq q := List.forall_mem_cons.mpr ⟨lw_p16, List.forall_mem_cons.mpr ⟨lw_p17, List.forall_mem_cons.mpr ⟨lw_p18, List.forall_mem_cons.mpr ⟨lw_p19, List.forall_mem_cons.mpr ⟨lw_p20, List.forall_mem_cons.mpr ⟨lw_p21, List.forall_mem_cons.mpr ⟨lw_p22, List.forall_mem_cons.mpr ⟨lw_p23, List.forall_mem_cons.mpr ⟨lw_p24, List.forall_mem_cons.mpr ⟨lw_p25, List.forall_mem_cons.mpr ⟨lw_p26, List.forall_mem_cons.mpr ⟨lw_p27, List.forall_mem_cons.mpr ⟨lw_p28, List.forall_mem_cons.mpr ⟨lw_p29, List.forall_mem_cons.mpr ⟨lw_p30, List.forall_mem_cons.mpr ⟨lw_p31, fun _ h => absurd h List.not_mem_nil⟩⟩⟩⟩⟩⟩⟩⟩⟩⟩⟩⟩⟩⟩⟩⟩
theorem lw_p32 : lw_okq (⟨"SpatialTablesModel", "slot", "(II)I"⟩, 26) := ⟨⟨by decide +kernel, by decide +kernel⟩, List.mem_of_getElem? (i := 578) (by decide +kernel), List.mem_of_getElem? (i := 721) (by decide +kernel), List.mem_of_getElem? (i := 722) (by decide +kernel)⟩
theorem lw_p33 : lw_okq (⟨"SpatialTablesModel", "finds", "(III)Z"⟩, 26) := ⟨⟨by decide +kernel, by decide +kernel⟩, List.mem_of_getElem? (i := 578) (by decide +kernel), List.mem_of_getElem? (i := 733) (by decide +kernel), List.mem_of_getElem? (i := 734) (by decide +kernel)⟩
theorem lw_p34 : lw_okq (⟨"SpatialTablesModel", "measureOut", "(II)V"⟩, 26) := ⟨⟨by decide +kernel, by decide +kernel⟩, List.mem_of_getElem? (i := 578) (by decide +kernel), List.mem_of_getElem? (i := 737) (by decide +kernel), List.mem_of_getElem? (i := 738) (by decide +kernel)⟩
theorem lw_p35 : lw_okq (⟨"SpatialTablesModel", "meet", "(II)Z"⟩, 26) := ⟨⟨by decide +kernel, by decide +kernel⟩, List.mem_of_getElem? (i := 578) (by decide +kernel), List.mem_of_getElem? (i := 741) (by decide +kernel), List.mem_of_getElem? (i := 742) (by decide +kernel)⟩
theorem lw_p36 : lw_okq (⟨"SpatialTablesModel", "sides", "(I)I"⟩, 26) := ⟨⟨by decide +kernel, by decide +kernel⟩, List.mem_of_getElem? (i := 578) (by decide +kernel), List.mem_of_getElem? (i := 745) (by decide +kernel), List.mem_of_getElem? (i := 746) (by decide +kernel)⟩
theorem lw_p37 : lw_okq (⟨"SpatialTablesModel", "corner", "(III)I"⟩, 26) := ⟨⟨by decide +kernel, by decide +kernel⟩, List.mem_of_getElem? (i := 578) (by decide +kernel), List.mem_of_getElem? (i := 749) (by decide +kernel), List.mem_of_getElem? (i := 750) (by decide +kernel)⟩
theorem lw_p38 : lw_okq (⟨"SpatialTablesModel", "touching", "(IIII)Z"⟩, 26) := ⟨⟨by decide +kernel, by decide +kernel⟩, List.mem_of_getElem? (i := 578) (by decide +kernel), List.mem_of_getElem? (i := 753) (by decide +kernel), List.mem_of_getElem? (i := 754) (by decide +kernel)⟩
theorem lw_p39 : lw_okq (⟨"SpatialTablesModel", "lies", "(III)Z"⟩, 26) := ⟨⟨by decide +kernel, by decide +kernel⟩, List.mem_of_getElem? (i := 578) (by decide +kernel), List.mem_of_getElem? (i := 757) (by decide +kernel), List.mem_of_getElem? (i := 758) (by decide +kernel)⟩
theorem lw_p40 : lw_okq (⟨"SpatialTablesModel", "turn", "(III)J"⟩, 26) := ⟨⟨by decide +kernel, by decide +kernel⟩, List.mem_of_getElem? (i := 578) (by decide +kernel), List.mem_of_getElem? (i := 761) (by decide +kernel), List.mem_of_getElem? (i := 762) (by decide +kernel)⟩
theorem lw_p41 : lw_okq (⟨"SpatialTablesModel", "within", "(II)Z"⟩, 26) := ⟨⟨by decide +kernel, by decide +kernel⟩, List.mem_of_getElem? (i := 578) (by decide +kernel), List.mem_of_getElem? (i := 765) (by decide +kernel), List.mem_of_getElem? (i := 766) (by decide +kernel)⟩
theorem lw_p42 : lw_okq (⟨"SpatialTablesModel", "reach", "(III)V"⟩, 26) := ⟨⟨by decide +kernel, by decide +kernel⟩, List.mem_of_getElem? (i := 578) (by decide +kernel), List.mem_of_getElem? (i := 770) (by decide +kernel), List.mem_of_getElem? (i := 771) (by decide +kernel)⟩
theorem lw_p43 : lw_okq (⟨"SpatialTablesModel", "searchReads", "(III)I"⟩, 26) := ⟨⟨by decide +kernel, by decide +kernel⟩, List.mem_of_getElem? (i := 578) (by decide +kernel), List.mem_of_getElem? (i := 774) (by decide +kernel), List.mem_of_getElem? (i := 775) (by decide +kernel)⟩
theorem lw_p44 : lw_okq (⟨"SpatialTablesModel", "readBy", "(IIJJ)I"⟩, 26) := ⟨⟨by decide +kernel, by decide +kernel⟩, List.mem_of_getElem? (i := 578) (by decide +kernel), List.mem_of_getElem? (i := 778) (by decide +kernel), List.mem_of_getElem? (i := 779) (by decide +kernel)⟩
theorem lw_p45 : lw_okq (⟨"SpatialTablesModel", "around", "(I)V"⟩, 26) := ⟨⟨by decide +kernel, by decide +kernel⟩, List.mem_of_getElem? (i := 578) (by decide +kernel), List.mem_of_getElem? (i := 782) (by decide +kernel), List.mem_of_getElem? (i := 783) (by decide +kernel)⟩
theorem lw_p46 : lw_okq (⟨"SpatialTablesModel", "close", "(IJJ)Z"⟩, 26) := ⟨⟨by decide +kernel, by decide +kernel⟩, List.mem_of_getElem? (i := 578) (by decide +kernel), List.mem_of_getElem? (i := 786) (by decide +kernel), List.mem_of_getElem? (i := 787) (by decide +kernel)⟩
theorem lw_p47 : lw_okq (⟨"SpatialTablesModel", "home", "(I)I"⟩, 26) := ⟨⟨by decide +kernel, by decide +kernel⟩, List.mem_of_getElem? (i := 578) (by decide +kernel), List.mem_of_getElem? (i := 793) (by decide +kernel), List.mem_of_getElem? (i := 794) (by decide +kernel)⟩
def lw_privs_3 : List (MethodName × Nat) := [(⟨"SpatialTablesModel", "slot", "(II)I"⟩, 26), (⟨"SpatialTablesModel", "finds", "(III)Z"⟩, 26), (⟨"SpatialTablesModel", "measureOut", "(II)V"⟩, 26), (⟨"SpatialTablesModel", "meet", "(II)Z"⟩, 26), (⟨"SpatialTablesModel", "sides", "(I)I"⟩, 26), (⟨"SpatialTablesModel", "corner", "(III)I"⟩, 26), (⟨"SpatialTablesModel", "touching", "(IIII)Z"⟩, 26), (⟨"SpatialTablesModel", "lies", "(III)Z"⟩, 26), (⟨"SpatialTablesModel", "turn", "(III)J"⟩, 26), (⟨"SpatialTablesModel", "within", "(II)Z"⟩, 26), (⟨"SpatialTablesModel", "reach", "(III)V"⟩, 26), (⟨"SpatialTablesModel", "searchReads", "(III)I"⟩, 26), (⟨"SpatialTablesModel", "readBy", "(IIJJ)I"⟩, 26), (⟨"SpatialTablesModel", "around", "(I)V"⟩, 26), (⟨"SpatialTablesModel", "close", "(IJJ)Z"⟩, 26), (⟨"SpatialTablesModel", "home", "(I)I"⟩, 26)]
theorem lw_r3 : ∀ q ∈ lw_privs_3, lw_okq q := List.forall_mem_cons.mpr ⟨lw_p32, List.forall_mem_cons.mpr ⟨lw_p33, List.forall_mem_cons.mpr ⟨lw_p34, List.forall_mem_cons.mpr ⟨lw_p35, List.forall_mem_cons.mpr ⟨lw_p36, List.forall_mem_cons.mpr ⟨lw_p37, List.forall_mem_cons.mpr ⟨lw_p38, List.forall_mem_cons.mpr ⟨lw_p39, List.forall_mem_cons.mpr ⟨lw_p40, List.forall_mem_cons.mpr ⟨lw_p41, List.forall_mem_cons.mpr ⟨lw_p42, List.forall_mem_cons.mpr ⟨lw_p43, List.forall_mem_cons.mpr ⟨lw_p44, List.forall_mem_cons.mpr ⟨lw_p45, List.forall_mem_cons.mpr ⟨lw_p46, List.forall_mem_cons.mpr ⟨lw_p47, fun _ h => absurd h List.not_mem_nil⟩⟩⟩⟩⟩⟩⟩⟩⟩⟩⟩⟩⟩⟩⟩⟩
theorem lw_p48 : lw_okq (⟨"SpatialTablesModel", "foremost", "(II)Z"⟩, 26) := ⟨⟨by decide +kernel, by decide +kernel⟩, List.mem_of_getElem? (i := 578) (by decide +kernel), List.mem_of_getElem? (i := 797) (by decide +kernel), List.mem_of_getElem? (i := 798) (by decide +kernel)⟩
theorem lw_p49 : lw_okq (⟨"SpatialTablesModel", "shares", "(III)Z"⟩, 26) := ⟨⟨by decide +kernel, by decide +kernel⟩, List.mem_of_getElem? (i := 578) (by decide +kernel), List.mem_of_getElem? (i := 801) (by decide +kernel), List.mem_of_getElem? (i := 802) (by decide +kernel)⟩
theorem lw_p50 : lw_okq (⟨"SpatialTablesModel", "nodeBound", "(II)V"⟩, 26) := ⟨⟨by decide +kernel, by decide +kernel⟩, List.mem_of_getElem? (i := 578) (by decide +kernel), List.mem_of_getElem? (i := 805) (by decide +kernel), List.mem_of_getElem? (i := 806) (by decide +kernel)⟩
theorem lw_p51 : lw_okq (⟨"SpatialTablesModel", "nearer", "(II)Z"⟩, 26) := ⟨⟨by decide +kernel, by decide +kernel⟩, List.mem_of_getElem? (i := 578) (by decide +kernel), List.mem_of_getElem? (i := 813) (by decide +kernel), List.mem_of_getElem? (i := 814) (by decide +kernel)⟩
theorem lw_p52 : lw_okq (⟨"SpatialTablesModel", "changed", "(I)Z"⟩, 26) := ⟨⟨by decide +kernel, by decide +kernel⟩, List.mem_of_getElem? (i := 578) (by decide +kernel), List.mem_of_getElem? (i := 849) (by decide +kernel), List.mem_of_getElem? (i := 850) (by decide +kernel)⟩
theorem lw_p53 : lw_okq (⟨"SpatialTablesModel", "sameRow", "(II)Z"⟩, 26) := ⟨⟨by decide +kernel, by decide +kernel⟩, List.mem_of_getElem? (i := 578) (by decide +kernel), List.mem_of_getElem? (i := 853) (by decide +kernel), List.mem_of_getElem? (i := 854) (by decide +kernel)⟩
theorem lw_p54 : lw_okq (⟨"SpatialTablesModel", "filled", "(I)Z"⟩, 26) := ⟨⟨by decide +kernel, by decide +kernel⟩, List.mem_of_getElem? (i := 578) (by decide +kernel), List.mem_of_getElem? (i := 857) (by decide +kernel), List.mem_of_getElem? (i := 858) (by decide +kernel)⟩
theorem lw_p55 : lw_okq (⟨"SpatialTablesModel", "write", "(I)Z"⟩, 26) := ⟨⟨by decide +kernel, by decide +kernel⟩, List.mem_of_getElem? (i := 578) (by decide +kernel), List.mem_of_getElem? (i := 861) (by decide +kernel), List.mem_of_getElem? (i := 862) (by decide +kernel)⟩
theorem lw_p56 : lw_okq (⟨"SpatialTablesModel", "isFree", "(I)Z"⟩, 26) := ⟨⟨by decide +kernel, by decide +kernel⟩, List.mem_of_getElem? (i := 578) (by decide +kernel), List.mem_of_getElem? (i := 865) (by decide +kernel), List.mem_of_getElem? (i := 866) (by decide +kernel)⟩
theorem lw_p57 : lw_okq (⟨"SpatialTablesModel", "copyRow", "(II)V"⟩, 26) := ⟨⟨by decide +kernel, by decide +kernel⟩, List.mem_of_getElem? (i := 578) (by decide +kernel), List.mem_of_getElem? (i := 877) (by decide +kernel), List.mem_of_getElem? (i := 878) (by decide +kernel)⟩
def lw_privs_4 : List (MethodName × Nat) := [(⟨"SpatialTablesModel", "foremost", "(II)Z"⟩, 26), (⟨"SpatialTablesModel", "shares", "(III)Z"⟩, 26), (⟨"SpatialTablesModel", "nodeBound", "(II)V"⟩, 26), (⟨"SpatialTablesModel", "nearer", "(II)Z"⟩, 26), (⟨"SpatialTablesModel", "changed", "(I)Z"⟩, 26), (⟨"SpatialTablesModel", "sameRow", "(II)Z"⟩, 26), (⟨"SpatialTablesModel", "filled", "(I)Z"⟩, 26), (⟨"SpatialTablesModel", "write", "(I)Z"⟩, 26), (⟨"SpatialTablesModel", "isFree", "(I)Z"⟩, 26), (⟨"SpatialTablesModel", "copyRow", "(II)V"⟩, 26)]
theorem lw_r4 : ∀ q ∈ lw_privs_4, lw_okq q := List.forall_mem_cons.mpr ⟨lw_p48, List.forall_mem_cons.mpr ⟨lw_p49, List.forall_mem_cons.mpr ⟨lw_p50, List.forall_mem_cons.mpr ⟨lw_p51, List.forall_mem_cons.mpr ⟨lw_p52, List.forall_mem_cons.mpr ⟨lw_p53, List.forall_mem_cons.mpr ⟨lw_p54, List.forall_mem_cons.mpr ⟨lw_p55, List.forall_mem_cons.mpr ⟨lw_p56, List.forall_mem_cons.mpr ⟨lw_p57, fun _ h => absurd h List.not_mem_nil⟩⟩⟩⟩⟩⟩⟩⟩⟩⟩
def lw_privs : List (MethodName × Nat) := lw_privs_1 ++ (lw_privs_2 ++ (lw_privs_3 ++ (lw_privs_4)))
def lw_tbl : List Cond := k2_sels lw_privs ++ tables_1
theorem lw_privs_ok : ∀ q ∈ lw_privs, lw_okq q := by
  show ∀ q ∈ lw_privs_1 ++ (lw_privs_2 ++ (lw_privs_3 ++ (lw_privs_4))), lw_okq q
  exact List.forall_mem_append.mpr ⟨lw_r1, List.forall_mem_append.mpr ⟨lw_r2, List.forall_mem_append.mpr ⟨lw_r3, lw_r4⟩⟩⟩
end
section
-- printed by wip/whole/gen_m.py out of the claim: classes, fields, methods by number
/-- the words but those of private methods -/
def zpriv (w : Cond) : Bool := match w with
  | .privateMethod _ => true
  | _ => false
def zlw : List Cond := lw_tbl.filter (fun w => !zpriv w)
theorem zmm {w : Cond} {k : Nat} (h : lw_tbl[k]? = some w) (hp : (!zpriv w) = true) : w ∈ zlw := List.mem_filter.mpr ⟨List.mem_of_getElem? h, hp⟩
def R_La : String := "SpatialTablesLaw"
def R_ST : String := "SpatialTables"
def R_Fr : String := "SpatialTables$Frames"
def R_Ar : String := "java/util/Arrays"
def R_Dr : String := "SpatialTables$Draft"
def R_Di : String := "SpatialTables$Distance"
def R_Ta : String := "SpatialTables$Table"
def R_In : String := "SpatialTables$Index"
def R_Mo : String := "SpatialTablesModel"
def R_Ge : String := "SpatialTables$Geometry"
def R_Ma : String := "java/lang/Math"
def R_Sy : String := "java/lang/System"
def R_Bo : String := "SpatialTables$Bound"
def R_Ig : String := "java/lang/Integer"
def R_Ob : String := "java/lang/Object"
def R_AI : String := "[I"
def T_ST : u_T := fun k => match k with
  | 0 => ("SpatialTables", "present", "[LSpatialTables$Table;", true)
  | 1 => ("SpatialTables", "committed", "[LSpatialTables$Table;", true)
  | 2 => ("SpatialTables", "indexes", "[LSpatialTables$Index;", true)
  | 3 => ("SpatialTables", "frames", "LSpatialTables$Frames;", true)
  | 4 => ("SpatialTables", "draft", "LSpatialTables$Draft;", true)
  | 5 => ("SpatialTables", "focus", "LSpatialTables$Geometry;", false)
  | 6 => ("SpatialTables", "answers", "[I", true)
  | 7 => ("SpatialTables", "answerCount", "I", false)
  | 8 => ("SpatialTables", "readCount", "I", false)
  | 9 => ("SpatialTables", "measured", "LSpatialTables$Distance;", true)
  | 10 => ("SpatialTables", "reach", "LSpatialTables$Distance;", true)
  | 11 => ("SpatialTables", "distances", "[LSpatialTables$Distance;", true)
  | _ => ("SpatialTables", "order", "[I", true)
def ty_ST : Nat → FieldType := fun k => match k with
  | 0 => .array (.object "SpatialTables$Table")
  | 1 => .array (.object "SpatialTables$Table")
  | 2 => .array (.object "SpatialTables$Index")
  | 3 => .object "SpatialTables$Frames"
  | 4 => .object "SpatialTables$Draft"
  | 5 => .object "SpatialTables$Geometry"
  | 6 => .array .int
  | 7 => .int
  | 8 => .int
  | 9 => .object "SpatialTables$Distance"
  | 10 => .object "SpatialTables$Distance"
  | 11 => .array (.object "SpatialTables$Distance")
  | _ => .array .int
def df_ST : List Value := [.null, .null, .null, .null, .null, .null, .null, .int 0, .int 0, .null, .null, .null, .null]
theorem nm_ST : ∀ a, a < 13 → ∀ b, b < 13 → a ≠ b → (T_ST a).2.1 ≠ (T_ST b).2.1 := by decide +kernel
theorem tk_ST : ∀ k, k < 13 → parseFieldDescriptor (T_ST k).2.2.1 = some (ty_ST k) := by decide +kernel
theorem in_ST : ∀ w ∈ u_ws R_ST T_ST 13, w ∈ zlw := by decide +kernel
theorem dv_ST : ∀ j, j < 13 → defaultValue (ty_ST j) = vp_V df_ST j := by decide +kernel
theorem iw_ST : Cond.instantiable R_ST 13 ∈ zlw ∧ Cond.initialized R_ST ∈ zlw := ⟨zmm (k := 73) (by decide +kernel) rfl, zmm (k := 59) (by decide +kernel) rfl⟩
def T_Fr : u_T := fun k => match k with
  | _ => ("SpatialTables$Frames", "places", "[I", true)
def ty_Fr : Nat → FieldType := fun k => match k with
  | _ => .array .int
def df_Fr : List Value := [.null]
theorem nm_Fr : ∀ a, a < 1 → ∀ b, b < 1 → a ≠ b → (T_Fr a).2.1 ≠ (T_Fr b).2.1 := by decide +kernel
theorem tk_Fr : ∀ k, k < 1 → parseFieldDescriptor (T_Fr k).2.2.1 = some (ty_Fr k) := by decide +kernel
theorem in_Fr : ∀ w ∈ u_ws R_Fr T_Fr 1, w ∈ zlw := by decide +kernel
theorem dv_Fr : ∀ j, j < 1 → defaultValue (ty_Fr j) = vp_V df_Fr j := by decide +kernel
theorem iw_Fr : Cond.instantiable R_Fr 1 ∈ zlw ∧ Cond.initialized R_Fr ∈ zlw := ⟨zmm (k := 85) (by decide +kernel) rfl, zmm (k := 60) (by decide +kernel) rfl⟩
def T_Dr : u_T := fun k => match k with
  | 0 => ("SpatialTables$Draft", "xs", "[I", true)
  | 1 => ("SpatialTables$Draft", "ys", "[I", true)
  | _ => ("SpatialTables$Draft", "size", "I", false)
def ty_Dr : Nat → FieldType := fun k => match k with
  | 0 => .array .int
  | 1 => .array .int
  | _ => .int
def df_Dr : List Value := [.null, .null, .int 0]
theorem nm_Dr : ∀ a, a < 3 → ∀ b, b < 3 → a ≠ b → (T_Dr a).2.1 ≠ (T_Dr b).2.1 := by decide +kernel
theorem tk_Dr : ∀ k, k < 3 → parseFieldDescriptor (T_Dr k).2.2.1 = some (ty_Dr k) := by decide +kernel
theorem in_Dr : ∀ w ∈ u_ws R_Dr T_Dr 3, w ∈ zlw := by decide +kernel
theorem dv_Dr : ∀ j, j < 3 → defaultValue (ty_Dr j) = vp_V df_Dr j := by decide +kernel
theorem iw_Dr : Cond.instantiable R_Dr 3 ∈ zlw ∧ Cond.initialized R_Dr ∈ zlw := ⟨zmm (k := 99) (by decide +kernel) rfl, zmm (k := 62) (by decide +kernel) rfl⟩
def T_Di : u_T := fun k => match k with
  | 0 => ("SpatialTables$Distance", "top", "J", false)
  | _ => ("SpatialTables$Distance", "bottom", "J", false)
def ty_Di : Nat → FieldType := fun k => match k with
  | 0 => .long
  | _ => .long
def df_Di : List Value := [.long 0, .long 0]
theorem nm_Di : ∀ a, a < 2 → ∀ b, b < 2 → a ≠ b → (T_Di a).2.1 ≠ (T_Di b).2.1 := by decide +kernel
theorem tk_Di : ∀ k, k < 2 → parseFieldDescriptor (T_Di k).2.2.1 = some (ty_Di k) := by decide +kernel
theorem in_Di : ∀ w ∈ u_ws R_Di T_Di 2, w ∈ zlw := by decide +kernel
theorem dv_Di : ∀ j, j < 2 → defaultValue (ty_Di j) = vp_V df_Di j := by decide +kernel
theorem iw_Di : Cond.instantiable R_Di 2 ∈ zlw ∧ Cond.initialized R_Di ∈ zlw := ⟨zmm (k := 115) (by decide +kernel) rfl, zmm (k := 63) (by decide +kernel) rfl⟩
def T_Ta : u_T := fun k => match k with
  | 0 => ("SpatialTables$Table", "amounts", "[I", true)
  | _ => ("SpatialTables$Table", "places", "[LSpatialTables$Geometry;", true)
def ty_Ta : Nat → FieldType := fun k => match k with
  | 0 => .array .int
  | _ => .array (.object "SpatialTables$Geometry")
def df_Ta : List Value := [.null, .null]
theorem nm_Ta : ∀ a, a < 2 → ∀ b, b < 2 → a ≠ b → (T_Ta a).2.1 ≠ (T_Ta b).2.1 := by decide +kernel
theorem tk_Ta : ∀ k, k < 2 → parseFieldDescriptor (T_Ta k).2.2.1 = some (ty_Ta k) := by decide +kernel
theorem in_Ta : ∀ w ∈ u_ws R_Ta T_Ta 2, w ∈ zlw := by decide +kernel
theorem dv_Ta : ∀ j, j < 2 → defaultValue (ty_Ta j) = vp_V df_Ta j := by decide +kernel
theorem iw_Ta : Cond.instantiable R_Ta 2 ∈ zlw ∧ Cond.initialized R_Ta ∈ zlw := ⟨zmm (k := 128) (by decide +kernel) rfl, zmm (k := 64) (by decide +kernel) rfl⟩
def T_In : u_T := fun k => match k with
  | 0 => ("SpatialTables$Index", "parts", "[I", true)
  | 1 => ("SpatialTables$Index", "x0", "[I", true)
  | 2 => ("SpatialTables$Index", "y0", "[I", true)
  | 3 => ("SpatialTables$Index", "x1", "[I", true)
  | 4 => ("SpatialTables$Index", "y1", "[I", true)
  | _ => ("SpatialTables$Index", "size", "I", false)
def ty_In : Nat → FieldType := fun k => match k with
  | 0 => .array .int
  | 1 => .array .int
  | 2 => .array .int
  | 3 => .array .int
  | 4 => .array .int
  | _ => .int
def df_In : List Value := [.null, .null, .null, .null, .null, .int 0]
theorem nm_In : ∀ a, a < 6 → ∀ b, b < 6 → a ≠ b → (T_In a).2.1 ≠ (T_In b).2.1 := by decide +kernel
theorem tk_In : ∀ k, k < 6 → parseFieldDescriptor (T_In k).2.2.1 = some (ty_In k) := by decide +kernel
theorem in_In : ∀ w ∈ u_ws R_In T_In 6, w ∈ zlw := by decide +kernel
theorem dv_In : ∀ j, j < 6 → defaultValue (ty_In j) = vp_V df_In j := by decide +kernel
theorem iw_In : Cond.instantiable R_In 6 ∈ zlw ∧ Cond.initialized R_In ∈ zlw := ⟨zmm (k := 142) (by decide +kernel) rfl, zmm (k := 65) (by decide +kernel) rfl⟩
def T_Ge : u_T := fun k => match k with
  | 0 => ("SpatialTables$Geometry", "kind", "I", true)
  | 1 => ("SpatialTables$Geometry", "xs", "[I", true)
  | 2 => ("SpatialTables$Geometry", "ys", "[I", true)
  | _ => ("SpatialTables$Geometry", "bound", "LSpatialTables$Bound;", true)
def ty_Ge : Nat → FieldType := fun k => match k with
  | 0 => .int
  | 1 => .array .int
  | 2 => .array .int
  | _ => .object "SpatialTables$Bound"
def df_Ge : List Value := [.int 0, .null, .null, .null]
theorem nm_Ge : ∀ a, a < 4 → ∀ b, b < 4 → a ≠ b → (T_Ge a).2.1 ≠ (T_Ge b).2.1 := by decide +kernel
theorem tk_Ge : ∀ k, k < 4 → parseFieldDescriptor (T_Ge k).2.2.1 = some (ty_Ge k) := by decide +kernel
theorem in_Ge : ∀ w ∈ u_ws R_Ge T_Ge 4, w ∈ zlw := by decide +kernel
theorem dv_Ge : ∀ j, j < 4 → defaultValue (ty_Ge j) = vp_V df_Ge j := by decide +kernel
theorem iw_Ge : Cond.instantiable R_Ge 4 ∈ zlw ∧ Cond.initialized R_Ge ∈ zlw := ⟨zmm (k := 234) (by decide +kernel) rfl, zmm (k := 67) (by decide +kernel) rfl⟩
def T_Bo : u_T := fun k => match k with
  | 0 => ("SpatialTables$Bound", "x0", "I", true)
  | 1 => ("SpatialTables$Bound", "y0", "I", true)
  | 2 => ("SpatialTables$Bound", "x1", "I", true)
  | _ => ("SpatialTables$Bound", "y1", "I", true)
def ty_Bo : Nat → FieldType := fun k => match k with
  | 0 => .int
  | 1 => .int
  | 2 => .int
  | _ => .int
def df_Bo : List Value := [.int 0, .int 0, .int 0, .int 0]
theorem nm_Bo : ∀ a, a < 4 → ∀ b, b < 4 → a ≠ b → (T_Bo a).2.1 ≠ (T_Bo b).2.1 := by decide +kernel
theorem tk_Bo : ∀ k, k < 4 → parseFieldDescriptor (T_Bo k).2.2.1 = some (ty_Bo k) := by decide +kernel
theorem in_Bo : ∀ w ∈ u_ws R_Bo T_Bo 4, w ∈ zlw := by decide +kernel
theorem dv_Bo : ∀ j, j < 4 → defaultValue (ty_Bo j) = vp_V df_Bo j := by decide +kernel
theorem iw_Bo : Cond.instantiable R_Bo 4 ∈ zlw ∧ Cond.initialized R_Bo ∈ zlw := ⟨zmm (k := 256) (by decide +kernel) rfl, zmm (k := 70) (by decide +kernel) rfl⟩
def T_Mo : u_T := fun k => match k with
  | 0 => ("SpatialTablesModel", "there", "[Z", true)
  | 1 => ("SpatialTablesModel", "worth", "[I", true)
  | 2 => ("SpatialTablesModel", "sort", "[I", true)
  | 3 => ("SpatialTablesModel", "many", "[I", true)
  | 4 => ("SpatialTablesModel", "xs", "[I", true)
  | 5 => ("SpatialTablesModel", "ys", "[I", true)
  | 6 => ("SpatialTablesModel", "left", "[I", true)
  | 7 => ("SpatialTablesModel", "right", "[I", true)
  | 8 => ("SpatialTablesModel", "low", "[I", true)
  | 9 => ("SpatialTablesModel", "high", "[I", true)
  | 10 => ("SpatialTablesModel", "drafted", "I", false)
  | 11 => ("SpatialTablesModel", "draftX", "[I", true)
  | 12 => ("SpatialTablesModel", "draftY", "[I", true)
  | 13 => ("SpatialTablesModel", "top", "J", false)
  | 14 => ("SpatialTablesModel", "under", "J", false)
  | 15 => ("SpatialTablesModel", "tops", "[J", true)
  | 16 => ("SpatialTablesModel", "unders", "[J", true)
  | 17 => ("SpatialTablesModel", "x0", "I", false)
  | 18 => ("SpatialTablesModel", "x1", "I", false)
  | 19 => ("SpatialTablesModel", "y0", "I", false)
  | 20 => ("SpatialTablesModel", "y1", "I", false)
  | 21 => ("SpatialTablesModel", "results", "I", false)
  | 22 => ("SpatialTablesModel", "reading", "I", false)
  | 23 => ("SpatialTablesModel", "found", "[I", true)
  | 24 => ("SpatialTablesModel", "place", "[I", true)
  | _ => ("SpatialTablesModel", "fresh", "[I", true)
def ty_Mo : Nat → FieldType := fun k => match k with
  | 0 => .array .boolean
  | 1 => .array .int
  | 2 => .array .int
  | 3 => .array .int
  | 4 => .array .int
  | 5 => .array .int
  | 6 => .array .int
  | 7 => .array .int
  | 8 => .array .int
  | 9 => .array .int
  | 10 => .int
  | 11 => .array .int
  | 12 => .array .int
  | 13 => .long
  | 14 => .long
  | 15 => .array .long
  | 16 => .array .long
  | 17 => .int
  | 18 => .int
  | 19 => .int
  | 20 => .int
  | 21 => .int
  | 22 => .int
  | 23 => .array .int
  | 24 => .array .int
  | _ => .array .int
def df_Mo : List Value := [.null, .null, .null, .null, .null, .null, .null, .null, .null, .null, .int 0, .null, .null, .long 0, .long 0, .null, .null, .int 0, .int 0, .int 0, .int 0, .int 0, .int 0, .null, .null, .null]
theorem nm_Mo : ∀ a, a < 26 → ∀ b, b < 26 → a ≠ b → (T_Mo a).2.1 ≠ (T_Mo b).2.1 := by decide +kernel
theorem tk_Mo : ∀ k, k < 26 → parseFieldDescriptor (T_Mo k).2.2.1 = some (ty_Mo k) := by decide +kernel
theorem in_Mo : ∀ w ∈ u_ws R_Mo T_Mo 26, w ∈ zlw := by decide +kernel
theorem dv_Mo : ∀ j, j < 26 → defaultValue (ty_Mo j) = vp_V df_Mo j := by decide +kernel
theorem iw_Mo : Cond.instantiable R_Mo 26 ∈ zlw ∧ Cond.initialized R_Mo ∈ zlw := ⟨zmm (k := 636) (by decide +kernel) rfl, zmm (k := 66) (by decide +kernel) rfl⟩
abbrev zcl : List vw_C := [(R_ST, T_ST, 13), (R_Fr, T_Fr, 1), (R_Dr, T_Dr, 3), (R_Di, T_Di, 2), (R_Ta, T_Ta, 2), (R_In, T_In, 6), (R_Ge, T_Ge, 4), (R_Bo, T_Bo, 4), (R_Mo, T_Mo, 26)]
def zty (a : Nat) : Nat → FieldType := match a with
  | 0 => ty_ST
  | 1 => ty_Fr
  | 2 => ty_Dr
  | 3 => ty_Di
  | 4 => ty_Ta
  | 5 => ty_In
  | 6 => ty_Ge
  | 7 => ty_Bo
  | 8 => ty_Mo
  | _ => fun _ => .int
def zdf (a : Nat) : List Value := match a with
  | 0 => df_ST
  | 1 => df_Fr
  | 2 => df_Dr
  | 3 => df_Di
  | 4 => df_Ta
  | 5 => df_In
  | 6 => df_Ge
  | 7 => df_Bo
  | 8 => df_Mo
  | _ => []
theorem zcl_ok (a : Nat) {C : vw_C} (h : zcl[a]? = some C) : (∀ w ∈ u_ws C.1 C.2.1 C.2.2, w ∈ zlw) ∧ (∀ k, k < C.2.2 → parseFieldDescriptor (C.2.1 k).2.2.1 = some (zty a k)) ∧ (∀ x, x < C.2.2 → ∀ y, y < C.2.2 → x ≠ y → (C.2.1 x).2.1 ≠ (C.2.1 y).2.1) ∧ Cond.instantiable C.1 C.2.2 ∈ zlw ∧ Cond.initialized C.1 ∈ zlw ∧ (zdf a).length = C.2.2 ∧ (∀ j, j < C.2.2 → defaultValue (zty a j) = vp_V (zdf a) j) := by
  match a, h with
  | 0, h => obtain rfl := Option.some.inj (h : some (R_ST, T_ST, 13) = some C); exact ⟨in_ST, tk_ST, nm_ST, iw_ST.1, iw_ST.2, rfl, dv_ST⟩
  | 1, h => obtain rfl := Option.some.inj (h : some (R_Fr, T_Fr, 1) = some C); exact ⟨in_Fr, tk_Fr, nm_Fr, iw_Fr.1, iw_Fr.2, rfl, dv_Fr⟩
  | 2, h => obtain rfl := Option.some.inj (h : some (R_Dr, T_Dr, 3) = some C); exact ⟨in_Dr, tk_Dr, nm_Dr, iw_Dr.1, iw_Dr.2, rfl, dv_Dr⟩
  | 3, h => obtain rfl := Option.some.inj (h : some (R_Di, T_Di, 2) = some C); exact ⟨in_Di, tk_Di, nm_Di, iw_Di.1, iw_Di.2, rfl, dv_Di⟩
  | 4, h => obtain rfl := Option.some.inj (h : some (R_Ta, T_Ta, 2) = some C); exact ⟨in_Ta, tk_Ta, nm_Ta, iw_Ta.1, iw_Ta.2, rfl, dv_Ta⟩
  | 5, h => obtain rfl := Option.some.inj (h : some (R_In, T_In, 6) = some C); exact ⟨in_In, tk_In, nm_In, iw_In.1, iw_In.2, rfl, dv_In⟩
  | 6, h => obtain rfl := Option.some.inj (h : some (R_Ge, T_Ge, 4) = some C); exact ⟨in_Ge, tk_Ge, nm_Ge, iw_Ge.1, iw_Ge.2, rfl, dv_Ge⟩
  | 7, h => obtain rfl := Option.some.inj (h : some (R_Bo, T_Bo, 4) = some C); exact ⟨in_Bo, tk_Bo, nm_Bo, iw_Bo.1, iw_Bo.2, rfl, dv_Bo⟩
  | 8, h => obtain rfl := Option.some.inj (h : some (R_Mo, T_Mo, 26) = some C); exact ⟨in_Mo, tk_Mo, nm_Mo, iw_Mo.1, iw_Mo.2, rfl, dv_Mo⟩
  | n + 9, h => exact absurd h (by simp [zcl])
def zNT : Nat := 7
def ztys (tc : Nat → ClassId) : List (ClassId × FieldType) := [(tc 0, .int), (tc 1, .boolean), (tc 2, .long), (tc 3, .object R_Ta), (tc 4, .object R_In), (tc 5, .object R_Di), (tc 6, .object R_Ge)]
def zte (t : Nat) : Option Nat := match t with
  | 3 => some 4
  | 4 => some 5
  | 5 => some 3
  | 6 => some 6
  | _ => none
theorem ao_Ta : Cond.arrayOver (.object R_Ta) ∈ zlw := zmm (k := 81) (by decide +kernel) rfl
theorem ao_In : Cond.arrayOver (.object R_In) ∈ zlw := zmm (k := 83) (by decide +kernel) rfl
theorem ao_Di : Cond.arrayOver (.object R_Di) ∈ zlw := zmm (k := 127) (by decide +kernel) rfl
theorem ao_Ge : Cond.arrayOver (.object R_Ge) ∈ zlw := zmm (k := 134) (by decide +kernel) rfl
theorem zw_aci : Cond.arrayClass (newarray.typeOf .int) ∈ zlw := zmm (k := 97) (by decide +kernel) rfl
theorem zw_acz : Cond.arrayClass (newarray.typeOf .boolean) ∈ zlw := zmm (k := 720) (by decide +kernel) rfl
theorem zw_acj : Cond.arrayClass (newarray.typeOf .long) ∈ zlw := zmm (k := 721) (by decide +kernel) rfl
theorem zte_ok {t c : Nat} (h : zte t = some c) : ∃ C, zcl[c]? = some C ∧ Cond.arrayOver (.object C.1) ∈ zlw ∧ ∀ tc, (ztys tc)[t]? = some (tc t, .object C.1) := by
  match t, h with
  | 0, h => exact absurd h (by simp [zte])
  | 1, h => exact absurd h (by simp [zte])
  | 2, h => exact absurd h (by simp [zte])
  | 3, h => obtain rfl := Option.some.inj (h : some 4 = some c); exact ⟨(R_Ta, T_Ta, 2), rfl, ao_Ta, fun _ => rfl⟩
  | 4, h => obtain rfl := Option.some.inj (h : some 5 = some c); exact ⟨(R_In, T_In, 6), rfl, ao_In, fun _ => rfl⟩
  | 5, h => obtain rfl := Option.some.inj (h : some 3 = some c); exact ⟨(R_Di, T_Di, 2), rfl, ao_Di, fun _ => rfl⟩
  | 6, h => obtain rfl := Option.some.inj (h : some 6 = some c); exact ⟨(R_Ge, T_Ge, 4), rfl, ao_Ge, fun _ => rfl⟩
  | n + 7, h => exact absurd h (by simp [zte])
theorem ztys_ok {t : Nat} (h : t < zNT) (tc : Nat → ClassId) : ∃ ty, (ztys tc)[t]? = some (tc t, ty) := by
  match t, h with
  | 0, _ => exact ⟨_, rfl⟩
  | 1, _ => exact ⟨_, rfl⟩
  | 2, _ => exact ⟨_, rfl⟩
  | 3, _ => exact ⟨_, rfl⟩
  | 4, _ => exact ⟨_, rfl⟩
  | 5, _ => exact ⟨_, rfl⟩
  | 6, _ => exact ⟨_, rfl⟩
  | n + 7, h => exact absurd h (by unfold zNT; omega)
def y_ST_init : MethodName := ⟨R_ST, "<init>", "()V"⟩
def y_Fr_init : MethodName := ⟨R_Fr, "<init>", "()V"⟩
def y_Ar_fill : MethodName := ⟨R_Ar, "fill", "([II)V"⟩
def y_Dr_init : MethodName := ⟨R_Dr, "<init>", "()V"⟩
def y_Di_init : MethodName := ⟨R_Di, "<init>", "()V"⟩
def y_Ta_init : MethodName := ⟨R_Ta, "<init>", "()V"⟩
def y_In_init : MethodName := ⟨R_In, "<init>", "()V"⟩
def y_ST_vertex : MethodName := ⟨R_ST, "vertex", "(II)I"⟩
def y_Dr_append : MethodName := ⟨R_Dr, "append", "(II)I"⟩
def y_Dr_isCoordinate : MethodName := ⟨R_Dr, "isCoordinate", "(I)Z"⟩
def y_ST_shape : MethodName := ⟨R_ST, "shape", "(I)I"⟩
def y_Dr_hasCountFor : MethodName := ⟨R_Dr, "hasCountFor", "(I)Z"⟩
def y_Dr_clear : MethodName := ⟨R_Dr, "clear", "()V"⟩
def y_Dr_drawn : MethodName := ⟨R_Dr, "drawn", "(I)LSpatialTables$Geometry;"⟩
def y_Ar_copyOf : MethodName := ⟨R_Ar, "copyOf", "([II)[I"⟩
def y_Ge_init : MethodName := ⟨R_Ge, "<init>", "(I[I[I)V"⟩
def y_Bo_init : MethodName := ⟨R_Bo, "<init>", "([I[I)V"⟩
def y_Ge_fault : MethodName := ⟨R_Ge, "fault", "()I"⟩
def y_Ge_hasEqualNeighbours : MethodName := ⟨R_Ge, "hasEqualNeighbours", "()Z"⟩
def y_Ge_sides : MethodName := ⟨R_Ge, "sides", "()I"⟩
def y_Ge_end : MethodName := ⟨R_Ge, "end", "(I)I"⟩
def y_Ge_touchesItself : MethodName := ⟨R_Ge, "touchesItself", "()Z"⟩
def y_Ge_mayNotMeetAsTheyDo : MethodName := ⟨R_Ge, "mayNotMeetAsTheyDo", "(II)Z"⟩
def y_Ge_foldsBack : MethodName := ⟨R_Ge, "foldsBack", "(II)Z"⟩
def y_Ge_sideMeets : MethodName := ⟨R_Ge, "sideMeets", "(ILSpatialTables$Geometry;I)Z"⟩
def y_Ge_turn : MethodName := ⟨R_Ge, "turn", "(III)I"⟩
def y_Ge_areOpposite : MethodName := ⟨R_Ge, "areOpposite", "(II)Z"⟩
def y_Ge_isBeside : MethodName := ⟨R_Ge, "isBeside", "(ILSpatialTables$Geometry;I)Z"⟩
def y_Ge_isBetween : MethodName := ⟨R_Ge, "isBetween", "(III)Z"⟩
def y_ST_insert : MethodName := ⟨R_ST, "insert", "(II)I"⟩
def y_ST_isTable : MethodName := ⟨R_ST, "isTable", "(I)Z"⟩
def y_Ta_leastFreeRow : MethodName := ⟨R_Ta, "leastFreeRow", "()I"⟩
def y_Ta_put : MethodName := ⟨R_Ta, "put", "(IILSpatialTables$Geometry;)V"⟩
def y_In_add : MethodName := ⟨R_In, "add", "(LSpatialTables$Bound;)V"⟩
def y_In_newNode : MethodName := ⟨R_In, "newNode", "()I"⟩
def y_In_stretch : MethodName := ⟨R_In, "stretch", "(ILSpatialTables$Bound;)V"⟩
def y_Bo_homeLevel : MethodName := ⟨R_Bo, "homeLevel", "()I"⟩
def y_Bo_quarter : MethodName := ⟨R_Bo, "quarter", "(I)I"⟩
def y_In_partOf : MethodName := ⟨R_In, "partOf", "(II)I"⟩
def y_ST_delete : MethodName := ⟨R_ST, "delete", "(II)Z"⟩
def y_ST_placeOf : MethodName := ⟨R_ST, "placeOf", "(II)LSpatialTables$Geometry;"⟩
def y_Ta_placeAt : MethodName := ⟨R_Ta, "placeAt", "(I)LSpatialTables$Geometry;"⟩
def y_In_rebuild : MethodName := ⟨R_In, "rebuild", "(LSpatialTables$Table;)V"⟩
def y_ST_update : MethodName := ⟨R_ST, "update", "(IIIZ)Z"⟩
def y_ST_select : MethodName := ⟨R_ST, "select", "(IIII)I"⟩
def y_ST_clearAnswers : MethodName := ⟨R_ST, "clearAnswers", "()V"⟩
def y_ST_searchReads : MethodName := ⟨R_ST, "searchReads", "(LSpatialTables$Geometry;II)I"⟩
def y_Ta_rowBits : MethodName := ⟨R_Ta, "rowBits", "()I"⟩
def y_Ig_bitCount : MethodName := ⟨R_Ig, "bitCount", "(I)I"⟩
def y_Di_become : MethodName := ⟨R_Di, "become", "(JJ)V"⟩
def y_ST_readsWithin : MethodName := ⟨R_ST, "readsWithin", "(LSpatialTables$Bound;ILSpatialTables$Distance;)I"⟩
def y_In_countWithin : MethodName := ⟨R_In, "countWithin", "(LSpatialTables$Bound;LSpatialTables$Distance;)I"⟩
def y_Bo_gapToRectangle : MethodName := ⟨R_Bo, "gapToRectangle", "(IIII)I"⟩
def y_Bo_apart : MethodName := ⟨R_Bo, "apart", "(IIII)I"⟩
def y_Di_isAtLeast : MethodName := ⟨R_Di, "isAtLeast", "(I)Z"⟩
def y_Ta_countWithin : MethodName := ⟨R_Ta, "countWithin", "(LSpatialTables$Bound;LSpatialTables$Distance;)I"⟩
def y_Bo_gapTo : MethodName := ⟨R_Bo, "gapTo", "(LSpatialTables$Bound;)I"⟩
def y_ST_rowsFound : MethodName := ⟨R_ST, "rowsFound", "(LSpatialTables$Geometry;II)I"⟩
def y_Di_between : MethodName := ⟨R_Di, "between", "(LSpatialTables$Geometry;LSpatialTables$Geometry;)V"⟩
def y_Ge_encloses : MethodName := ⟨R_Ge, "encloses", "(II)Z"⟩
def y_Di_lessenBySides : MethodName := ⟨R_Di, "lessenBySides", "(LSpatialTables$Geometry;ILSpatialTables$Geometry;I)V"⟩
def y_Di_lessenByEnd : MethodName := ⟨R_Di, "lessenByEnd", "(LSpatialTables$Geometry;ILSpatialTables$Geometry;I)V"⟩
def y_Di_lessen : MethodName := ⟨R_Di, "lessen", "(JJ)V"⟩
def y_Di_isAtMost : MethodName := ⟨R_Di, "isAtMost", "(I)Z"⟩
def y_Ta_amountOf : MethodName := ⟨R_Ta, "amountOf", "(I)I"⟩
def y_ST_hasBit : MethodName := ⟨R_ST, "hasBit", "(II)Z"⟩
def y_ST_addAnswer : MethodName := ⟨R_ST, "addAnswer", "(I)V"⟩
def y_ST_nearest : MethodName := ⟨R_ST, "nearest", "(II)I"⟩
def y_ST_orderByDistance : MethodName := ⟨R_ST, "orderByDistance", "(LSpatialTables$Geometry;LSpatialTables$Table;)I"⟩
def y_ST_putInOrder : MethodName := ⟨R_ST, "putInOrder", "(II)V"⟩
def y_Di_isBelow : MethodName := ⟨R_Di, "isBelow", "(LSpatialTables$Distance;)Z"⟩
def y_In_size : MethodName := ⟨R_In, "size", "()I"⟩
def y_ST_join : MethodName := ⟨R_ST, "join", "(I)I"⟩
def y_ST_addPairs : MethodName := ⟨R_ST, "addPairs", "(II)V"⟩
def y_ST_result : MethodName := ⟨R_ST, "result", "(I)I"⟩
def y_ST_reads : MethodName := ⟨R_ST, "reads", "()I"⟩
def y_ST_measure : MethodName := ⟨R_ST, "measure", "(II)I"⟩
def y_Di_wholePart : MethodName := ⟨R_Di, "wholePart", "()I"⟩
def y_ST_value : MethodName := ⟨R_ST, "value", "(II)I"⟩
def y_ST_rows : MethodName := ⟨R_ST, "rows", "(I)I"⟩
def y_ST_nodes : MethodName := ⟨R_ST, "nodes", "(I)I"⟩
def y_ST_commit : MethodName := ⟨R_ST, "commit", "(I)I"⟩
def y_ST_changedPages : MethodName := ⟨R_ST, "changedPages", "()I"⟩
def y_Ta_hasSameRow : MethodName := ⟨R_Ta, "hasSameRow", "(LSpatialTables$Table;I)Z"⟩
def y_Ge_isSameAs : MethodName := ⟨R_Ge, "isSameAs", "(LSpatialTables$Geometry;)Z"⟩
def y_ST_pageBit : MethodName := ⟨R_ST, "pageBit", "(II)I"⟩
def y_ST_pagesWithRows : MethodName := ⟨R_ST, "pagesWithRows", "()I"⟩
def y_Fr_countFree : MethodName := ⟨R_Fr, "countFree", "()I"⟩
def y_Fr_takenFrames : MethodName := ⟨R_Fr, "takenFrames", "()I"⟩
def y_Fr_switchTo : MethodName := ⟨R_Fr, "switchTo", "(II)V"⟩
def y_Fr_leastFree : MethodName := ⟨R_Fr, "leastFree", "(I)I"⟩
def y_ST_keepPresentTables : MethodName := ⟨R_ST, "keepPresentTables", "()V"⟩
def y_Ta_copy : MethodName := ⟨R_Ta, "copy", "(LSpatialTables$Table;)V"⟩
def y_ST_crash : MethodName := ⟨R_ST, "crash", "()V"⟩
def y_ST_rollback : MethodName := ⟨R_ST, "rollback", "()V"⟩
def y_ST_frame : MethodName := ⟨R_ST, "frame", "(I)I"⟩
def y_Fr_frameOf : MethodName := ⟨R_Fr, "frameOf", "(I)I"⟩
def y_Mo_init : MethodName := ⟨R_Mo, "<init>", "()V"⟩
def y_Mo_vertex : MethodName := ⟨R_Mo, "vertex", "(II)I"⟩
def y_Mo_shape : MethodName := ⟨R_Mo, "shape", "(I)I"⟩
def y_Mo_fault : MethodName := ⟨R_Mo, "fault", "(I)I"⟩
def y_Mo_clash : MethodName := ⟨R_Mo, "clash", "(II)Z"⟩
def y_Mo_stuck : MethodName := ⟨R_Mo, "stuck", "(III)Z"⟩
def y_Mo_cross : MethodName := ⟨R_Mo, "cross", "(IIIIII)J"⟩
def y_Mo_on : MethodName := ⟨R_Mo, "on", "(IIIIII)Z"⟩
def y_Mo_between : MethodName := ⟨R_Mo, "between", "(III)Z"⟩
def y_Mo_apart : MethodName := ⟨R_Mo, "apart", "(IIII)Z"⟩
def y_Mo_bind : MethodName := ⟨R_Mo, "bind", "(I)V"⟩
def y_Mo_insert : MethodName := ⟨R_Mo, "insert", "(II)I"⟩
def y_Mo_isTable : MethodName := ⟨R_Mo, "isTable", "(I)Z"⟩
def y_Mo_size : MethodName := ⟨R_Mo, "size", "(I)I"⟩
def y_Mo_copyShape : MethodName := ⟨R_Mo, "copyShape", "(II)V"⟩
def y_Mo_delete : MethodName := ⟨R_Mo, "delete", "(II)Z"⟩
def y_Mo_slot : MethodName := ⟨R_Mo, "slot", "(II)I"⟩
def y_Mo_update : MethodName := ⟨R_Mo, "update", "(IIIZ)Z"⟩
def y_Mo_select : MethodName := ⟨R_Mo, "select", "(IIII)I"⟩
def y_Mo_finds : MethodName := ⟨R_Mo, "finds", "(III)Z"⟩
def y_Mo_measureOut : MethodName := ⟨R_Mo, "measureOut", "(II)V"⟩
def y_Mo_meet : MethodName := ⟨R_Mo, "meet", "(II)Z"⟩
def y_Mo_sides : MethodName := ⟨R_Mo, "sides", "(I)I"⟩
def y_Mo_corner : MethodName := ⟨R_Mo, "corner", "(III)I"⟩
def y_Mo_touching : MethodName := ⟨R_Mo, "touching", "(IIII)Z"⟩
def y_Mo_lies : MethodName := ⟨R_Mo, "lies", "(III)Z"⟩
def y_Mo_turn : MethodName := ⟨R_Mo, "turn", "(III)J"⟩
def y_Mo_within : MethodName := ⟨R_Mo, "within", "(II)Z"⟩
def y_Mo_reach : MethodName := ⟨R_Mo, "reach", "(III)V"⟩
def y_Mo_searchReads : MethodName := ⟨R_Mo, "searchReads", "(III)I"⟩
def y_Mo_readBy : MethodName := ⟨R_Mo, "readBy", "(IIJJ)I"⟩
def y_Mo_around : MethodName := ⟨R_Mo, "around", "(I)V"⟩
def y_Mo_close : MethodName := ⟨R_Mo, "close", "(IJJ)Z"⟩
def y_Mo_gap : MethodName := ⟨R_Mo, "gap", "(IIII)J"⟩
def y_Mo_home : MethodName := ⟨R_Mo, "home", "(I)I"⟩
def y_Mo_foremost : MethodName := ⟨R_Mo, "foremost", "(II)Z"⟩
def y_Mo_shares : MethodName := ⟨R_Mo, "shares", "(III)Z"⟩
def y_Mo_nodeBound : MethodName := ⟨R_Mo, "nodeBound", "(II)V"⟩
def y_Mo_nearest : MethodName := ⟨R_Mo, "nearest", "(II)I"⟩
def y_Mo_nearer : MethodName := ⟨R_Mo, "nearer", "(II)Z"⟩
def y_Mo_join : MethodName := ⟨R_Mo, "join", "(I)I"⟩
def y_Mo_result : MethodName := ⟨R_Mo, "result", "(I)I"⟩
def y_Mo_reads : MethodName := ⟨R_Mo, "reads", "()I"⟩
def y_Mo_measure : MethodName := ⟨R_Mo, "measure", "(II)I"⟩
def y_Mo_value : MethodName := ⟨R_Mo, "value", "(II)I"⟩
def y_Mo_rows : MethodName := ⟨R_Mo, "rows", "(I)I"⟩
def y_Mo_nodes : MethodName := ⟨R_Mo, "nodes", "(I)I"⟩
def y_Mo_commit : MethodName := ⟨R_Mo, "commit", "(I)I"⟩
def y_Mo_changed : MethodName := ⟨R_Mo, "changed", "(I)Z"⟩
def y_Mo_sameRow : MethodName := ⟨R_Mo, "sameRow", "(II)Z"⟩
def y_Mo_filled : MethodName := ⟨R_Mo, "filled", "(I)Z"⟩
def y_Mo_write : MethodName := ⟨R_Mo, "write", "(I)Z"⟩
def y_Mo_isFree : MethodName := ⟨R_Mo, "isFree", "(I)Z"⟩
def y_Mo_crash : MethodName := ⟨R_Mo, "crash", "()V"⟩
def y_Mo_rollback : MethodName := ⟨R_Mo, "rollback", "()V"⟩
def y_Mo_copyRow : MethodName := ⟨R_Mo, "copyRow", "(II)V"⟩
def y_Mo_frame : MethodName := ⟨R_Mo, "frame", "(I)I"⟩
def zyn : List MethodName := [y_ST_init, y_Fr_init, y_Ar_fill, y_Dr_init, y_Di_init, y_Ta_init, y_In_init, y_ST_vertex, y_Dr_append, y_Dr_isCoordinate, y_ST_shape, y_Dr_hasCountFor, y_Dr_clear, y_Dr_drawn, y_Ar_copyOf, y_Ge_init, y_Bo_init, y_Ge_fault, y_Ge_hasEqualNeighbours, y_Ge_sides, y_Ge_end, y_Ge_touchesItself, y_Ge_mayNotMeetAsTheyDo, y_Ge_foldsBack, y_Ge_sideMeets, y_Ge_turn, y_Ge_areOpposite, y_Ge_isBeside, y_Ge_isBetween, y_ST_insert, y_ST_isTable, y_Ta_leastFreeRow, y_Ta_put, y_In_add, y_In_newNode, y_In_stretch, y_Bo_homeLevel, y_Bo_quarter, y_In_partOf, y_ST_delete, y_ST_placeOf, y_Ta_placeAt, y_In_rebuild, y_ST_update, y_ST_select, y_ST_clearAnswers, y_ST_searchReads, y_Ta_rowBits, y_Ig_bitCount, y_Di_become, y_ST_readsWithin, y_In_countWithin, y_Bo_gapToRectangle, y_Bo_apart, y_Di_isAtLeast, y_Ta_countWithin, y_Bo_gapTo, y_ST_rowsFound, y_Di_between, y_Ge_encloses, y_Di_lessenBySides, y_Di_lessenByEnd, y_Di_lessen, y_Di_isAtMost, y_Ta_amountOf, y_ST_hasBit, y_ST_addAnswer, y_ST_nearest, y_ST_orderByDistance, y_ST_putInOrder, y_Di_isBelow, y_In_size, y_ST_join, y_ST_addPairs, y_ST_result, y_ST_reads, y_ST_measure, y_Di_wholePart, y_ST_value, y_ST_rows, y_ST_nodes, y_ST_commit, y_ST_changedPages, y_Ta_hasSameRow, y_Ge_isSameAs, y_ST_pageBit, y_ST_pagesWithRows, y_Fr_countFree, y_Fr_takenFrames, y_Fr_switchTo, y_Fr_leastFree, y_ST_keepPresentTables, y_Ta_copy, y_ST_crash, y_ST_rollback, y_ST_frame, y_Fr_frameOf, y_Mo_init, y_Mo_vertex, y_Mo_shape, y_Mo_fault, y_Mo_clash, y_Mo_stuck, y_Mo_cross, y_Mo_on, y_Mo_between, y_Mo_apart, y_Mo_bind, y_Mo_insert, y_Mo_isTable, y_Mo_size, y_Mo_copyShape, y_Mo_delete, y_Mo_slot, y_Mo_update, y_Mo_select, y_Mo_finds, y_Mo_measureOut, y_Mo_meet, y_Mo_sides, y_Mo_corner, y_Mo_touching, y_Mo_lies, y_Mo_turn, y_Mo_within, y_Mo_reach, y_Mo_searchReads, y_Mo_readBy, y_Mo_around, y_Mo_close, y_Mo_gap, y_Mo_home, y_Mo_foremost, y_Mo_shares, y_Mo_nodeBound, y_Mo_nearest, y_Mo_nearer, y_Mo_join, y_Mo_result, y_Mo_reads, y_Mo_measure, y_Mo_value, y_Mo_rows, y_Mo_nodes, y_Mo_commit, y_Mo_changed, y_Mo_sameRow, y_Mo_filled, y_Mo_write, y_Mo_isFree, y_Mo_crash, y_Mo_rollback, y_Mo_copyRow, y_Mo_frame]
end
section
-- an abstract machine of my own: numbered cells, frames with a list of locals and a stack; references are numbers of cells
abbrev zC : Type := (Nat × List Value) ⊕ (Nat × List Value)
/-- the script, where it is read -/
abbrev zX : Type := Option (Nat × (Nat → Int32))
abbrev zS : Type := Nat × List (Nat × Value) × List Value
/-- an instruction and what it links: place, instruction, length, two numbers, a word's place, a constant -/
abbrev zE : Type := Nat × Jvm.ClassFile.Instr × Nat × Nat × Nat × Nat × Value
/-- a method: name, code, locals, answer, number of parameters, the words' places, kind (0 static, 1 virtual, 2 constructor), instructions in groups -/
abbrev zM : Type := MethodName × ByteArray × Nat × Option FieldType × Nat × (Nat × Nat × Nat × Nat) × Nat × List (Nat × List zE)
/-- the heap, and how many slots have been made -/
abbrev zH : Type := List zC × Nat
def mY (M : zM) : MethodName := M.1
def mC (M : zM) : ByteArray := M.2.1
def mL (M : zM) : Nat := M.2.2.1
def mR (M : zM) : Option FieldType := M.2.2.2.1
def mN (M : zM) : Nat := M.2.2.2.2.1
def mW (M : zM) : Nat × Nat × Nat × Nat := M.2.2.2.2.2.1
def mK (M : zM) : Nat := M.2.2.2.2.2.2.1
def mT (M : zM) : List (Nat × List zE) := M.2.2.2.2.2.2.2
def xP (x : zE) : Nat := x.1
def xI (x : zE) : Jvm.ClassFile.Instr := x.2.1
def xN (x : zE) : Nat := x.2.2.1
def xA (x : zE) : Nat := x.2.2.2.1
def xB (x : zE) : Nat := x.2.2.2.2.1
def xW (x : zE) : Nat := x.2.2.2.2.2.1
def xV (x : zE) : Value := x.2.2.2.2.2.2
def zgl (lv : List (Nat × Value)) (i : Nat) : Option Value := match lv with
  | [] => none
  | q :: r => match Nat.beq q.1 i with
    | true => some q.2
    | false => zgl r i
def zst (lv : List (Nat × Value)) (i : Nat) (v : Value) : List (Nat × Value) := (i, v) :: lv.filter (fun q => !(q.1 == i) && !(q.1 + 1 == i && q.2.category == 2))
def zst2 (lv : List (Nat × Value)) (i : Nat) (v : Value) : List (Nat × Value) := (i, v) :: lv.filter (fun q => !(q.1 == i) && (!(q.1 == i + 1) && !(q.1 + 1 == i && q.2.category == 2)))
def ztg (pc : Nat) (off : Int) : Option Nat := match Int.add (Int.ofNat pc) off with
  | .ofNat t => some t
  | .negSucc _ => none
def zlen (i : Jvm.ClassFile.Instr) (n : Nat) : Nat := match i with
  | .aload _ => 2
  | .astore _ => 2
  | .iload _ => 2
  | .istore _ => 2
  | .lload _ => 2
  | .lstore _ => 2
  | .bipush _ => 2
  | .ldc _ => 2
  | .newarray _ => 2
  | .sipush _ => 3
  | .ldc_w _ => 3
  | .ldc2_w _ => 3
  | .iinc _ _ => 3
  | .ifCond _ _ => 3
  | .if_icmp _ _ => 3
  | .ifnull _ => 3
  | .ifnonnull _ => 3
  | .goto _ => 3
  | .getfield _ => 3
  | .putfield _ => 3
  | .invokevirtual _ => 3
  | .invokespecial _ => 3
  | .invokestatic _ => 3
  | .new _ => 3
  | .anewarray _ => 3
  | .checkcast _ => 3
  | .tableswitch _ _ _ _ => n
  | _ => 1
def zlk (t : List zE) (pc : Nat) : Option zE := match t with
  | [] => none
  | x :: r => match Nat.beq x.1 pc with
    | true => some x
    | false => zlk r pc
def zlk2 (t : List (Nat × List zE)) (pc : Nat) : Option zE := match t with
  | [] => none
  | c :: r => match Nat.ble pc c.1 with
    | true => zlk c.2 pc
    | false => zlk2 r pc
def zc (c : Jvm.ClassFile.Cond) (x y : Int32) : Bool := match c with
  | .eq => decide (x = y)
  | .ne => decide (¬ x = y)
  | .lt => decide (x < y)
  | .ge => decide (y ≤ x)
  | .gt => decide (y < x)
  | .le => decide (x ≤ y)
def zi1 (pc : Nat) (lv : List (Nat × Value)) (st : List Value) (f : Int32 → Value) : Option zS := match st with
  | .int x :: r => some (pc, lv, f x :: r)
  | _ => none
def zi2 (pc : Nat) (lv : List (Nat × Value)) (st : List Value) (f : Int32 → Int32 → Value) : Option zS := match st with
  | .int y :: .int x :: r => some (pc, lv, f x y :: r)
  | _ => none
def zl1 (pc : Nat) (lv : List (Nat × Value)) (st : List Value) (f : Int64 → Value) : Option zS := match st with
  | .long x :: r => some (pc, lv, f x :: r)
  | _ => none
def zl2 (pc : Nat) (lv : List (Nat × Value)) (st : List Value) (f : Int64 → Int64 → Value) : Option zS := match st with
  | .long y :: .long x :: r => some (pc, lv, f x y :: r)
  | _ => none
def zbr (c : Bool) (pc : Nat) (off : Int) (lv : List (Nat × Value)) (r : List Value) : Option zS := match ztg pc off with
  | none => none
  | some t => match c with
    | true => some (t, lv, r)
    | false => some (pc + 3, lv, r)
def zb1 (c : Int32 → Bool) (pc : Nat) (off : Int) (lv : List (Nat × Value)) (st : List Value) : Option zS := match st with
  | .int x :: r => zbr (c x) pc off lv r
  | _ => none
def zb2 (c : Int32 → Int32 → Bool) (pc : Nat) (off : Int) (lv : List (Nat × Value)) (st : List Value) : Option zS := match st with
  | .int y :: .int x :: r => zbr (c x y) pc off lv r
  | _ => none
def zbn (n : Bool) (pc : Nat) (off : Int) (lv : List (Nat × Value)) (st : List Value) : Option zS := match st with
  | .null :: r => zbr n pc off lv r
  | .ref _ :: r => zbr (!n) pc off lv r
  | _ => none
def zld (k : Nat) (pc : Nat) (lv : List (Nat × Value)) (st : List Value) (i : Nat) : Option zS := match zgl lv i with
  | some (.int x) => match k with
    | 0 => some (pc, lv, .int x :: st)
    | _ => none
  | some (.long x) => match k with
    | 1 => some (pc, lv, .long x :: st)
    | _ => none
  | some (.ref x) => match k with
    | 2 => some (pc, lv, .ref x :: st)
    | _ => none
  | some .null => match k with
    | 2 => some (pc, lv, .null :: st)
    | _ => none
  | some (.retAddr x) => match k with
    | 2 => some (pc, lv, .retAddr x :: st)
    | _ => none
  | _ => none
def zsi (pc : Nat) (lv : List (Nat × Value)) (st : List Value) (i : Nat) : Option zS := match st with
  | .int x :: r => some (pc, zst lv i (.int x), r)
  | _ => none
def zsl (pc : Nat) (lv : List (Nat × Value)) (st : List Value) (i : Nat) : Option zS := match st with
  | .long x :: r => some (pc, zst2 lv i (.long x), r)
  | _ => none
def zsa (pc : Nat) (lv : List (Nat × Value)) (st : List Value) (i : Nat) : Option zS := match st with
  | .ref x :: r => some (pc, zst lv i (.ref x), r)
  | .null :: r => some (pc, zst lv i .null, r)
  | _ => none
def zinc (pc : Nat) (lv : List (Nat × Value)) (st : List Value) (i : Nat) (n : Int) : Option zS := match zgl lv i with
  | some (.int x) => some (pc, zst lv i (.int (x + Int32.ofInt n)), st)
  | _ => none
def zone (v : Value) : Bool := match v with
  | .long _ => false
  | .double _ => false
  | _ => true
def zd0 (pc : Nat) (lv : List (Nat × Value)) (st : List Value) : Option zS := match st with
  | v :: r => match zone v with
    | true => some (pc, lv, v :: v :: r)
    | false => none
  | _ => none
def zdx1 (pc : Nat) (lv : List (Nat × Value)) (st : List Value) : Option zS := match st with
  | v :: w :: r => match zone v && zone w with
    | true => some (pc, lv, v :: w :: v :: r)
    | false => none
  | _ => none
def zdx2 (pc : Nat) (lv : List (Nat × Value)) (st : List Value) : Option zS := match st with
  | v :: w :: u :: r => match zone v && (zone w && zone u) with
    | true => some (pc, lv, v :: w :: u :: v :: r)
    | false => none
  | _ => none
def zd2 (pc : Nat) (lv : List (Nat × Value)) (st : List Value) : Option zS := match st with
  | v :: w :: r => match zone v && zone w with
    | true => some (pc, lv, v :: w :: v :: w :: r)
    | false => none
  | _ => none
def zpo (pc : Nat) (lv : List (Nat × Value)) (st : List Value) : Option zS := match st with
  | v :: r => match zone v with
    | true => some (pc, lv, r)
    | false => none
  | _ => none
def zki (pc : Nat) (lv : List (Nat × Value)) (st : List Value) (v : Value) : Option zS := match v with
  | .int x => some (pc, lv, .int x :: st)
  | _ => none
def zkl (pc : Nat) (lv : List (Nat × Value)) (st : List Value) (v : Value) : Option zS := match v with
  | .long x => some (pc, lv, .long x :: st)
  | _ => none
/-- division: the divisor isn't 0 -/
def zdv (pc : Nat) (lv : List (Nat × Value)) (st : List Value) (f : Int32 → Int32 → Value) : Option zS := match st with
  | .int y :: .int x :: r => match decide (y = 0) with
    | true => none
    | false => some (pc, lv, f x y :: r)
  | _ => none
def zdvl (pc : Nat) (lv : List (Nat × Value)) (st : List Value) (f : Int64 → Int64 → Value) : Option zS := match st with
  | .long y :: .long x :: r => match decide (y = 0) with
    | true => none
    | false => some (pc, lv, f x y :: r)
  | _ => none
def zgo (pc : Nat) (off : Int) (lv : List (Nat × Value)) (st : List Value) : Option zS := match ztg pc off with
  | none => none
  | some t => some (t, lv, st)
def ztsw (pc : Nat) (d lo hi : Int) (offs : Array Int) (lv : List (Nat × Value)) (st : List Value) : Option zS := match st with
  | .int x :: r => match decide (x.toInt < lo) || decide (hi < x.toInt) with
    | true => zgo pc d lv r
    | false => match offs[(x.toInt - lo).toNat]? with
      | some off => zgo pc off lv r
      | none => none
  | _ => none
/-- a step that neither reads nor writes the heap -/
def zp (i : Jvm.ClassFile.Instr) (kv : Value) (pc : Nat) (lv : List (Nat × Value)) (st : List Value) : Option zS := match i with
  | .iconst n => some (pc + 1, lv, .int (Int32.ofInt n) :: st)
  | .bipush n => some (pc + 2, lv, .int (Int8.ofInt n).toInt32 :: st)
  | .sipush n => some (pc + 3, lv, .int (Int16.ofInt n).toInt32 :: st)
  | .lconst n => some (pc + 1, lv, .long (Int64.ofNat n.val) :: st)
  | .aconst_null => some (pc + 1, lv, .null :: st)
  | .ldc _ => zki (pc + 2) lv st kv
  | .ldc_w _ => zki (pc + 3) lv st kv
  | .ldc2_w _ => zkl (pc + 3) lv st kv
  | .iload k => zld 0 (pc + 2) lv st k
  | .iload_n k => zld 0 (pc + 1) lv st k.val
  | .lload k => zld 1 (pc + 2) lv st k
  | .lload_n k => zld 1 (pc + 1) lv st k.val
  | .aload k => zld 2 (pc + 2) lv st k
  | .aload_n k => zld 2 (pc + 1) lv st k.val
  | .istore k => zsi (pc + 2) lv st k
  | .istore_n k => zsi (pc + 1) lv st k.val
  | .lstore k => zsl (pc + 2) lv st k
  | .lstore_n k => zsl (pc + 1) lv st k.val
  | .astore k => zsa (pc + 2) lv st k
  | .astore_n k => zsa (pc + 1) lv st k.val
  | .iinc k n => zinc (pc + 3) lv st k n
  | .iadd => zi2 (pc + 1) lv st (fun x y => .int (x + y))
  | .isub => zi2 (pc + 1) lv st (fun x y => .int (x - y))
  | .imul => zi2 (pc + 1) lv st (fun x y => .int (x * y))
  | .iand => zi2 (pc + 1) lv st (fun x y => .int (x &&& y))
  | .ior => zi2 (pc + 1) lv st (fun x y => .int (x ||| y))
  | .ixor => zi2 (pc + 1) lv st (fun x y => .int (x ^^^ y))
  | .ishl => zi2 (pc + 1) lv st (fun x y => .int (x <<< (y &&& 31)))
  | .ishr => zi2 (pc + 1) lv st (fun x y => .int (x >>> (y &&& 31)))
  | .iushr => zi2 (pc + 1) lv st (fun x y => .int (x.toUInt32 >>> (y.toUInt32 &&& Int32.toUInt32 31)).toInt32)
  | .idiv => zdv (pc + 1) lv st (fun x y => .int (x / y))
  | .irem => zdv (pc + 1) lv st (fun x y => .int (x - x / y * y))
  | .ineg => zi1 (pc + 1) lv st (fun x => .int (-x))
  | .i2l => zi1 (pc + 1) lv st (fun x => .long x.toInt64)
  | .i2b => zi1 (pc + 1) lv st (fun x => .int x.toInt8.toInt32)
  | .ladd => zl2 (pc + 1) lv st (fun x y => .long (x + y))
  | .lsub => zl2 (pc + 1) lv st (fun x y => .long (x - y))
  | .lmul => zl2 (pc + 1) lv st (fun x y => .long (x * y))
  | .land => zl2 (pc + 1) lv st (fun x y => .long (x &&& y))
  | .lor => zl2 (pc + 1) lv st (fun x y => .long (x ||| y))
  | .ldiv => zdvl (pc + 1) lv st (fun x y => .long (x / y))
  | .lrem => zdvl (pc + 1) lv st (fun x y => .long (x - x / y * y))
  | .lneg => zl1 (pc + 1) lv st (fun x => .long (-x))
  | .l2i => zl1 (pc + 1) lv st (fun x => .int x.toInt32)
  | .lcmp => zl2 (pc + 1) lv st (fun x y => .int (lg_cmp x y))
  | .dup => zd0 (pc + 1) lv st
  | .dup_x1 => zdx1 (pc + 1) lv st
  | .dup_x2 => zdx2 (pc + 1) lv st
  | .dup2 => zd2 (pc + 1) lv st
  | .pop => zpo (pc + 1) lv st
  | .goto off => zgo pc off lv st
  | .ifCond c off => zb1 (fun x => zc c x 0) pc off lv st
  | .if_icmp c off => zb2 (fun x y => zc c x y) pc off lv st
  | .ifnull off => zbn true pc off lv st
  | .ifnonnull off => zbn false pc off lv st
  | .tableswitch d lo hi offs => ztsw pc d lo hi offs lv st
  | _ => none
def zfit (ty : FieldType) (v : Value) : Bool := match ty with
  | .int => match v with
    | .int _ => true
    | _ => false
  | .long => match v with
    | .long _ => true
    | _ => false
  | .boolean => match v with
    | .int k => decide (k = 0) || decide (k = 1)
    | _ => false
  | .object _ => match v with
    | .null => true
    | .ref _ => true
    | _ => false
  | .array _ => match v with
    | .null => true
    | .ref _ => true
    | _ => false
  | _ => false
def zrt (t : Nat) : Bool := match zte t with
  | some _ => true
  | none => false
def zin (j : Int32) (n : Nat) : Bool := decide (¬ (j < 0 ∨ n ≤ j.toNatClampNeg))
def zgf (a b : Nat) (h : List zC) (pc : Nat) (lv : List (Nat × Value)) (st : List Value) : Option zS := match st with
  | .ref k :: r => match h[k]? with
    | some (.inr o) => match Nat.beq o.1 a with
      | true => match o.2[b]? with
        | some v => some (pc, lv, v :: r)
        | none => none
      | false => none
    | _ => none
  | _ => none
def zal (t0 : Nat → Bool) (xs : zX) (h : List zC) (pc : Nat) (lv : List (Nat × Value)) (st : List Value) : Option zS := match st with
  | .int j :: .ref k :: r => match h[k]? with
    | some (.inl q) => match t0 q.1 && zin j q.2.length with
      | true => match q.2[j.toNatClampNeg]? with
        | some v => some (pc, lv, v :: r)
        | none => none
      | false => none
    | _ => none
  | .int j :: .retAddr _ :: r => match xs with
    | some x => match t0 0 && zin j x.1 with
      | true => some (pc, lv, .int (x.2 j.toNatClampNeg) :: r)
      | false => none
    | none => none
  | _ => none
def zle (xs : zX) (h : List zC) (pc : Nat) (lv : List (Nat × Value)) (st : List Value) : Option zS := match st with
  | .ref k :: r => match h[k]? with
    | some (.inl q) => match Nat.blt q.1 zNT with
      | true => some (pc, lv, .int (Int32.ofNat q.2.length) :: r)
      | false => none
    | _ => none
  | .retAddr _ :: r => match xs with
    | some x => some (pc, lv, .int (Int32.ofNat x.1) :: r)
    | none => none
  | _ => none
/-- a cast of an int array to its own class -/
def zcc (h : List zC) (pc : Nat) (lv : List (Nat × Value)) (st : List Value) : Option zS := match st with
  | .ref k :: r => match h[k]? with
    | some (.inl q) => match Nat.beq q.1 0 with
      | true => some (pc, lv, .ref k :: r)
      | false => none
    | _ => none
  | _ => none
/-- a step that reads the heap -/
def zr (i : Jvm.ClassFile.Instr) (a b : Nat) (xs : zX) (h : List zC) (pc : Nat) (lv : List (Nat × Value)) (st : List Value) : Option zS := match i with
  | .getfield _ => zgf a b h (pc + 3) lv st
  | .iaload => zal (fun t => Nat.beq t 0) xs h (pc + 1) lv st
  | .aaload => zal zrt xs h (pc + 1) lv st
  | .baload => zal (fun t => Nat.beq t 1) xs h (pc + 1) lv st
  | .laload => zal (fun t => Nat.beq t 2) xs h (pc + 1) lv st
  | .arraylength => zle xs h (pc + 1) lv st
  | .checkcast _ => zcc h (pc + 3) lv st
  | _ => none
def zpf (a b : Nat) (h : List zC) (pc : Nat) (lv : List (Nat × Value)) (st : List Value) : Option (zS × List zC) := match st with
  | v :: .ref k :: r => match h[k]? with
    | some (.inr o) => match Nat.beq o.1 a && (Nat.blt b o.2.length && zfit (zty a b) v) with
      | true => some ((pc, lv, r), h.set k (.inr (o.1, o.2.set b v)))
      | false => none
    | _ => none
  | _ => none
def zis (h : List zC) (pc : Nat) (lv : List (Nat × Value)) (st : List Value) : Option (zS × List zC) := match st with
  | .int x :: .int j :: .ref k :: r => match h[k]? with
    | some (.inl q) => match Nat.beq q.1 0 && zin j q.2.length with
      | true => some ((pc, lv, r), h.set k (.inl (q.1, q.2.set j.toNatClampNeg (.int x))))
      | false => none
    | _ => none
  | _ => none
def zbs (h : List zC) (pc : Nat) (lv : List (Nat × Value)) (st : List Value) : Option (zS × List zC) := match st with
  | .int x :: .int j :: .ref k :: r => match h[k]? with
    | some (.inl q) => match Nat.beq q.1 1 && zin j q.2.length with
      | true => some ((pc, lv, r), h.set k (.inl (q.1, q.2.set j.toNatClampNeg (.int (x &&& 1)))))
      | false => none
    | _ => none
  | _ => none
def zls (h : List zC) (pc : Nat) (lv : List (Nat × Value)) (st : List Value) : Option (zS × List zC) := match st with
  | .long x :: .int j :: .ref k :: r => match h[k]? with
    | some (.inl q) => match Nat.beq q.1 2 && zin j q.2.length with
      | true => some ((pc, lv, r), h.set k (.inl (q.1, q.2.set j.toNatClampNeg (.long x))))
      | false => none
    | _ => none
  | _ => none
def zes (h : List zC) (t : Nat) (v : Value) : Bool := match v with
  | .null => zrt t
  | .ref u => match h[u]? with
    | some (.inr o) => match zte t with
      | some c => Nat.beq c o.1
      | none => false
    | _ => false
  | _ => false
def zas (h : List zC) (pc : Nat) (lv : List (Nat × Value)) (st : List Value) : Option (zS × List zC) := match st with
  | v :: .int j :: .ref k :: r => match h[k]? with
    | some (.inl q) => match zes h q.1 v && zin j q.2.length with
      | true => some ((pc, lv, r), h.set k (.inl (q.1, q.2.set j.toNatClampNeg v)))
      | false => none
    | _ => none
  | _ => none
/-- a step that writes the heap -/
def zw (i : Jvm.ClassFile.Instr) (a b : Nat) (h : List zC) (pc : Nat) (lv : List (Nat × Value)) (st : List Value) : Option (zS × List zC) := match i with
  | .putfield _ => zpf a b h (pc + 3) lv st
  | .iastore => zis h (pc + 1) lv st
  | .aastore => zas h (pc + 1) lv st
  | .bastore => zbs h (pc + 1) lv st
  | .lastore => zls h (pc + 1) lv st
  | _ => none
def zna (a : Nat) (d : Value) (h : zH) (pc : Nat) (lv : List (Nat × Value)) (st : List Value) : Option (zS × zH) := match st with
  | .int n :: r => match decide (¬ n < 0) && Nat.ble (n.toNatClampNeg * 8) 536870912 with
    | true => some ((pc, lv, .ref h.1.length :: r), (h.1 ++ [.inl (a, List.replicate n.toNatClampNeg d)], h.2 + n.toNatClampNeg))
    | false => none
  | _ => none
/-- a step that makes a cell -/
def zn (i : Jvm.ClassFile.Instr) (a : Nat) (h : zH) (pc : Nat) (lv : List (Nat × Value)) (st : List Value) : Option (zS × zH) := match i with
  | .new _ => some ((pc + 3, lv, .ref h.1.length :: st), (h.1 ++ [.inr (a, zdf a)], h.2 + (zdf a).length))
  | .newarray t => match t with
    | .int => zna a (.int 0) h (pc + 2) lv st
    | .boolean => zna a (.int 0) h (pc + 2) lv st
    | .long => zna a (.long 0) h (pc + 2) lv st
    | _ => none
  | .anewarray _ => zna a .null h (pc + 3) lv st
  | _ => none
def zpop (n : Nat) (st : List Value) : Option (List Value × List Value) := match n with
  | 0 => some ([], st)
  | n + 1 => match st with
    | [] => none
    | v :: r => match zpop n r with
      | some q => some (q.1 ++ [v], q.2)
      | none => none
def zcat (st : List Value) : Nat := (st.map fun v => v.category).sum
def zrc (k cx : Nat) (as : List Value) (h : List zC) : Bool := match k with
  | 0 => true
  | 1 => match as with
    | .ref u :: _ => match h[u]? with
      | some (.inr o) => Nat.beq o.1 cx
      | _ => false
    | _ => false
  | _ => match as with
    | .ref _ :: _ => true
    | _ => false
def zco (k : Nat) (n : Nat) : Nat := match k with
  | 0 => n
  | _ => n + 1
/-- a call of a method of the table -/
def zcm (mt : List zM) (call : Nat → List Value → zH → Option (Option Value × zH)) (kind a : Nat) (h : zH) (pc : Nat) (lv : List (Nat × Value)) (st : List Value) : Option (zS × zH) := match mt[a]? with
  | none => none
  | some M => match zpop (zco kind (mN M)) st with
    | none => none
    | some q => match Nat.beq (mK M) kind && (zrc kind (mW M).2.2.2 q.1 h.1 && Nat.ble (zcat q.2) 8) with
      | false => none
      | true => match call a q.1 h with
        | none => none
        | some r => match Nat.ble h.1.length r.2.1.length && Nat.ble h.2 r.2.2 with
          | false => none
          | true => some ((pc, lv, r.1.toList ++ q.2), r.2)
/-- Object's constructor -/
def zoi (fr lo : Nat) (h : zH) (pc : Nat) (lv : List (Nat × Value)) (st : List Value) : Option (zS × zH) := match st with
  | .ref _ :: r => match Nat.ble 1 fr && Nat.ble (zcat r + 12) lo with
    | true => some ((pc, lv, r), h)
    | false => none
  | _ => none
/-- Math.min, Math.max -/
def zmx (f : Int32 → Int32 → Int32) (fr lo : Nat) (h : zH) (pc : Nat) (lv : List (Nat × Value)) (st : List Value) : Option (zS × zH) := match st with
  | .int y :: .int x :: r => match Nat.ble 1 fr && Nat.ble (zcat r + 13) lo with
    | true => some ((pc, lv, .int (f x y) :: r), h)
    | false => none
  | _ => none
def zisI (v : Value) : Bool := match v with
  | .int _ => true
  | _ => false
def zcp (src dst : List Value) (sp dp n : Nat) : List Value := dst.take dp ++ ((src.drop sp).take n ++ dst.drop (dp + n))
/-- System.arraycopy of int arrays -/
def zac (fr lo : Nat) (h : zH) (pc : Nat) (lv : List (Nat × Value)) (st : List Value) : Option (zS × zH) := match st with
  | .int n :: .int dp :: .ref d :: .int sp :: .ref s :: r => match h.1[s]? with
    | some (.inl p) => match h.1[d]? with
      | some (.inl q) => match (Nat.ble 1 fr && Nat.ble (zcat r + 18) lo) && ((Nat.beq p.1 0 && Nat.beq q.1 0) && ((decide (¬ sp < 0) && (decide (¬ dp < 0) && decide (¬ n < 0))) && (Nat.ble (sp.toNatClampNeg + n.toNatClampNeg) p.2.length && (Nat.ble (dp.toNatClampNeg + n.toNatClampNeg) q.2.length && p.2.all zisI)))) with
        | true => some ((pc, lv, r), (h.1.set d (.inl (0, zcp p.2 q.2 sp.toNatClampNeg dp.toNatClampNeg n.toNatClampNeg)), h.2))
        | false => none
      | _ => none
    | _ => none
  | _ => none
/-- the clone of an int array -/
def zcn (fr lo : Nat) (h : zH) (pc : Nat) (lv : List (Nat × Value)) (st : List Value) : Option (zS × zH) := match st with
  | .ref k :: r => match h.1[k]? with
    | some (.inl q) => match (Nat.ble 1 fr && Nat.ble (zcat r + 14) lo) && (Nat.beq q.1 0 && q.2.all zisI) with
      | true => some ((pc, lv, .ref h.1.length :: r), (h.1 ++ [.inl (0, q.2)], h.2 + q.2.length))
      | false => none
    | _ => none
  | _ => none
def zk (mt : List zM) (call : Nat → List Value → zH → Option (Option Value × zH)) (fr lo : Nat) (i : Jvm.ClassFile.Instr) (a b : Nat) (h : zH) (pc : Nat) (lv : List (Nat × Value)) (st : List Value) : Option (zS × zH) := match i with
  | .invokestatic _ => match b with
    | 0 => zcm mt call 0 a h (pc + 3) lv st
    | 3 => zmx (fun x y => if y < x then y else x) fr lo h (pc + 3) lv st
    | 4 => zmx (fun x y => if x < y then y else x) fr lo h (pc + 3) lv st
    | 5 => zac fr lo h (pc + 3) lv st
    | _ => none
  | .invokevirtual _ => match b with
    | 0 => zcm mt call 1 a h (pc + 3) lv st
    | 1 => zcn fr lo h (pc + 3) lv st
    | _ => none
  | .invokespecial _ => match b with
    | 0 => zcm mt call 2 a h (pc + 3) lv st
    | 1 => zcm mt call 2 a h (pc + 3) lv st
    | 2 => zoi fr lo h (pc + 3) lv st
    | _ => none
  | _ => none
def zstep (mt : List zM) (call : Nat → List Value → zH → Option (Option Value × zH)) (fr lo : Nat) (xs : zX) (x : zE) (s : zS) (h : zH) : Option (zS × zH) := match zp (xI x) (xV x) s.1 s.2.1 s.2.2 with
  | some s' => some (s', h)
  | none => match zr (xI x) (xA x) (xB x) xs h.1 s.1 s.2.1 s.2.2 with
    | some s' => some (s', h)
    | none => match zw (xI x) (xA x) (xB x) h.1 s.1 s.2.1 s.2.2 with
      | some q => some (q.1, (q.2, h.2))
      | none => match zn (xI x) (xA x) h s.1 s.2.1 s.2.2 with
        | some q => some q
        | none => zk mt call fr lo (xI x) (xA x) (xB x) h s.1 s.2.1 s.2.2
def zre (ret : Option FieldType) (i : Jvm.ClassFile.Instr) (st : List Value) : Option (Option Value) := match i with
  | .return_ => match ret, st with
    | none, [] => some none
    | _, _ => none
  | .ireturn => match ret, st with
    | some ty, [.int v] => match zfit ty (.int v) with
      | true => some (some (.int v))
      | false => none
    | _, _ => none
  | .lreturn => match ret, st with
    | some .long, [.long v] => some (some (.long v))
    | _, _ => none
  | .areturn => match ret, st with
    | some (.object _), [.null] => some (some .null)
    | some (.object _), [.ref k] => some (some (.ref k))
    | some (.array _), [.null] => some (some .null)
    | some (.array _), [.ref k] => some (some (.ref k))
    | _, _ => none
  | _ => none
def zloop (mt : List zM) (call : Nat → List Value → zH → Option (Option Value × zH)) (fr lo : Nat) (xs : zX) (M : zM) : Nat → zS → zH → Option (Option Value × zH)
  | 0, _, _ => none
  | f + 1, s, h => match zlk2 (mT M) s.1 with
    | none => none
    | some x => match zre (mR M) (xI x) s.2.2 with
      | some r => some (r, h)
      | none => match zstep mt call fr lo xs x s h with
        | none => none
        | some q => zloop mt call fr lo xs M f q.1 q.2
def zbody (mt : List zM) (call : Nat → List Value → zH → Option (Option Value × zH)) (fr lo : Nat) (xs : zX) (f a : Nat) (as : List Value) (h : zH) : Option (Option Value × zH) := match mt[a]? with
  | none => none
  | some M => match Nat.ble (zcat as) (mL M) with
    | true => zloop mt call fr lo xs M f (0, lv_args 0 as, []) h
    | false => none
/-- a call with room for frames and locals -/
def zcall (mt : List zM) (f : Nat) : Nat → Nat → Nat → List Value → zH → Option (Option Value × zH)
  | 0, lo, a, as, h => zbody mt (fun _ _ _ => none) 0 lo none f a as h
  | fr + 1, lo, a, as, h => zbody mt (fun a' as' h' => match mt[a']? with
      | none => none
      | some M' => match Nat.ble (19 + mL M') lo with
        | true => zcall mt f fr (lo - (19 + mL M')) a' as' h'
        | false => none) (fr + 1) lo none f a as h
/-- what an instruction links is a word of the tables -/
def zlF (own : String) (i a b w : Nat) : Bool := match zcl[a]? with
  | some C => Nat.blt b C.2.2 && decide (lw_tbl[w]? = some (Cond.fieldLink own i (C.2.1 b).1 (C.2.1 b).2.1 (C.2.1 b).2.2.1))
  | none => false
def zlP (own : String) (ini : Bool) (a b : Nat) : Bool := match zcl[a]? with
  | some C => !(C.2.1 b).2.2.2 || (ini && decide ((C.2.1 b).1 = own))
  | none => false
def zlN (own : String) (i a w : Nat) : Bool := match zcl[a]? with
  | some C => decide (lw_tbl[w]? = some (Cond.classLink own i C.1))
  | none => false
def zlM (own : String) (i a w : Nat) : Bool := match zyn[a]? with
  | some y => decide (lw_tbl[w]? = some (Cond.methodLink own i y))
  | none => false
def zlMN (own : String) (i a w : Nat) : Bool := match zyn[a]? with
  | some y => decide (lw_tbl[w]? = some (Cond.methodLinkNest own i y R_ST))
  | none => false
def zlMO (own : String) (i w : Nat) : Bool := decide (lw_tbl[w]? = some (Cond.methodLink own i Lib.objectInit))
def zlnk (own : String) (nL : Nat) (ini : Bool) (i : Jvm.ClassFile.Instr) (a b w : Nat) (v : Value) : Bool := match i with
  | .istore k => Nat.blt k nL
  | .istore_n k => Nat.blt k.val nL
  | .astore k => Nat.blt k nL
  | .astore_n k => Nat.blt k.val nL
  | .lstore k => Nat.blt (k + 1) nL
  | .lstore_n k => Nat.blt (k.val + 1) nL
  | .iinc k _ => Nat.blt k nL
  | .ldc k => match v with
    | .int x => decide (lw_tbl[w]? = some (Cond.constant own k x))
    | _ => false
  | .ldc_w k => match v with
    | .int x => decide (lw_tbl[w]? = some (Cond.constant own k x))
    | _ => false
  | .ldc2_w k => match v with
    | .long x => decide (lw_tbl[w]? = some (Cond.constantLong own k x))
    | _ => false
  | .getfield k => zlF own k a b w
  | .putfield k => zlF own k a b w && zlP own ini a b
  | .new k => zlN own k a w
  | .newarray t => match t with
    | .int => Nat.beq a 0
    | .boolean => Nat.beq a 1
    | .long => Nat.beq a 2
    | _ => false
  | .anewarray k => match zte a with
    | some c => zlN own k c w
    | none => false
  | .invokestatic k => match b with
    | 0 => zlM own k a w
    | 3 => decide (lw_tbl[w]? = some (Cond.methodLink own k Lib.Math.min.name))
    | 4 => decide (lw_tbl[w]? = some (Cond.methodLink own k Lib.Math.max.name))
    | 5 => decide (lw_tbl[w]? = some (Cond.methodLink own k arraycopyName))
    | _ => true
  | .invokevirtual k => match b with
    | 0 => zlM own k a w
    | 1 => decide (lw_tbl[w]? = some (Cond.methodLink own k ⟨"[I", "clone", "()Ljava/lang/Object;"⟩))
    | _ => true
  | .checkcast k => decide (lw_tbl[w]? = some (Cond.classLink own k "[I"))
  | .invokespecial k => match b with
    | 0 => zlM own k a w
    | 1 => zlMN own k a w
    | 2 => zlMO own k w
    | _ => true
  | _ => true
def zxo (own : String) (cc : ByteArray) (nL : Nat) (ini : Bool) (x : zE) : Bool := decide (decode cc (xP x) = .ok (xI x, zlen (xI x) (xN x))) && zlnk own nL ini (xI x) (xA x) (xB x) (xW x) (xV x)
end
section
-- what the abstract machine does, the machine does: values, locals, cells
theorem znq {α : Type} {q : α} {P : Prop} (h : (none : Option α) = some q) : P := by cases h
def zt (sa b : Nat) (v : Value) : Value := match v with
  | .ref i => .ref (b + i)
  | .retAddr _ => .ref sa
  | w => w
theorem zt_cat (sa b : Nat) (v : Value) : (zt sa b v).category = v.category := by cases v <;> rfl
def ztl (sa b : Nat) (q : Nat × Value) : Nat × Value := (q.1, zt sa b q.2)
theorem zgl_mem {i : Nat} {v : Value} : ∀ {lv : List (Nat × Value)}, zgl lv i = some v → (i, v) ∈ lv
  | [], h => by cases h
  | q :: r, h => by
    unfold zgl at h
    cases hq : Nat.beq q.1 i with
    | true =>
      rw [hq] at h
      have e1 : q.1 = i := Nat.eq_of_beq_eq_true hq
      have e2 : q.2 = v := Option.some.inj h
      rw [← e1, ← e2]
      exact List.mem_cons_self
    | false =>
      rw [hq] at h
      exact List.mem_cons_of_mem _ (zgl_mem h)
theorem zgl_at {sa b nL i : Nat} {ls : Array Slot} {lv : List (Nat × Value)} {v : Value} (hl : lv_has ls nL (lv.map (ztl sa b))) (h : zgl lv i = some v) : ls[i]? = some (.val (zt sa b v)) :=
  hl.2.2 (i, zt sa b v) (List.mem_map.mpr ⟨(i, v), zgl_mem h, rfl⟩)
theorem zst_map (sa b : Nat) (lv : List (Nat × Value)) (i : Nat) (v : Value) : (i, zt sa b v) :: (lv.map (ztl sa b)).filter (fun q => !(q.1 == i) && !(q.1 + 1 == i && q.2.category == 2)) = (zst lv i v).map (ztl sa b) := by
  have h : (lv.map (ztl sa b)).filter (fun q => !(q.1 == i) && !(q.1 + 1 == i && q.2.category == 2)) = (lv.filter (fun q => !(q.1 == i) && !(q.1 + 1 == i && q.2.category == 2))).map (ztl sa b) := by
    rw [List.filter_map]
    congr 1
    apply List.filter_congr
    intro q _
    simp [ztl, zt_cat]
  rw [h]
  rfl
theorem zst2_map (sa b : Nat) (lv : List (Nat × Value)) (i : Nat) (v : Value) : (i, zt sa b v) :: (lv.map (ztl sa b)).filter (fun q => !(q.1 == i) && (!(q.1 == i + 1) && !(q.1 + 1 == i && q.2.category == 2))) = (zst2 lv i v).map (ztl sa b) := by
  have h : (lv.map (ztl sa b)).filter (fun q => !(q.1 == i) && (!(q.1 == i + 1) && !(q.1 + 1 == i && q.2.category == 2))) = (lv.filter (fun q => !(q.1 == i) && (!(q.1 == i + 1) && !(q.1 + 1 == i && q.2.category == 2)))).map (ztl sa b) := by
    rw [List.filter_map]
    congr 1
    apply List.filter_congr
    intro q _
    simp [ztl, zt_cat]
  rw [h]
  rfl
theorem ztg_eq {pc t : Nat} {off : Int} (h : ztg pc off = some t) : (pc : Int) + off = (t : Int) := by
  unfold ztg at h
  cases hi : Int.add (Int.ofNat pc) off with
  | ofNat k =>
    rw [hi] at h
    have e : k = t := Option.some.inj h
    rw [← e]
    exact hi
  | negSucc k =>
    rw [hi] at h
    cases h
theorem zi1_inv {pc : Nat} {lv : List (Nat × Value)} {st : List Value} {f : Int32 → Value} {q : zS} (h : zi1 pc lv st f = some q) : ∃ x r, st = .int x :: r ∧ q = (pc, lv, f x :: r) := by
  unfold zi1 at h
  split at h
  · exact ⟨_, _, rfl, (Option.some.inj h).symm⟩
  · cases h
theorem zi2_inv {pc : Nat} {lv : List (Nat × Value)} {st : List Value} {f : Int32 → Int32 → Value} {q : zS} (h : zi2 pc lv st f = some q) : ∃ x y r, st = .int y :: .int x :: r ∧ q = (pc, lv, f x y :: r) := by
  unfold zi2 at h
  split at h
  · exact ⟨_, _, _, rfl, (Option.some.inj h).symm⟩
  · cases h
theorem zl1_inv {pc : Nat} {lv : List (Nat × Value)} {st : List Value} {f : Int64 → Value} {q : zS} (h : zl1 pc lv st f = some q) : ∃ x r, st = .long x :: r ∧ q = (pc, lv, f x :: r) := by
  unfold zl1 at h
  split at h
  · exact ⟨_, _, rfl, (Option.some.inj h).symm⟩
  · cases h
theorem zl2_inv {pc : Nat} {lv : List (Nat × Value)} {st : List Value} {f : Int64 → Int64 → Value} {q : zS} (h : zl2 pc lv st f = some q) : ∃ x y r, st = .long y :: .long x :: r ∧ q = (pc, lv, f x y :: r) := by
  unfold zl2 at h
  split at h
  · exact ⟨_, _, _, rfl, (Option.some.inj h).symm⟩
  · cases h
theorem zdv_inv {pc : Nat} {lv : List (Nat × Value)} {st : List Value} {f : Int32 → Int32 → Value} {q : zS} (h : zdv pc lv st f = some q) : ∃ x y r, st = .int y :: .int x :: r ∧ ¬ y = 0 ∧ q = (pc, lv, f x y :: r) := by
  unfold zdv at h
  split at h
  · split at h
    · cases h
    · next hd => exact ⟨_, _, _, rfl, of_decide_eq_false hd, (Option.some.inj h).symm⟩
  · cases h
theorem zdvl_inv {pc : Nat} {lv : List (Nat × Value)} {st : List Value} {f : Int64 → Int64 → Value} {q : zS} (h : zdvl pc lv st f = some q) : ∃ x y r, st = .long y :: .long x :: r ∧ ¬ y = 0 ∧ q = (pc, lv, f x y :: r) := by
  unfold zdvl at h
  split at h
  · split at h
    · cases h
    · next hd => exact ⟨_, _, _, rfl, of_decide_eq_false hd, (Option.some.inj h).symm⟩
  · cases h
theorem zbr_inv {c : Bool} {pc : Nat} {off : Int} {lv : List (Nat × Value)} {r : List Value} {q : zS} (h : zbr c pc off lv r = some q) : ∃ t : Nat, (pc : Int) + off = (t : Int) ∧ ((c = true ∧ q = (t, lv, r)) ∨ (c = false ∧ q = (pc + 3, lv, r))) := by
  unfold zbr at h
  split at h
  · cases h
  · next t ht =>
    refine ⟨t, ztg_eq ht, ?_⟩
    split at h
    · exact Or.inl ⟨rfl, (Option.some.inj h).symm⟩
    · exact Or.inr ⟨rfl, (Option.some.inj h).symm⟩
theorem zb1_inv {c : Int32 → Bool} {pc : Nat} {off : Int} {lv : List (Nat × Value)} {st : List Value} {q : zS} (h : zb1 c pc off lv st = some q) : ∃ x r, st = .int x :: r ∧ zbr (c x) pc off lv r = some q := by
  unfold zb1 at h
  split at h
  · exact ⟨_, _, rfl, h⟩
  · cases h
theorem zb2_inv {c : Int32 → Int32 → Bool} {pc : Nat} {off : Int} {lv : List (Nat × Value)} {st : List Value} {q : zS} (h : zb2 c pc off lv st = some q) : ∃ x y r, st = .int y :: .int x :: r ∧ zbr (c x y) pc off lv r = some q := by
  unfold zb2 at h
  split at h
  · exact ⟨_, _, _, rfl, h⟩
  · cases h
theorem zbn_inv {n : Bool} {pc : Nat} {off : Int} {lv : List (Nat × Value)} {st : List Value} {q : zS} (h : zbn n pc off lv st = some q) : ∃ r, (st = .null :: r ∧ zbr n pc off lv r = some q) ∨ ∃ k, st = .ref k :: r ∧ zbr (!n) pc off lv r = some q := by
  unfold zbn at h
  split at h
  · exact ⟨_, Or.inl ⟨rfl, h⟩⟩
  · exact ⟨_, Or.inr ⟨_, rfl, h⟩⟩
  · cases h
theorem zgo_inv {pc : Nat} {off : Int} {lv : List (Nat × Value)} {st : List Value} {q : zS} (h : zgo pc off lv st = some q) : ∃ t : Nat, (pc : Int) + off = (t : Int) ∧ q = (t, lv, st) := by
  unfold zgo at h
  split at h
  · cases h
  · next t ht => exact ⟨t, ztg_eq ht, (Option.some.inj h).symm⟩
theorem zld0_inv {pc i : Nat} {lv : List (Nat × Value)} {st : List Value} {q : zS} (h : zld 0 pc lv st i = some q) : ∃ x, zgl lv i = some (.int x) ∧ q = (pc, lv, .int x :: st) := by
  unfold zld at h
  split at h
  · next x hx => exact ⟨x, hx, (Option.some.inj h).symm⟩
  all_goals cases h
theorem zld1_inv {pc i : Nat} {lv : List (Nat × Value)} {st : List Value} {q : zS} (h : zld 1 pc lv st i = some q) : ∃ x, zgl lv i = some (.long x) ∧ q = (pc, lv, .long x :: st) := by
  unfold zld at h
  split at h
  · cases h
  · next x hx => exact ⟨x, hx, (Option.some.inj h).symm⟩
  all_goals cases h
theorem zld2_inv {pc i : Nat} {lv : List (Nat × Value)} {st : List Value} {q : zS} (h : zld 2 pc lv st i = some q) : ∃ v, zgl lv i = some v ∧ q = (pc, lv, v :: st) ∧ ((∃ x, v = .ref x) ∨ v = .null ∨ ∃ x, v = .retAddr x) := by
  unfold zld at h
  split at h
  · cases h
  · cases h
  · next x hx => exact ⟨_, hx, (Option.some.inj h).symm, Or.inl ⟨x, rfl⟩⟩
  · next hx => exact ⟨_, hx, (Option.some.inj h).symm, Or.inr (Or.inl rfl)⟩
  · next x hx => exact ⟨_, hx, (Option.some.inj h).symm, Or.inr (Or.inr ⟨x, rfl⟩)⟩
  · cases h
theorem zsi_inv {pc i : Nat} {lv : List (Nat × Value)} {st : List Value} {q : zS} (h : zsi pc lv st i = some q) : ∃ x r, st = .int x :: r ∧ q = (pc, zst lv i (.int x), r) := by
  unfold zsi at h
  split at h
  · exact ⟨_, _, rfl, (Option.some.inj h).symm⟩
  · cases h
theorem zsl_inv {pc i : Nat} {lv : List (Nat × Value)} {st : List Value} {q : zS} (h : zsl pc lv st i = some q) : ∃ x r, st = .long x :: r ∧ q = (pc, zst2 lv i (.long x), r) := by
  unfold zsl at h
  split at h
  · exact ⟨_, _, rfl, (Option.some.inj h).symm⟩
  · cases h
theorem zsa_inv {pc i : Nat} {lv : List (Nat × Value)} {st : List Value} {q : zS} (h : zsa pc lv st i = some q) : ∃ r, (∃ x, st = .ref x :: r ∧ q = (pc, zst lv i (.ref x), r)) ∨ (st = .null :: r ∧ q = (pc, zst lv i .null, r)) := by
  unfold zsa at h
  split at h
  · exact ⟨_, Or.inl ⟨_, rfl, (Option.some.inj h).symm⟩⟩
  · exact ⟨_, Or.inr ⟨rfl, (Option.some.inj h).symm⟩⟩
  · cases h
theorem zinc_inv {pc i : Nat} {n : Int} {lv : List (Nat × Value)} {st : List Value} {q : zS} (h : zinc pc lv st i n = some q) : ∃ x, zgl lv i = some (.int x) ∧ q = (pc, zst lv i (.int (x + Int32.ofInt n)), st) := by
  unfold zinc at h
  split at h
  · next x hx => exact ⟨x, hx, (Option.some.inj h).symm⟩
  · cases h
theorem zone_cat {sa b : Nat} {v : Value} (h : zone v = true) : (zt sa b v).category = 1 := by
  cases v <;> first | rfl | cases h
theorem zd0_inv {pc : Nat} {lv : List (Nat × Value)} {st : List Value} {q : zS} (h : zd0 pc lv st = some q) : ∃ v r, st = v :: r ∧ zone v = true ∧ q = (pc, lv, v :: v :: r) := by
  unfold zd0 at h
  split at h
  · split at h
    · next hv => exact ⟨_, _, rfl, hv, (Option.some.inj h).symm⟩
    · cases h
  · cases h
theorem zpo_inv {pc : Nat} {lv : List (Nat × Value)} {st : List Value} {q : zS} (h : zpo pc lv st = some q) : ∃ v r, st = v :: r ∧ zone v = true ∧ q = (pc, lv, r) := by
  unfold zpo at h
  split at h
  · split at h
    · next hv => exact ⟨_, _, rfl, hv, (Option.some.inj h).symm⟩
    · cases h
  · cases h
theorem zdx1_inv {pc : Nat} {lv : List (Nat × Value)} {st : List Value} {q : zS} (h : zdx1 pc lv st = some q) : ∃ v w r, st = v :: w :: r ∧ zone v = true ∧ zone w = true ∧ q = (pc, lv, v :: w :: v :: r) := by
  unfold zdx1 at h
  split at h
  · split at h
    · next hv => exact ⟨_, _, _, rfl, (Bool.and_eq_true_iff.mp hv).1, (Bool.and_eq_true_iff.mp hv).2, (Option.some.inj h).symm⟩
    · cases h
  · cases h
theorem zd2_inv {pc : Nat} {lv : List (Nat × Value)} {st : List Value} {q : zS} (h : zd2 pc lv st = some q) : ∃ v w r, st = v :: w :: r ∧ zone v = true ∧ zone w = true ∧ q = (pc, lv, v :: w :: v :: w :: r) := by
  unfold zd2 at h
  split at h
  · split at h
    · next hv => exact ⟨_, _, _, rfl, (Bool.and_eq_true_iff.mp hv).1, (Bool.and_eq_true_iff.mp hv).2, (Option.some.inj h).symm⟩
    · cases h
  · cases h
theorem zdx2_inv {pc : Nat} {lv : List (Nat × Value)} {st : List Value} {q : zS} (h : zdx2 pc lv st = some q) : ∃ v w u r, st = v :: w :: u :: r ∧ zone v = true ∧ zone w = true ∧ zone u = true ∧ q = (pc, lv, v :: w :: u :: v :: r) := by
  unfold zdx2 at h
  split at h
  · split at h
    · next hv =>
      have h1 := Bool.and_eq_true_iff.mp hv
      have h2 := Bool.and_eq_true_iff.mp h1.2
      exact ⟨_, _, _, _, rfl, h1.1, h2.1, h2.2, (Option.some.inj h).symm⟩
    · cases h
  · cases h
theorem zki_inv {pc : Nat} {lv : List (Nat × Value)} {st : List Value} {v : Value} {q : zS} (h : zki pc lv st v = some q) : ∃ x, v = .int x ∧ q = (pc, lv, .int x :: st) := by
  unfold zki at h
  split at h
  · exact ⟨_, rfl, (Option.some.inj h).symm⟩
  · cases h
theorem zkl_inv {pc : Nat} {lv : List (Nat × Value)} {st : List Value} {v : Value} {q : zS} (h : zkl pc lv st v = some q) : ∃ x, v = .long x ∧ q = (pc, lv, .long x :: st) := by
  unfold zkl at h
  split at h
  · exact ⟨_, rfl, (Option.some.inj h).symm⟩
  · cases h
theorem ztsw_inv {pc : Nat} {d lo hi : Int} {offs : Array Int} {lv : List (Nat × Value)} {st : List Value} {q : zS} (h : ztsw pc d lo hi offs lv st = some q) :
    ∃ x r, st = .int x :: r ∧ (((x.toInt < lo ∨ hi < x.toInt) ∧ zgo pc d lv r = some q) ∨ (¬ x.toInt < lo ∧ ¬ hi < x.toInt ∧ ∃ off, offs[(x.toInt - lo).toNat]? = some off ∧ zgo pc off lv r = some q)) := by
  unfold ztsw at h
  split at h
  · next x r =>
    refine ⟨x, r, rfl, ?_⟩
    split at h
    · next hc =>
      rcases Bool.or_eq_true_iff.mp hc with hc | hc
      · exact Or.inl ⟨Or.inl (of_decide_eq_true hc), h⟩
      · exact Or.inl ⟨Or.inr (of_decide_eq_true hc), h⟩
    · next hc =>
      have h2 := Bool.or_eq_false_iff.mp hc
      split at h
      · next off ho => exact Or.inr ⟨of_decide_eq_false h2.1, of_decide_eq_false h2.2, off, ho, h⟩
      · cases h
  · cases h
end
section
theorem zdf_map (sa b a : Nat) {C : vw_C} (h : zcl[a]? = some C) : (zdf a).map (zt sa b) = zdf a := by
  match a, h with
  | 0, _ => rfl
  | 1, _ => rfl
  | 2, _ => rfl
  | 3, _ => rfl
  | 4, _ => rfl
  | 5, _ => rfl
  | 6, _ => rfl
  | 7, _ => rfl
  | 8, _ => rfl
  | n + 9, h => exact absurd h (by simp [zcl])
end
section
-- steps that leave the heap alone
section ZP
variable {p : Program} {l : Launch} {e : Env} {R : Room} {s : State} {m : MethodId} {args : Array Value} {below : List Frame} {meth : Method} {c : Code} {H : Heap} {locs : List Loc} {cells slots : Nat} {Q : State → Prop}
variable {cc : ByteArray} {own : String} {sa b nL pc n a0 b0 w0 : Nat} {ini : Bool} {kv : Value} {lv : List (Nat × Value)} {st : List Value} {ls : Array Slot} {q : zS}
set_option maxHeartbeats 4000000 in
theorem zp_s {i : Jvm.ClassFile.Instr} (hx : p.tables.exec = Jvm.exec) (hb : c.code = cc) (hown : s.vm.findClass own = some m.cls) (hts : ∀ w ∈ zlw, w.before args s = true)
    (hd : decode cc pc = .ok (i, zlen i n)) (hk : zlnk own nL ini i a0 b0 w0 kv = true) (hl : lv_has ls nL (lv.map (ztl sa b))) (h : zp i kv pc lv st = some q)
    (kk : ∀ ls', lv_has ls' nL (q.2.1.map (ztl sa b)) → W p l e R s m args below meth c H locs cells slots Q (F0 m q.1 ls' (q.2.2.map (zt sa b)))) :
    W p l e R s m args below meth c H locs cells slots Q (F0 m pc ls (st.map (zt sa b))) := by
  cases i with
  | iconst k => obtain rfl := Option.some.inj h; exact lv_iconst hx hb hd rfl (kk ls hl)
  | bipush k => obtain rfl := Option.some.inj h; exact lv_bipush hx hb hd rfl (kk ls hl)
  | sipush k => obtain rfl := Option.some.inj h; exact lv_sipush hx hb hd rfl (kk ls hl)
  | lconst k => obtain rfl := Option.some.inj h; exact lv_lconst hx hb hd rfl (kk ls hl)
  | aconst_null => obtain rfl := Option.some.inj h; exact lv_null hx hb hd (kk ls hl)
  | ldc k =>
    obtain ⟨x, rfl, rfl⟩ := zki_inv h
    have hk : decide (lw_tbl[w0]? = some (Cond.constant own k x)) = true := hk
    exact lv_ldc hx hb hown (hts _ (zmm (of_decide_eq_true hk) rfl)) hd (kk ls hl)
  | ldc_w k =>
    obtain ⟨x, rfl, rfl⟩ := zki_inv h
    have hk : decide (lw_tbl[w0]? = some (Cond.constant own k x)) = true := hk
    exact lv_ldcw hx hb hown (hts _ (zmm (of_decide_eq_true hk) rfl)) hd (kk ls hl)
  | ldc2_w k =>
    obtain ⟨x, rfl, rfl⟩ := zkl_inv h
    have hk : decide (lw_tbl[w0]? = some (Cond.constantLong own k x)) = true := hk
    exact lv_ldc2 hx hb hown (hts _ (zmm (of_decide_eq_true hk) rfl)) hd (kk ls hl)
  | iload k => obtain ⟨x, hg, rfl⟩ := zld0_inv h; exact lv_iload hx hb hd (zgl_at hl hg) (kk ls hl)
  | iload_n k => obtain ⟨x, hg, rfl⟩ := zld0_inv h; exact lv_iload_n hx hb hd rfl (zgl_at hl hg) (kk ls hl)
  | lload k => obtain ⟨x, hg, rfl⟩ := zld1_inv h; exact lv_lload hx hb hd (zgl_at hl hg) (kk ls hl)
  | lload_n k => obtain ⟨x, hg, rfl⟩ := zld1_inv h; exact lv_lload_n hx hb hd rfl (zgl_at hl hg) (kk ls hl)
  | aload k =>
    obtain ⟨v, hg, rfl, hv⟩ := zld2_inv h
    rcases hv with ⟨x, rfl⟩ | rfl | ⟨x, rfl⟩
    · exact lv_aload hx hb hd (zgl_at hl hg) (kk ls hl)
    · exact lv_aloadN hx hb hd (zgl_at hl hg) (kk ls hl)
    · exact lv_aload hx hb hd (zgl_at hl hg) (kk ls hl)
  | aload_n k =>
    obtain ⟨v, hg, rfl, hv⟩ := zld2_inv h
    rcases hv with ⟨x, rfl⟩ | rfl | ⟨x, rfl⟩
    · exact lv_aload_n hx hb hd rfl (zgl_at hl hg) (kk ls hl)
    · exact lv_aload_nN hx hb hd rfl (zgl_at hl hg) (kk ls hl)
    · exact lv_aload_n hx hb hd rfl (zgl_at hl hg) (kk ls hl)
  | istore k => obtain ⟨x, r, rfl, rfl⟩ := zsi_inv h; exact lv_istore hx hb hd hl (Nat.le_of_ble_eq_true hk) (zst_map sa b lv k (.int x)) kk
  | istore_n k => obtain ⟨x, r, rfl, rfl⟩ := zsi_inv h; exact lv_istore_n hx hb hd rfl hl (Nat.le_of_ble_eq_true hk) (zst_map sa b lv k.val (.int x)) kk
  | lstore k => obtain ⟨x, r, rfl, rfl⟩ := zsl_inv h; exact lv_lstore hx hb hd hl (Nat.le_of_ble_eq_true hk) (zst2_map sa b lv k (.long x)) kk
  | lstore_n k => obtain ⟨x, r, rfl, rfl⟩ := zsl_inv h; exact lv_lstore_n hx hb hd rfl hl (Nat.le_of_ble_eq_true hk) (zst2_map sa b lv k.val (.long x)) kk
  | astore k =>
    obtain ⟨r, hq⟩ := zsa_inv h
    rcases hq with ⟨x, rfl, rfl⟩ | ⟨rfl, rfl⟩
    · exact lv_astore hx hb hd hl (Nat.le_of_ble_eq_true hk) (zst_map sa b lv k (.ref x)) kk
    · exact lv_astoreN hx hb hd hl (Nat.le_of_ble_eq_true hk) (zst_map sa b lv k .null) kk
  | astore_n k =>
    obtain ⟨r, hq⟩ := zsa_inv h
    rcases hq with ⟨x, rfl, rfl⟩ | ⟨rfl, rfl⟩
    · exact lv_astore_n hx hb hd rfl hl (Nat.le_of_ble_eq_true hk) (zst_map sa b lv k.val (.ref x)) kk
    · exact lv_astore_nN hx hb hd rfl hl (Nat.le_of_ble_eq_true hk) (zst_map sa b lv k.val .null) kk
  | iinc k d =>
    obtain ⟨x, hg, rfl⟩ := zinc_inv h
    obtain ⟨k0, hk0⟩ := List.getElem?_of_mem (List.mem_map.mpr ⟨(k, .int x), zgl_mem hg, rfl⟩ : (k, Value.int x) ∈ lv.map (ztl sa b))
    exact lv_iinc hx hb hd hl hk0 rfl (Nat.le_of_ble_eq_true hk) (zst_map sa b lv k (.int (x + Int32.ofInt d))) kk
  | iadd => obtain ⟨x, y, r, rfl, rfl⟩ := zi2_inv h; exact lv_iadd hx hb hd (kk ls hl)
  | isub => obtain ⟨x, y, r, rfl, rfl⟩ := zi2_inv h; exact lv_isub hx hb hd (kk ls hl)
  | imul => obtain ⟨x, y, r, rfl, rfl⟩ := zi2_inv h; exact lv_imul hx hb hd (kk ls hl)
  | iand => obtain ⟨x, y, r, rfl, rfl⟩ := zi2_inv h; exact lv_iand hx hb hd (kk ls hl)
  | ior => obtain ⟨x, y, r, rfl, rfl⟩ := zi2_inv h; exact lv_ior hx hb hd (kk ls hl)
  | ixor => obtain ⟨x, y, r, rfl, rfl⟩ := zi2_inv h; exact lv_ixor hx hb hd (kk ls hl)
  | ishl => obtain ⟨x, y, r, rfl, rfl⟩ := zi2_inv h; exact lv_ishl hx hb hd (kk ls hl)
  | ishr => obtain ⟨x, y, r, rfl, rfl⟩ := zi2_inv h; exact lv_ishr hx hb hd (kk ls hl)
  | iushr => obtain ⟨x, y, r, rfl, rfl⟩ := zi2_inv h; exact lv_iushr hx hb hd rfl (kk ls hl)
  | ladd => obtain ⟨x, y, r, rfl, rfl⟩ := zl2_inv h; exact lv_ladd hx hb hd (kk ls hl)
  | lsub => obtain ⟨x, y, r, rfl, rfl⟩ := zl2_inv h; exact lv_lsub hx hb hd (kk ls hl)
  | lmul => obtain ⟨x, y, r, rfl, rfl⟩ := zl2_inv h; exact lv_lmul hx hb hd (kk ls hl)
  | land => obtain ⟨x, y, r, rfl, rfl⟩ := zl2_inv h; exact lv_land hx hb hd (kk ls hl)
  | lor => obtain ⟨x, y, r, rfl, rfl⟩ := zl2_inv h; exact lv_lor hx hb hd (kk ls hl)
  | lcmp => obtain ⟨x, y, r, rfl, rfl⟩ := zl2_inv h; exact W.lcmp hx hb hd (kk ls hl)
  | idiv => obtain ⟨x, y, r, rfl, hne, rfl⟩ := zdv_inv h; exact lv_idiv hx hb hd hne (kk ls hl)
  | irem => obtain ⟨x, y, r, rfl, hne, rfl⟩ := zdv_inv h; exact lv_irem hx hb hd hne (kk ls hl)
  | ldiv => obtain ⟨x, y, r, rfl, hne, rfl⟩ := zdvl_inv h; exact lv_ldiv hx hb hd hne (kk ls hl)
  | lrem => obtain ⟨x, y, r, rfl, hne, rfl⟩ := zdvl_inv h; exact lv_lrem hx hb hd hne (kk ls hl)
  | ineg => obtain ⟨x, r, rfl, rfl⟩ := zi1_inv h; exact lv_ineg hx hb hd (kk ls hl)
  | i2l => obtain ⟨x, r, rfl, rfl⟩ := zi1_inv h; exact lv_i2l hx hb hd rfl (kk ls hl)
  | i2b => obtain ⟨x, r, rfl, rfl⟩ := zi1_inv h; exact lv_i2b hx hb hd rfl (kk ls hl)
  | lneg => obtain ⟨x, r, rfl, rfl⟩ := zl1_inv h; exact lv_lneg hx hb hd (kk ls hl)
  | l2i => obtain ⟨x, r, rfl, rfl⟩ := zl1_inv h; exact lv_l2i hx hb hd rfl (kk ls hl)
  | dup => obtain ⟨v, r, rfl, hv, rfl⟩ := zd0_inv h; exact lv_dup hx hb hd (zone_cat hv) (kk ls hl)
  | dup_x1 => obtain ⟨v, w, r, rfl, hv, hw, rfl⟩ := zdx1_inv h; exact lv_dup_x1 hx hb hd (zone_cat hv) (zone_cat hw) (kk ls hl)
  | dup_x2 => obtain ⟨v, w, u, r, rfl, hv, hw, hu, rfl⟩ := zdx2_inv h; exact lv_dup_x2 hx hb hd (zone_cat hv) (zone_cat hw) (zone_cat hu) (kk ls hl)
  | dup2 => obtain ⟨v, w, r, rfl, hv, hw, rfl⟩ := zd2_inv h; exact lv_dup2_11 hx hb hd (zone_cat hv) (zone_cat hw) (kk ls hl)
  | pop => obtain ⟨v, r, rfl, hv, rfl⟩ := zpo_inv h; exact lv_pop hx hb hd (zone_cat hv) (kk ls hl)
  | goto off => obtain ⟨t, ht, rfl⟩ := zgo_inv h; exact lv_goto hx hb hd ht (kk ls hl)
  | ifCond cnd off =>
    obtain ⟨x, r, rfl, hz⟩ := zb1_inv h
    obtain ⟨t, ht, hq⟩ := zbr_inv hz
    cases cnd
    · refine lv_if_eq hx hb hd ht (fun hc => ?_) (fun hc => ?_) <;> rcases hq with ⟨hT, rfl⟩ | ⟨hT, rfl⟩ <;> first | exact kk ls hl | exact absurd hc (of_decide_eq_false hT) | exact absurd (of_decide_eq_true hT) hc | exact absurd hc (of_decide_eq_true hT)
    · refine lv_if_ne hx hb hd ht (fun hc => ?_) (fun hc => ?_) <;> rcases hq with ⟨hT, rfl⟩ | ⟨hT, rfl⟩ <;> first | exact kk ls hl | exact absurd hc (of_decide_eq_false hT) | exact absurd (of_decide_eq_true hT) hc | exact absurd hc (of_decide_eq_true hT)
    · refine lv_if_lt hx hb hd ht (fun hc => ?_) (fun hc => ?_) <;> rcases hq with ⟨hT, rfl⟩ | ⟨hT, rfl⟩ <;> first | exact kk ls hl | exact absurd hc (of_decide_eq_false hT) | exact absurd (of_decide_eq_true hT) hc | exact absurd hc (of_decide_eq_true hT)
    · refine lv_if_ge hx hb hd ht (fun hc => ?_) (fun hc => ?_) <;> rcases hq with ⟨hT, rfl⟩ | ⟨hT, rfl⟩ <;> first | exact kk ls hl | exact absurd hc (of_decide_eq_false hT) | exact absurd (of_decide_eq_true hT) hc | exact absurd hc (of_decide_eq_true hT)
    · refine lv_if_gt hx hb hd ht (fun hc => ?_) (fun hc => ?_) <;> rcases hq with ⟨hT, rfl⟩ | ⟨hT, rfl⟩ <;> first | exact kk ls hl | exact absurd hc (of_decide_eq_false hT) | exact absurd (of_decide_eq_true hT) hc | exact absurd hc (of_decide_eq_true hT)
    · refine lv_if_le hx hb hd ht (fun hc => ?_) (fun hc => ?_) <;> rcases hq with ⟨hT, rfl⟩ | ⟨hT, rfl⟩ <;> first | exact kk ls hl | exact absurd hc (of_decide_eq_false hT) | exact absurd (of_decide_eq_true hT) hc | exact absurd hc (of_decide_eq_true hT)
  | if_icmp cnd off =>
    obtain ⟨x, y, r, rfl, hz⟩ := zb2_inv h
    obtain ⟨t, ht, hq⟩ := zbr_inv hz
    cases cnd
    · refine lv_icmp_eq hx hb hd ht (fun hc => ?_) (fun hc => ?_) <;> rcases hq with ⟨hT, rfl⟩ | ⟨hT, rfl⟩ <;> first | exact kk ls hl | exact absurd hc (of_decide_eq_false hT) | exact absurd (of_decide_eq_true hT) hc | exact absurd hc (of_decide_eq_true hT)
    · refine lv_icmp_ne hx hb hd ht (fun hc => ?_) (fun hc => ?_) <;> rcases hq with ⟨hT, rfl⟩ | ⟨hT, rfl⟩ <;> first | exact kk ls hl | exact absurd hc (of_decide_eq_false hT) | exact absurd (of_decide_eq_true hT) hc | exact absurd hc (of_decide_eq_true hT)
    · refine lv_icmp_lt hx hb hd ht (fun hc => ?_) (fun hc => ?_) <;> rcases hq with ⟨hT, rfl⟩ | ⟨hT, rfl⟩ <;> first | exact kk ls hl | exact absurd hc (of_decide_eq_false hT) | exact absurd (of_decide_eq_true hT) hc | exact absurd hc (of_decide_eq_true hT)
    · refine lv_icmp_ge hx hb hd ht (fun hc => ?_) (fun hc => ?_) <;> rcases hq with ⟨hT, rfl⟩ | ⟨hT, rfl⟩ <;> first | exact kk ls hl | exact absurd hc (of_decide_eq_false hT) | exact absurd (of_decide_eq_true hT) hc | exact absurd hc (of_decide_eq_true hT)
    · refine lv_icmp_gt hx hb hd ht (fun hc => ?_) (fun hc => ?_) <;> rcases hq with ⟨hT, rfl⟩ | ⟨hT, rfl⟩ <;> first | exact kk ls hl | exact absurd hc (of_decide_eq_false hT) | exact absurd (of_decide_eq_true hT) hc | exact absurd hc (of_decide_eq_true hT)
    · refine lv_icmp_le hx hb hd ht (fun hc => ?_) (fun hc => ?_) <;> rcases hq with ⟨hT, rfl⟩ | ⟨hT, rfl⟩ <;> first | exact kk ls hl | exact absurd hc (of_decide_eq_false hT) | exact absurd (of_decide_eq_true hT) hc | exact absurd hc (of_decide_eq_true hT)
  | ifnull off =>
    obtain ⟨r, hq⟩ := zbn_inv h
    rcases hq with ⟨rfl, hz⟩ | ⟨k, rfl, hz⟩ <;> obtain ⟨t, ht, hq⟩ := zbr_inv hz <;> rcases hq with ⟨hT, rfl⟩ | ⟨hT, rfl⟩
    · exact lv_ifnullN hx hb hd ht (kk ls hl)
    · cases hT
    · cases hT
    · exact lv_ifnull hx hb hd (kk ls hl)
  | ifnonnull off =>
    obtain ⟨r, hq⟩ := zbn_inv h
    rcases hq with ⟨rfl, hz⟩ | ⟨k, rfl, hz⟩ <;> obtain ⟨t, ht, hq⟩ := zbr_inv hz <;> rcases hq with ⟨hT, rfl⟩ | ⟨hT, rfl⟩
    · cases hT
    · exact lv_ifnonnullN hx hb hd (kk ls hl)
    · exact lv_ifnonnull hx hb hd ht (kk ls hl)
    · cases hT
  | tableswitch d lo hi offs =>
    obtain ⟨x, r, rfl, hq⟩ := ztsw_inv h
    rcases hq with ⟨ho, hg⟩ | ⟨h1, h2, off, ho, hg⟩
    · obtain ⟨t, ht, rfl⟩ := zgo_inv hg; exact lv_tableOut hx hb hd ho ht (kk ls hl)
    · obtain ⟨t, ht, rfl⟩ := zgo_inv hg; exact lv_tableIn hx hb hd h1 h2 ho ht (kk ls hl)
  | _ => exact znq h
end ZP
end
section
-- the heap of the abstract machine lies in the heap from b on
def zat (D : va_G) (tc : Nat → ClassId) (sa b k : Nat) (e : zC) (H : Heap) : Prop := match e with
  | .inl q => H[b + k]? = some (arrV (tc q.1) q.2.length (fun j => zt sa b (q.2.getD j .null)))
  | .inr o => va_at D zcl (b + k, .inr (o.1, o.2.map (zt sa b))) H
theorem zat.kept {D : va_G} {tc : Nat → ClassId} {sa b k : Nat} {e : zC} {H H1 : Heap} (h : zat D tc sa b k e H) (hq : H1[b + k]? = H[b + k]?) : zat D tc sa b k e H1 := by
  cases e with
  | inl q => exact hq.trans h
  | inr o => exact va_at.kept (q := (b + k, .inr (o.1, o.2.map (zt sa b)))) h hq
def zR (D : va_G) (tc : Nat → ClassId) (sa b : Nat) (h : List zC) (H : Heap) : Prop := H.size = b + h.length ∧ ∀ (k : Nat) (e : zC), h[k]? = some e → zat D tc sa b k e H
theorem zR.set {D : va_G} {tc : Nat → ClassId} {sa b k : Nat} {h : List zC} {e0 e : zC} {H H1 : Heap} (hR : zR D tc sa b h H) (hk : h[k]? = some e0) (z : H1.size = H.size) (oq : ∀ q : Nat, q ≠ b + k → H1[q]? = H[q]?) (he : zat D tc sa b k e H1) : zR D tc sa b (h.set k e) H1 := by
  refine ⟨by rw [z, hR.1, List.length_set], fun j x hj => ?_⟩
  by_cases hjk : j = k
  · rw [hjk] at hj ⊢
    rw [List.getElem?_set_self (List.getElem?_eq_some_iff.mp hk).1] at hj
    rw [← Option.some.inj hj]
    exact he
  · rw [List.getElem?_set_ne (Ne.symm hjk)] at hj
    exact (hR.2 j x hj).kept (oq _ (by omega))
theorem zR.push {D : va_G} {tc : Nat → ClassId} {sa b : Nat} {h : List zC} {e : zC} {H H1 : Heap} (hR : zR D tc sa b h H) (z : H1.size = H.size + 1) (oq : ∀ q : Nat, q < H.size → H1[q]? = H[q]?) (he : zat D tc sa b h.length e H1) : zR D tc sa b (h ++ [e]) H1 := by
  refine ⟨by rw [z, hR.1, List.length_append]; rfl, fun j x hj => ?_⟩
  by_cases hl : j < h.length
  · rw [List.getElem?_append_left hl] at hj
    exact (hR.2 j x hj).kept (oq _ (by rw [hR.1]; omega))
  · have hj2 : j < (h ++ [e]).length := (List.getElem?_eq_some_iff.mp hj).1
    rw [List.length_append] at hj2
    have hj3 : j = h.length := by simp at hj2; omega
    rw [hj3] at hj ⊢
    rw [List.getElem?_append_right (Nat.le_refl _), Nat.sub_self] at hj
    rw [← Option.some.inj hj]
    exact he
theorem zP1 {D : va_G} {cl : List vw_C} {q : Nat × va_E} {H : Heap} (h : va_at D cl q H) : va_P D cl [q] H := fun k x hk => by
  cases k with
  | zero => rw [← Option.some.inj hk]; exact h
  | succ k => simp at hk
theorem arrV_cg (cA : ClassId) {N : Nat} {f g : Nat → Value} (h : ∀ j, j < N → f j = g j) : arrV cA N f = arrV cA N g := by
  unfold arrV
  congr 2
  funext j
  exact h j.val j.isLt
theorem zt_up (sa b : Nat) (cA : ClassId) (l : List Value) (k : Nat) (v : Value) : arrV cA (l.set k v).length (fun j => zt sa b ((l.set k v).getD j .null)) = (arrV cA l.length (fun j => zt sa b (l.getD j .null))).setSlot k (zt sa b v) := by
  rw [arrV_store, List.length_set]
  apply arrV_cg
  intro j hj
  unfold updV
  by_cases hk : j = k
  · subst hk
    simp [List.getD_eq_getElem?_getD, hj]
  · simp [List.getD_eq_getElem?_getD, List.getElem?_set_ne (Ne.symm hk), hk]
theorem zgd {l : List Value} {k : Nat} {v : Value} (h : l[k]? = some v) : l.getD k .null = v := by
  rw [List.getD_eq_getElem?_getD, h]
  rfl
theorem zgf_inv {a b pc : Nat} {h : List zC} {lv : List (Nat × Value)} {st : List Value} {q : zS} (hz : zgf a b h pc lv st = some q) : ∃ u r fs v, st = .ref u :: r ∧ h[u]? = some (.inr (a, fs)) ∧ fs[b]? = some v ∧ q = (pc, lv, v :: r) := by
  unfold zgf at hz
  split at hz
  · next u r =>
    split at hz
    · next o ho =>
      split at hz
      · next hb =>
        split at hz
        · next v hv =>
          have e : o.1 = a := Nat.eq_of_beq_eq_true hb
          exact ⟨u, r, o.2, v, rfl, by rw [ho, ← e], hv, (Option.some.inj hz).symm⟩
        · cases hz
      · cases hz
    · cases hz
  · cases hz
theorem zal_inv {t0 : Nat → Bool} {xs : zX} {pc : Nat} {h : List zC} {lv : List (Nat × Value)} {st : List Value} {q : zS} (hz : zal t0 xs h pc lv st = some q) :
    (∃ j u r t l v, st = .int j :: .ref u :: r ∧ h[u]? = some (.inl (t, l)) ∧ t0 t = true ∧ ¬ (j < 0 ∨ l.length ≤ j.toNatClampNeg) ∧ l[j.toNatClampNeg]? = some v ∧ q = (pc, lv, v :: r)) ∨
    (∃ j u r x, st = .int j :: .retAddr u :: r ∧ xs = some x ∧ t0 0 = true ∧ ¬ (j < 0 ∨ x.1 ≤ j.toNatClampNeg) ∧ q = (pc, lv, .int (x.2 j.toNatClampNeg) :: r)) := by
  unfold zal at hz
  split at hz
  · next j u r =>
    split at hz
    · next o ho =>
      split at hz
      · next hb =>
        have h2 := Bool.and_eq_true_iff.mp hb
        split at hz
        · next v hv => exact Or.inl ⟨j, u, r, o.1, o.2, v, rfl, ho, h2.1, of_decide_eq_true h2.2, hv, (Option.some.inj hz).symm⟩
        · cases hz
      · cases hz
    · cases hz
  · next j u r =>
    split at hz
    · next x =>
      split at hz
      · next hb =>
        have h2 := Bool.and_eq_true_iff.mp hb
        exact Or.inr ⟨j, u, r, x, rfl, rfl, h2.1, of_decide_eq_true h2.2, (Option.some.inj hz).symm⟩
      · cases hz
    · cases hz
  · cases hz
theorem zle_inv {xs : zX} {pc : Nat} {h : List zC} {lv : List (Nat × Value)} {st : List Value} {q : zS} (hz : zle xs h pc lv st = some q) :
    (∃ u r t l, st = .ref u :: r ∧ h[u]? = some (.inl (t, l)) ∧ t < zNT ∧ q = (pc, lv, .int (Int32.ofNat l.length) :: r)) ∨ (∃ u r x, st = .retAddr u :: r ∧ xs = some x ∧ q = (pc, lv, .int (Int32.ofNat x.1) :: r)) := by
  unfold zle at hz
  split at hz
  · next u r =>
    split at hz
    · next o ho =>
      split at hz
      · next hb => exact Or.inl ⟨u, r, o.1, o.2, rfl, ho, Nat.le_of_ble_eq_true hb, (Option.some.inj hz).symm⟩
      · cases hz
    · cases hz
  · next u r =>
    split at hz
    · next x => exact Or.inr ⟨u, r, x, rfl, rfl, (Option.some.inj hz).symm⟩
    · cases hz
  · cases hz
theorem zcc_inv {pc : Nat} {h : List zC} {lv : List (Nat × Value)} {st : List Value} {q : zS} (hz : zcc h pc lv st = some q) : ∃ k r l, st = .ref k :: r ∧ h[k]? = some (.inl (0, l)) ∧ q = (pc, lv, .ref k :: r) := by
  unfold zcc at hz
  split at hz
  · next k r =>
    split at hz
    · next o ho =>
      split at hz
      · next hb =>
        have e : o.1 = 0 := Nat.eq_of_beq_eq_true hb
        exact ⟨k, r, o.2, rfl, by rw [ho, ← e], (Option.some.inj hz).symm⟩
      · cases hz
    · cases hz
  · cases hz
theorem zlF_inv {own : String} {i a b w : Nat} (h : zlF own i a b w = true) : ∃ C, zcl[a]? = some C ∧ b < C.2.2 ∧ Cond.fieldLink own i (C.2.1 b).1 (C.2.1 b).2.1 (C.2.1 b).2.2.1 ∈ zlw := by
  unfold zlF at h
  split at h
  · next C hC =>
    have h2 := Bool.and_eq_true_iff.mp h
    exact ⟨C, hC, Nat.le_of_ble_eq_true h2.1, zmm (of_decide_eq_true h2.2) rfl⟩
  · cases h
section ZH
variable {p : Program} {l : Launch} {e : Env} {R : Room} {s : State} {m : MethodId} {args : Array Value} {below : List Frame} {meth : Method} {c : Code} {H : Heap} {locs : List Loc} {cells slots : Nat} {Q : State → Prop}
variable {cc : ByteArray} {own : String} {sa b nL pc n a0 b0 w0 : Nat} {ini : Bool} {kv : Value} {lv : List (Nat × Value)} {st : List Value} {ls : Array Slot} {q : zS}
variable {D : va_G} {tc : Nat → ClassId} {h : List zC} {xs : zX}
set_option maxHeartbeats 4000000 in
theorem zr_s {i : Jvm.ClassFile.Instr} (hx : p.tables.exec = Jvm.exec) (hb : c.code = cc) (hown : s.vm.findClass own = some m.cls) (hts : ∀ w ∈ zlw, w.before args s = true) (hK : va_K D zcl (ztys tc) s) (hR : zR D tc sa b h H) (hX : ∀ x, xs = some x → va_X sa x.1 x.2 s H)
    (hd : decode cc pc = .ok (i, zlen i n)) (hk : zlnk own nL ini i a0 b0 w0 kv = true) (hl : lv_has ls nL (lv.map (ztl sa b))) (hz : zr i a0 b0 xs h pc lv st = some q)
    (kk : ∀ ls', lv_has ls' nL (q.2.1.map (ztl sa b)) → W p l e R s m args below meth c H locs cells slots Q (F0 m q.1 ls' (q.2.2.map (zt sa b)))) :
    W p l e R s m args below meth c H locs cells slots Q (F0 m pc ls (st.map (zt sa b))) := by
  cases i with
  | getfield k =>
    obtain ⟨u, r, fs, v, rfl, hu, hv, rfl⟩ := zgf_inv (show zgf a0 b0 h (pc + 3) lv st = some q from hz)
    obtain ⟨C, hC, hbN, hfl⟩ := zlF_inv (show zlF own k a0 b0 w0 = true from hk)
    have hat : va_at D zcl (b + u, .inr (a0, fs.map (zt sa b))) H := hR.2 u _ hu
    exact va_get (D := D) (ci := a0) (C := C.1) (T := C.2.1) (N := C.2.2) hx hb hts (zcl_ok a0 hC).1 hown hK (zP1 hat) 0 rfl hC b0 hbN (hts _ hfl) (fun _ h9 => h9) (v := zt sa b v) (by rw [List.getElem?_map, hv]; rfl) hd (kk ls hl)
  | iaload =>
    rcases zal_inv (show zal (fun t => Nat.beq t 0) xs h (pc + 1) lv st = some q from hz) with ⟨j, u, r, t, l, v, rfl, hu, ht, hin, hv, rfl⟩ | ⟨j, u, r, x, rfl, hxs, ht, hin, rfl⟩
    · obtain rfl : t = 0 := Nat.eq_of_beq_eq_true ht
      have hc : H[b + u]? = some (arrV (tc 0) l.length (fun j => zt sa b (l.getD j .null))) := hR.2 u _ hu
      have hlt : j.toNatClampNeg < l.length := Nat.not_le.mp fun x => hin (Or.inr x)
      exact W.iald (v := zt sa b v) hx hb hc ((hK.2 0 (tc 0, .int) rfl).1 l.length _) (fun x => by cases x) (by rw [arrV_size]; exact hin) (by rw [arrV_read _ _ hlt, zgd hv]) rfl rfl hd (kk ls hl)
    · obtain ⟨scr, h1, h2, h3, h4, h5⟩ := hX x hxs
      have hlt : j.toNatClampNeg < x.1 := Nat.not_le.mp fun y => hin (Or.inr y)
      exact W.iald (v := .int (x.2 j.toNatClampNeg)) hx hb h1 h2 h3 (by rw [h4]; exact hin) (h5 _ hlt) rfl rfl hd (kk ls hl)
  | baload =>
    rcases zal_inv (show zal (fun t => Nat.beq t 1) xs h (pc + 1) lv st = some q from hz) with ⟨j, u, r, t, l, v, rfl, hu, ht, hin, hv, rfl⟩ | ⟨j, u, r, x, rfl, hxs, ht, hin, rfl⟩
    · obtain rfl : t = 1 := Nat.eq_of_beq_eq_true ht
      have hc : H[b + u]? = some (arrV (tc 1) l.length (fun j => zt sa b (l.getD j .null))) := hR.2 u _ hu
      have hlt : j.toNatClampNeg < l.length := Nat.not_le.mp fun x => hin (Or.inr x)
      exact W.zald (v := zt sa b v) hx hb hc ((hK.2 1 (tc 1, .boolean) rfl).1 l.length _) (fun x => by cases x) (by rw [arrV_size]; exact hin) (by rw [arrV_read _ _ hlt, zgd hv]) rfl rfl hd (kk ls hl)
    · cases ht
  | laload =>
    rcases zal_inv (show zal (fun t => Nat.beq t 2) xs h (pc + 1) lv st = some q from hz) with ⟨j, u, r, t, l, v, rfl, hu, ht, hin, hv, rfl⟩ | ⟨j, u, r, x, rfl, hxs, ht, hin, rfl⟩
    · obtain rfl : t = 2 := Nat.eq_of_beq_eq_true ht
      have hc : H[b + u]? = some (arrV (tc 2) l.length (fun j => zt sa b (l.getD j .null))) := hR.2 u _ hu
      have hlt : j.toNatClampNeg < l.length := Nat.not_le.mp fun x => hin (Or.inr x)
      exact W.lald (v := zt sa b v) hx hb hc ((hK.2 2 (tc 2, .long) rfl).1 l.length _) (fun x => by cases x) (by rw [arrV_size]; exact hin) (by rw [arrV_read _ _ hlt, zgd hv]) rfl rfl hd (kk ls hl)
    · cases ht
  | aaload =>
    rcases zal_inv (show zal zrt xs h (pc + 1) lv st = some q from hz) with ⟨j, u, r, t, l, v, rfl, hu, ht, hin, hv, rfl⟩ | ⟨j, u, r, x, rfl, hxs, ht, hin, rfl⟩
    · have hc : H[b + u]? = some (arrV (tc t) l.length (fun j => zt sa b (l.getD j .null))) := hR.2 u _ hu
      have hlt : j.toNatClampNeg < l.length := Nat.not_le.mp fun x => hin (Or.inr x)
      unfold zrt at ht
      split at ht
      · next c hc2 =>
        obtain ⟨C, -, -, hty⟩ := zte_ok hc2
        exact W.aald (v := zt sa b v) (ty := .object C.1) hx hb hc ((hK.2 t _ (hty tc)).1 l.length _) rfl (fun x => by cases x) (by rw [arrV_size]; exact hin) (by rw [arrV_read _ _ hlt, zgd hv]) rfl rfl hd (kk ls hl)
      · cases ht
    · cases ht
  | arraylength =>
    rcases zle_inv (show zle xs h (pc + 1) lv st = some q from hz) with ⟨u, r, t, l, rfl, hu, ht, rfl⟩ | ⟨u, r, x, rfl, hxs, rfl⟩
    · have hc : H[b + u]? = some (arrV (tc t) l.length (fun j => zt sa b (l.getD j .null))) := hR.2 u _ hu
      obtain ⟨ty, hty⟩ := ztys_ok ht tc
      exact W.alen hx hb hc ((hK.2 t _ hty).1 l.length _) (by rw [arrV_size]) rfl rfl hd (kk ls hl)
    · obtain ⟨scr, h1, h2, h3, h4, h5⟩ := hX x hxs
      exact W.alen hx hb h1 h2 (by rw [h4]) rfl rfl hd (kk ls hl)
  | checkcast k =>
    obtain ⟨u, r, l, rfl, hu, rfl⟩ := zcc_inv (show zcc h (pc + 3) lv st = some q from hz)
    have hc : H[b + u]? = some (arrV (tc 0) l.length (fun j => zt sa b (l.getD j .null))) := hR.2 u _ hu
    have hlk : Cond.classLink own k "[I" ∈ zlw := zmm (of_decide_eq_true (show decide (lw_tbl[w0]? = some (Cond.classLink own k "[I")) = true from hk)) rfl
    have hnm : s.vm.findClass "[I" = some (tc 0) := (hK.2 0 (tc 0, .int) rfl).2
    intro T hT X
    obtain ⟨vm', X', step⟩ := X.checkcastYes hx hown (hts _ hlk) (by rw [hT]; exact hc) rfl hnm (va_asg _ _) (g := F0 m pc ls (.ref (b + u) :: r.map (zt sa b))) rfl rfl (by rw [hb]; exact hd)
    obtain ⟨t, a1, b1⟩ := kk ls hl (T.setVm vm') hT X'
    exact ⟨t, step t a1, b1⟩
  | _ => exact znq hz
end ZH
theorem zfit_ok {sa b : Nat} {ty : FieldType} {v : Value} (h : zfit ty v = true) : narrow ty (zt sa b v) = zt sa b v ∧ fits ty (zt sa b v) = true := by
  cases ty with
  | int => cases v <;> first | exact ⟨rfl, rfl⟩ | cases h
  | long => cases v <;> first | exact ⟨rfl, rfl⟩ | cases h
  | object C => cases v <;> first | exact ⟨rfl, rfl⟩ | cases h
  | array C => cases v <;> first | exact ⟨rfl, rfl⟩ | cases h
  | boolean =>
    cases v with
    | int k =>
      have h : (decide (k = 0) || decide (k = 1)) = true := h
      rcases Bool.or_eq_true_iff.mp h with h | h
      · rw [of_decide_eq_true h]; exact ⟨(by decide : narrow .boolean (.int 0) = .int 0), (by decide : fits .boolean (.int 0) = true)⟩
      · rw [of_decide_eq_true h]; exact ⟨(by decide : narrow .boolean (.int 1) = .int 1), (by decide : fits .boolean (.int 1) = true)⟩
    | _ => cases h
  | _ => cases h
theorem zpf_inv {a b pc : Nat} {h : List zC} {lv : List (Nat × Value)} {st : List Value} {q : zS × List zC} (hz : zpf a b h pc lv st = some q) : ∃ v u r fs, st = v :: .ref u :: r ∧ h[u]? = some (.inr (a, fs)) ∧ b < fs.length ∧ zfit (zty a b) v = true ∧ q = ((pc, lv, r), h.set u (.inr (a, fs.set b v))) := by
  unfold zpf at hz
  split at hz
  · next v u r =>
    split at hz
    · next o ho =>
      split at hz
      · next hb =>
        have h2 := Bool.and_eq_true_iff.mp hb
        have h3 := Bool.and_eq_true_iff.mp h2.2
        have e : o.1 = a := Nat.eq_of_beq_eq_true h2.1
        exact ⟨v, u, r, o.2, rfl, by rw [ho, ← e], Nat.le_of_ble_eq_true h3.1, h3.2, by rw [← e]; exact (Option.some.inj hz).symm⟩
      · cases hz
    · cases hz
  · cases hz
theorem zis_inv {pc : Nat} {h : List zC} {lv : List (Nat × Value)} {st : List Value} {q : zS × List zC} (hz : zis h pc lv st = some q) : ∃ x j u r l, st = .int x :: .int j :: .ref u :: r ∧ h[u]? = some (.inl (0, l)) ∧ ¬ (j < 0 ∨ l.length ≤ j.toNatClampNeg) ∧ q = ((pc, lv, r), h.set u (.inl (0, l.set j.toNatClampNeg (.int x)))) := by
  unfold zis at hz
  split at hz
  · next x j u r =>
    split at hz
    · next o ho =>
      split at hz
      · next hb =>
        have h2 := Bool.and_eq_true_iff.mp hb
        have e : o.1 = 0 := Nat.eq_of_beq_eq_true h2.1
        exact ⟨x, j, u, r, o.2, rfl, by rw [ho, ← e], of_decide_eq_true h2.2, by rw [← e]; exact (Option.some.inj hz).symm⟩
      · cases hz
    · cases hz
  · cases hz
theorem zbs_inv {pc : Nat} {h : List zC} {lv : List (Nat × Value)} {st : List Value} {q : zS × List zC} (hz : zbs h pc lv st = some q) : ∃ x j u r l, st = .int x :: .int j :: .ref u :: r ∧ h[u]? = some (.inl (1, l)) ∧ ¬ (j < 0 ∨ l.length ≤ j.toNatClampNeg) ∧ q = ((pc, lv, r), h.set u (.inl (1, l.set j.toNatClampNeg (.int (x &&& 1))))) := by
  unfold zbs at hz
  split at hz
  · next x j u r =>
    split at hz
    · next o ho =>
      split at hz
      · next hb =>
        have h2 := Bool.and_eq_true_iff.mp hb
        have e : o.1 = 1 := Nat.eq_of_beq_eq_true h2.1
        exact ⟨x, j, u, r, o.2, rfl, by rw [ho, ← e], of_decide_eq_true h2.2, by rw [← e]; exact (Option.some.inj hz).symm⟩
      · cases hz
    · cases hz
  · cases hz
theorem zls_inv {pc : Nat} {h : List zC} {lv : List (Nat × Value)} {st : List Value} {q : zS × List zC} (hz : zls h pc lv st = some q) : ∃ x j u r l, st = .long x :: .int j :: .ref u :: r ∧ h[u]? = some (.inl (2, l)) ∧ ¬ (j < 0 ∨ l.length ≤ j.toNatClampNeg) ∧ q = ((pc, lv, r), h.set u (.inl (2, l.set j.toNatClampNeg (.long x)))) := by
  unfold zls at hz
  split at hz
  · next x j u r =>
    split at hz
    · next o ho =>
      split at hz
      · next hb =>
        have h2 := Bool.and_eq_true_iff.mp hb
        have e : o.1 = 2 := Nat.eq_of_beq_eq_true h2.1
        exact ⟨x, j, u, r, o.2, rfl, by rw [ho, ← e], of_decide_eq_true h2.2, by rw [← e]; exact (Option.some.inj hz).symm⟩
      · cases hz
    · cases hz
  · cases hz
theorem zas_inv {pc : Nat} {h : List zC} {lv : List (Nat × Value)} {st : List Value} {q : zS × List zC} (hz : zas h pc lv st = some q) : ∃ v j u r t l, st = v :: .int j :: .ref u :: r ∧ h[u]? = some (.inl (t, l)) ∧ zes h t v = true ∧ ¬ (j < 0 ∨ l.length ≤ j.toNatClampNeg) ∧ q = ((pc, lv, r), h.set u (.inl (t, l.set j.toNatClampNeg v))) := by
  unfold zas at hz
  split at hz
  · next v j u r =>
    split at hz
    · next o ho =>
      split at hz
      · next hb =>
        have h2 := Bool.and_eq_true_iff.mp hb
        exact ⟨v, j, u, r, o.1, o.2, rfl, ho, h2.1, of_decide_eq_true h2.2, (Option.some.inj hz).symm⟩
      · cases hz
    · cases hz
  · cases hz
theorem zes_inv {h : List zC} {t : Nat} {v : Value} (hz : zes h t v = true) : ∃ c, zte t = some c ∧ (v = .null ∨ ∃ u fs, v = .ref u ∧ h[u]? = some (.inr (c, fs))) := by
  unfold zes at hz
  split at hz
  · unfold zrt at hz
    split at hz
    · next c hc => exact ⟨c, hc, Or.inl rfl⟩
    · cases hz
  · next u =>
    split at hz
    · next o ho =>
      split at hz
      · next c hc =>
        have e : c = o.1 := Nat.eq_of_beq_eq_true hz
        exact ⟨c, hc, Or.inr ⟨u, o.2, rfl, by rw [ho, e]⟩⟩
      · cases hz
    · cases hz
  · cases hz
section ZW
variable {p : Program} {l : Launch} {e : Env} {R : Room} {s : State} {m : MethodId} {args : Array Value} {below : List Frame} {meth : Method} {c : Code} {H : Heap} {locs : List Loc} {cells slots : Nat} {Q : State → Prop}
variable {cc : ByteArray} {own : String} {sa b nL pc n a0 b0 w0 : Nat} {ini : Bool} {kv : Value} {lv : List (Nat × Value)} {st : List Value} {ls : Array Slot} {q : zS × List zC}
variable {D : va_G} {tc : Nat → ClassId} {h : List zC}
set_option maxHeartbeats 4000000 in
theorem zpf_s {k u : Nat} {v : Value} {r : List Value} {fs : List Value} {C : vw_C} (hx : p.tables.exec = Jvm.exec) (hb : c.code = cc) (hown : s.vm.findClass own = some m.cls) (hts : ∀ w ∈ zlw, w.before args s = true) (hnm : ini = true → meth.name = "<init>") (hK : va_K D zcl (ztys tc) s)
    (hat : va_at D zcl (b + u, .inr (a0, fs.map (zt sa b))) H) (hC : zcl[a0]? = some C) (hbN : b0 < C.2.2) (hfl : Cond.fieldLink own k (C.2.1 b0).1 (C.2.1 b0).2.1 (C.2.1 b0).2.2.1 ∈ zlw) (hlp : zlP own ini a0 b0 = true) (hbl : b0 < fs.length) (hfit : zfit (zty a0 b0) v = true) (hd : decode cc pc = .ok (.putfield k, 3))
    (kk : ∀ (H' : Heap) (i : Nat), va_at D zcl (b + u, .inr (a0, (fs.set b0 v).map (zt sa b))) H' → H'.size = H.size → (∀ x, x ≠ b + u → H'[x]? = H[x]?) → W p l e R s m args below meth c H' (locs ++ [⟨b + u, i⟩]) cells slots Q (F0 m (pc + 3) ls r)) :
    W p l e R s m args below meth c H locs cells slots Q (F0 m pc ls (zt sa b v :: .ref (b + u) :: r)) := by
  obtain ⟨ok1, ok2, ok3, -⟩ := zcl_ok a0 hC
  have hap := va_apart (own := own) hts ok1 (zty a0) ok2 ok3 hK hC
  obtain ⟨r', h1, cell, q1, q2, q3, q4⟩ := hat
  have hr : r' = C := Option.some.inj (h1.symm.trans hC)
  subst hr
  obtain ⟨hS, hfc, kC, hkC, hkind⟩ := hK.1 a0 _ hC
  obtain ⟨cf, kf, fi, f, hi, hsl⟩ := hS b0 hbN
  have hlay := hts _ (ok1 _ (u_in_lay hbN))
  have hst := (u_facts hfc hkC (u_lays hts ok1 hbN) hi).1
  obtain ⟨hn, hf⟩ := zfit_ok (sa := sa) (b := b) hfit
  have fin : ∀ H' : Heap, H'[b + u]? = some (cell.setSlot (D.2 a0 b0) (zt sa b v)) → va_at D zcl (b + u, .inr (a0, (fs.set b0 v).map (zt sa b))) H' := fun H' e1 => by
    rw [List.map_set]
    exact ⟨_, hC, t_OB.to (V := updV (vp_V (fs.map (zt sa b))) b0 (zt sa b v)) ⟨_, e1, q2, q3, t_set q4 hap hbN _⟩ (fun j _ => vp_updV_set (by rw [List.length_map]; exact hbl) _ j)⟩
  unfold u_lay at hlay
  cases hF : (r'.2.1 b0).2.2.2 with
  | false =>
    rw [if_neg (by rw [hF]; decide)] at hlay
    refine W.putK hx hb (f := f) ⟨hown, hts _ hfl, ⟨_, _, _, hi⟩, hst⟩ (by rw [q2]; exact u_store hfc hkC hkind hlay hi (ok2 b0 hbN) hn hf) q1 q3 (by rw [hsl]; exact k2_hasslot (q4 b0 hbN)) rfl rfl hd fun H' e1 e2 e3 => ?_
    rw [hsl] at e1 ⊢
    exact kk H' _ (fin H' e1) e2 e3
  | true =>
    rw [if_pos hF] at hlay
    have hp : ini = true ∧ (r'.2.1 b0).1 = own := by
      unfold zlP at hlp
      rw [hC] at hlp
      have h2 : (!(r'.2.1 b0).2.2.2 || (ini && decide ((r'.2.1 b0).1 = own))) = true := hlp
      rw [hF] at h2
      have h3 := Bool.and_eq_true_iff.mp (show (ini && decide ((r'.2.1 b0).1 = own)) = true from h2)
      exact ⟨h3.1, of_decide_eq_true h3.2⟩
    have hcf : m.cls = cf := by
      obtain ⟨_, _, c', _, _, _, -, -, hf', -, -, -, hown2, -⟩ := Cond.laysFinal_spec hlay
      have e1 : c' = cf := by have := hi.symm.trans hf'; simp at this; exact this.1.symm
      rw [hp.2] at hown2
      rw [← e1]; exact Option.some.inj (hown.symm.trans hown2)
    refine W.putFinK hx hb hown (hts _ hfl) hi hst hcf (hnm hp.1) (by rw [q2]; exact u_fits hfc hkC hkind (Or.inr hlay) hi (ok2 b0 hbN) hn hf) q1 q3 (by rw [hsl]; exact k2_hasslot (q4 b0 hbN)) rfl rfl hd fun H' e1 e2 e3 => ?_
    rw [hsl] at e1 ⊢
    exact kk H' _ (fin H' e1) e2 e3
set_option maxHeartbeats 4000000 in
theorem zw_s {i : Jvm.ClassFile.Instr} (hx : p.tables.exec = Jvm.exec) (hb : c.code = cc) (hown : s.vm.findClass own = some m.cls) (hts : ∀ w ∈ zlw, w.before args s = true) (hnm : ini = true → meth.name = "<init>") (hK : va_K D zcl (ztys tc) s) (hR : zR D tc sa b h H)
    (hd : decode cc pc = .ok (i, zlen i n)) (hk : zlnk own nL ini i a0 b0 w0 kv = true) (hl : lv_has ls nL (lv.map (ztl sa b))) (hz : zw i a0 b0 h pc lv st = some q)
    (kk : ∀ (H' : Heap) (L : List Loc) (ls' : Array Slot), lv_has ls' nL (q.1.2.1.map (ztl sa b)) → zR D tc sa b q.2 H' → (∀ x, x < b → H'[x]? = H[x]?) → (∀ x ∈ L, b ≤ x.base) → W p l e R s m args below meth c H' (locs ++ L) cells slots Q (F0 m q.1.1 ls' (q.1.2.2.map (zt sa b)))) :
    W p l e R s m args below meth c H locs cells slots Q (F0 m pc ls (st.map (zt sa b))) := by
  have one : ∀ {u k : Nat}, ∀ x ∈ [(⟨b + u, k⟩ : Loc)], b ≤ x.base := fun {u k} x hx => by
    rw [List.mem_singleton.mp hx]; exact Nat.le_add_right b u
  cases i with
  | putfield k =>
    obtain ⟨v, u, r, fs, rfl, hu, hbl, hfit, rfl⟩ := zpf_inv hz
    have hk2 := Bool.and_eq_true_iff.mp (show (zlF own k a0 b0 w0 && zlP own ini a0 b0) = true from hk)
    obtain ⟨C, hC, hbN, hfl⟩ := zlF_inv hk2.1
    have hat : va_at D zcl (b + u, .inr (a0, fs.map (zt sa b))) H := hR.2 u _ hu
    exact zpf_s hx hb hown hts hnm hK hat hC hbN hfl hk2.2 hbl hfit hd (fun H' i h1 h2 h3 => kk H' _ ls hl (hR.set hu h2 h3 h1) (fun x hxb => h3 x (by omega)) one)
  | iastore =>
    obtain ⟨x, j, u, r, l, rfl, hu, hin, rfl⟩ := zis_inv hz
    have hc : H[b + u]? = some (arrV (tc 0) l.length (fun j => zt sa b (l.getD j .null))) := hR.2 u _ hu
    refine W.iast hx hb hc ((hK.2 0 (tc 0, .int) rfl).1 l.length _) (fun x => by cases x) (by rw [arrV_size]; exact hin) rfl rfl hd fun H' e1 z oq => ?_
    refine kk H' _ ls hl (hR.set hu z oq ?_) (fun x hxb => oq x (Nat.ne_of_lt (Nat.lt_of_lt_of_le hxb (Nat.le_add_right b u)))) one
    show H'[b + u]? = some (arrV (tc 0) (l.set j.toNatClampNeg (.int x)).length (fun q => zt sa b ((l.set j.toNatClampNeg (.int x)).getD q .null)))
    rw [zt_up, e1]
    rfl
  | bastore =>
    obtain ⟨x, j, u, r, l, rfl, hu, hin, rfl⟩ := zbs_inv hz
    have hc : H[b + u]? = some (arrV (tc 1) l.length (fun j => zt sa b (l.getD j .null))) := hR.2 u _ hu
    refine W.zast hx hb hc ((hK.2 1 (tc 1, .boolean) rfl).1 l.length _) (fun x => by cases x) (by rw [arrV_size]; exact hin) rfl rfl hd fun H' e1 z oq => ?_
    refine kk H' _ ls hl (hR.set hu z oq ?_) (fun x hxb => oq x (Nat.ne_of_lt (Nat.lt_of_lt_of_le hxb (Nat.le_add_right b u)))) one
    show H'[b + u]? = some (arrV (tc 1) (l.set j.toNatClampNeg (.int (x &&& 1))).length (fun q => zt sa b ((l.set j.toNatClampNeg (.int (x &&& 1))).getD q .null)))
    rw [zt_up, e1]
    rfl
  | lastore =>
    obtain ⟨x, j, u, r, l, rfl, hu, hin, rfl⟩ := zls_inv hz
    have hc : H[b + u]? = some (arrV (tc 2) l.length (fun j => zt sa b (l.getD j .null))) := hR.2 u _ hu
    refine W.last hx hb hc ((hK.2 2 (tc 2, .long) rfl).1 l.length _) (fun x => by cases x) (by rw [arrV_size]; exact hin) rfl rfl hd fun H' e1 z oq => ?_
    refine kk H' _ ls hl (hR.set hu z oq ?_) (fun x hxb => oq x (Nat.ne_of_lt (Nat.lt_of_lt_of_le hxb (Nat.le_add_right b u)))) one
    show H'[b + u]? = some (arrV (tc 2) (l.set j.toNatClampNeg (.long x)).length (fun q => zt sa b ((l.set j.toNatClampNeg (.long x)).getD q .null)))
    rw [zt_up, e1]
    rfl
  | aastore =>
    obtain ⟨v, j, u, r, t, l, rfl, hu, hes, hin, rfl⟩ := zas_inv hz
    have hc : H[b + u]? = some (arrV (tc t) l.length (fun j => zt sa b (l.getD j .null))) := hR.2 u _ hu
    have hlt : j.toNatClampNeg < l.length := Nat.not_le.mp fun x => hin (Or.inr x)
    have h0 : ¬ j < 0 := fun x => hin (Or.inl x)
    obtain ⟨ce, hce, hv⟩ := zes_inv hes
    obtain ⟨C, hC, -, hty⟩ := zte_ok hce
    have fin : ∀ H' : Heap, H'[b + u]? = some ((arrV (tc t) l.length (fun j => zt sa b (l.getD j .null))).setSlot j.toNatClampNeg (zt sa b v)) → zat D tc sa b u (.inl (t, l.set j.toNatClampNeg v)) H' := fun H' e1 => by
      show H'[b + u]? = some (arrV (tc t) (l.set j.toNatClampNeg v).length (fun q => zt sa b ((l.set j.toNatClampNeg v).getD q .null)))
      rw [zt_up, e1]
    rcases hv with rfl | ⟨y, fs, rfl, hy⟩
    · exact va_WaastN (C := C.1) hx hb hc ((hK.2 t _ (hty tc)).1 l.length _) (fun x => by cases x) (by rw [arrV_size]; exact hin) rfl rfl hd fun H' e1 z oq => kk H' _ ls hl (hR.set hu z oq (fin H' e1)) (fun x hxb => oq x (Nat.ne_of_lt (Nat.lt_of_lt_of_le hxb (Nat.le_add_right b u)))) one
    · obtain ⟨r', hr', cellV, g1, g2, g3, -⟩ := (hR.2 y _ hy : va_at D zcl (b + y, .inr (ce, fs.map (zt sa b))) H)
      have hcls := (hK.1 ce C hC).2
      obtain ⟨kA, comp, k1, k2, k3, -⟩ := (hK.2 t _ (hty tc)).2
      have hcomp : comp = D.1 ce := Option.some.inj (k3.symm.trans hcls.1)
      subst hcomp
      obtain ⟨kC, hkC, -⟩ := hcls.2
      exact W.aast hx hb hc (fun x hh => by cases hh) (fun hh => by cases hh) k1 k2 rfl hkC ⟨h0, by rw [arrV_size]; exact hlt⟩ g1 (fun x hh => by rw [g3] at hh; cases hh) (by rw [g2]; exact hkC) (by rw [g2]; exact va_assign hcls) rfl rfl hd fun H' e1 z oq => kk H' _ ls hl (hR.set hu z oq (fin H' e1)) (fun x hxb => oq x (Nat.ne_of_lt (Nat.lt_of_lt_of_le hxb (Nat.le_add_right b u)))) one
  | _ => exact znq hz
end ZW
theorem zrep {sa b : Nat} (cA : ClassId) (n : Nat) (d : Value) : arrV cA (List.replicate n d).length (fun j => zt sa b ((List.replicate n d).getD j .null)) = arrV cA n (fun _ => zt sa b d) := by
  rw [List.length_replicate]
  apply arrV_cg
  intro j hj
  simp [List.getD_eq_getElem?_getD, List.getElem?_replicate, hj]
theorem zdf_t {sa b a : Nat} {C : vw_C} (h : zcl[a]? = some C) : (zdf a).map (zt sa b) = zdf a := zdf_map sa b a h
theorem zna_inv {a pc : Nat} {d : Value} {h : zH} {lv : List (Nat × Value)} {st : List Value} {q : zS × zH} (hz : zna a d h pc lv st = some q) : ∃ n r, st = .int n :: r ∧ ¬ n < 0 ∧ n.toNatClampNeg * 8 ≤ 536870912 ∧ q = ((pc, lv, .ref h.1.length :: r), (h.1 ++ [.inl (a, List.replicate n.toNatClampNeg d)], h.2 + n.toNatClampNeg)) := by
  unfold zna at hz
  split at hz
  · next n r =>
    split at hz
    · next hb =>
      have h2 := Bool.and_eq_true_iff.mp hb
      exact ⟨n, r, rfl, of_decide_eq_true h2.1, Nat.le_of_ble_eq_true h2.2, (Option.some.inj hz).symm⟩
    · cases hz
  · cases hz
theorem zlN_inv {own : String} {i a w : Nat} (h : zlN own i a w = true) : ∃ C, zcl[a]? = some C ∧ Cond.classLink own i C.1 ∈ zlw := by
  unfold zlN at h
  split at h
  · next C hC => exact ⟨C, hC, zmm (of_decide_eq_true h) rfl⟩
  · cases h
section ZN
variable {p : Program} {l : Launch} {e : Env} {R : Room} {s : State} {m : MethodId} {args : Array Value} {below : List Frame} {meth : Method} {c : Code} {H : Heap} {locs : List Loc} {cells slots : Nat} {Q : State → Prop}
variable {cc : ByteArray} {own : String} {sa b nL pc n a0 b0 w0 : Nat} {ini : Bool} {kv : Value} {lv : List (Nat × Value)} {st : List Value} {ls : Array Slot} {q : zS × zH}
variable {D : va_G} {tc : Nat → ClassId} {h : zH}
set_option maxHeartbeats 4000000 in
theorem zn_s {i : Jvm.ClassFile.Instr} (hx : p.tables.exec = Jvm.exec) (hb : c.code = cc) (hown : s.vm.findClass own = some m.cls) (hts : ∀ w ∈ zlw, w.before args s = true) (hK : va_K D zcl (ztys tc) s) (hR : zR D tc sa b h.1 H)
    (hd : decode cc pc = .ok (i, zlen i n)) (hk : zlnk own nL ini i a0 b0 w0 kv = true) (hl : lv_has ls nL (lv.map (ztl sa b))) (hz : zn i a0 h pc lv st = some q)
    (hcl : cells + (q.2.1.length - h.1.length) ≤ R.cells) (hsl : slots + (q.2.2 - h.2) ≤ R.slots)
    (kk : ∀ (H' : Heap) (ls' : Array Slot), lv_has ls' nL (q.1.2.1.map (ztl sa b)) → zR D tc sa b q.2.1 H' → (∀ x, x < b → H'[x]? = H[x]?) → W p l e R s m args below meth c H' locs (cells + (q.2.1.length - h.1.length)) (slots + (q.2.2 - h.2)) Q (F0 m q.1.1 ls' (q.1.2.2.map (zt sa b)))) :
    W p l e R s m args below meth c H locs cells slots Q (F0 m pc ls (st.map (zt sa b))) := by
  cases i with
  | new k =>
    obtain rfl := Option.some.inj hz
    obtain ⟨C, hC, hcw⟩ := zlN_inv (show zlN own k a0 w0 = true from hk)
    obtain ⟨ok1, ok2, ok3, ok4, ok5, ok6, ok7⟩ := zcl_ok a0 hC
    have hKn := hK.1 a0 C hC
    have e1 : (h.1 ++ [(.inr (a0, zdf a0) : zC)]).length - h.1.length = 1 := by simp
    have e2 : h.2 + (zdf a0).length - h.2 = C.2.2 := by rw [ok6]; omega
    have hcl : cells + 1 ≤ R.cells := by rw [← e1]; exact hcl
    have hsl : slots + C.2.2 ≤ R.slots := by rw [← e2]; exact hsl
    refine W.newcK hx hb hown (hts _ hcw) (hts _ ok4) (hts _ ok5) rfl hd hcl hsl hKn.2.1 hR.1 fun H1 kC hkC g1 z1 o1 => ?_
    refine W.cs (cells' := cells + ((h.1 ++ [(.inr (a0, zdf a0) : zC)]).length - h.1.length)) (slots' := slots + (h.2 + (zdf a0).length - h.2)) (by rw [e1]) (by rw [e2]) ?_
    refine kk H1 ls hl (hR.push (by rw [z1, hR.1]) (fun x hxl => o1 x (by rw [← hR.1]; exact hxl)) ?_) (fun x hxb => o1 x (by omega))
    show va_at D zcl (b + h.1.length, .inr (a0, (zdf a0).map (zt sa b))) H1
    rw [zdf_t hC]
    exact ⟨C, hC, (u_born (zty a0) hts ok1 hKn hkC g1 ok2).to ok7⟩
  | newarray t =>
    cases t with
    | int =>
      obtain rfl : a0 = 0 := Nat.eq_of_beq_eq_true (show Nat.beq a0 0 = true from hk)
      obtain ⟨n, r, rfl, hn, hb8, rfl⟩ := zna_inv (show zna 0 (.int 0) h (pc + 2) lv st = some q from hz)
      have e1 : (h.1 ++ [(.inl (0, List.replicate n.toNatClampNeg (.int 0)) : zC)]).length - h.1.length = 1 := by simp
      have e2 : h.2 + n.toNatClampNeg - h.2 = n.toNatClampNeg := by omega
      have hcl : cells + 1 ≤ R.cells := by rw [← e1]; exact hcl
      have hsl : slots + n.toNatClampNeg ≤ R.slots := by rw [← e2]; exact hsl
      refine va_newaK hx hb (hts _ zw_aci) rfl hd rfl hn rfl (by show n.toNatClampNeg * 4 ≤ _; omega) hcl hsl hR.1 fun H1 cA g1 z1 o1 hAr hNm => ?_
      have hcA : cA = tc 0 := Option.some.inj (hNm.symm.trans (hK.2 0 (tc 0, .int) rfl).2)
      refine W.cs (cells' := cells + ((h.1 ++ [(.inl (0, List.replicate n.toNatClampNeg (.int 0)) : zC)]).length - h.1.length)) (slots' := slots + (h.2 + n.toNatClampNeg - h.2)) (by rw [e1]) (by rw [e2]) ?_
      refine kk H1 ls hl (hR.push (by rw [z1, hR.1]) (fun x hxl => o1 x (by rw [← hR.1]; exact hxl)) ?_) (fun x hxb => o1 x (by omega))
      show H1[b + h.1.length]? = some (arrV (tc 0) (List.replicate n.toNatClampNeg (Value.int 0)).length (fun j => zt sa b ((List.replicate n.toNatClampNeg (Value.int 0)).getD j .null)))
      rw [zrep (tc 0) n.toNatClampNeg (.int 0), g1, hcA]
      rfl
    | boolean =>
      obtain rfl : a0 = 1 := Nat.eq_of_beq_eq_true (show Nat.beq a0 1 = true from hk)
      obtain ⟨n, r, rfl, hn, hb8, rfl⟩ := zna_inv (show zna 1 (.int 0) h (pc + 2) lv st = some q from hz)
      have e1 : (h.1 ++ [(.inl (1, List.replicate n.toNatClampNeg (.int 0)) : zC)]).length - h.1.length = 1 := by simp
      have e2 : h.2 + n.toNatClampNeg - h.2 = n.toNatClampNeg := by omega
      have hcl : cells + 1 ≤ R.cells := by rw [← e1]; exact hcl
      have hsl : slots + n.toNatClampNeg ≤ R.slots := by rw [← e2]; exact hsl
      refine va_newaK hx hb (hts _ zw_acz) rfl hd rfl hn rfl (by show n.toNatClampNeg * 1 ≤ _; omega) hcl hsl hR.1 fun H1 cA g1 z1 o1 hAr hNm => ?_
      have hcA : cA = tc 1 := Option.some.inj (hNm.symm.trans (hK.2 1 (tc 1, .boolean) rfl).2)
      refine W.cs (cells' := cells + ((h.1 ++ [(.inl (1, List.replicate n.toNatClampNeg (.int 0)) : zC)]).length - h.1.length)) (slots' := slots + (h.2 + n.toNatClampNeg - h.2)) (by rw [e1]) (by rw [e2]) ?_
      refine kk H1 ls hl (hR.push (by rw [z1, hR.1]) (fun x hxl => o1 x (by rw [← hR.1]; exact hxl)) ?_) (fun x hxb => o1 x (by omega))
      show H1[b + h.1.length]? = some (arrV (tc 1) (List.replicate n.toNatClampNeg (Value.int 0)).length (fun j => zt sa b ((List.replicate n.toNatClampNeg (Value.int 0)).getD j .null)))
      rw [zrep (tc 1) n.toNatClampNeg (.int 0), g1, hcA]
      rfl
    | long =>
      obtain rfl : a0 = 2 := Nat.eq_of_beq_eq_true (show Nat.beq a0 2 = true from hk)
      obtain ⟨n, r, rfl, hn, hb8, rfl⟩ := zna_inv (show zna 2 (.long 0) h (pc + 2) lv st = some q from hz)
      have e1 : (h.1 ++ [(.inl (2, List.replicate n.toNatClampNeg (.long 0)) : zC)]).length - h.1.length = 1 := by simp
      have e2 : h.2 + n.toNatClampNeg - h.2 = n.toNatClampNeg := by omega
      have hcl : cells + 1 ≤ R.cells := by rw [← e1]; exact hcl
      have hsl : slots + n.toNatClampNeg ≤ R.slots := by rw [← e2]; exact hsl
      refine va_newaK hx hb (hts _ zw_acj) rfl hd rfl hn rfl (by show n.toNatClampNeg * 8 ≤ _; omega) hcl hsl hR.1 fun H1 cA g1 z1 o1 hAr hNm => ?_
      have hcA : cA = tc 2 := Option.some.inj (hNm.symm.trans (hK.2 2 (tc 2, .long) rfl).2)
      refine W.cs (cells' := cells + ((h.1 ++ [(.inl (2, List.replicate n.toNatClampNeg (.long 0)) : zC)]).length - h.1.length)) (slots' := slots + (h.2 + n.toNatClampNeg - h.2)) (by rw [e1]) (by rw [e2]) ?_
      refine kk H1 ls hl (hR.push (by rw [z1, hR.1]) (fun x hxl => o1 x (by rw [← hR.1]; exact hxl)) ?_) (fun x hxb => o1 x (by omega))
      show H1[b + h.1.length]? = some (arrV (tc 2) (List.replicate n.toNatClampNeg (Value.long 0)).length (fun j => zt sa b ((List.replicate n.toNatClampNeg (Value.long 0)).getD j .null)))
      rw [zrep (tc 2) n.toNatClampNeg (.long 0), g1, hcA]
      rfl
    | _ => cases hk
  | anewarray k =>
    obtain ⟨n, r, rfl, hn, hb8, rfl⟩ := zna_inv hz
    have hk : (match zte a0 with | some c => zlN own k c w0 | none => false) = true := hk
    split at hk
    · next ce hce =>
      obtain ⟨C, hC, hcw⟩ := zlN_inv hk
      obtain ⟨C', hC', hao, hty⟩ := zte_ok hce
      obtain rfl : C' = C := Option.some.inj (hC'.symm.trans hC)
      have e1 : (h.1 ++ [(.inl (a0, List.replicate n.toNatClampNeg .null) : zC)]).length - h.1.length = 1 := by simp
      have e2 : h.2 + n.toNatClampNeg - h.2 = n.toNatClampNeg := by omega
      have hcl : cells + 1 ≤ R.cells := by rw [← e1]; exact hcl
      have hsl : slots + n.toNatClampNeg ≤ R.slots := by rw [← e2]; exact hsl
      refine W.anew hx hb hown (hts _ hcw) (hts _ hao) rfl hd rfl hn (by omega) hcl hsl fun cA kA comp f1 f2 f3 f4 => ?_
      obtain ⟨kA', comp', k1, k2, k3, k4⟩ := (hK.2 a0 _ (hty tc)).2
      have hcA : cA = tc a0 := Option.some.inj (f1.symm.trans k4)
      refine W.cs (cells' := cells + ((h.1 ++ [(.inl (a0, List.replicate n.toNatClampNeg .null) : zC)]).length - h.1.length)) (slots' := slots + (h.2 + n.toNatClampNeg - h.2)) (by rw [e1]) (by rw [e2]) ?_
      have hstk : (Value.ref H.size :: r.map (zt sa b)) = (Value.ref h.1.length :: r).map (zt sa b) := by rw [hR.1]; rfl
      refine W.eq (g2 := F0 m (pc + 3) ls ((Value.ref h.1.length :: r).map (zt sa b))) (by rw [← hstk]) ?_
      refine kk _ ls hl (hR.push (by rw [Array.size_push]) (fun x hxl => by rw [Array.getElem?_push, if_neg (Nat.ne_of_lt hxl)]) ?_) (fun x hxb => by rw [Array.getElem?_push, if_neg (by rw [hR.1]; omega)])
      show (H.push _)[b + h.1.length]? = some (arrV (tc a0) (List.replicate n.toNatClampNeg Value.null).length (fun j => zt sa b ((List.replicate n.toNatClampNeg Value.null).getD j .null)))
      rw [zrep (tc a0) n.toNatClampNeg .null, ← hR.1, Array.getElem?_push_size, hcA, ← arrV_new]
      rfl
    · cases hk
  | _ => exact znq hz
end ZN
end
section
-- calls, the loop of steps, a whole method
def zws (M : zM) : List Cond := Cond.code (mY M) (mC M) (mL M) (mR M) :: zlw.filter goodWord
/-- words that a method's own word list can't carry: they go with the start's facts -/
def zbad (w : Cond) : Bool := match w with
  | .methodLinkNest _ _ _ _ => true
  | .castable _ _ => true
  | .arrayOver ty => match ty with
    | .object _ => true
    | _ => false
  | _ => false
def zEx (U : State) : Prop := ∀ w ∈ zlw, zbad w = true → w.before #[] U = true
theorem zEx_of {args : Array Value} {s : State} (hts : ∀ w ∈ zlw, w.before args s = true) : zEx s := fun w hw hb => by
  have h := hts w hw
  cases w with
  | methodLinkNest a i x k => exact va_Nw.of rfl h
  | castable a k => exact va_Nw.of rfl h
  | arrayOver ty =>
    cases ty with
    | object C => exact va_AO.of h
    | _ => cases hb
  | _ => cases hb
theorem zEx_use {args : Array Value} {s : State} (hx : zEx s) {w : Cond} (hw : w ∈ zlw) (hb : zbad w = true) : w.before args s = true := by
  have h := hx w hw hb
  cases w with
  | methodLinkNest a i x k => exact va_Nw.use rfl h
  | castable a k => exact va_Nw.use rfl h
  | arrayOver ty =>
    cases ty with
    | object C => exact va_AO.use h
    | _ => cases hb
  | _ => cases hb
theorem zEx_warm {s U : State} (hW : s.WarmedH U.vm) (hx : zEx s) : zEx U := fun w hw hb => by
  have h := hx w hw hb
  cases w with
  | methodLinkNest a i x k => exact va_Nw.warmM hW h
  | castable a k => exact va_Nw.warmC hW h
  | arrayOver ty =>
    cases ty with
    | object C => exact va_AO.moved hW.alike h
    | _ => cases hb
  | _ => cases hb
theorem zEx_same {s U : State} (hv : s.vm = U.vm) (hx : zEx s) : zEx U := fun w hw hb => by
  have h := hx w hw hb
  cases w with
  | methodLinkNest a i x k => exact va_Nw.same rfl hv h
  | castable a k => exact va_Nw.same rfl hv h
  | arrayOver ty =>
    cases ty with
    | object C => exact va_AO.moved (by rw [hv]; exact Vm.Alike.refl U.vm) h
    | _ => cases hb
  | _ => cases hb
/-- what the tables say of a method, and of every instruction of it -/
def zMo (a : Nat) (M : zM) : Prop :=
  zyn[a]? = some (mY M) ∧ Cond.code (mY M) (mC M) (mL M) (mR M) ∈ zlw ∧ Cond.initialized (mY M).cls ∈ zlw ∧
  ((mY M).cls ≠ "java/lang/invoke/MethodHandle" ∧ (mY M).cls ≠ "java/lang/invoke/VarHandle" ∧ (parseMethodDescriptor (mY M).desc).map (fun d => d.parameters.length) = some (mN M)) ∧ plainName (mY M).cls = true ∧
  (mK M = 0 → Cond.static (mY M) ∈ zlw) ∧ (mK M = 1 → Cond.instanceMethod (mY M) ∈ zlw ∧ Cond.selects (mY M).cls (mY M) (mY M) ∈ zlw ∧ ∃ C, zcl[(mW M).2.2.2]? = some C ∧ C.1 = (mY M).cls) ∧
  (mK M = 2 → Cond.instanceMethod (mY M) ∈ zlw ∧ (mY M).name = "<init>" ∧ mR M = none) ∧
  ∀ g ∈ mT M, ∀ x ∈ g.2, zxo (mY M).cls (mC M) (mL M) (Nat.beq (mK M) 2) x = true
def zT (mt : List zM) : Prop := ∀ a M, mt[a]? = some M → zMo a M
def zgood : Prop := ∀ w ∈ zlw, goodWord w = true ∨ zbad w = true
theorem zgi {a : Nat} {M : zM} (hM : zMo a M) : GoodIn zlw (zws M) := fun w hw => by
  rcases List.mem_cons.mp hw with rfl | hw
  · exact ⟨hM.2.1, Or.inl rfl⟩
  · have h := List.mem_filter.mp hw
    exact ⟨h.1, good_of_word h.2⟩
def zPc (D : va_G) (tc : Nat → ClassId) (sa b : Nat) (as : List Value) (h : zH) : Array Value → State → Prop := va_Pc (as.map (zt sa b)) (fun U => zR D tc sa b h.1 U.heap ∧ va_K D zcl (ztys tc) U ∧ zEx U)
def zQc (D : va_G) (tc : Nat → ClassId) (sa b : Nat) (r : Option Value × zH) : Array Value → State → Outcome → State → Prop := fun _ st oc t => oc = .returned (r.1.map (zt sa b)) ∧ zR D tc sa b r.2.1 t.heap ∧ ∀ x : Nat, x < b → t.heap[x]? = st.heap[x]?
theorem zblind {D : va_G} {tc : Nat → ClassId} {sa b : Nat} {as : List Value} {h : zH} : FrameBlind (zPc D tc sa b as h) := fun a U g mk q => by
  obtain ⟨q0, q1, q2, q5⟩ := q
  exact ⟨q0, q1, va_K.moved (u := U) (U := U.calling g mk a) (Vm.Alike.refl U.vm) q2, zEx_same (s := U) (U := U.calling g mk a) rfl q5⟩
def zCal (l : Launch) (mt : List zM) (call : Nat → List Value → zH → Option (Option Value × zH)) (fr lo : Nat) (D : va_G) (tc : Nat → ClassId) (sa b : Nat) : Prop := ∀ (a : Nat) (as : List Value) (h : zH) (r : Option Value × zH) (M : zM), mt[a]? = some M → call a as h = some r →
  ∃ rm : Room, rm.cells = r.2.1.length - h.1.length ∧ rm.slots = r.2.2 - h.2 ∧ rm.frames + 1 ≤ fr ∧ 8 + (mL M + 11) + rm.locals ≤ lo ∧ Met l (mY M) (zws M) rm (zPc D tc sa b as h) (zQc D tc sa b r) rm.cells rm.slots (fun x => b ≤ x)
theorem zpop_inv : ∀ {n : Nat} {st : List Value} {q : List Value × List Value}, zpop n st = some q → q.1.length = n ∧ st = q.1.reverse ++ q.2
  | 0, st, q, h => by
    obtain rfl := Option.some.inj h
    exact ⟨rfl, rfl⟩
  | n + 1, [], q, h => by cases h
  | n + 1, v :: r, q, h => by
    have h : (match zpop n r with | some q => some (q.1 ++ [v], q.2) | none => none) = some q := h
    split at h
    · next q2 hq =>
      obtain ⟨h1, h2⟩ := zpop_inv hq
      obtain rfl := Option.some.inj h
      refine ⟨by simp [h1], ?_⟩
      rw [h2]
      simp
    · cases h
theorem zcm_inv {mt : List zM} {call : Nat → List Value → zH → Option (Option Value × zH)} {kind a pc : Nat} {h : zH} {lv : List (Nat × Value)} {st : List Value} {q : zS × zH} (hz : zcm mt call kind a h pc lv st = some q) :
    ∃ M as rest r, mt[a]? = some M ∧ mK M = kind ∧ as.length = zco kind (mN M) ∧ st = as.reverse ++ rest ∧ zrc kind (mW M).2.2.2 as h.1 = true ∧ zcat rest ≤ 8 ∧ call a as h = some r ∧ h.1.length ≤ r.2.1.length ∧ h.2 ≤ r.2.2 ∧ q = ((pc, lv, r.1.toList ++ rest), r.2) := by
  unfold zcm at hz
  split at hz
  · cases hz
  · next M hM =>
    split at hz
    · cases hz
    · next qq hq =>
      split at hz
      · cases hz
      · next hc =>
        split at hz
        · cases hz
        · next r hr =>
          split at hz
          · cases hz
          · next hm =>
            obtain ⟨g1, g2⟩ := zpop_inv hq
            have h2 := Bool.and_eq_true_iff.mp hc
            have h3 := Bool.and_eq_true_iff.mp h2.2
            have h4 := Bool.and_eq_true_iff.mp hm
            exact ⟨M, qq.1, qq.2, r, hM, Nat.eq_of_beq_eq_true h2.1, g1, g2, h3.1, Nat.le_of_ble_eq_true h3.2, hr, Nat.le_of_ble_eq_true h4.1, Nat.le_of_ble_eq_true h4.2, (Option.some.inj hz).symm⟩
theorem zrc1_inv {cx : Nat} {as : List Value} {hp : List zC} (h : zrc 1 cx as hp = true) : ∃ u as' fs, as = .ref u :: as' ∧ hp[u]? = some (.inr (cx, fs)) := by
  cases as with
  | nil => cases h
  | cons v r =>
    cases v with
    | ref u =>
      have h : (match hp[u]? with | some (.inr o) => Nat.beq o.1 cx | _ => false) = true := h
      split at h
      · next o ho =>
        have e : o.1 = cx := Nat.eq_of_beq_eq_true h
        exact ⟨u, r, o.2, rfl, by rw [ho, ← e]⟩
      · cases h
    | _ => cases h
theorem zrc2_inv {cx : Nat} {as : List Value} {hp : List zC} (h : zrc 2 cx as hp = true) : ∃ u as', as = .ref u :: as' := by
  cases as with
  | nil => cases h
  | cons v r =>
    cases v with
    | ref u => exact ⟨u, r, rfl⟩
    | _ => cases h
theorem zcat_t (sa b : Nat) (st : List Value) : ((st.map (zt sa b)).map fun v => v.category).sum = zcat st := by
  unfold zcat
  rw [List.map_map]
  congr 1
  apply List.map_congr_left
  intro v _
  exact zt_cat sa b v
theorem zoi_inv {fr lo pc : Nat} {h : zH} {lv : List (Nat × Value)} {st : List Value} {q : zS × zH} (hz : zoi fr lo h pc lv st = some q) : ∃ u r, st = .ref u :: r ∧ 1 ≤ fr ∧ zcat r + 12 ≤ lo ∧ q = ((pc, lv, r), h) := by
  unfold zoi at hz
  split at hz
  · next u r =>
    split at hz
    · next hb =>
      have h2 := Bool.and_eq_true_iff.mp hb
      exact ⟨u, r, rfl, Nat.le_of_ble_eq_true h2.1, Nat.le_of_ble_eq_true h2.2, (Option.some.inj hz).symm⟩
    · cases hz
  · cases hz
theorem zmx_inv {f : Int32 → Int32 → Int32} {fr lo pc : Nat} {h : zH} {lv : List (Nat × Value)} {st : List Value} {q : zS × zH} (hz : zmx f fr lo h pc lv st = some q) : ∃ x y r, st = .int y :: .int x :: r ∧ 1 ≤ fr ∧ zcat r + 13 ≤ lo ∧ q = ((pc, lv, .int (f x y) :: r), h) := by
  unfold zmx at hz
  split at hz
  · next y x r =>
    split at hz
    · next hb =>
      have h2 := Bool.and_eq_true_iff.mp hb
      exact ⟨x, y, r, rfl, Nat.le_of_ble_eq_true h2.1, Nat.le_of_ble_eq_true h2.2, (Option.some.inj hz).symm⟩
    · cases hz
  · cases hz
/-- the words of Object's constructor, of Math.min and Math.max -/
def zlib : Prop := (Cond.instanceMethod Lib.objectInit ∈ zlw ∧ Cond.code Lib.objectInit ⟨#[0xb1]⟩ 1 none ∈ zlw) ∧ Cond.initialized "java/lang/Math" ∈ zlw ∧ (Cond.static Lib.Math.min.name ∈ zlw ∧ Cond.code Lib.Math.min.name Lib.Math.min.code 2 (some .int) ∈ zlw) ∧ (Cond.static Lib.Math.max.name ∈ zlw ∧ Cond.code Lib.Math.max.name Lib.Math.max.code 2 (some .int) ∈ zlw) ∧
  (Cond.native arraycopyName ∈ zlw ∧ Cond.static arraycopyName ∈ zlw ∧ Cond.initialized "java/lang/System" ∈ zlw) ∧
  (Cond.sameMethod "[I" "java/lang/Object" "clone" "()Ljava/lang/Object;" ∈ zlw ∧ Cond.native ⟨"java/lang/Object", "clone", "()Ljava/lang/Object;"⟩ ∈ zlw ∧ Cond.instanceMethod ⟨"java/lang/Object", "clone", "()Ljava/lang/Object;"⟩ ∈ zlw ∧ Cond.selects "[I" ⟨"[I", "clone", "()Ljava/lang/Object;"⟩ ⟨"java/lang/Object", "clone", "()Ljava/lang/Object;"⟩ ∈ zlw ∧ Cond.castable "[I" "java/lang/Cloneable" ∈ zlw)
theorem zac_inv {fr lo pc : Nat} {h : zH} {lv : List (Nat × Value)} {st : List Value} {q : zS × zH} (hz : zac fr lo h pc lv st = some q) : ∃ n dp d sp s r p g, st = .int n :: .int dp :: .ref d :: .int sp :: .ref s :: r ∧ h.1[s]? = some (.inl (0, p)) ∧ h.1[d]? = some (.inl (0, g)) ∧ 1 ≤ fr ∧ zcat r + 18 ≤ lo ∧ ¬ sp < 0 ∧ ¬ dp < 0 ∧ ¬ n < 0 ∧ sp.toNatClampNeg + n.toNatClampNeg ≤ p.length ∧ dp.toNatClampNeg + n.toNatClampNeg ≤ g.length ∧ p.all zisI = true ∧
    q = ((pc, lv, r), (h.1.set d (.inl (0, zcp p g sp.toNatClampNeg dp.toNatClampNeg n.toNatClampNeg)), h.2)) := by
  unfold zac at hz
  split at hz
  · next n dp d sp s r =>
    split at hz
    · next p hp =>
      split at hz
      · next g hg =>
        split at hz
        · next hb =>
          have h1 := Bool.and_eq_true_iff.mp hb
          have h2 := Bool.and_eq_true_iff.mp h1.1
          have h3 := Bool.and_eq_true_iff.mp h1.2
          have h4 := Bool.and_eq_true_iff.mp h3.1
          have h5 := Bool.and_eq_true_iff.mp h3.2
          have h6 := Bool.and_eq_true_iff.mp h5.1
          have h7 := Bool.and_eq_true_iff.mp h6.2
          have h8 := Bool.and_eq_true_iff.mp h5.2
          have h9 := Bool.and_eq_true_iff.mp h8.2
          have e1 : p.1 = 0 := Nat.eq_of_beq_eq_true h4.1
          have e2 : g.1 = 0 := Nat.eq_of_beq_eq_true h4.2
          exact ⟨n, dp, d, sp, s, r, p.2, g.2, rfl, by rw [hp, ← e1], by rw [hg, ← e2], Nat.le_of_ble_eq_true h2.1, Nat.le_of_ble_eq_true h2.2, of_decide_eq_true h6.1, of_decide_eq_true h7.1, of_decide_eq_true h7.2, Nat.le_of_ble_eq_true h8.1, Nat.le_of_ble_eq_true h9.1, h9.2, (Option.some.inj hz).symm⟩
        · cases hz
      · cases hz
    · cases hz
  · cases hz
theorem zcn_inv {fr lo pc : Nat} {h : zH} {lv : List (Nat × Value)} {st : List Value} {q : zS × zH} (hz : zcn fr lo h pc lv st = some q) : ∃ k r l, st = .ref k :: r ∧ h.1[k]? = some (.inl (0, l)) ∧ 1 ≤ fr ∧ zcat r + 14 ≤ lo ∧ l.all zisI = true ∧ q = ((pc, lv, .ref h.1.length :: r), (h.1 ++ [.inl (0, l)], h.2 + l.length)) := by
  unfold zcn at hz
  split at hz
  · next k r =>
    split at hz
    · next p hp =>
      split at hz
      · next hb =>
        have h1 := Bool.and_eq_true_iff.mp hb
        have h2 := Bool.and_eq_true_iff.mp h1.1
        have h3 := Bool.and_eq_true_iff.mp h1.2
        have e1 : p.1 = 0 := Nat.eq_of_beq_eq_true h3.1
        exact ⟨k, r, p.2, rfl, by rw [hp, ← e1], Nat.le_of_ble_eq_true h2.1, Nat.le_of_ble_eq_true h2.2, h3.2, (Option.some.inj hz).symm⟩
      · cases hz
    · cases hz
  · cases hz
theorem zcp_len {src dst : List Value} {sp dp n : Nat} (h1 : sp + n ≤ src.length) (h2 : dp + n ≤ dst.length) : (zcp src dst sp dp n).length = dst.length := by
  unfold zcp
  simp
  omega
theorem zcp_get {src dst : List Value} {sp dp n : Nat} (h1 : sp + n ≤ src.length) (h2 : dp + n ≤ dst.length) (j : Nat) : (zcp src dst sp dp n).getD j .null = va_cpy (fun i => src.getD i .null) (fun i => dst.getD i .null) sp dp n j := by
  unfold zcp va_cpy
  simp only [List.getD_eq_getElem?_getD]
  by_cases hj : j < dp
  · rw [List.getElem?_append_left (by rw [List.length_take]; omega), List.getElem?_take_of_lt hj, if_neg (by omega)]
  · rw [List.getElem?_append_right (by rw [List.length_take]; omega)]
    have e : (dst.take dp).length = dp := by rw [List.length_take]; omega
    rw [e]
    by_cases hj2 : j < dp + n
    · rw [if_pos (by omega), List.getElem?_append_left (by rw [List.length_take, List.length_drop]; omega), List.getElem?_take_of_lt (by omega), List.getElem?_drop]
    · have e2 : ((src.drop sp).take n).length = n := by rw [List.length_take, List.length_drop]; omega
      rw [if_neg (by omega), List.getElem?_append_right (by rw [e2]; omega), e2, List.getElem?_drop]
      congr 2
      omega
theorem zisI_ok {l : List Value} (h : l.all zisI = true) {i : Nat} (hi : i < l.length) : ∃ k, l.getD i .null = .int k := by
  have h1 := List.all_eq_true.mp h (l[i]) (List.getElem_mem hi)
  have e : l.getD i .null = l[i] := by simp [List.getD_eq_getElem?_getD, hi]
  rw [e]
  cases hv : l[i] with
  | int k => exact ⟨k, rfl⟩
  | _ => rw [hv] at h1; cases h1
theorem zlM_inv {own : String} {i a w : Nat} {y : MethodName} (hy : zyn[a]? = some y) (h : zlM own i a w = true) : Cond.methodLink own i y ∈ zlw := by
  unfold zlM at h
  rw [hy] at h
  exact zmm (of_decide_eq_true h) rfl
theorem zlMN_inv {own : String} {i a w : Nat} {y : MethodName} (hy : zyn[a]? = some y) (h : zlMN own i a w = true) : Cond.methodLinkNest own i y R_ST ∈ zlw := by
  unfold zlMN at h
  rw [hy] at h
  exact zmm (of_decide_eq_true h) rfl
section ZK
variable {p : Program} {l : Launch} {e : Env} {R : Room} {s : State} {m : MethodId} {args : Array Value} {below : List Frame} {meth : Method} {c : Code} {H : Heap} {locs : List Loc} {cells slots : Nat} {Q : State → Prop}
variable {cc : ByteArray} {own : String} {sa b nL pc n a0 b0 w0 : Nat} {ini : Bool} {kv : Value} {lv : List (Nat × Value)} {st : List Value} {ls : Array Slot} {q : zS × zH}
variable {D : va_G} {tc : Nat → ClassId} {h : zH} {mt : List zM} {call : Nat → List Value → zH → Option (Option Value × zH)} {fr lo : Nat}
theorem zgoe {mc ms : Nat} {r : Option Value × zH} {rest st0 : List Value} {a : Array Value} (hr : va_Run p l e R s m args below meth c H locs cells slots mc ms (F0 m pc ls st0) (rest.map (zt sa b)) (zQc D tc sa b r a) (fun x => b ≤ x))
    (kk : ∀ (H' : Heap) (L : List Loc), zR D tc sa b r.2.1 H' → (∀ x : Nat, x < b → H'[x]? = H[x]?) → (∀ x ∈ L, b ≤ x.base) → W p l e R s m args below meth c H' (locs ++ L) (cells + mc) (slots + ms) Q (F0 m (pc + 3) ls ((r.1.toList ++ rest).map (zt sa b)))) :
    W p l e R s m args below meth c H locs cells slots Q (F0 m pc ls st0) := by
  intro T hT X
  obtain ⟨v, st₀, t, T', L, h0, X', hL, e1, e2, ⟨hv, hRr, hfr⟩, st⟩ := hr T hT X
  obtain rfl : v = r.1.map (zt sa b) := by injection hv
  have hs : (r.1.map (zt sa b)).toList ++ rest.map (zt sa b) = (r.1.toList ++ rest).map (zt sa b) := by
    cases r.1 <;> rfl
  obtain ⟨t2, a1, b1⟩ := kk T'.heap L (by rw [e1]; exact hRr) (fun x hx => by rw [e1, hfr x hx, h0]) hL T' rfl X'
  refine ⟨t2, st t2 ?_, b1⟩
  rw [hs]
  exact a1
set_option maxHeartbeats 4000000 in
theorem zk_s {i : Jvm.ClassFile.Instr} (hx : p.tables.exec = Jvm.exec) (hb : c.code = cc) (hml : c.maxLocals = nL) (hown : s.vm.findClass own = some m.cls) (hts : ∀ w ∈ zlw, w.before args s = true) (hK : va_K D zcl (ztys tc) s) (hR : zR D tc sa b h.1 H)
    (hmt : zT mt) (hg : zgood) (hobj : zlib) (hcal : zCal l mt call fr lo D tc sa b) (hfr : fr ≤ R.frames) (hlo : lo ≤ R.locals)
    (hd : decode cc pc = .ok (i, zlen i n)) (hk : zlnk own nL ini i a0 b0 w0 kv = true) (hl : lv_has ls nL (lv.map (ztl sa b))) (hz : zk mt call fr lo i a0 b0 h pc lv st = some q)
    (hcl : cells + (q.2.1.length - h.1.length) ≤ R.cells) (hsl : slots + (q.2.2 - h.2) ≤ R.slots)
    (kk : ∀ (H' : Heap) (L : List Loc) (ls' : Array Slot), lv_has ls' nL (q.1.2.1.map (ztl sa b)) → zR D tc sa b q.2.1 H' → (∀ x, x < b → H'[x]? = H[x]?) → (∀ x ∈ L, b ≤ x.base) → W p l e R s m args below meth c H' (locs ++ L) (cells + (q.2.1.length - h.1.length)) (slots + (q.2.2 - h.2)) Q (F0 m q.1.1 ls' (q.1.2.2.map (zt sa b)))) :
    W p l e R s m args below meth c H locs cells slots Q (F0 m pc ls (st.map (zt sa b))) := by
  have pre : ∀ (as : List Value) (U : State), U.heap = H → s.WarmedH U.vm → zPc D tc sa b as h (as.map (zt sa b)).toArray U := fun as U hU hW => ⟨rfl, by rw [hU]; exact hR, va_K.moved hW.alike hK, zEx_warm hW (zEx_of hts)⟩
  cases i with
  | invokestatic k =>
    rcases b0 with _ | _ | _ | _ | _ | _ | b0
    · obtain ⟨M, as, rest, r, hM, hki, hlen, rfl, -, hcat, hca, hm1, hm2, rfl⟩ := zcm_inv (show zcm mt call 0 a0 h (pc + 3) lv st = some q from hz)
      obtain ⟨y1, y2, y3, y4, y5, y6, y7, y8, y9⟩ := hmt a0 M hM
      obtain ⟨rm, m1, m2, m3, m4, hMet⟩ := hcal a0 as h r M hM hca
      have hlk := zlM_inv y1 (show zlM own k a0 w0 = true from hk)
      have hrun := va_runS (g := F0 m pc ls ((as.reverse ++ rest).map (zt sa b))) (H := H) (locs := locs) (cells := cells) (slots := slots) (below := below) (e := e) (meth := meth) (As := as.map (zt sa b)) (rest := rest.map (zt sa b)) ⟨hx, hb, hml, hown, hts⟩ hMet
        ⟨callB_of (R := R) (mN M) hts (zgi (hmt a0 M hM)) rfl rfl rfl (hts _ y3) (hts _ hlk) y4 ⟨Nat.le_trans m3 hfr, Nat.le_trans m4 hlo⟩, hts _ (y6 hki)⟩ ⟨zblind, fun U hU hW => pre as U hU hW⟩ rfl (by rw [List.length_map]; exact hlen) hl.1 (by rw [List.map_append, List.map_reverse]) (lv_room (by rw [zcat_t]; exact hcat)) hd ⟨by rw [m1]; exact hcl, by rw [m2]; exact hsl⟩
      refine zgoe hrun fun H' L h1 h2 h3 => ?_
      rw [m1, m2]
      exact kk H' L ls hl h1 h2 h3
    · exact znq hz
    · exact znq hz
    · obtain ⟨x, y, r, rfl, f1, f2, rfl⟩ := zmx_inv (show zmx (fun x y => if y < x then y else x) fr lo h (pc + 3) lv st = some q from hz)
      have hlk : Cond.methodLink own k Lib.Math.min.name ∈ zlw := zmm (of_decide_eq_true (show decide (lw_tbl[w0]? = some (Cond.methodLink own k Lib.Math.min.name)) = true from hk)) rfl
      have h7 := kk H [] ls hl hR (fun _ _ => rfl) (fun x hx => by cases hx)
      rw [List.append_nil] at h7
      have hcl2 : cells + (h.1.length - h.1.length) ≤ R.cells := hcl
      have hsl2 : slots + (h.2 - h.2) ≤ R.slots := hsl
      exact va_mmin hx hb (by rw [hml]; exact hl.1.symm) hown (hts _ hlk) (hts _ hobj.2.2.1.1) (hts _ hobj.2.1) (hts _ hobj.2.2.1.2) (Nat.le_trans f1 hfr) (by rw [zcat_t]; exact Nat.le_trans f2 hlo) (by omega) (by omega) hd (W.cs (cells' := cells + (h.1.length - h.1.length)) (slots' := slots + (h.2 - h.2)) (by omega) (by omega) h7)
    · obtain ⟨x, y, r, rfl, f1, f2, rfl⟩ := zmx_inv (show zmx (fun x y => if x < y then y else x) fr lo h (pc + 3) lv st = some q from hz)
      have hlk : Cond.methodLink own k Lib.Math.max.name ∈ zlw := zmm (of_decide_eq_true (show decide (lw_tbl[w0]? = some (Cond.methodLink own k Lib.Math.max.name)) = true from hk)) rfl
      have h7 := kk H [] ls hl hR (fun _ _ => rfl) (fun x hx => by cases hx)
      rw [List.append_nil] at h7
      have hcl2 : cells + (h.1.length - h.1.length) ≤ R.cells := hcl
      have hsl2 : slots + (h.2 - h.2) ≤ R.slots := hsl
      exact va_mmax hx hb (by rw [hml]; exact hl.1.symm) hown (hts _ hlk) (hts _ hobj.2.2.2.1.1) (hts _ hobj.2.1) (hts _ hobj.2.2.2.1.2) (Nat.le_trans f1 hfr) (by rw [zcat_t]; exact Nat.le_trans f2 hlo) (by omega) (by omega) hd (W.cs (cells' := cells + (h.1.length - h.1.length)) (slots' := slots + (h.2 - h.2)) (by omega) (by omega) h7)
    · obtain ⟨n, dp, d, sp, s0, r, p0, g0, rfl, hs0, hd0, f1, f2, c1, c2, c3, c4, c5, c6, rfl⟩ := zac_inv (show zac fr lo h (pc + 3) lv st = some q from hz)
      have hlk : Cond.methodLink own k arraycopyName ∈ zlw := zmm (of_decide_eq_true (show decide (lw_tbl[w0]? = some (Cond.methodLink own k arraycopyName)) = true from hk)) rfl
      have hc0 : H[b + s0]? = some (arrV (tc 0) p0.length (fun j => zt sa b (p0.getD j .null))) := hR.2 s0 _ hs0
      have hc1 : H[b + d]? = some (arrV (tc 0) g0.length (fun j => zt sa b (g0.getD j .null))) := hR.2 d _ hd0
      have nn : ∀ z : Int32, ¬ z < 0 → z.toInt = (z.toNatClampNeg : Int) := fun z hz => by
        have hz0 : (0 : Int) ≤ z.toInt := by
          have := Int32.not_lt.mp hz
          simpa using Int32.le_iff_toInt_le.mp this
        show z.toInt = ((z.toInt.toNat : Nat) : Int)
        omega
      obtain ⟨-, k0, hk0, cm0, hkk0⟩ := (hK.2 0 (tc 0, .int) rfl).1 p0.length (fun j => zt sa b (p0.getD j .null))
      intro T hT X
      obtain ⟨vm', X', step⟩ := X.arraycopy hx hown (hts _ hlk) (hts _ hobj.2.2.2.2.1.1) (hts _ hobj.2.2.2.2.1.2.1) (hts _ hobj.2.2.2.2.1.2.2) (src := b + s0) (dst := b + d) (cs := arrV (tc 0) p0.length (fun j => zt sa b (p0.getD j .null))) (cd := arrV (tc 0) g0.length (fun j => zt sa b (g0.getD j .null))) (srcPos := sp) (destPos := dp) (n := n) (by rw [hT]; exact hc0) (by rw [hT]; exact hc1)
        (fun _ h => by cases h) (fun _ h => by cases h) (fun h => by cases h) (fun h => by cases h) hk0 hk0 hkk0 hkk0 (by simp) c1 c2 c3
        (by rw [nn sp c1, nn n c3, arrV_size]; omega) (by rw [nn dp c2, nn n c3, arrV_size]; omega)
        (fun vm₁ _ i hi => by
          obtain ⟨kk2, hkk2⟩ := zisI_ok c6 (show sp.toNatClampNeg + i < p0.length by omega)
          have e : (arrV (tc 0) p0.length (fun j => zt sa b (p0.getD j .null))).slots.getD (sp.toNatClampNeg + i) .null = .int kk2 := by
            rw [Array.getD_eq_getD_getElem?, arrV_read _ _ (by omega), hkk2]
            rfl
          rw [e]
          exact ⟨rfl, trivial⟩)
        (g := F0 m pc ls (.int n :: .int dp :: .ref (b + d) :: .int sp :: .ref (b + s0) :: r.map (zt sa b))) rfl (by rw [hml]; exact hl.1) (rest := r.map (zt sa b)) rfl (by rw [hb]; exact hd) (Nat.le_trans f1 hfr)
        (by
          have e := zcat_t sa b r
          show 2 * 0 + ((r.map (zt sa b)).map fun v => v.category).sum + (7 + 11) ≤ R.locals
          omega)
      have e1 : copied (arrV (tc 0) p0.length (fun j => zt sa b (p0.getD j .null))) (arrV (tc 0) g0.length (fun j => zt sa b (g0.getD j .null))) sp dp n = arrV (tc 0) (zcp p0 g0 sp.toNatClampNeg dp.toNatClampNeg n.toNatClampNeg).length (fun j => zt sa b ((zcp p0 g0 sp.toNatClampNeg dp.toNatClampNeg n.toNatClampNeg).getD j .null)) := by
        rw [zcp_len c4 c5]
        refine (va_copied (zt sa b) (tc 0) (tc 0) (fun j => p0.getD j .null) (fun j => g0.getD j .null) c4).trans ?_
        apply arrV_cg
        intro j _
        rw [zcp_get c4 c5]
      rw [e1] at X' step
      have hlt : b + d < T.heap.size := by rw [hT]; exact (Array.getElem?_eq_some_iff.mp hc1).1
      have h7 := kk ((T.setVm vm').setCell (b + d) (arrV (tc 0) (zcp p0 g0 sp.toNatClampNeg dp.toNatClampNeg n.toNatClampNeg).length (fun j => zt sa b ((zcp p0 g0 sp.toNatClampNeg dp.toNatClampNeg n.toNatClampNeg).getD j .null)))).heap (((arrV (tc 0) p0.length (fun j => zt sa b (p0.getD j .null))).stretch sp.toNatClampNeg n.toNatClampNeg).zipIdx.map fun q => (⟨b + d, dp.toNatClampNeg + q.2⟩ : Loc)) ls hl
        (hR.set hd0 (by rw [size_setCell]; show T.heap.size = _; rw [hT]) (fun x hx => by rw [heapAt_setCell_ne _ (Ne.symm hx)]; show T.heap[x]? = _; rw [hT]) (heapAt_setCell_self _ hlt))
        (fun x hxb => by rw [heapAt_setCell_ne _ (Nat.ne_of_gt (Nat.lt_of_lt_of_le hxb (Nat.le_add_right b d)))]; show T.heap[x]? = _; rw [hT])
        (fun x hx => by obtain ⟨z, -, hz⟩ := List.mem_map.mp hx; rw [← hz]; exact Nat.le_add_right b d)
      have hcl2 : cells + (h.1.length - h.1.length) ≤ R.cells := by simpa using hcl
      obtain ⟨t, a1, b1⟩ := (W.cs (cells := cells) (slots := slots) (by simp) (by simp) h7) _ rfl X'
      exact ⟨t, step t a1, b1⟩
    · exact znq hz
  | invokevirtual k =>
    rcases b0 with _ | _ | b0
    · obtain ⟨M, as, rest, r, hM, hki, hlen, rfl, hrc, hcat, hca, hm1, hm2, rfl⟩ := zcm_inv (show zcm mt call 1 a0 h (pc + 3) lv st = some q from hz)
      obtain ⟨y1, y2, y3, y4, y5, y6, y7, y8, y9⟩ := hmt a0 M hM
      obtain ⟨rm, m1, m2, m3, m4, hMet⟩ := hcal a0 as h r M hM hca
      have hlk := zlM_inv y1 (show zlM own k a0 w0 = true from hk)
      obtain ⟨z1, z2, C, z3, z4⟩ := y7 hki
      obtain ⟨u, as', fs, rfl, hu⟩ := zrc1_inv hrc
      have hat : va_at D zcl (b + u, .inr ((mW M).2.2.2, fs.map (zt sa b))) H := hR.2 u _ hu
      have hrec := va_recv hK (zP1 hat) z3 (q0 := 0) rfl
      rw [z4] at hrec
      have hst : ((Value.ref u :: as').reverse ++ rest).map (zt sa b) = (as'.map (zt sa b)).reverse ++ .ref (b + u) :: rest.map (zt sa b) := by simp [zt]
      have hrun := va_runV (g := F0 m pc ls (((Value.ref u :: as').reverse ++ rest).map (zt sa b))) (H := H) (locs := locs) (cells := cells) (slots := slots) (below := below) (e := e) (meth := meth) (b := b + u) (As := as'.map (zt sa b)) (rest := rest.map (zt sa b)) ⟨hx, hb, hml, hown, hts⟩ hMet
        ⟨callB_of (R := R) (mN M) hts (zgi (hmt a0 M hM)) rfl rfl rfl (hts _ y3) (hts _ hlk) y4 ⟨Nat.le_trans m3 hfr, Nat.le_trans m4 hlo⟩, hts _ z1, hts _ z2⟩ ⟨zblind, hrec, fun U hU hW => pre (.ref u :: as') U hU hW⟩ rfl (by rw [List.length_map]; exact Nat.succ.inj hlen) hl.1 hst (lv_room (by rw [zcat_t]; exact hcat)) hd ⟨by rw [m1]; exact hcl, by rw [m2]; exact hsl⟩
      refine zgoe hrun fun H' L h1 h2 h3 => ?_
      rw [m1, m2]
      exact kk H' L ls hl h1 h2 h3
    · obtain ⟨u, r, l0, rfl, hu, f1, f2, f3, rfl⟩ := zcn_inv (show zcn fr lo h (pc + 3) lv st = some q from hz)
      have hlk : Cond.methodLink own k ⟨"[I", "clone", "()Ljava/lang/Object;"⟩ ∈ zlw := zmm (of_decide_eq_true (show decide (lw_tbl[w0]? = some (Cond.methodLink own k ⟨"[I", "clone", "()Ljava/lang/Object;"⟩)) = true from hk)) rfl
      have hc0 : H[b + u]? = some (arrV (tc 0) l0.length (fun j => zt sa b (l0.getD j .null))) := hR.2 u _ hu
      have hnm : s.vm.findClass "[I" = some (tc 0) := (hK.2 0 (tc 0, .int) rfl).2
      obtain ⟨c0, t0', g1, g2, g3⟩ := Cond.castable_spec (hts _ hobj.2.2.2.2.2.2.2.2.2)
      cases hnm.symm.trans g1
      have e1 : (h.1 ++ [(.inl (0, l0) : zC)]).length - h.1.length = 1 := by simp
      have e2 : h.2 + l0.length - h.2 = l0.length := by omega
      have hcl : cells + 1 ≤ R.cells := by rw [← e1]; exact hcl
      have hsl : slots + l0.length ≤ R.slots := by rw [← e2]; exact hsl
      intro T hT X
      obtain ⟨-, kA, hkA, comp, hkind⟩ := State.isArrayOf_alike X.warmed.alike ((hK.2 0 (tc 0, .int) rfl).1 0 (fun _ => .null))
      obtain ⟨-, kS, hkS, compS, hkindS⟩ := (hK.2 0 (tc 0, .int) rfl).1 0 (fun _ => .null)
      obtain ⟨vm', X', step⟩ := X.cloneArray hx hown (hts _ hlk) (hts _ hobj.2.2.2.2.2.1) (hts _ hobj.2.2.2.2.2.2.1) (hts _ hobj.2.2.2.2.2.2.2.1) (hts _ hobj.2.2.2.2.2.2.2.2.1) (a := b + u) (cell := arrV (tc 0) l0.length (fun j => zt sa b (l0.getD j .null))) (by rw [hT]; exact hc0) (fun k h => by cases h) (fun h => by cases h) hnm g2 g3
        (fun i v hv => by
          have hi : i < l0.length := by
            have h9 := (Array.getElem?_eq_some_iff.mp hv).1
            rw [arrV_size] at h9
            exact h9
          obtain ⟨kk2, hkk2⟩ := zisI_ok f3 hi
          rw [arrV_read _ _ hi, hkk2] at hv
          rw [← Option.some.inj hv]
          have hk' : T.vm.classes[tc 0]? = some kA := hkA
          show T.fitsSlot (tc 0) .none i (.int kk2) = true
          simp [State.fitsSlot, State.slotType?, hk', hkind, fits])
        (g := F0 m pc ls (.ref (b + u) :: r.map (zt sa b))) rfl (by rw [hml]; exact hl.1) rfl (by rw [hb]; exact hd) (Nat.le_trans f1 hfr)
        (by
          have e := zcat_t sa b r
          show 2 * 0 + ((r.map (zt sa b)).map fun v => v.category).sum + 14 ≤ R.locals
          omega) hcl (by rw [arrV_size]; exact hsl) (hloader := Vm.clonesLoader_of_array hkS hkindS)
      rw [arrV_size] at X'
      have h7 := kk (H.push (arrV (tc 0) l0.length (fun j => zt sa b (l0.getD j .null)))) [] ls hl (hR.push (by rw [Array.size_push]) (fun x hxl => by rw [Array.getElem?_push, if_neg (Nat.ne_of_lt hxl)]) (by
          show (H.push _)[b + h.1.length]? = some (arrV (tc 0) l0.length (fun j => zt sa b (l0.getD j .null)))
          rw [← hR.1, Array.getElem?_push_size])) (fun x hxb => by rw [Array.getElem?_push, if_neg (by rw [hR.1]; omega)]) (fun x hx => by cases hx)
      rw [List.append_nil] at h7
      obtain ⟨t, a1, b1⟩ := (W.cs (cells := cells + 1) (slots := slots + l0.length) (by rw [e1]) (by rw [e2]) h7) _ (by show T.heap.push _ = _; rw [hT]; rfl) X'
      refine ⟨t, step t ?_, b1⟩
      have e3 : (Value.ref T.heap.size :: r.map (zt sa b)) = (Value.ref h.1.length :: r).map (zt sa b) := by rw [hT, hR.1]; rfl
      rw [e3]
      exact a1
    · exact znq hz
  | invokespecial k =>
    by_cases hb2 : b0 = 2
    · subst hb2
      obtain ⟨u, r, rfl, f1, f2, rfl⟩ := zoi_inv (show zoi fr lo h (pc + 3) lv st = some q from hz)
      have hlk : Cond.methodLink own k Lib.objectInit ∈ zlw := zmm (of_decide_eq_true (show decide (lw_tbl[w0]? = some (Cond.methodLink own k Lib.objectInit)) = true from hk)) rfl
      refine W.objInit hx hb hown (hts _ hlk) (hts _ hobj.1.1) (hts _ hobj.1.2) rfl (by rw [hml]; exact hl.1) rfl hd (Nat.le_trans f1 hfr) ?_ ?_
      · show 2 * (F0 m pc ls ((Value.ref u :: r).map (zt sa b))).monitorRoom + ((r.map (zt sa b)).map fun v => v.category).sum + 12 ≤ R.locals
        rw [zcat_t]
        have h8 : 2 * (F0 m pc ls ((Value.ref u :: r).map (zt sa b))).monitorRoom = 0 := rfl
        omega
      · have h7 := kk H [] ls hl hR (fun _ _ => rfl) (fun x hx => by cases hx)
        rw [List.append_nil] at h7
        refine W.cs (cells' := cells + (h.1.length - h.1.length)) (slots' := slots + (h.2 - h.2)) (by omega) (by omega) ?_
        exact h7
    · have hz2 : zcm mt call 2 a0 h (pc + 3) lv st = some q := by
        rcases b0 with _ | _ | _ | b0
        · exact hz
        · exact hz
        · exact absurd rfl hb2
        · exact znq hz
      obtain ⟨M, as, rest, r, hM, hki, hlen, rfl, hrc, hcat, hca, hm1, hm2, rfl⟩ := zcm_inv hz2
      obtain ⟨y1, y2, y3, y4, y5, y6, y7, y8, y9⟩ := hmt a0 M hM
      obtain ⟨rm, m1, m2, m3, m4, hMet⟩ := hcal a0 as h r M hM hca
      obtain ⟨z1, z2, z3⟩ := y8 hki
      obtain ⟨u, as', rfl⟩ := zrc2_inv hrc
      have hw : zws M = Cond.code (mY M) (mC M) (mL M) none :: zlw.filter goodWord := by unfold zws; rw [z3]
      have hst : ((Value.ref u :: as').reverse ++ rest).map (zt sa b) = (as'.map (zt sa b)).reverse ++ .ref (b + u) :: rest.map (zt sa b) := by simp [zt]
      rcases b0 with _ | _ | _ | b0
      · have hlk := zlM_inv y1 (show zlM own k a0 w0 = true from hk)
        have hrun := va_runI (g := F0 m pc ls (((Value.ref u :: as').reverse ++ rest).map (zt sa b))) (H := H) (locs := locs) (cells := cells) (slots := slots) (below := below) (e := e) (meth := meth) (b := b + u) (As := as'.map (zt sa b)) (rest := rest.map (zt sa b)) ⟨hx, hb, hml, hown, hts⟩ hMet
          ⟨callB_of (R := R) (mN M) hts (zgi (hmt a0 M hM)) hw rfl rfl (hts _ y3) (hts _ hlk) y4 ⟨Nat.le_trans m3 hfr, Nat.le_trans m4 hlo⟩, z2, hts _ z1⟩ ⟨zblind, fun U hU hW => pre (.ref u :: as') U hU hW⟩ rfl (by rw [List.length_map]; exact Nat.succ.inj hlen) hl.1 hst (lv_room (by rw [zcat_t]; exact hcat)) hd ⟨by rw [m1]; exact hcl, by rw [m2]; exact hsl⟩
        refine zgoe hrun fun H' L h1 h2 h3 => ?_
        rw [m1, m2]
        exact kk H' L ls hl h1 h2 h3
      · have hlk := zlMN_inv y1 (show zlMN own k a0 w0 = true from hk)
        have hrun := va_runIN (g := F0 m pc ls (((Value.ref u :: as').reverse ++ rest).map (zt sa b))) (H := H) (locs := locs) (cells := cells) (slots := slots) (below := below) (e := e) (meth := meth) (b := b + u) (As := as'.map (zt sa b)) (rest := rest.map (zt sa b)) ⟨hx, hb, hml, hown, hts⟩ hMet
          ⟨va_cnB (R := R) (mN M) hts (zgi (hmt a0 M hM)) hw rfl rfl (va_Nw.of rfl (hts _ hlk)) (hts _ y3) y4 ⟨Nat.le_trans m3 hfr, Nat.le_trans m4 hlo⟩, z2, hts _ z1⟩ ⟨zblind, fun U hU hW => pre (.ref u :: as') U hU hW⟩ rfl (by rw [List.length_map]; exact Nat.succ.inj hlen) hl.1 hst (lv_room (by rw [zcat_t]; exact hcat)) hd ⟨by rw [m1]; exact hcl, by rw [m2]; exact hsl⟩
        refine zgoe hrun fun H' L h1 h2 h3 => ?_
        rw [m1, m2]
        exact kk H' L ls hl h1 h2 h3
      · exact absurd rfl hb2
      · exact znq hz
  | _ => exact znq hz
end ZK
end
section
-- the loop of steps; a whole method
theorem zw_len {i : Jvm.ClassFile.Instr} {a b pc : Nat} {h : List zC} {lv : List (Nat × Value)} {st : List Value} {q : zS × List zC} (hz : zw i a b h pc lv st = some q) : q.2.length = h.length := by
  cases i with
  | putfield k => obtain ⟨v, u, r, fs, -, -, -, -, rfl⟩ := zpf_inv hz; simp
  | iastore => obtain ⟨x, j, u, r, l, -, -, -, rfl⟩ := zis_inv hz; simp
  | bastore => obtain ⟨x, j, u, r, l, -, -, -, rfl⟩ := zbs_inv hz; simp
  | lastore => obtain ⟨x, j, u, r, l, -, -, -, rfl⟩ := zls_inv hz; simp
  | aastore => obtain ⟨v, j, u, r, t, l, -, -, -, -, rfl⟩ := zas_inv hz; simp
  | _ => exact znq hz
theorem zn_len {i : Jvm.ClassFile.Instr} {a pc : Nat} {h : zH} {lv : List (Nat × Value)} {st : List Value} {q : zS × zH} (hz : zn i a h pc lv st = some q) : h.1.length ≤ q.2.1.length ∧ h.2 ≤ q.2.2 := by
  cases i with
  | new k => obtain rfl := Option.some.inj hz; simp
  | newarray t =>
    cases t with
    | int => obtain ⟨n, r, -, -, -, rfl⟩ := zna_inv (show zna a (.int 0) h (pc + 2) lv st = some q from hz); simp
    | boolean => obtain ⟨n, r, -, -, -, rfl⟩ := zna_inv (show zna a (.int 0) h (pc + 2) lv st = some q from hz); simp
    | long => obtain ⟨n, r, -, -, -, rfl⟩ := zna_inv (show zna a (.long 0) h (pc + 2) lv st = some q from hz); simp
    | _ => exact znq hz
  | anewarray k => obtain ⟨n, r, -, -, -, rfl⟩ := zna_inv hz; simp
  | _ => exact znq hz
theorem zk_len {mt : List zM} {call : Nat → List Value → zH → Option (Option Value × zH)} {fr lo : Nat} {i : Jvm.ClassFile.Instr} {a b pc : Nat} {h : zH} {lv : List (Nat × Value)} {st : List Value} {q : zS × zH} (hz : zk mt call fr lo i a b h pc lv st = some q) : h.1.length ≤ q.2.1.length ∧ h.2 ≤ q.2.2 := by
  have key : ∀ {kind : Nat}, zcm mt call kind a h (pc + 3) lv st = some q → h.1.length ≤ q.2.1.length ∧ h.2 ≤ q.2.2 := fun hz => by
    obtain ⟨M, as, rest, r, -, -, -, -, -, -, -, h1, h2, rfl⟩ := zcm_inv hz
    exact ⟨h1, h2⟩
  cases i with
  | invokestatic k =>
    rcases b with _ | _ | _ | _ | _ | _ | b
    · exact key (show zcm mt call 0 a h (pc + 3) lv st = some q from hz)
    · exact znq hz
    · exact znq hz
    · obtain ⟨x, y, r, -, -, -, rfl⟩ := zmx_inv (show zmx (fun x y => if y < x then y else x) fr lo h (pc + 3) lv st = some q from hz)
      exact ⟨Nat.le_refl _, Nat.le_refl _⟩
    · obtain ⟨x, y, r, -, -, -, rfl⟩ := zmx_inv (show zmx (fun x y => if x < y then y else x) fr lo h (pc + 3) lv st = some q from hz)
      exact ⟨Nat.le_refl _, Nat.le_refl _⟩
    · obtain ⟨n, dp, d, sp, s0, r, p0, g0, -, -, -, -, -, -, -, -, -, -, -, rfl⟩ := zac_inv (show zac fr lo h (pc + 3) lv st = some q from hz)
      simp
    · exact znq hz
  | invokevirtual k =>
    rcases b with _ | _ | b
    · exact key (show zcm mt call 1 a h (pc + 3) lv st = some q from hz)
    · obtain ⟨u, r, l0, -, -, -, -, -, rfl⟩ := zcn_inv (show zcn fr lo h (pc + 3) lv st = some q from hz)
      simp
    · exact znq hz
  | invokespecial k =>
    rcases b with _ | _ | _ | b
    · exact key (show zcm mt call 2 a h (pc + 3) lv st = some q from hz)
    · exact key (show zcm mt call 2 a h (pc + 3) lv st = some q from hz)
    · obtain ⟨u, r, -, -, -, rfl⟩ := zoi_inv (show zoi fr lo h (pc + 3) lv st = some q from hz)
      exact ⟨Nat.le_refl _, Nat.le_refl _⟩
    · exact znq hz
  | _ => exact znq hz
theorem zstep_inv {mt : List zM} {call : Nat → List Value → zH → Option (Option Value × zH)} {fr lo : Nat} {xs : zX} {x : zE} {s : zS} {h : zH} {q : zS × zH} (hz : zstep mt call fr lo xs x s h = some q) :
    (∃ s', zp (xI x) (xV x) s.1 s.2.1 s.2.2 = some s' ∧ q = (s', h)) ∨ (∃ s', zr (xI x) (xA x) (xB x) xs h.1 s.1 s.2.1 s.2.2 = some s' ∧ q = (s', h)) ∨ (∃ y, zw (xI x) (xA x) (xB x) h.1 s.1 s.2.1 s.2.2 = some y ∧ q = (y.1, (y.2, h.2))) ∨ zn (xI x) (xA x) h s.1 s.2.1 s.2.2 = some q ∨ zk mt call fr lo (xI x) (xA x) (xB x) h s.1 s.2.1 s.2.2 = some q := by
  unfold zstep at hz
  split at hz
  · next s' h1 => exact Or.inl ⟨s', h1, (Option.some.inj hz).symm⟩
  · split at hz
    · next s' h1 => exact Or.inr (Or.inl ⟨s', h1, (Option.some.inj hz).symm⟩)
    · split at hz
      · next y h1 => exact Or.inr (Or.inr (Or.inl ⟨y, h1, (Option.some.inj hz).symm⟩))
      · split at hz
        · next y h1 => exact Or.inr (Or.inr (Or.inr (Or.inl (by rw [h1]; exact hz))))
        · exact Or.inr (Or.inr (Or.inr (Or.inr hz)))
theorem zstep_len {mt : List zM} {call : Nat → List Value → zH → Option (Option Value × zH)} {fr lo : Nat} {xs : zX} {x : zE} {s : zS} {h : zH} {q : zS × zH} (hz : zstep mt call fr lo xs x s h = some q) : h.1.length ≤ q.2.1.length ∧ h.2 ≤ q.2.2 := by
  rcases zstep_inv hz with ⟨s', -, rfl⟩ | ⟨s', -, rfl⟩ | ⟨y, h1, rfl⟩ | h1 | h1
  · exact ⟨Nat.le_refl _, Nat.le_refl _⟩
  · exact ⟨Nat.le_refl _, Nat.le_refl _⟩
  · exact ⟨Nat.le_of_eq (zw_len h1).symm, Nat.le_refl _⟩
  · exact zn_len h1
  · exact zk_len h1
theorem zloop_len {mt : List zM} {call : Nat → List Value → zH → Option (Option Value × zH)} {fr lo : Nat} {xs : zX} {M : zM} : ∀ {f : Nat} {s : zS} {h : zH} {r : Option Value × zH}, zloop mt call fr lo xs M f s h = some r → h.1.length ≤ r.2.1.length ∧ h.2 ≤ r.2.2
  | 0, s, h, r, hz => by cases hz
  | f + 1, s, h, r, hz => by
    unfold zloop at hz
    split at hz
    · cases hz
    · split at hz
      · obtain rfl := Option.some.inj hz
        exact ⟨Nat.le_refl _, Nat.le_refl _⟩
      · split at hz
        · cases hz
        · next q hq =>
          have h1 := zstep_len hq
          have h2 := zloop_len hz
          exact ⟨Nat.le_trans h1.1 h2.1, Nat.le_trans h1.2 h2.2⟩
theorem zlk_inv {pc : Nat} {x : zE} : ∀ {t : List zE}, zlk t pc = some x → x ∈ t ∧ xP x = pc
  | [], h => by cases h
  | y :: r, h => by
    unfold zlk at h
    split at h
    · next hq =>
      obtain rfl := Option.some.inj h
      exact ⟨List.mem_cons_self, Nat.eq_of_beq_eq_true hq⟩
    · obtain ⟨h1, h2⟩ := zlk_inv h
      exact ⟨List.mem_cons_of_mem _ h1, h2⟩
theorem zlk2_inv {pc : Nat} {x : zE} : ∀ {t : List (Nat × List zE)}, zlk2 t pc = some x → ∃ g ∈ t, x ∈ g.2 ∧ xP x = pc
  | [], h => by cases h
  | y :: r, h => by
    unfold zlk2 at h
    split at h
    · exact ⟨y, List.mem_cons_self, zlk_inv h⟩
    · obtain ⟨g, h1, h2⟩ := zlk2_inv h
      exact ⟨g, List.mem_cons_of_mem _ h1, h2⟩
section ZL
variable {p : Program} {l : Launch} {e : Env} {R : Room} {s : State} {m : MethodId} {args : Array Value} {below : List Frame} {meth : Method} {c : Code} {Q : State → Prop}
variable {cc : ByteArray} {own : String} {sa b nL : Nat} {ini : Bool} {D : va_G} {tc : Nat → ClassId} {xs : zX} {mt : List zM} {call : Nat → List Value → zH → Option (Option Value × zH)} {fr lo : Nat} {M : zM}
set_option maxHeartbeats 4000000 in
theorem zloop_s (hx : p.tables.exec = Jvm.exec) (hb : c.code = cc) (hml : c.maxLocals = nL) (hown : s.vm.findClass own = some m.cls) (hts : ∀ w ∈ zlw, w.before args s = true) (hnm : ini = true → meth.name = "<init>") (hK : va_K D zcl (ztys tc) s) (hsb : ∀ x, xs = some x → sa < b)
    (hmt : zT mt) (hg : zgood) (hobj : zlib) (hcal : zCal l mt call fr lo D tc sa b) (hfr : fr ≤ R.frames) (hlo : lo ≤ R.locals)
    (hM : ∀ g ∈ mT M, ∀ x ∈ g.2, zxo own cc nL ini x = true) {Cf Sf : Nat} (hCf : Cf ≤ R.cells) (hSf : Sf ≤ R.slots) {r : Option Value × zH} {H0 : Heap}
    (hend : ∀ (pc : Nat) (st : List Value) (ls : Array Slot) (H : Heap) (locs : List Loc) (i : Jvm.ClassFile.Instr) (n : Nat), decode cc pc = .ok (i, zlen i n) → zre (mR M) i st = some r.1 → zR D tc sa b r.2.1 H → (∀ x, x < b → H[x]? = H0[x]?) → (∀ x ∈ locs, b ≤ x.base) → W p l e R s m args below meth c H locs Cf Sf Q (F0 m pc ls (st.map (zt sa b)))) :
    ∀ (f : Nat) (z : zS) (h : zH) (ls : Array Slot) (H : Heap) (locs : List Loc) (cells slots : Nat), zloop mt call fr lo xs M f z h = some r → lv_has ls nL (z.2.1.map (ztl sa b)) → zR D tc sa b h.1 H → (∀ x, xs = some x → va_X sa x.1 x.2 s H) → (∀ x, x < b → H[x]? = H0[x]?) → (∀ x ∈ locs, b ≤ x.base) →
      cells + (r.2.1.length - h.1.length) = Cf → slots + (r.2.2 - h.2) = Sf → W p l e R s m args below meth c H locs cells slots Q (F0 m z.1 ls (z.2.2.map (zt sa b))) := by
  intro f
  induction f with
  | zero => intro z h ls H locs cells slots hz; cases hz
  | succ f ih =>
    intro z h ls H locs cells slots hz hl hR hX hF hL hc1 hc2
    unfold zloop at hz
    split at hz
    · cases hz
    · next x hxk =>
      obtain ⟨g, hgm, hxm, hpc⟩ := zlk2_inv hxk
      have hxo := Bool.and_eq_true_iff.mp (hM g hgm x hxm)
      have hd : decode cc z.1 = .ok (xI x, zlen (xI x) (xN x)) := by rw [← hpc]; exact of_decide_eq_true hxo.1
      have hk := hxo.2
      split at hz
      · next rv hre =>
        obtain rfl := Option.some.inj hz
        refine W.cs (cells' := Cf) (slots' := Sf) (by have e : cells + (h.1.length - h.1.length) = Cf := hc1; omega) (by have e : slots + (h.2 - h.2) = Sf := hc2; omega) ?_
        exact hend z.1 z.2.2 ls H locs (xI x) (xN x) hd hre hR hF hL
      · split at hz
        · cases hz
        · next q hq =>
          have hlen := zstep_len hq
          have hlen2 := zloop_len hz
          have app : ∀ {L : List Loc}, (∀ x ∈ L, b ≤ x.base) → ∀ x ∈ locs ++ L, b ≤ x.base := fun hL2 x hx => by
            rcases List.mem_append.mp hx with h | h
            · exact hL x h
            · exact hL2 x h
          have keep : ∀ {H' : Heap}, (∀ x, x < b → H'[x]? = H[x]?) → ∀ x, xs = some x → va_X sa x.1 x.2 s H' := fun h1 x hxs => (hX x hxs).kept (h1 sa (hsb x hxs))
          rcases zstep_inv hq with ⟨s', h1, rfl⟩ | ⟨s', h1, rfl⟩ | ⟨y, h1, rfl⟩ | h1 | h1
          · exact zp_s hx hb hown hts hd hk hl h1 (fun ls' hl' => ih s' h ls' H locs cells slots hz hl' hR hX hF hL hc1 hc2)
          · exact zr_s hx hb hown hts hK hR hX hd hk hl h1 (fun ls' hl' => ih s' h ls' H locs cells slots hz hl' hR hX hF hL hc1 hc2)
          · refine zw_s hx hb hown hts hnm hK hR hd hk hl h1 (fun H' L ls' hl' hR' hF' hL' => ih y.1 (y.2, h.2) ls' H' (locs ++ L) cells slots hz hl' hR' (keep hF') (fun x hx => (hF' x hx).trans (hF x hx)) (app hL') ?_ hc2)
            show cells + (r.2.1.length - y.2.length) = Cf
            rw [zw_len h1]
            exact hc1
          · refine zn_s hx hb hown hts hK hR hd hk hl h1 (by omega) (by omega) (fun H' ls' hl' hR' hF' => ih q.1 q.2 ls' H' locs _ _ hz hl' hR' (keep hF') (fun x hx => (hF' x hx).trans (hF x hx)) hL (by omega) (by omega))
          · refine zk_s hx hb hml hown hts hK hR hmt hg hobj hcal hfr hlo hd hk hl h1 (by omega) (by omega) (fun H' L ls' hl' hR' hF' hL' => ih q.1 q.2 ls' H' (locs ++ L) _ _ hz hl' hR' (keep hF') (fun x hx => (hF' x hx).trans (hF x hx)) (app hL') (by omega) (by omega))
end ZL
theorem zsl_len (vs : List Value) : (lg_sl vs).length = zcat vs := by
  induction vs with
  | nil => rfl
  | cons v r ih =>
    have h1 : lg_sl (v :: r) = (if v.category = 2 then [Slot.val v, .second] else [.val v]) ++ lg_sl r := by simp [lg_sl]
    have h2 : zcat (v :: r) = v.category + zcat r := by simp [zcat]
    rw [h1, h2, List.length_append, ih]
    cases v <;> rfl
theorem zargs (sa b : Nat) : ∀ (vs : List Value) (i : Nat), lv_args i (vs.map (zt sa b)) = (lv_args i vs).map (ztl sa b)
  | [], _ => rfl
  | v :: r, i => by
    show (i, zt sa b v) :: lv_args (if (zt sa b v).category = 2 then i + 2 else i + 1) (r.map (zt sa b)) = _
    rw [zt_cat, zargs sa b r]
    rfl
theorem zre_s {p : Program} {l : Launch} {e : Env} {R : Room} {s : State} {m : MethodId} {args : Array Value} {below : List Frame} {meth : Method} {c : Code} {cc : ByteArray} {sa b Cf Sf pc n : Nat} {D : va_G} {tc : Nat → ClassId} {H : Heap} {locs : List Loc} {ls : Array Slot} {st : List Value} {i : Jvm.ClassFile.Instr} {ret : Option FieldType} {r : Option Value × zH}
    (hx : p.tables.exec = Jvm.exec) (hb : c.code = cc) (hr : meth.sig.returnType = ret) (hlocks : meth.locks = false) (hd : decode cc pc = .ok (i, zlen i n)) (hz : zre ret i st = some r.1) (hR : zR D tc sa b r.2.1 H) (hF : ∀ x, x < b → H[x]? = s.heap[x]?) (hL : ∀ x ∈ locs, b ≤ x.base) :
    W p l e R s m args below meth c H locs Cf Sf (MQ below (zQc D tc sa b r) args s Cf Sf (fun x => b ≤ x)) (F0 m pc ls (st.map (zt sa b))) := by
  have post : ∀ {v : Option Value}, r.1 = v → ∀ t : State, t.heap = H → s.WarmedH t.vm → zQc D tc sa b r args s (.returned (v.map (zt sa b))) t := fun hv t ht _ => ⟨by rw [hv], by rw [ht]; exact hR, fun x hx => by rw [ht]; exact hF x hx⟩
  cases i with
  | return_ =>
    unfold zre at hz
    dsimp only at hz
    split at hz
    · exact W.vret hx hb hr (post (v := none) (Option.some.inj hz).symm) hL hd hlocks
    · cases hz
  | ireturn =>
    unfold zre at hz
    dsimp only at hz
    split at hz
    · next ty v =>
      split at hz
      · next hf => exact W.zret hx hb hr (zfit_ok (sa := sa) (b := b) hf).1 (post (v := some (.int v)) (Option.some.inj hz).symm) hL hd hlocks
      · cases hz
    · cases hz
  | lreturn =>
    unfold zre at hz
    dsimp only at hz
    split at hz
    · next v => exact W.lret hx hb hr (post (v := some (.long v)) (Option.some.inj hz).symm) hL hd hlocks
    · cases hz
  | areturn =>
    unfold zre at hz
    dsimp only at hz
    split at hz
    · exact W.aret hx hb hr (Or.inl ⟨_, rfl⟩) (Or.inl rfl) (post (v := some .null) (Option.some.inj hz).symm) hL hd hlocks
    · next k => exact W.aret (v := .ref (b + k)) hx hb hr (Or.inl ⟨_, rfl⟩) (Or.inr ⟨_, rfl⟩) (post (v := some (.ref k)) (Option.some.inj hz).symm) hL hd hlocks
    · exact W.aret hx hb hr (Or.inr ⟨_, rfl⟩) (Or.inl rfl) (post (v := some .null) (Option.some.inj hz).symm) hL hd hlocks
    · next k => exact W.aret (v := .ref (b + k)) hx hb hr (Or.inr ⟨_, rfl⟩) (Or.inr ⟨_, rfl⟩) (post (v := some (.ref k)) (Option.some.inj hz).symm) hL hd hlocks
    · cases hz
  | _ => exact znq hz
set_option maxHeartbeats 4000000 in
theorem zbody_s {l : Launch} {sa b : Nat} {D : va_G} {tc : Nat → ClassId} {mt : List zM} {call : Nat → List Value → zH → Option (Option Value × zH)} {fr lo f a : Nat} {as : List Value} {h : zH} {r : Option Value × zH} {M : zM}
    (hmt : zT mt) (hg : zgood) (hobj : zlib) (hcal : zCal l mt call fr lo D tc sa b) (hM : mt[a]? = some M) (hz : zbody mt call fr lo none f a as h = some r) :
    Met l (mY M) (zws M) { frames := fr, cells := r.2.1.length - h.1.length, slots := r.2.2 - h.2, locals := lo } (zPc D tc sa b as h) (zQc D tc sa b r) (r.2.1.length - h.1.length) (r.2.2 - h.2) (fun x => b ≤ x) := by
  obtain ⟨y1, y2, y3, y4, y5, y6, y7, y8, y9⟩ := hmt a M hM
  refine Met.ofW (cc := mC M) (maxL := mL M) (ret := mR M) y5 rfl ?_
  intro p e s m args below meth c s₁ B hml hv
  obtain ⟨rfl, hR, hK, hEx⟩ := hv
  have hx := B.exec
  have hb := B.bytes
  have hr := B.returns
  have hts0 := atoms_spec (ws := zws M) B.pre
  have hts : ∀ w ∈ zlw, w.before (as.map (zt sa b)).toArray s = true := fun w hw => by
    rcases hg w hw with h1 | h1
    · exact hts0 w (List.mem_cons_of_mem _ (List.mem_filter.mpr ⟨hw, h1⟩))
    · exact zEx_use hEx hw h1
  have hown : s.vm.findClass (mY M).cls = some m.cls := findClass_of_methodNamed B.named
  have hlocks := B.notSynchronized
  have hin : meth.name = (mY M).name := (name_of_methodNamed B.named B.method).1
  unfold zbody at hz
  rw [hM] at hz
  dsimp only at hz
  split at hz
  · next hle =>
    have hle2 : zcat as ≤ mL M := Nat.le_of_ble_eq_true hle
    have hl := lv_entry (as.map (zt sa b)) (n := mL M) (by rw [zsl_len]; have e := zcat_t sa b as; unfold zcat; rw [e]; exact hle2)
    rw [lg_entry_eq]
    generalize (lg_sl (as.map (zt sa b)) ++ List.replicate (mL M - (lg_sl (as.map (zt sa b))).length) Slot.unset).toArray = ls at hl ⊢
    rw [zargs] at hl
    exact zloop_s (M := M) (H0 := s.heap) hx hb hml hown hts (fun h => by rw [hin]; exact (y8 (Nat.eq_of_beq_eq_true h)).2.1) hK (fun x hx => by cases hx) hmt hg hobj hcal (Nat.le_refl _) (Nat.le_refl _) y9 (Nat.le_refl _) (Nat.le_refl _)
      (fun pc st ls H locs i n h1 h2 h3 h4 h5 => zre_s hx hb hr hlocks h1 h2 h3 h4 h5) f (0, lv_args 0 as, []) h ls s.heap [] 0 0 hz hl hR (fun x hx => by cases hx) (fun _ _ => rfl) (fun x hx => by cases hx) (Nat.zero_add _) (Nat.zero_add _)
  · cases hz
theorem zcall_s {l : Launch} {sa b : Nat} {D : va_G} {tc : Nat → ClassId} {mt : List zM} {f : Nat} (hmt : zT mt) (hg : zgood) (hobj : zlib) :
    ∀ (fr lo a : Nat) (as : List Value) (h : zH) (r : Option Value × zH) (M : zM), mt[a]? = some M → zcall mt f fr lo a as h = some r →
      Met l (mY M) (zws M) { frames := fr, cells := r.2.1.length - h.1.length, slots := r.2.2 - h.2, locals := lo } (zPc D tc sa b as h) (zQc D tc sa b r) (r.2.1.length - h.1.length) (r.2.2 - h.2) (fun x => b ≤ x) := by
  intro fr
  induction fr with
  | zero =>
    intro lo a as h r M hM hz
    exact zbody_s hmt hg hobj (fun a as h r M _ hc => by cases hc) hM hz
  | succ fr ih =>
    intro lo a as h r M hM hz
    refine zbody_s hmt hg hobj (fun a' as' h' r' M' hM' hc => ?_) hM hz
    rw [hM'] at hc
    dsimp only at hc
    split at hc
    · next hle =>
      have hle2 : 19 + mL M' ≤ lo := Nat.le_of_ble_eq_true hle
      exact ⟨_, rfl, rfl, Nat.le_refl _, by show 8 + (mL M' + 11) + (lo - (19 + mL M')) ≤ lo; omega, ih (lo - (19 + mL M')) a' as' h' r' M' hM' hc⟩
    · cases hc
end
section
theorem zall {t : List (Nat × List zE)} {p : zE → Bool} (h : (t.all fun g => g.2.all p) = true) : ∀ g ∈ t, ∀ x ∈ g.2, p x = true := fun g hg x hx => List.all_eq_true.mp (List.all_eq_true.mp h g hg) x hx
end
section
noncomputable def k_ST_init : List (Nat × List zE) := [(21, [(0, .aload_n 0, 1, 0, 0, 0, .null), (1, .invokespecial 3, 3, 0, 2, 77, .null), (4, .aload_n 0, 1, 0, 0, 0, .null), (5, .iconst 2, 1, 0, 0, 0, .null), (6, .anewarray 9, 3, 3, 0, 80, .null), (9, .putfield 11, 3, 0, 0, 166, .null), (12, .aload_n 0, 1, 0, 0, 0, .null), (13, .iconst 2, 1, 0, 0, 0, .null), (14, .anewarray 9, 3, 3, 0, 80, .null), (17, .putfield 15, 3, 0, 1, 167, .null), (20, .aload_n 0, 1, 0, 0, 0, .null), (21, .iconst 2, 1, 0, 0, 0, .null)]),
  (47, [(22, .anewarray 18, 3, 4, 0, 82, .null), (25, .putfield 20, 3, 0, 2, 168, .null), (28, .aload_n 0, 1, 0, 0, 0, .null), (29, .new 24, 3, 1, 0, 84, .null), (32, .dup, 1, 0, 0, 0, .null), (33, .invokespecial 26, 3, 1, 0, 86, .null), (36, .putfield 27, 3, 0, 3, 169, .null), (39, .aload_n 0, 1, 0, 0, 0, .null), (40, .new 31, 3, 2, 0, 98, .null), (43, .dup, 1, 0, 0, 0, .null), (44, .invokespecial 33, 3, 3, 1, 100, .null), (47, .putfield 34, 3, 0, 4, 170, .null)]),
  (70, [(50, .aload_n 0, 1, 0, 0, 0, .null), (51, .aconst_null, 1, 0, 0, 0, .null), (52, .putfield 38, 3, 0, 5, 171, .null), (55, .aload_n 0, 1, 0, 0, 0, .null), (56, .sipush 256, 3, 0, 0, 0, .null), (59, .newarray .int, 2, 0, 0, 0, .null), (61, .putfield 42, 3, 0, 6, 172, .null), (64, .aload_n 0, 1, 0, 0, 0, .null), (65, .iconst 0, 1, 0, 0, 0, .null), (66, .putfield 46, 3, 0, 7, 173, .null), (69, .aload_n 0, 1, 0, 0, 0, .null), (70, .iconst 0, 1, 0, 0, 0, .null)]),
  (96, [(71, .putfield 50, 3, 0, 8, 174, .null), (74, .aload_n 0, 1, 0, 0, 0, .null), (75, .new 53, 3, 3, 0, 114, .null), (78, .dup, 1, 0, 0, 0, .null), (79, .invokespecial 55, 3, 4, 1, 116, .null), (82, .putfield 56, 3, 0, 9, 175, .null), (85, .aload_n 0, 1, 0, 0, 0, .null), (86, .new 53, 3, 3, 0, 114, .null), (89, .dup, 1, 0, 0, 0, .null), (90, .invokespecial 55, 3, 4, 1, 116, .null), (93, .putfield 60, 3, 0, 10, 176, .null), (96, .aload_n 0, 1, 0, 0, 0, .null)]),
  (117, [(97, .bipush 16, 2, 0, 0, 0, .null), (99, .anewarray 53, 3, 5, 0, 114, .null), (102, .putfield 63, 3, 0, 11, 177, .null), (105, .aload_n 0, 1, 0, 0, 0, .null), (106, .bipush 16, 2, 0, 0, 0, .null), (108, .newarray .int, 2, 0, 0, 0, .null), (110, .putfield 67, 3, 0, 12, 178, .null), (113, .iconst 0, 1, 0, 0, 0, .null), (114, .istore_n 1, 1, 0, 0, 0, .null), (115, .iload_n 1, 1, 0, 0, 0, .null), (116, .iconst 2, 1, 0, 0, 0, .null), (117, .if_icmp .ge 48, 3, 0, 0, 0, .null)]),
  (141, [(120, .aload_n 0, 1, 0, 0, 0, .null), (121, .getfield 11, 3, 0, 0, 166, .null), (124, .iload_n 1, 1, 0, 0, 0, .null), (125, .new 9, 3, 4, 0, 80, .null), (128, .dup, 1, 0, 0, 0, .null), (129, .invokespecial 70, 3, 5, 1, 129, .null), (132, .aastore, 1, 0, 0, 0, .null), (133, .aload_n 0, 1, 0, 0, 0, .null), (134, .getfield 15, 3, 0, 1, 167, .null), (137, .iload_n 1, 1, 0, 0, 0, .null), (138, .new 9, 3, 4, 0, 80, .null), (141, .dup, 1, 0, 0, 0, .null)]),
  (165, [(142, .invokespecial 70, 3, 5, 1, 129, .null), (145, .aastore, 1, 0, 0, 0, .null), (146, .aload_n 0, 1, 0, 0, 0, .null), (147, .getfield 20, 3, 0, 2, 168, .null), (150, .iload_n 1, 1, 0, 0, 0, .null), (151, .new 18, 3, 5, 0, 82, .null), (154, .dup, 1, 0, 0, 0, .null), (155, .invokespecial 71, 3, 6, 1, 143, .null), (158, .aastore, 1, 0, 0, 0, .null), (159, .iinc 1 1, 3, 0, 0, 0, .null), (162, .goto (-47), 3, 0, 0, 0, .null), (165, .iconst 0, 1, 0, 0, 0, .null)]),
  (186, [(166, .istore_n 1, 1, 0, 0, 0, .null), (167, .iload_n 1, 1, 0, 0, 0, .null), (168, .bipush 16, 2, 0, 0, 0, .null), (170, .if_icmp .ge 22, 3, 0, 0, 0, .null), (173, .aload_n 0, 1, 0, 0, 0, .null), (174, .getfield 63, 3, 0, 11, 177, .null), (177, .iload_n 1, 1, 0, 0, 0, .null), (178, .new 53, 3, 3, 0, 114, .null), (181, .dup, 1, 0, 0, 0, .null), (182, .invokespecial 55, 3, 4, 1, 116, .null), (185, .aastore, 1, 0, 0, 0, .null), (186, .iinc 1 1, 3, 0, 0, 0, .null)]),
  (192, [(189, .goto (-22), 3, 0, 0, 0, .null), (192, .return_, 1, 0, 0, 0, .null)])]
noncomputable def M_ST_init : zM := (y_ST_init, prog_1_method_1_code, 2, (Option.none : Option FieldType), 0, (0, 0, 0, 0), 2, k_ST_init)
set_option maxRecDepth 100000 in
theorem x_ST_init : (k_ST_init.all fun g => g.2.all (zxo R_ST prog_1_method_1_code 2 true)) = true := by decide +kernel
set_option maxRecDepth 100000 in
theorem o_ST_init : zMo 0 M_ST_init := ⟨rfl, zmm (k := 76) rfl rfl, zmm (k := 59) (by decide +kernel) rfl, by decide +kernel, by decide +kernel, fun h => (by cases h), fun h => (by cases h), fun _ => ⟨zmm (k := 75) (by decide +kernel) rfl, rfl, rfl⟩, zall x_ST_init⟩
noncomputable def k_Fr_init : List (Nat × List zE) := [(21, [(0, .aload_n 0, 1, 0, 0, 0, .null), (1, .invokespecial 3, 3, 0, 2, 89, .null), (4, .aload_n 0, 1, 0, 0, 0, .null), (5, .bipush 9, 2, 0, 0, 0, .null), (7, .newarray .int, 2, 0, 0, 0, .null), (9, .putfield 9, 3, 1, 0, 93, .null), (12, .aload_n 0, 1, 0, 0, 0, .null), (13, .getfield 9, 3, 1, 0, 93, .null), (16, .iconst (-1), 1, 0, 0, 0, .null), (17, .invokestatic 15, 3, 2, 0, 90, .null), (20, .aload_n 0, 1, 0, 0, 0, .null), (21, .getfield 9, 3, 1, 0, 93, .null)]),
  (28, [(24, .bipush 8, 2, 0, 0, 0, .null), (26, .iconst 0, 1, 0, 0, 0, .null), (27, .iastore, 1, 0, 0, 0, .null), (28, .return_, 1, 0, 0, 0, .null)])]
noncomputable def M_Fr_init : zM := (y_Fr_init, prog_5_method_1_code, 1, (Option.none : Option FieldType), 0, (0, 0, 0, 1), 2, k_Fr_init)
set_option maxRecDepth 100000 in
theorem x_Fr_init : (k_Fr_init.all fun g => g.2.all (zxo R_Fr prog_5_method_1_code 1 true)) = true := by decide +kernel
set_option maxRecDepth 100000 in
theorem o_Fr_init : zMo 1 M_Fr_init := ⟨rfl, zmm (k := 88) rfl rfl, zmm (k := 60) (by decide +kernel) rfl, by decide +kernel, by decide +kernel, fun h => (by cases h), fun h => (by cases h), fun _ => ⟨zmm (k := 87) (by decide +kernel) rfl, rfl, rfl⟩, zall x_Fr_init⟩
noncomputable def k_Ar_fill : List (Nat × List zE) := [(13, [(0, .iconst 0, 1, 0, 0, 0, .null), (1, .istore_n 2, 1, 0, 0, 0, .null), (2, .aload_n 0, 1, 0, 0, 0, .null), (3, .arraylength, 1, 0, 0, 0, .null), (4, .istore_n 3, 1, 0, 0, 0, .null), (5, .iload_n 2, 1, 0, 0, 0, .null), (6, .iload_n 3, 1, 0, 0, 0, .null), (7, .if_icmp .ge 13, 3, 0, 0, 0, .null), (10, .aload_n 0, 1, 0, 0, 0, .null), (11, .iload_n 2, 1, 0, 0, 0, .null), (12, .iload_n 1, 1, 0, 0, 0, .null), (13, .iastore, 1, 0, 0, 0, .null)]),
  (20, [(14, .iinc 2 1, 3, 0, 0, 0, .null), (17, .goto (-12), 3, 0, 0, 0, .null), (20, .return_, 1, 0, 0, 0, .null)])]
noncomputable def M_Ar_fill : zM := (y_Ar_fill, prog_15_method_103_code, 4, (Option.none : Option FieldType), 2, (0, 0, 0, 999), 0, k_Ar_fill)
set_option maxRecDepth 100000 in
theorem x_Ar_fill : (k_Ar_fill.all fun g => g.2.all (zxo R_Ar prog_15_method_103_code 4 false)) = true := by decide +kernel
set_option maxRecDepth 100000 in
theorem o_Ar_fill : zMo 2 M_Ar_fill := ⟨rfl, zmm (k := 92) rfl rfl, zmm (k := 61) (by decide +kernel) rfl, by decide +kernel, by decide +kernel, fun _ => zmm (k := 91) (by decide +kernel) rfl, fun h => (by cases h), fun h => (by cases h), zall x_Ar_fill⟩
noncomputable def k_Dr_init : List (Nat × List zE) := [(21, [(0, .aload_n 0, 1, 0, 0, 0, .null), (1, .invokespecial 3, 3, 0, 2, 103, .null), (4, .aload_n 0, 1, 0, 0, 0, .null), (5, .bipush 6, 2, 0, 0, 0, .null), (7, .newarray .int, 2, 0, 0, 0, .null), (9, .putfield 9, 3, 2, 0, 104, .null), (12, .aload_n 0, 1, 0, 0, 0, .null), (13, .bipush 6, 2, 0, 0, 0, .null), (15, .newarray .int, 2, 0, 0, 0, .null), (17, .putfield 15, 3, 2, 1, 105, .null), (20, .aload_n 0, 1, 0, 0, 0, .null), (21, .iconst 0, 1, 0, 0, 0, .null)]),
  (25, [(22, .putfield 18, 3, 2, 2, 106, .null), (25, .return_, 1, 0, 0, 0, .null)])]
noncomputable def M_Dr_init : zM := (y_Dr_init, prog_4_method_1_code, 1, (Option.none : Option FieldType), 0, (0, 0, 0, 2), 2, k_Dr_init)
set_option maxRecDepth 100000 in
theorem x_Dr_init : (k_Dr_init.all fun g => g.2.all (zxo R_Dr prog_4_method_1_code 1 true)) = true := by decide +kernel
set_option maxRecDepth 100000 in
theorem o_Dr_init : zMo 3 M_Dr_init := ⟨rfl, zmm (k := 102) rfl rfl, zmm (k := 62) (by decide +kernel) rfl, by decide +kernel, by decide +kernel, fun h => (by cases h), fun h => (by cases h), fun _ => ⟨zmm (k := 101) (by decide +kernel) rfl, rfl, rfl⟩, zall x_Dr_init⟩
noncomputable def k_Di_init : List (Nat × List zE) := [(14, [(0, .aload_n 0, 1, 0, 0, 0, .null), (1, .invokespecial 1, 3, 0, 2, 119, .null), (4, .aload_n 0, 1, 0, 0, 0, .null), (5, .lconst 0, 1, 0, 0, 0, .null), (6, .putfield 7, 3, 3, 0, 120, .null), (9, .aload_n 0, 1, 0, 0, 0, .null), (10, .lconst 1, 1, 0, 0, 0, .null), (11, .putfield 13, 3, 3, 1, 121, .null), (14, .return_, 1, 0, 0, 0, .null)])]
noncomputable def M_Di_init : zM := (y_Di_init, prog_3_method_1_code, 1, (Option.none : Option FieldType), 0, (0, 0, 0, 3), 2, k_Di_init)
set_option maxRecDepth 100000 in
theorem x_Di_init : (k_Di_init.all fun g => g.2.all (zxo R_Di prog_3_method_1_code 1 true)) = true := by decide +kernel
set_option maxRecDepth 100000 in
theorem o_Di_init : zMo 4 M_Di_init := ⟨rfl, zmm (k := 118) rfl rfl, zmm (k := 63) (by decide +kernel) rfl, by decide +kernel, by decide +kernel, fun h => (by cases h), fun h => (by cases h), fun _ => ⟨zmm (k := 117) (by decide +kernel) rfl, rfl, rfl⟩, zall x_Di_init⟩
noncomputable def k_Ta_init : List (Nat × List zE) := [(21, [(0, .aload_n 0, 1, 0, 0, 0, .null), (1, .invokespecial 3, 3, 0, 2, 132, .null), (4, .aload_n 0, 1, 0, 0, 0, .null), (5, .bipush 16, 2, 0, 0, 0, .null), (7, .newarray .int, 2, 0, 0, 0, .null), (9, .putfield 9, 3, 4, 0, 135, .null), (12, .aload_n 0, 1, 0, 0, 0, .null), (13, .bipush 16, 2, 0, 0, 0, .null), (15, .anewarray 15, 3, 6, 0, 133, .null), (18, .putfield 17, 3, 4, 1, 136, .null), (21, .return_, 1, 0, 0, 0, .null)])]
noncomputable def M_Ta_init : zM := (y_Ta_init, prog_8_method_1_code, 1, (Option.none : Option FieldType), 0, (0, 0, 0, 4), 2, k_Ta_init)
set_option maxRecDepth 100000 in
theorem x_Ta_init : (k_Ta_init.all fun g => g.2.all (zxo R_Ta prog_8_method_1_code 1 true)) = true := by decide +kernel
set_option maxRecDepth 100000 in
theorem o_Ta_init : zMo 5 M_Ta_init := ⟨rfl, zmm (k := 131) rfl rfl, zmm (k := 64) (by decide +kernel) rfl, by decide +kernel, by decide +kernel, fun h => (by cases h), fun h => (by cases h), fun _ => ⟨zmm (k := 130) (by decide +kernel) rfl, rfl, rfl⟩, zall x_Ta_init⟩
noncomputable def k_In_init : List (Nat × List zE) := [(23, [(0, .aload_n 0, 1, 0, 0, 0, .null), (1, .invokespecial 3, 3, 0, 2, 146, .null), (4, .aload_n 0, 1, 0, 0, 0, .null), (5, .sipush 516, 3, 0, 0, 0, .null), (8, .newarray .int, 2, 0, 0, 0, .null), (10, .putfield 11, 3, 5, 0, 147, .null), (13, .aload_n 0, 1, 0, 0, 0, .null), (14, .sipush 129, 3, 0, 0, 0, .null), (17, .newarray .int, 2, 0, 0, 0, .null), (19, .putfield 15, 3, 5, 1, 148, .null), (22, .aload_n 0, 1, 0, 0, 0, .null), (23, .sipush 129, 3, 0, 0, 0, .null)]),
  (50, [(26, .newarray .int, 2, 0, 0, 0, .null), (28, .putfield 18, 3, 5, 2, 149, .null), (31, .aload_n 0, 1, 0, 0, 0, .null), (32, .sipush 129, 3, 0, 0, 0, .null), (35, .newarray .int, 2, 0, 0, 0, .null), (37, .putfield 21, 3, 5, 3, 150, .null), (40, .aload_n 0, 1, 0, 0, 0, .null), (41, .sipush 129, 3, 0, 0, 0, .null), (44, .newarray .int, 2, 0, 0, 0, .null), (46, .putfield 24, 3, 5, 4, 151, .null), (49, .aload_n 0, 1, 0, 0, 0, .null), (50, .iconst 0, 1, 0, 0, 0, .null)]),
  (54, [(51, .putfield 27, 3, 5, 5, 152, .null), (54, .return_, 1, 0, 0, 0, .null)])]
noncomputable def M_In_init : zM := (y_In_init, prog_7_method_1_code, 1, (Option.none : Option FieldType), 0, (0, 0, 0, 5), 2, k_In_init)
set_option maxRecDepth 100000 in
theorem x_In_init : (k_In_init.all fun g => g.2.all (zxo R_In prog_7_method_1_code 1 true)) = true := by decide +kernel
set_option maxRecDepth 100000 in
theorem o_In_init : zMo 6 M_In_init := ⟨rfl, zmm (k := 145) rfl rfl, zmm (k := 65) (by decide +kernel) rfl, by decide +kernel, by decide +kernel, fun h => (by cases h), fun h => (by cases h), fun _ => ⟨zmm (k := 144) (by decide +kernel) rfl, rfl, rfl⟩, zall x_In_init⟩
noncomputable def k_ST_vertex : List (Nat × List zE) := [(9, [(0, .aload_n 0, 1, 0, 0, 0, .null), (1, .getfield 34, 3, 0, 4, 170, .null), (4, .iload_n 1, 1, 0, 0, 0, .null), (5, .iload_n 2, 1, 0, 0, 0, .null), (6, .invokevirtual 72, 3, 8, 0, 210, .null), (9, .ireturn, 1, 0, 0, 0, .null)])]
noncomputable def M_ST_vertex : zM := (y_ST_vertex, prog_1_method_2_code, 3, (Option.some FieldType.int), 2, (0, 0, 0, 0), 1, k_ST_vertex)
set_option maxRecDepth 100000 in
theorem x_ST_vertex : (k_ST_vertex.all fun g => g.2.all (zxo R_ST prog_1_method_2_code 3 false)) = true := by decide +kernel
set_option maxRecDepth 100000 in
theorem o_ST_vertex : zMo 7 M_ST_vertex := ⟨rfl, zmm (k := 209) rfl rfl, zmm (k := 59) (by decide +kernel) rfl, by decide +kernel, by decide +kernel, fun h => (by cases h), fun _ => ⟨zmm (k := 207) (by decide +kernel) rfl, zmm (k := 208) (by decide +kernel) rfl, (R_ST, T_ST, 13), rfl, rfl⟩, fun h => (by cases h), zall x_ST_vertex⟩
noncomputable def k_Dr_append : List (Nat × List zE) := [(24, [(0, .aload_n 0, 1, 0, 0, 0, .null), (1, .getfield 18, 3, 2, 2, 106, .null), (4, .bipush 6, 2, 0, 0, 0, .null), (6, .if_icmp .ge 17, 3, 0, 0, 0, .null), (9, .iload_n 1, 1, 0, 0, 0, .null), (10, .invokestatic 22, 3, 9, 0, 214, .null), (13, .ifCond .eq 10, 3, 0, 0, 0, .null), (16, .iload_n 2, 1, 0, 0, 0, .null), (17, .invokestatic 22, 3, 9, 0, 214, .null), (20, .ifCond .ne 5, 3, 0, 0, 0, .null), (23, .iconst (-1), 1, 0, 0, 0, .null), (24, .ireturn, 1, 0, 0, 0, .null)]),
  (44, [(25, .aload_n 0, 1, 0, 0, 0, .null), (26, .getfield 9, 3, 2, 0, 104, .null), (29, .aload_n 0, 1, 0, 0, 0, .null), (30, .getfield 18, 3, 2, 2, 106, .null), (33, .iload_n 1, 1, 0, 0, 0, .null), (34, .iastore, 1, 0, 0, 0, .null), (35, .aload_n 0, 1, 0, 0, 0, .null), (36, .getfield 15, 3, 2, 1, 105, .null), (39, .aload_n 0, 1, 0, 0, 0, .null), (40, .getfield 18, 3, 2, 2, 106, .null), (43, .iload_n 2, 1, 0, 0, 0, .null), (44, .iastore, 1, 0, 0, 0, .null)]),
  (59, [(45, .aload_n 0, 1, 0, 0, 0, .null), (46, .dup, 1, 0, 0, 0, .null), (47, .getfield 18, 3, 2, 2, 106, .null), (50, .iconst 1, 1, 0, 0, 0, .null), (51, .iadd, 1, 0, 0, 0, .null), (52, .putfield 18, 3, 2, 2, 106, .null), (55, .aload_n 0, 1, 0, 0, 0, .null), (56, .getfield 18, 3, 2, 2, 106, .null), (59, .ireturn, 1, 0, 0, 0, .null)])]
noncomputable def M_Dr_append : zM := (y_Dr_append, prog_4_method_2_code, 3, (Option.some FieldType.int), 2, (0, 0, 0, 2), 1, k_Dr_append)
set_option maxRecDepth 100000 in
theorem x_Dr_append : (k_Dr_append.all fun g => g.2.all (zxo R_Dr prog_4_method_2_code 3 false)) = true := by decide +kernel
set_option maxRecDepth 100000 in
theorem o_Dr_append : zMo 8 M_Dr_append := ⟨rfl, zmm (k := 213) rfl rfl, zmm (k := 62) (by decide +kernel) rfl, by decide +kernel, by decide +kernel, fun h => (by cases h), fun _ => ⟨zmm (k := 211) (by decide +kernel) rfl, zmm (k := 212) (by decide +kernel) rfl, (R_Dr, T_Dr, 3), rfl, rfl⟩, fun h => (by cases h), zall x_Dr_append⟩
noncomputable def k_Dr_isCoordinate : List (Nat × List zE) := [(16, [(0, .iload_n 0, 1, 0, 0, 0, .null), (1, .ifCond .lt 14, 3, 0, 0, 0, .null), (4, .iload_n 0, 1, 0, 0, 0, .null), (5, .sipush 255, 3, 0, 0, 0, .null), (8, .if_icmp .gt 7, 3, 0, 0, 0, .null), (11, .iconst 1, 1, 0, 0, 0, .null), (12, .goto 4, 3, 0, 0, 0, .null), (15, .iconst 0, 1, 0, 0, 0, .null), (16, .ireturn, 1, 0, 0, 0, .null)])]
noncomputable def M_Dr_isCoordinate : zM := (y_Dr_isCoordinate, prog_4_method_6_code, 1, (Option.some FieldType.boolean), 1, (0, 0, 0, 2), 0, k_Dr_isCoordinate)
set_option maxRecDepth 100000 in
theorem x_Dr_isCoordinate : (k_Dr_isCoordinate.all fun g => g.2.all (zxo R_Dr prog_4_method_6_code 1 false)) = true := by decide +kernel
set_option maxRecDepth 100000 in
theorem o_Dr_isCoordinate : zMo 9 M_Dr_isCoordinate := ⟨rfl, zmm (k := 216) rfl rfl, zmm (k := 62) (by decide +kernel) rfl, by decide +kernel, by decide +kernel, fun _ => zmm (k := 215) (by decide +kernel) rfl, fun h => (by cases h), fun h => (by cases h), zall x_Dr_isCoordinate⟩
noncomputable def k_ST_shape : List (Nat × List zE) := [(19, [(0, .iload_n 1, 1, 0, 0, 0, .null), (1, .ifCond .lt 8, 3, 0, 0, 0, .null), (4, .iload_n 1, 1, 0, 0, 0, .null), (5, .iconst 2, 1, 0, 0, 0, .null), (6, .if_icmp .le 5, 3, 0, 0, 0, .null), (9, .iconst (-1), 1, 0, 0, 0, .null), (10, .ireturn, 1, 0, 0, 0, .null), (11, .aload_n 0, 1, 0, 0, 0, .null), (12, .getfield 34, 3, 0, 4, 170, .null), (15, .iload_n 1, 1, 0, 0, 0, .null), (16, .invokevirtual 76, 3, 11, 0, 221, .null), (19, .ifCond .ne 12, 3, 0, 0, 0, .null)]),
  (41, [(22, .aload_n 0, 1, 0, 0, 0, .null), (23, .getfield 34, 3, 0, 4, 170, .null), (26, .invokevirtual 80, 3, 12, 0, 225, .null), (29, .iconst 1, 1, 0, 0, 0, .null), (30, .ireturn, 1, 0, 0, 0, .null), (31, .aload_n 0, 1, 0, 0, 0, .null), (32, .getfield 34, 3, 0, 4, 170, .null), (35, .iload_n 1, 1, 0, 0, 0, .null), (36, .invokevirtual 83, 3, 13, 0, 229, .null), (39, .astore_n 2, 1, 0, 0, 0, .null), (40, .aload_n 0, 1, 0, 0, 0, .null), (41, .getfield 34, 3, 0, 4, 170, .null)]),
  (62, [(44, .invokevirtual 80, 3, 12, 0, 225, .null), (47, .aload_n 2, 1, 0, 0, 0, .null), (48, .invokevirtual 87, 3, 17, 0, 300, .null), (51, .istore_n 3, 1, 0, 0, 0, .null), (52, .iload_n 3, 1, 0, 0, 0, .null), (53, .ifCond .ne 8, 3, 0, 0, 0, .null), (56, .aload_n 0, 1, 0, 0, 0, .null), (57, .aload_n 2, 1, 0, 0, 0, .null), (58, .putfield 38, 3, 0, 5, 171, .null), (61, .iload_n 3, 1, 0, 0, 0, .null), (62, .ireturn, 1, 0, 0, 0, .null)])]
noncomputable def M_ST_shape : zM := (y_ST_shape, prog_1_method_3_code, 4, (Option.some FieldType.int), 1, (0, 0, 0, 0), 1, k_ST_shape)
set_option maxRecDepth 100000 in
theorem x_ST_shape : (k_ST_shape.all fun g => g.2.all (zxo R_ST prog_1_method_3_code 4 false)) = true := by decide +kernel
set_option maxRecDepth 100000 in
theorem o_ST_shape : zMo 10 M_ST_shape := ⟨rfl, zmm (k := 220) rfl rfl, zmm (k := 59) (by decide +kernel) rfl, by decide +kernel, by decide +kernel, fun h => (by cases h), fun _ => ⟨zmm (k := 218) (by decide +kernel) rfl, zmm (k := 219) (by decide +kernel) rfl, (R_ST, T_ST, 13), rfl, rfl⟩, fun h => (by cases h), zall x_ST_shape⟩
noncomputable def k_Dr_hasCountFor : List (Nat × List zE) := [(19, [(0, .iload_n 1, 1, 0, 0, 0, .null), (1, .ifCond .ne 17, 3, 0, 0, 0, .null), (4, .aload_n 0, 1, 0, 0, 0, .null), (5, .getfield 18, 3, 2, 2, 106, .null), (8, .iconst 1, 1, 0, 0, 0, .null), (9, .if_icmp .ne 7, 3, 0, 0, 0, .null), (12, .iconst 1, 1, 0, 0, 0, .null), (13, .goto 4, 3, 0, 0, 0, .null), (16, .iconst 0, 1, 0, 0, 0, .null), (17, .ireturn, 1, 0, 0, 0, .null), (18, .aload_n 0, 1, 0, 0, 0, .null), (19, .getfield 18, 3, 2, 2, 106, .null)]),
  (40, [(22, .iload_n 1, 1, 0, 0, 0, .null), (23, .iconst 1, 1, 0, 0, 0, .null), (24, .if_icmp .ne 7, 3, 0, 0, 0, .null), (27, .iconst 2, 1, 0, 0, 0, .null), (28, .goto 4, 3, 0, 0, 0, .null), (31, .iconst 3, 1, 0, 0, 0, .null), (32, .if_icmp .lt 7, 3, 0, 0, 0, .null), (35, .iconst 1, 1, 0, 0, 0, .null), (36, .goto 4, 3, 0, 0, 0, .null), (39, .iconst 0, 1, 0, 0, 0, .null), (40, .ireturn, 1, 0, 0, 0, .null)])]
noncomputable def M_Dr_hasCountFor : zM := (y_Dr_hasCountFor, prog_4_method_4_code, 2, (Option.some FieldType.boolean), 1, (0, 0, 0, 2), 1, k_Dr_hasCountFor)
set_option maxRecDepth 100000 in
theorem x_Dr_hasCountFor : (k_Dr_hasCountFor.all fun g => g.2.all (zxo R_Dr prog_4_method_4_code 2 false)) = true := by decide +kernel
set_option maxRecDepth 100000 in
theorem o_Dr_hasCountFor : zMo 11 M_Dr_hasCountFor := ⟨rfl, zmm (k := 224) rfl rfl, zmm (k := 62) (by decide +kernel) rfl, by decide +kernel, by decide +kernel, fun h => (by cases h), fun _ => ⟨zmm (k := 222) (by decide +kernel) rfl, zmm (k := 223) (by decide +kernel) rfl, (R_Dr, T_Dr, 3), rfl, rfl⟩, fun h => (by cases h), zall x_Dr_hasCountFor⟩
noncomputable def k_Dr_clear : List (Nat × List zE) := [(5, [(0, .aload_n 0, 1, 0, 0, 0, .null), (1, .iconst 0, 1, 0, 0, 0, .null), (2, .putfield 18, 3, 2, 2, 106, .null), (5, .return_, 1, 0, 0, 0, .null)])]
noncomputable def M_Dr_clear : zM := (y_Dr_clear, prog_4_method_3_code, 1, (Option.none : Option FieldType), 0, (0, 0, 0, 2), 1, k_Dr_clear)
set_option maxRecDepth 100000 in
theorem x_Dr_clear : (k_Dr_clear.all fun g => g.2.all (zxo R_Dr prog_4_method_3_code 1 false)) = true := by decide +kernel
set_option maxRecDepth 100000 in
theorem o_Dr_clear : zMo 12 M_Dr_clear := ⟨rfl, zmm (k := 228) rfl rfl, zmm (k := 62) (by decide +kernel) rfl, by decide +kernel, by decide +kernel, fun h => (by cases h), fun _ => ⟨zmm (k := 226) (by decide +kernel) rfl, zmm (k := 227) (by decide +kernel) rfl, (R_Dr, T_Dr, 3), rfl, rfl⟩, fun h => (by cases h), zall x_Dr_clear⟩
noncomputable def k_Dr_drawn : List (Nat × List zE) := [(21, [(0, .new 26, 3, 6, 0, 233, .null), (3, .dup, 1, 0, 0, 0, .null), (4, .iload_n 1, 1, 0, 0, 0, .null), (5, .aload_n 0, 1, 0, 0, 0, .null), (6, .getfield 9, 3, 2, 0, 104, .null), (9, .aload_n 0, 1, 0, 0, 0, .null), (10, .getfield 18, 3, 2, 2, 106, .null), (13, .invokestatic 28, 3, 14, 0, 235, .null), (16, .aload_n 0, 1, 0, 0, 0, .null), (17, .getfield 15, 3, 2, 1, 105, .null), (20, .aload_n 0, 1, 0, 0, 0, .null), (21, .getfield 18, 3, 2, 2, 106, .null)]),
  (30, [(24, .invokestatic 28, 3, 14, 0, 235, .null), (27, .invokespecial 34, 3, 15, 0, 251, .null), (30, .areturn, 1, 0, 0, 0, .null)])]
noncomputable def M_Dr_drawn : zM := (y_Dr_drawn, prog_4_method_5_code, 2, (Option.some (FieldType.object "SpatialTables$Geometry")), 1, (0, 0, 0, 2), 1, k_Dr_drawn)
set_option maxRecDepth 100000 in
theorem x_Dr_drawn : (k_Dr_drawn.all fun g => g.2.all (zxo R_Dr prog_4_method_5_code 2 false)) = true := by decide +kernel
set_option maxRecDepth 100000 in
theorem o_Dr_drawn : zMo 13 M_Dr_drawn := ⟨rfl, zmm (k := 232) rfl rfl, zmm (k := 62) (by decide +kernel) rfl, by decide +kernel, by decide +kernel, fun h => (by cases h), fun _ => ⟨zmm (k := 230) (by decide +kernel) rfl, zmm (k := 231) (by decide +kernel) rfl, (R_Dr, T_Dr, 3), rfl, rfl⟩, fun h => (by cases h), zall x_Dr_drawn⟩
noncomputable def k_Ar_copyOf : List (Nat × List zE) := [(18, [(0, .iload_n 1, 1, 0, 0, 0, .null), (1, .aload_n 0, 1, 0, 0, 0, .null), (2, .arraylength, 1, 0, 0, 0, .null), (3, .if_icmp .ne 11, 3, 0, 0, 0, .null), (6, .aload_n 0, 1, 0, 0, 0, .null), (7, .invokevirtual 316, 3, 0, 1, 238, .null), (10, .checkcast 317, 3, 0, 0, 244, .null), (13, .areturn, 1, 0, 0, 0, .null), (14, .iload_n 1, 1, 0, 0, 0, .null), (15, .newarray .int, 2, 0, 0, 0, .null), (17, .astore_n 2, 1, 0, 0, 0, .null), (18, .aload_n 0, 1, 0, 0, 0, .null)]),
  (32, [(19, .iconst 0, 1, 0, 0, 0, .null), (20, .aload_n 2, 1, 0, 0, 0, .null), (21, .iconst 0, 1, 0, 0, 0, .null), (22, .aload_n 0, 1, 0, 0, 0, .null), (23, .arraylength, 1, 0, 0, 0, .null), (24, .iload_n 1, 1, 0, 0, 0, .null), (25, .invokestatic 304, 3, 0, 3, 245, .null), (28, .invokestatic 150, 3, 0, 5, 248, .null), (31, .aload_n 2, 1, 0, 0, 0, .null), (32, .areturn, 1, 0, 0, 0, .null)])]
noncomputable def M_Ar_copyOf : zM := (y_Ar_copyOf, prog_15_method_123_code, 3, (Option.some (FieldType.array FieldType.int)), 2, (0, 0, 0, 999), 0, k_Ar_copyOf)
set_option maxRecDepth 100000 in
theorem x_Ar_copyOf : (k_Ar_copyOf.all fun g => g.2.all (zxo R_Ar prog_15_method_123_code 3 false)) = true := by decide +kernel
set_option maxRecDepth 100000 in
theorem o_Ar_copyOf : zMo 14 M_Ar_copyOf := ⟨rfl, zmm (k := 237) rfl rfl, zmm (k := 61) (by decide +kernel) rfl, by decide +kernel, by decide +kernel, fun _ => zmm (k := 236) (by decide +kernel) rfl, fun h => (by cases h), fun h => (by cases h), zall x_Ar_copyOf⟩
noncomputable def k_Ge_init : List (Nat × List zE) := [(19, [(0, .aload_n 0, 1, 0, 0, 0, .null), (1, .invokespecial 3, 3, 0, 2, 254, .null), (4, .aload_n 0, 1, 0, 0, 0, .null), (5, .iload_n 1, 1, 0, 0, 0, .null), (6, .putfield 9, 3, 6, 0, 282, .null), (9, .aload_n 0, 1, 0, 0, 0, .null), (10, .aload_n 2, 1, 0, 0, 0, .null), (11, .putfield 15, 3, 6, 1, 283, .null), (14, .aload_n 0, 1, 0, 0, 0, .null), (15, .aload_n 3, 1, 0, 0, 0, .null), (16, .putfield 19, 3, 6, 2, 285, .null), (19, .aload_n 0, 1, 0, 0, 0, .null)]),
  (32, [(20, .new 22, 3, 7, 0, 255, .null), (23, .dup, 1, 0, 0, 0, .null), (24, .aload_n 2, 1, 0, 0, 0, .null), (25, .aload_n 3, 1, 0, 0, 0, .null), (26, .invokespecial 24, 3, 16, 0, 257, .null), (29, .putfield 27, 3, 6, 3, 287, .null), (32, .return_, 1, 0, 0, 0, .null)])]
noncomputable def M_Ge_init : zM := (y_Ge_init, prog_6_method_1_code, 4, (Option.none : Option FieldType), 3, (0, 0, 0, 6), 2, k_Ge_init)
set_option maxRecDepth 100000 in
theorem x_Ge_init : (k_Ge_init.all fun g => g.2.all (zxo R_Ge prog_6_method_1_code 4 true)) = true := by decide +kernel
set_option maxRecDepth 100000 in
theorem o_Ge_init : zMo 15 M_Ge_init := ⟨rfl, zmm (k := 253) rfl rfl, zmm (k := 67) (by decide +kernel) rfl, by decide +kernel, by decide +kernel, fun h => (by cases h), fun h => (by cases h), fun _ => ⟨zmm (k := 252) (by decide +kernel) rfl, rfl, rfl⟩, zall x_Ge_init⟩
noncomputable def k_Bo_init : List (Nat × List zE) := [(19, [(0, .aload_n 0, 1, 0, 0, 0, .null), (1, .invokespecial 3, 3, 0, 2, 260, .null), (4, .sipush 255, 3, 0, 0, 0, .null), (7, .istore_n 3, 1, 0, 0, 0, .null), (8, .iconst 0, 1, 0, 0, 0, .null), (9, .istore 4, 2, 0, 0, 0, .null), (11, .aload_n 1, 1, 0, 0, 0, .null), (12, .astore 5, 2, 0, 0, 0, .null), (14, .aload 5, 2, 0, 0, 0, .null), (16, .arraylength, 1, 0, 0, 0, .null), (17, .istore 6, 2, 0, 0, 0, .null), (19, .iconst 0, 1, 0, 0, 0, .null)]),
  (42, [(20, .istore 7, 2, 0, 0, 0, .null), (22, .iload 7, 2, 0, 0, 0, .null), (24, .iload 6, 2, 0, 0, 0, .null), (26, .if_icmp .ge 32, 3, 0, 0, 0, .null), (29, .aload 5, 2, 0, 0, 0, .null), (31, .iload 7, 2, 0, 0, 0, .null), (33, .iaload, 1, 0, 0, 0, .null), (34, .istore 8, 2, 0, 0, 0, .null), (36, .iload_n 3, 1, 0, 0, 0, .null), (37, .iload 8, 2, 0, 0, 0, .null), (39, .invokestatic 9, 3, 0, 3, 261, .null), (42, .istore_n 3, 1, 0, 0, 0, .null)]),
  (67, [(43, .iload 4, 2, 0, 0, 0, .null), (45, .iload 8, 2, 0, 0, 0, .null), (47, .invokestatic 15, 3, 0, 4, 262, .null), (50, .istore 4, 2, 0, 0, 0, .null), (52, .iinc 7 1, 3, 0, 0, 0, .null), (55, .goto (-33), 3, 0, 0, 0, .null), (58, .sipush 255, 3, 0, 0, 0, .null), (61, .istore 5, 2, 0, 0, 0, .null), (63, .iconst 0, 1, 0, 0, 0, .null), (64, .istore 6, 2, 0, 0, 0, .null), (66, .aload_n 2, 1, 0, 0, 0, .null), (67, .astore 7, 2, 0, 0, 0, .null)]),
  (89, [(69, .aload 7, 2, 0, 0, 0, .null), (71, .arraylength, 1, 0, 0, 0, .null), (72, .istore 8, 2, 0, 0, 0, .null), (74, .iconst 0, 1, 0, 0, 0, .null), (75, .istore 9, 2, 0, 0, 0, .null), (77, .iload 9, 2, 0, 0, 0, .null), (79, .iload 8, 2, 0, 0, 0, .null), (81, .if_icmp .ge 34, 3, 0, 0, 0, .null), (84, .aload 7, 2, 0, 0, 0, .null), (86, .iload 9, 2, 0, 0, 0, .null), (88, .iaload, 1, 0, 0, 0, .null), (89, .istore 10, 2, 0, 0, 0, .null)]),
  (116, [(91, .iload 5, 2, 0, 0, 0, .null), (93, .iload 10, 2, 0, 0, 0, .null), (95, .invokestatic 9, 3, 0, 3, 261, .null), (98, .istore 5, 2, 0, 0, 0, .null), (100, .iload 6, 2, 0, 0, 0, .null), (102, .iload 10, 2, 0, 0, 0, .null), (104, .invokestatic 15, 3, 0, 4, 262, .null), (107, .istore 6, 2, 0, 0, 0, .null), (109, .iinc 9 1, 3, 0, 0, 0, .null), (112, .goto (-35), 3, 0, 0, 0, .null), (115, .aload_n 0, 1, 0, 0, 0, .null), (116, .iload_n 3, 1, 0, 0, 0, .null)]),
  (138, [(117, .putfield 18, 3, 7, 0, 265, .null), (120, .aload_n 0, 1, 0, 0, 0, .null), (121, .iload 5, 2, 0, 0, 0, .null), (123, .putfield 24, 3, 7, 1, 267, .null), (126, .aload_n 0, 1, 0, 0, 0, .null), (127, .iload 4, 2, 0, 0, 0, .null), (129, .putfield 27, 3, 7, 2, 269, .null), (132, .aload_n 0, 1, 0, 0, 0, .null), (133, .iload 6, 2, 0, 0, 0, .null), (135, .putfield 30, 3, 7, 3, 271, .null), (138, .return_, 1, 0, 0, 0, .null)])]
noncomputable def M_Bo_init : zM := (y_Bo_init, prog_2_method_1_code, 11, (Option.none : Option FieldType), 2, (0, 0, 0, 7), 2, k_Bo_init)
set_option maxRecDepth 100000 in
theorem x_Bo_init : (k_Bo_init.all fun g => g.2.all (zxo R_Bo prog_2_method_1_code 11 true)) = true := by decide +kernel
set_option maxRecDepth 100000 in
theorem o_Bo_init : zMo 16 M_Bo_init := ⟨rfl, zmm (k := 259) rfl rfl, zmm (k := 70) (by decide +kernel) rfl, by decide +kernel, by decide +kernel, fun h => (by cases h), fun h => (by cases h), fun _ => ⟨zmm (k := 258) (by decide +kernel) rfl, rfl, rfl⟩, zall x_Bo_init⟩
noncomputable def k_Ge_fault : List (Nat × List zE) := [(21, [(0, .aload_n 0, 1, 0, 0, 0, .null), (1, .getfield 9, 3, 6, 0, 282, .null), (4, .ifCond .eq 12, 3, 0, 0, 0, .null), (7, .aload_n 0, 1, 0, 0, 0, .null), (8, .invokevirtual 31, 3, 18, 0, 304, .null), (11, .ifCond .eq 5, 3, 0, 0, 0, .null), (14, .iconst 2, 1, 0, 0, 0, .null), (15, .ireturn, 1, 0, 0, 0, .null), (16, .aload_n 0, 1, 0, 0, 0, .null), (17, .getfield 9, 3, 6, 0, 282, .null), (20, .iconst 2, 1, 0, 0, 0, .null), (21, .if_icmp .ne 14, 3, 0, 0, 0, .null)]),
  (36, [(24, .aload_n 0, 1, 0, 0, 0, .null), (25, .invokevirtual 35, 3, 21, 0, 316, .null), (28, .ifCond .eq 7, 3, 0, 0, 0, .null), (31, .iconst 3, 1, 0, 0, 0, .null), (32, .goto 4, 3, 0, 0, 0, .null), (35, .iconst 0, 1, 0, 0, 0, .null), (36, .ireturn, 1, 0, 0, 0, .null)])]
noncomputable def M_Ge_fault : zM := (y_Ge_fault, prog_6_method_4_code, 1, (Option.some FieldType.int), 0, (0, 0, 0, 6), 1, k_Ge_fault)
set_option maxRecDepth 100000 in
theorem x_Ge_fault : (k_Ge_fault.all fun g => g.2.all (zxo R_Ge prog_6_method_4_code 1 false)) = true := by decide +kernel
set_option maxRecDepth 100000 in
theorem o_Ge_fault : zMo 17 M_Ge_fault := ⟨rfl, zmm (k := 303) rfl rfl, zmm (k := 67) (by decide +kernel) rfl, by decide +kernel, by decide +kernel, fun h => (by cases h), fun _ => ⟨zmm (k := 301) (by decide +kernel) rfl, zmm (k := 302) (by decide +kernel) rfl, (R_Ge, T_Ge, 4), rfl, rfl⟩, fun h => (by cases h), zall x_Ge_fault⟩
noncomputable def k_Ge_hasEqualNeighbours : List (Nat × List zE) := [(17, [(0, .iconst 0, 1, 0, 0, 0, .null), (1, .istore_n 1, 1, 0, 0, 0, .null), (2, .iload_n 1, 1, 0, 0, 0, .null), (3, .aload_n 0, 1, 0, 0, 0, .null), (4, .invokevirtual 38, 3, 19, 0, 308, .null), (7, .if_icmp .ge 49, 3, 0, 0, 0, .null), (10, .aload_n 0, 1, 0, 0, 0, .null), (11, .getfield 15, 3, 6, 1, 283, .null), (14, .iload_n 1, 1, 0, 0, 0, .null), (15, .iaload, 1, 0, 0, 0, .null), (16, .aload_n 0, 1, 0, 0, 0, .null), (17, .getfield 15, 3, 6, 1, 283, .null)]),
  (39, [(20, .aload_n 0, 1, 0, 0, 0, .null), (21, .iload_n 1, 1, 0, 0, 0, .null), (22, .invokevirtual 42, 3, 20, 0, 312, .null), (25, .iaload, 1, 0, 0, 0, .null), (26, .if_icmp .ne 24, 3, 0, 0, 0, .null), (29, .aload_n 0, 1, 0, 0, 0, .null), (30, .getfield 19, 3, 6, 2, 285, .null), (33, .iload_n 1, 1, 0, 0, 0, .null), (34, .iaload, 1, 0, 0, 0, .null), (35, .aload_n 0, 1, 0, 0, 0, .null), (36, .getfield 19, 3, 6, 2, 285, .null), (39, .aload_n 0, 1, 0, 0, 0, .null)]),
  (57, [(40, .iload_n 1, 1, 0, 0, 0, .null), (41, .invokevirtual 42, 3, 20, 0, 312, .null), (44, .iaload, 1, 0, 0, 0, .null), (45, .if_icmp .ne 5, 3, 0, 0, 0, .null), (48, .iconst 1, 1, 0, 0, 0, .null), (49, .ireturn, 1, 0, 0, 0, .null), (50, .iinc 1 1, 3, 0, 0, 0, .null), (53, .goto (-51), 3, 0, 0, 0, .null), (56, .iconst 0, 1, 0, 0, 0, .null), (57, .ireturn, 1, 0, 0, 0, .null)])]
noncomputable def M_Ge_hasEqualNeighbours : zM := (y_Ge_hasEqualNeighbours, prog_6_method_5_code, 2, (Option.some FieldType.boolean), 0, (0, 0, 0, 6), 1, k_Ge_hasEqualNeighbours)
set_option maxRecDepth 100000 in
theorem x_Ge_hasEqualNeighbours : (k_Ge_hasEqualNeighbours.all fun g => g.2.all (zxo R_Ge prog_6_method_5_code 2 false)) = true := by decide +kernel
set_option maxRecDepth 100000 in
theorem o_Ge_hasEqualNeighbours : zMo 18 M_Ge_hasEqualNeighbours := ⟨rfl, zmm (k := 307) rfl rfl, zmm (k := 67) (by decide +kernel) rfl, by decide +kernel, by decide +kernel, fun h => (by cases h), fun _ => ⟨zmm (k := 306) (by decide +kernel) rfl, zmm (k := 0) (by decide +kernel) rfl, (R_Ge, T_Ge, 4), rfl, rfl⟩, fun h => (by cases h), zall x_Ge_hasEqualNeighbours⟩
noncomputable def k_Ge_sides : List (Nat × List zE) := [(19, [(0, .aload_n 0, 1, 0, 0, 0, .null), (1, .getfield 9, 3, 6, 0, 282, .null), (4, .iconst 1, 1, 0, 0, 0, .null), (5, .if_icmp .ne 13, 3, 0, 0, 0, .null), (8, .aload_n 0, 1, 0, 0, 0, .null), (9, .getfield 15, 3, 6, 1, 283, .null), (12, .arraylength, 1, 0, 0, 0, .null), (13, .iconst 1, 1, 0, 0, 0, .null), (14, .isub, 1, 0, 0, 0, .null), (15, .goto 8, 3, 0, 0, 0, .null), (18, .aload_n 0, 1, 0, 0, 0, .null), (19, .getfield 15, 3, 6, 1, 283, .null)]),
  (23, [(22, .arraylength, 1, 0, 0, 0, .null), (23, .ireturn, 1, 0, 0, 0, .null)])]
noncomputable def M_Ge_sides : zM := (y_Ge_sides, prog_6_method_2_code, 1, (Option.some FieldType.int), 0, (0, 0, 0, 6), 1, k_Ge_sides)
set_option maxRecDepth 100000 in
theorem x_Ge_sides : (k_Ge_sides.all fun g => g.2.all (zxo R_Ge prog_6_method_2_code 1 false)) = true := by decide +kernel
set_option maxRecDepth 100000 in
theorem o_Ge_sides : zMo 19 M_Ge_sides := ⟨rfl, zmm (k := 311) rfl rfl, zmm (k := 67) (by decide +kernel) rfl, by decide +kernel, by decide +kernel, fun h => (by cases h), fun _ => ⟨zmm (k := 309) (by decide +kernel) rfl, zmm (k := 310) (by decide +kernel) rfl, (R_Ge, T_Ge, 4), rfl, rfl⟩, fun h => (by cases h), zall x_Ge_sides⟩
noncomputable def k_Ge_end : List (Nat × List zE) := [(17, [(0, .iload_n 1, 1, 0, 0, 0, .null), (1, .iconst 1, 1, 0, 0, 0, .null), (2, .iadd, 1, 0, 0, 0, .null), (3, .aload_n 0, 1, 0, 0, 0, .null), (4, .getfield 15, 3, 6, 1, 283, .null), (7, .arraylength, 1, 0, 0, 0, .null), (8, .if_icmp .ge 9, 3, 0, 0, 0, .null), (11, .iload_n 1, 1, 0, 0, 0, .null), (12, .iconst 1, 1, 0, 0, 0, .null), (13, .iadd, 1, 0, 0, 0, .null), (14, .goto 4, 3, 0, 0, 0, .null), (17, .iconst 0, 1, 0, 0, 0, .null)]),
  (18, [(18, .ireturn, 1, 0, 0, 0, .null)])]
noncomputable def M_Ge_end : zM := (y_Ge_end, prog_6_method_3_code, 2, (Option.some FieldType.int), 1, (0, 0, 0, 6), 1, k_Ge_end)
set_option maxRecDepth 100000 in
theorem x_Ge_end : (k_Ge_end.all fun g => g.2.all (zxo R_Ge prog_6_method_3_code 2 false)) = true := by decide +kernel
set_option maxRecDepth 100000 in
theorem o_Ge_end : zMo 20 M_Ge_end := ⟨rfl, zmm (k := 315) rfl rfl, zmm (k := 67) (by decide +kernel) rfl, by decide +kernel, by decide +kernel, fun h => (by cases h), fun _ => ⟨zmm (k := 313) (by decide +kernel) rfl, zmm (k := 314) (by decide +kernel) rfl, (R_Ge, T_Ge, 4), rfl, rfl⟩, fun h => (by cases h), zall x_Ge_end⟩
noncomputable def k_Ge_touchesItself : List (Nat × List zE) := [(15, [(0, .iconst 0, 1, 0, 0, 0, .null), (1, .istore_n 1, 1, 0, 0, 0, .null), (2, .iload_n 1, 1, 0, 0, 0, .null), (3, .aload_n 0, 1, 0, 0, 0, .null), (4, .invokevirtual 38, 3, 19, 0, 308, .null), (7, .if_icmp .ge 38, 3, 0, 0, 0, .null), (10, .iload_n 1, 1, 0, 0, 0, .null), (11, .iconst 1, 1, 0, 0, 0, .null), (12, .iadd, 1, 0, 0, 0, .null), (13, .istore_n 2, 1, 0, 0, 0, .null), (14, .iload_n 2, 1, 0, 0, 0, .null), (15, .aload_n 0, 1, 0, 0, 0, .null)]),
  (39, [(16, .invokevirtual 38, 3, 19, 0, 308, .null), (19, .if_icmp .ge 20, 3, 0, 0, 0, .null), (22, .aload_n 0, 1, 0, 0, 0, .null), (23, .iload_n 1, 1, 0, 0, 0, .null), (24, .iload_n 2, 1, 0, 0, 0, .null), (25, .invokevirtual 46, 3, 22, 0, 320, .null), (28, .ifCond .eq 5, 3, 0, 0, 0, .null), (31, .iconst 1, 1, 0, 0, 0, .null), (32, .ireturn, 1, 0, 0, 0, .null), (33, .iinc 2 1, 3, 0, 0, 0, .null), (36, .goto (-22), 3, 0, 0, 0, .null), (39, .iinc 1 1, 3, 0, 0, 0, .null)]),
  (46, [(42, .goto (-40), 3, 0, 0, 0, .null), (45, .iconst 0, 1, 0, 0, 0, .null), (46, .ireturn, 1, 0, 0, 0, .null)])]
noncomputable def M_Ge_touchesItself : zM := (y_Ge_touchesItself, prog_6_method_6_code, 3, (Option.some FieldType.boolean), 0, (0, 0, 0, 6), 1, k_Ge_touchesItself)
set_option maxRecDepth 100000 in
theorem x_Ge_touchesItself : (k_Ge_touchesItself.all fun g => g.2.all (zxo R_Ge prog_6_method_6_code 3 false)) = true := by decide +kernel
set_option maxRecDepth 100000 in
theorem o_Ge_touchesItself : zMo 21 M_Ge_touchesItself := ⟨rfl, zmm (k := 319) rfl rfl, zmm (k := 67) (by decide +kernel) rfl, by decide +kernel, by decide +kernel, fun h => (by cases h), fun _ => ⟨zmm (k := 318) (by decide +kernel) rfl, zmm (k := 1) (by decide +kernel) rfl, (R_Ge, T_Ge, 4), rfl, rfl⟩, fun h => (by cases h), zall x_Ge_touchesItself⟩
noncomputable def k_Ge_mayNotMeetAsTheyDo : List (Nat × List zE) := [(17, [(0, .aload_n 0, 1, 0, 0, 0, .null), (1, .iload_n 1, 1, 0, 0, 0, .null), (2, .invokevirtual 42, 3, 20, 0, 312, .null), (5, .iload_n 2, 1, 0, 0, 0, .null), (6, .if_icmp .ne 10, 3, 0, 0, 0, .null), (9, .aload_n 0, 1, 0, 0, 0, .null), (10, .iload_n 1, 1, 0, 0, 0, .null), (11, .iload_n 2, 1, 0, 0, 0, .null), (12, .invokevirtual 50, 3, 23, 0, 324, .null), (15, .ireturn, 1, 0, 0, 0, .null), (16, .aload_n 0, 1, 0, 0, 0, .null), (17, .iload_n 2, 1, 0, 0, 0, .null)]),
  (35, [(18, .invokevirtual 42, 3, 20, 0, 312, .null), (21, .iload_n 1, 1, 0, 0, 0, .null), (22, .if_icmp .ne 10, 3, 0, 0, 0, .null), (25, .aload_n 0, 1, 0, 0, 0, .null), (26, .iload_n 2, 1, 0, 0, 0, .null), (27, .iload_n 1, 1, 0, 0, 0, .null), (28, .invokevirtual 50, 3, 23, 0, 324, .null), (31, .ireturn, 1, 0, 0, 0, .null), (32, .aload_n 0, 1, 0, 0, 0, .null), (33, .iload_n 1, 1, 0, 0, 0, .null), (34, .aload_n 0, 1, 0, 0, 0, .null), (35, .iload_n 2, 1, 0, 0, 0, .null)]),
  (39, [(36, .invokevirtual 53, 3, 24, 0, 328, .null), (39, .ireturn, 1, 0, 0, 0, .null)])]
noncomputable def M_Ge_mayNotMeetAsTheyDo : zM := (y_Ge_mayNotMeetAsTheyDo, prog_6_method_7_code, 3, (Option.some FieldType.boolean), 2, (0, 0, 0, 6), 1, k_Ge_mayNotMeetAsTheyDo)
set_option maxRecDepth 100000 in
theorem x_Ge_mayNotMeetAsTheyDo : (k_Ge_mayNotMeetAsTheyDo.all fun g => g.2.all (zxo R_Ge prog_6_method_7_code 3 false)) = true := by decide +kernel
set_option maxRecDepth 100000 in
theorem o_Ge_mayNotMeetAsTheyDo : zMo 22 M_Ge_mayNotMeetAsTheyDo := ⟨rfl, zmm (k := 323) rfl rfl, zmm (k := 67) (by decide +kernel) rfl, by decide +kernel, by decide +kernel, fun h => (by cases h), fun _ => ⟨zmm (k := 322) (by decide +kernel) rfl, zmm (k := 2) (by decide +kernel) rfl, (R_Ge, T_Ge, 4), rfl, rfl⟩, fun h => (by cases h), zall x_Ge_mayNotMeetAsTheyDo⟩
noncomputable def k_Ge_foldsBack : List (Nat × List zE) := [(15, [(0, .aload_n 0, 1, 0, 0, 0, .null), (1, .getfield 15, 3, 6, 1, 283, .null), (4, .iload_n 2, 1, 0, 0, 0, .null), (5, .iaload, 1, 0, 0, 0, .null), (6, .aload_n 0, 1, 0, 0, 0, .null), (7, .getfield 15, 3, 6, 1, 283, .null), (10, .iload_n 1, 1, 0, 0, 0, .null), (11, .iaload, 1, 0, 0, 0, .null), (12, .isub, 1, 0, 0, 0, .null), (13, .istore_n 3, 1, 0, 0, 0, .null), (14, .aload_n 0, 1, 0, 0, 0, .null), (15, .getfield 19, 3, 6, 2, 285, .null)]),
  (34, [(18, .iload_n 2, 1, 0, 0, 0, .null), (19, .iaload, 1, 0, 0, 0, .null), (20, .aload_n 0, 1, 0, 0, 0, .null), (21, .getfield 19, 3, 6, 2, 285, .null), (24, .iload_n 1, 1, 0, 0, 0, .null), (25, .iaload, 1, 0, 0, 0, .null), (26, .isub, 1, 0, 0, 0, .null), (27, .istore 4, 2, 0, 0, 0, .null), (29, .aload_n 0, 1, 0, 0, 0, .null), (30, .getfield 15, 3, 6, 1, 283, .null), (33, .aload_n 0, 1, 0, 0, 0, .null), (34, .iload_n 2, 1, 0, 0, 0, .null)]),
  (53, [(35, .invokevirtual 42, 3, 20, 0, 312, .null), (38, .iaload, 1, 0, 0, 0, .null), (39, .aload_n 0, 1, 0, 0, 0, .null), (40, .getfield 15, 3, 6, 1, 283, .null), (43, .iload_n 2, 1, 0, 0, 0, .null), (44, .iaload, 1, 0, 0, 0, .null), (45, .isub, 1, 0, 0, 0, .null), (46, .istore 5, 2, 0, 0, 0, .null), (48, .aload_n 0, 1, 0, 0, 0, .null), (49, .getfield 19, 3, 6, 2, 285, .null), (52, .aload_n 0, 1, 0, 0, 0, .null), (53, .iload_n 2, 1, 0, 0, 0, .null)]),
  (71, [(54, .invokevirtual 42, 3, 20, 0, 312, .null), (57, .iaload, 1, 0, 0, 0, .null), (58, .aload_n 0, 1, 0, 0, 0, .null), (59, .getfield 19, 3, 6, 2, 285, .null), (62, .iload_n 2, 1, 0, 0, 0, .null), (63, .iaload, 1, 0, 0, 0, .null), (64, .isub, 1, 0, 0, 0, .null), (65, .istore 6, 2, 0, 0, 0, .null), (67, .iload_n 3, 1, 0, 0, 0, .null), (68, .iload 6, 2, 0, 0, 0, .null), (70, .imul, 1, 0, 0, 0, .null), (71, .iload 4, 2, 0, 0, 0, .null)]),
  (92, [(73, .iload 5, 2, 0, 0, 0, .null), (75, .imul, 1, 0, 0, 0, .null), (76, .if_icmp .ne 20, 3, 0, 0, 0, .null), (79, .iload_n 3, 1, 0, 0, 0, .null), (80, .iload 5, 2, 0, 0, 0, .null), (82, .imul, 1, 0, 0, 0, .null), (83, .iload 4, 2, 0, 0, 0, .null), (85, .iload 6, 2, 0, 0, 0, .null), (87, .imul, 1, 0, 0, 0, .null), (88, .iadd, 1, 0, 0, 0, .null), (89, .ifCond .ge 7, 3, 0, 0, 0, .null), (92, .iconst 1, 1, 0, 0, 0, .null)]),
  (97, [(93, .goto 4, 3, 0, 0, 0, .null), (96, .iconst 0, 1, 0, 0, 0, .null), (97, .ireturn, 1, 0, 0, 0, .null)])]
noncomputable def M_Ge_foldsBack : zM := (y_Ge_foldsBack, prog_6_method_8_code, 7, (Option.some FieldType.boolean), 2, (0, 0, 0, 6), 1, k_Ge_foldsBack)
set_option maxRecDepth 100000 in
theorem x_Ge_foldsBack : (k_Ge_foldsBack.all fun g => g.2.all (zxo R_Ge prog_6_method_8_code 7 false)) = true := by decide +kernel
set_option maxRecDepth 100000 in
theorem o_Ge_foldsBack : zMo 23 M_Ge_foldsBack := ⟨rfl, zmm (k := 327) rfl rfl, zmm (k := 67) (by decide +kernel) rfl, by decide +kernel, by decide +kernel, fun h => (by cases h), fun _ => ⟨zmm (k := 326) (by decide +kernel) rfl, zmm (k := 3) (by decide +kernel) rfl, (R_Ge, T_Ge, 4), rfl, rfl⟩, fun h => (by cases h), zall x_Ge_foldsBack⟩
noncomputable def k_Ge_sideMeets : List (Nat × List zE) := [(17, [(0, .aload_n 0, 1, 0, 0, 0, .null), (1, .iload_n 1, 1, 0, 0, 0, .null), (2, .invokevirtual 42, 3, 20, 0, 312, .null), (5, .istore 4, 2, 0, 0, 0, .null), (7, .aload_n 2, 1, 0, 0, 0, .null), (8, .iload_n 3, 1, 0, 0, 0, .null), (9, .invokevirtual 42, 3, 20, 0, 312, .null), (12, .istore 5, 2, 0, 0, 0, .null), (14, .aload_n 0, 1, 0, 0, 0, .null), (15, .iload_n 1, 1, 0, 0, 0, .null), (16, .aload_n 2, 1, 0, 0, 0, .null), (17, .getfield 15, 3, 6, 1, 283, .null)]),
  (36, [(20, .iload_n 3, 1, 0, 0, 0, .null), (21, .iaload, 1, 0, 0, 0, .null), (22, .aload_n 2, 1, 0, 0, 0, .null), (23, .getfield 19, 3, 6, 2, 285, .null), (26, .iload_n 3, 1, 0, 0, 0, .null), (27, .iaload, 1, 0, 0, 0, .null), (28, .invokevirtual 57, 3, 25, 0, 332, .null), (31, .istore 6, 2, 0, 0, 0, .null), (33, .aload_n 0, 1, 0, 0, 0, .null), (34, .iload_n 1, 1, 0, 0, 0, .null), (35, .aload_n 2, 1, 0, 0, 0, .null), (36, .getfield 15, 3, 6, 1, 283, .null)]),
  (57, [(39, .iload 5, 2, 0, 0, 0, .null), (41, .iaload, 1, 0, 0, 0, .null), (42, .aload_n 2, 1, 0, 0, 0, .null), (43, .getfield 19, 3, 6, 2, 285, .null), (46, .iload 5, 2, 0, 0, 0, .null), (48, .iaload, 1, 0, 0, 0, .null), (49, .invokevirtual 57, 3, 25, 0, 332, .null), (52, .istore 7, 2, 0, 0, 0, .null), (54, .aload_n 2, 1, 0, 0, 0, .null), (55, .iload_n 3, 1, 0, 0, 0, .null), (56, .aload_n 0, 1, 0, 0, 0, .null), (57, .getfield 15, 3, 6, 1, 283, .null)]),
  (76, [(60, .iload_n 1, 1, 0, 0, 0, .null), (61, .iaload, 1, 0, 0, 0, .null), (62, .aload_n 0, 1, 0, 0, 0, .null), (63, .getfield 19, 3, 6, 2, 285, .null), (66, .iload_n 1, 1, 0, 0, 0, .null), (67, .iaload, 1, 0, 0, 0, .null), (68, .invokevirtual 57, 3, 25, 0, 332, .null), (71, .istore 8, 2, 0, 0, 0, .null), (73, .aload_n 2, 1, 0, 0, 0, .null), (74, .iload_n 3, 1, 0, 0, 0, .null), (75, .aload_n 0, 1, 0, 0, 0, .null), (76, .getfield 15, 3, 6, 1, 283, .null)]),
  (101, [(79, .iload 4, 2, 0, 0, 0, .null), (81, .iaload, 1, 0, 0, 0, .null), (82, .aload_n 0, 1, 0, 0, 0, .null), (83, .getfield 19, 3, 6, 2, 285, .null), (86, .iload 4, 2, 0, 0, 0, .null), (88, .iaload, 1, 0, 0, 0, .null), (89, .invokevirtual 57, 3, 25, 0, 332, .null), (92, .istore 9, 2, 0, 0, 0, .null), (94, .iload 6, 2, 0, 0, 0, .null), (96, .iload 7, 2, 0, 0, 0, .null), (98, .invokestatic 61, 3, 26, 0, 336, .null), (101, .ifCond .eq 13, 3, 0, 0, 0, .null)]),
  (126, [(104, .iload 8, 2, 0, 0, 0, .null), (106, .iload 9, 2, 0, 0, 0, .null), (108, .invokestatic 61, 3, 26, 0, 336, .null), (111, .ifCond .ne 65, 3, 0, 0, 0, .null), (114, .iload 6, 2, 0, 0, 0, .null), (116, .ifCond .ne 13, 3, 0, 0, 0, .null), (119, .aload_n 0, 1, 0, 0, 0, .null), (120, .iload_n 1, 1, 0, 0, 0, .null), (121, .aload_n 2, 1, 0, 0, 0, .null), (122, .iload_n 3, 1, 0, 0, 0, .null), (123, .invokevirtual 64, 3, 27, 0, 339, .null), (126, .ifCond .ne 50, 3, 0, 0, 0, .null)]),
  (151, [(129, .iload 7, 2, 0, 0, 0, .null), (131, .ifCond .ne 14, 3, 0, 0, 0, .null), (134, .aload_n 0, 1, 0, 0, 0, .null), (135, .iload_n 1, 1, 0, 0, 0, .null), (136, .aload_n 2, 1, 0, 0, 0, .null), (137, .iload 5, 2, 0, 0, 0, .null), (139, .invokevirtual 64, 3, 27, 0, 339, .null), (142, .ifCond .ne 34, 3, 0, 0, 0, .null), (145, .iload 8, 2, 0, 0, 0, .null), (147, .ifCond .ne 13, 3, 0, 0, 0, .null), (150, .aload_n 2, 1, 0, 0, 0, .null), (151, .iload_n 3, 1, 0, 0, 0, .null)]),
  (173, [(152, .aload_n 0, 1, 0, 0, 0, .null), (153, .iload_n 1, 1, 0, 0, 0, .null), (154, .invokevirtual 64, 3, 27, 0, 339, .null), (157, .ifCond .ne 19, 3, 0, 0, 0, .null), (160, .iload 9, 2, 0, 0, 0, .null), (162, .ifCond .ne 18, 3, 0, 0, 0, .null), (165, .aload_n 2, 1, 0, 0, 0, .null), (166, .iload_n 3, 1, 0, 0, 0, .null), (167, .aload_n 0, 1, 0, 0, 0, .null), (168, .iload 4, 2, 0, 0, 0, .null), (170, .invokevirtual 64, 3, 27, 0, 339, .null), (173, .ifCond .eq 7, 3, 0, 0, 0, .null)]),
  (181, [(176, .iconst 1, 1, 0, 0, 0, .null), (177, .goto 4, 3, 0, 0, 0, .null), (180, .iconst 0, 1, 0, 0, 0, .null), (181, .ireturn, 1, 0, 0, 0, .null)])]
noncomputable def M_Ge_sideMeets : zM := (y_Ge_sideMeets, prog_6_method_9_code, 10, (Option.some FieldType.boolean), 3, (0, 0, 0, 6), 1, k_Ge_sideMeets)
set_option maxRecDepth 100000 in
theorem x_Ge_sideMeets : (k_Ge_sideMeets.all fun g => g.2.all (zxo R_Ge prog_6_method_9_code 10 false)) = true := by decide +kernel
set_option maxRecDepth 100000 in
theorem o_Ge_sideMeets : zMo 24 M_Ge_sideMeets := ⟨rfl, zmm (k := 331) rfl rfl, zmm (k := 67) (by decide +kernel) rfl, by decide +kernel, by decide +kernel, fun h => (by cases h), fun _ => ⟨zmm (k := 329) (by decide +kernel) rfl, zmm (k := 330) (by decide +kernel) rfl, (R_Ge, T_Ge, 4), rfl, rfl⟩, fun h => (by cases h), zall x_Ge_sideMeets⟩
end
section
noncomputable def k_Ge_turn : List (Nat × List zE) := [(17, [(0, .aload_n 0, 1, 0, 0, 0, .null), (1, .getfield 15, 3, 6, 1, 283, .null), (4, .aload_n 0, 1, 0, 0, 0, .null), (5, .iload_n 1, 1, 0, 0, 0, .null), (6, .invokevirtual 42, 3, 20, 0, 312, .null), (9, .iaload, 1, 0, 0, 0, .null), (10, .aload_n 0, 1, 0, 0, 0, .null), (11, .getfield 15, 3, 6, 1, 283, .null), (14, .iload_n 1, 1, 0, 0, 0, .null), (15, .iaload, 1, 0, 0, 0, .null), (16, .isub, 1, 0, 0, 0, .null), (17, .istore 4, 2, 0, 0, 0, .null)]),
  (36, [(19, .aload_n 0, 1, 0, 0, 0, .null), (20, .getfield 19, 3, 6, 2, 285, .null), (23, .aload_n 0, 1, 0, 0, 0, .null), (24, .iload_n 1, 1, 0, 0, 0, .null), (25, .invokevirtual 42, 3, 20, 0, 312, .null), (28, .iaload, 1, 0, 0, 0, .null), (29, .aload_n 0, 1, 0, 0, 0, .null), (30, .getfield 19, 3, 6, 2, 285, .null), (33, .iload_n 1, 1, 0, 0, 0, .null), (34, .iaload, 1, 0, 0, 0, .null), (35, .isub, 1, 0, 0, 0, .null), (36, .istore 5, 2, 0, 0, 0, .null)]),
  (53, [(38, .iload 4, 2, 0, 0, 0, .null), (40, .iload_n 3, 1, 0, 0, 0, .null), (41, .aload_n 0, 1, 0, 0, 0, .null), (42, .getfield 19, 3, 6, 2, 285, .null), (45, .iload_n 1, 1, 0, 0, 0, .null), (46, .iaload, 1, 0, 0, 0, .null), (47, .isub, 1, 0, 0, 0, .null), (48, .imul, 1, 0, 0, 0, .null), (49, .iload 5, 2, 0, 0, 0, .null), (51, .iload_n 2, 1, 0, 0, 0, .null), (52, .aload_n 0, 1, 0, 0, 0, .null), (53, .getfield 15, 3, 6, 1, 283, .null)]),
  (61, [(56, .iload_n 1, 1, 0, 0, 0, .null), (57, .iaload, 1, 0, 0, 0, .null), (58, .isub, 1, 0, 0, 0, .null), (59, .imul, 1, 0, 0, 0, .null), (60, .isub, 1, 0, 0, 0, .null), (61, .ireturn, 1, 0, 0, 0, .null)])]
noncomputable def M_Ge_turn : zM := (y_Ge_turn, prog_6_method_11_code, 6, (Option.some FieldType.int), 3, (0, 0, 0, 6), 1, k_Ge_turn)
set_option maxRecDepth 100000 in
theorem x_Ge_turn : (k_Ge_turn.all fun g => g.2.all (zxo R_Ge prog_6_method_11_code 6 false)) = true := by decide +kernel
set_option maxRecDepth 100000 in
theorem o_Ge_turn : zMo 25 M_Ge_turn := ⟨rfl, zmm (k := 335) rfl rfl, zmm (k := 67) (by decide +kernel) rfl, by decide +kernel, by decide +kernel, fun h => (by cases h), fun _ => ⟨zmm (k := 334) (by decide +kernel) rfl, zmm (k := 4) (by decide +kernel) rfl, (R_Ge, T_Ge, 4), rfl, rfl⟩, fun h => (by cases h), zall x_Ge_turn⟩
noncomputable def k_Ge_areOpposite : List (Nat × List zE) := [(21, [(0, .iload_n 0, 1, 0, 0, 0, .null), (1, .ifCond .ge 7, 3, 0, 0, 0, .null), (4, .iload_n 1, 1, 0, 0, 0, .null), (5, .ifCond .gt 11, 3, 0, 0, 0, .null), (8, .iload_n 0, 1, 0, 0, 0, .null), (9, .ifCond .le 11, 3, 0, 0, 0, .null), (12, .iload_n 1, 1, 0, 0, 0, .null), (13, .ifCond .ge 7, 3, 0, 0, 0, .null), (16, .iconst 1, 1, 0, 0, 0, .null), (17, .goto 4, 3, 0, 0, 0, .null), (20, .iconst 0, 1, 0, 0, 0, .null), (21, .ireturn, 1, 0, 0, 0, .null)])]
noncomputable def M_Ge_areOpposite : zM := (y_Ge_areOpposite, prog_6_method_10_code, 2, (Option.some FieldType.boolean), 2, (0, 0, 0, 6), 0, k_Ge_areOpposite)
set_option maxRecDepth 100000 in
theorem x_Ge_areOpposite : (k_Ge_areOpposite.all fun g => g.2.all (zxo R_Ge prog_6_method_10_code 2 false)) = true := by decide +kernel
set_option maxRecDepth 100000 in
theorem o_Ge_areOpposite : zMo 26 M_Ge_areOpposite := ⟨rfl, zmm (k := 338) rfl rfl, zmm (k := 67) (by decide +kernel) rfl, by decide +kernel, by decide +kernel, fun _ => zmm (k := 337) (by decide +kernel) rfl, fun h => (by cases h), fun h => (by cases h), zall x_Ge_areOpposite⟩
noncomputable def k_Ge_isBeside : List (Nat × List zE) := [(17, [(0, .aload_n 2, 1, 0, 0, 0, .null), (1, .getfield 15, 3, 6, 1, 283, .null), (4, .iload_n 3, 1, 0, 0, 0, .null), (5, .iaload, 1, 0, 0, 0, .null), (6, .aload_n 0, 1, 0, 0, 0, .null), (7, .getfield 15, 3, 6, 1, 283, .null), (10, .iload_n 1, 1, 0, 0, 0, .null), (11, .iaload, 1, 0, 0, 0, .null), (12, .aload_n 0, 1, 0, 0, 0, .null), (13, .getfield 15, 3, 6, 1, 283, .null), (16, .aload_n 0, 1, 0, 0, 0, .null), (17, .iload_n 1, 1, 0, 0, 0, .null)]),
  (39, [(18, .invokevirtual 42, 3, 20, 0, 312, .null), (21, .iaload, 1, 0, 0, 0, .null), (22, .invokestatic 67, 3, 28, 0, 343, .null), (25, .ifCond .eq 35, 3, 0, 0, 0, .null), (28, .aload_n 2, 1, 0, 0, 0, .null), (29, .getfield 19, 3, 6, 2, 285, .null), (32, .iload_n 3, 1, 0, 0, 0, .null), (33, .iaload, 1, 0, 0, 0, .null), (34, .aload_n 0, 1, 0, 0, 0, .null), (35, .getfield 19, 3, 6, 2, 285, .null), (38, .iload_n 1, 1, 0, 0, 0, .null), (39, .iaload, 1, 0, 0, 0, .null)]),
  (61, [(40, .aload_n 0, 1, 0, 0, 0, .null), (41, .getfield 19, 3, 6, 2, 285, .null), (44, .aload_n 0, 1, 0, 0, 0, .null), (45, .iload_n 1, 1, 0, 0, 0, .null), (46, .invokevirtual 42, 3, 20, 0, 312, .null), (49, .iaload, 1, 0, 0, 0, .null), (50, .invokestatic 67, 3, 28, 0, 343, .null), (53, .ifCond .eq 7, 3, 0, 0, 0, .null), (56, .iconst 1, 1, 0, 0, 0, .null), (57, .goto 4, 3, 0, 0, 0, .null), (60, .iconst 0, 1, 0, 0, 0, .null), (61, .ireturn, 1, 0, 0, 0, .null)])]
noncomputable def M_Ge_isBeside : zM := (y_Ge_isBeside, prog_6_method_12_code, 4, (Option.some FieldType.boolean), 3, (0, 0, 0, 6), 1, k_Ge_isBeside)
set_option maxRecDepth 100000 in
theorem x_Ge_isBeside : (k_Ge_isBeside.all fun g => g.2.all (zxo R_Ge prog_6_method_12_code 4 false)) = true := by decide +kernel
set_option maxRecDepth 100000 in
theorem o_Ge_isBeside : zMo 27 M_Ge_isBeside := ⟨rfl, zmm (k := 342) rfl rfl, zmm (k := 67) (by decide +kernel) rfl, by decide +kernel, by decide +kernel, fun h => (by cases h), fun _ => ⟨zmm (k := 341) (by decide +kernel) rfl, zmm (k := 5) (by decide +kernel) rfl, (R_Ge, T_Ge, 4), rfl, rfl⟩, fun h => (by cases h), zall x_Ge_isBeside⟩
noncomputable def k_Ge_isBetween : List (Nat × List zE) := [(19, [(0, .iload_n 1, 1, 0, 0, 0, .null), (1, .iload_n 2, 1, 0, 0, 0, .null), (2, .invokestatic 71, 3, 0, 3, 346, .null), (5, .iload_n 0, 1, 0, 0, 0, .null), (6, .if_icmp .gt 16, 3, 0, 0, 0, .null), (9, .iload_n 0, 1, 0, 0, 0, .null), (10, .iload_n 1, 1, 0, 0, 0, .null), (11, .iload_n 2, 1, 0, 0, 0, .null), (12, .invokestatic 77, 3, 0, 4, 347, .null), (15, .if_icmp .gt 7, 3, 0, 0, 0, .null), (18, .iconst 1, 1, 0, 0, 0, .null), (19, .goto 4, 3, 0, 0, 0, .null)]),
  (23, [(22, .iconst 0, 1, 0, 0, 0, .null), (23, .ireturn, 1, 0, 0, 0, .null)])]
noncomputable def M_Ge_isBetween : zM := (y_Ge_isBetween, prog_6_method_13_code, 3, (Option.some FieldType.boolean), 3, (0, 0, 0, 6), 0, k_Ge_isBetween)
set_option maxRecDepth 100000 in
theorem x_Ge_isBetween : (k_Ge_isBetween.all fun g => g.2.all (zxo R_Ge prog_6_method_13_code 3 false)) = true := by decide +kernel
set_option maxRecDepth 100000 in
theorem o_Ge_isBetween : zMo 28 M_Ge_isBetween := ⟨rfl, zmm (k := 345) rfl rfl, zmm (k := 67) (by decide +kernel) rfl, by decide +kernel, by decide +kernel, fun _ => zmm (k := 344) (by decide +kernel) rfl, fun h => (by cases h), fun h => (by cases h), zall x_Ge_isBetween⟩
noncomputable def k_ST_insert : List (Nat × List zE) := [(21, [(0, .iload_n 1, 1, 0, 0, 0, .null), (1, .invokestatic 93, 3, 30, 0, 352, .null), (4, .ifCond .eq 10, 3, 0, 0, 0, .null), (7, .aload_n 0, 1, 0, 0, 0, .null), (8, .getfield 38, 3, 0, 5, 171, .null), (11, .ifnonnull 5, 3, 0, 0, 0, .null), (14, .iconst (-1), 1, 0, 0, 0, .null), (15, .ireturn, 1, 0, 0, 0, .null), (16, .aload_n 0, 1, 0, 0, 0, .null), (17, .getfield 11, 3, 0, 0, 166, .null), (20, .iload_n 1, 1, 0, 0, 0, .null), (21, .aaload, 1, 0, 0, 0, .null)]),
  (40, [(22, .invokevirtual 96, 3, 31, 0, 355, .null), (25, .istore_n 3, 1, 0, 0, 0, .null), (26, .iload_n 3, 1, 0, 0, 0, .null), (27, .bipush 16, 2, 0, 0, 0, .null), (29, .if_icmp .ne 5, 3, 0, 0, 0, .null), (32, .iconst (-1), 1, 0, 0, 0, .null), (33, .ireturn, 1, 0, 0, 0, .null), (34, .aload_n 0, 1, 0, 0, 0, .null), (35, .getfield 11, 3, 0, 0, 166, .null), (38, .iload_n 1, 1, 0, 0, 0, .null), (39, .aaload, 1, 0, 0, 0, .null), (40, .iload_n 3, 1, 0, 0, 0, .null)]),
  (62, [(41, .iload_n 2, 1, 0, 0, 0, .null), (42, .aload_n 0, 1, 0, 0, 0, .null), (43, .getfield 38, 3, 0, 5, 171, .null), (46, .invokevirtual 99, 3, 32, 0, 359, .null), (49, .aload_n 0, 1, 0, 0, 0, .null), (50, .getfield 20, 3, 0, 2, 168, .null), (53, .iload_n 1, 1, 0, 0, 0, .null), (54, .aaload, 1, 0, 0, 0, .null), (55, .aload_n 0, 1, 0, 0, 0, .null), (56, .getfield 38, 3, 0, 5, 171, .null), (59, .getfield 103, 3, 6, 3, 289, .null), (62, .invokevirtual 107, 3, 33, 0, 363, .null)]),
  (66, [(65, .iload_n 3, 1, 0, 0, 0, .null), (66, .ireturn, 1, 0, 0, 0, .null)])]
noncomputable def M_ST_insert : zM := (y_ST_insert, prog_1_method_4_code, 4, (Option.some FieldType.int), 2, (0, 0, 0, 0), 1, k_ST_insert)
set_option maxRecDepth 100000 in
theorem x_ST_insert : (k_ST_insert.all fun g => g.2.all (zxo R_ST prog_1_method_4_code 4 false)) = true := by decide +kernel
set_option maxRecDepth 100000 in
theorem o_ST_insert : zMo 29 M_ST_insert := ⟨rfl, zmm (k := 351) rfl rfl, zmm (k := 59) (by decide +kernel) rfl, by decide +kernel, by decide +kernel, fun h => (by cases h), fun _ => ⟨zmm (k := 349) (by decide +kernel) rfl, zmm (k := 350) (by decide +kernel) rfl, (R_ST, T_ST, 13), rfl, rfl⟩, fun h => (by cases h), zall x_ST_insert⟩
noncomputable def k_ST_isTable : List (Nat × List zE) := [(14, [(0, .iload_n 0, 1, 0, 0, 0, .null), (1, .ifCond .lt 12, 3, 0, 0, 0, .null), (4, .iload_n 0, 1, 0, 0, 0, .null), (5, .iconst 2, 1, 0, 0, 0, .null), (6, .if_icmp .ge 7, 3, 0, 0, 0, .null), (9, .iconst 1, 1, 0, 0, 0, .null), (10, .goto 4, 3, 0, 0, 0, .null), (13, .iconst 0, 1, 0, 0, 0, .null), (14, .ireturn, 1, 0, 0, 0, .null)])]
noncomputable def M_ST_isTable : zM := (y_ST_isTable, prog_1_method_20_code, 1, (Option.some FieldType.boolean), 1, (0, 0, 0, 0), 0, k_ST_isTable)
set_option maxRecDepth 100000 in
theorem x_ST_isTable : (k_ST_isTable.all fun g => g.2.all (zxo R_ST prog_1_method_20_code 1 false)) = true := by decide +kernel
set_option maxRecDepth 100000 in
theorem o_ST_isTable : zMo 30 M_ST_isTable := ⟨rfl, zmm (k := 354) rfl rfl, zmm (k := 59) (by decide +kernel) rfl, by decide +kernel, by decide +kernel, fun _ => zmm (k := 353) (by decide +kernel) rfl, fun h => (by cases h), fun h => (by cases h), zall x_ST_isTable⟩
noncomputable def k_Ta_leastFreeRow : List (Nat × List zE) := [(20, [(0, .iconst 0, 1, 0, 0, 0, .null), (1, .istore_n 1, 1, 0, 0, 0, .null), (2, .iload_n 1, 1, 0, 0, 0, .null), (3, .bipush 16, 2, 0, 0, 0, .null), (5, .if_icmp .ge 18, 3, 0, 0, 0, .null), (8, .aload_n 0, 1, 0, 0, 0, .null), (9, .getfield 17, 3, 4, 1, 136, .null), (12, .iload_n 1, 1, 0, 0, 0, .null), (13, .aaload, 1, 0, 0, 0, .null), (14, .ifnull 9, 3, 0, 0, 0, .null), (17, .iinc 1 1, 3, 0, 0, 0, .null), (20, .goto (-18), 3, 0, 0, 0, .null)]),
  (24, [(23, .iload_n 1, 1, 0, 0, 0, .null), (24, .ireturn, 1, 0, 0, 0, .null)])]
noncomputable def M_Ta_leastFreeRow : zM := (y_Ta_leastFreeRow, prog_8_method_5_code, 2, (Option.some FieldType.int), 0, (0, 0, 0, 4), 1, k_Ta_leastFreeRow)
set_option maxRecDepth 100000 in
theorem x_Ta_leastFreeRow : (k_Ta_leastFreeRow.all fun g => g.2.all (zxo R_Ta prog_8_method_5_code 2 false)) = true := by decide +kernel
set_option maxRecDepth 100000 in
theorem o_Ta_leastFreeRow : zMo 31 M_Ta_leastFreeRow := ⟨rfl, zmm (k := 358) rfl rfl, zmm (k := 64) (by decide +kernel) rfl, by decide +kernel, by decide +kernel, fun h => (by cases h), fun _ => ⟨zmm (k := 356) (by decide +kernel) rfl, zmm (k := 357) (by decide +kernel) rfl, (R_Ta, T_Ta, 2), rfl, rfl⟩, fun h => (by cases h), zall x_Ta_leastFreeRow⟩
noncomputable def k_Ta_put : List (Nat × List zE) := [(18, [(0, .iload_n 1, 1, 0, 0, 0, .null), (1, .ifCond .lt 23, 3, 0, 0, 0, .null), (4, .iload_n 1, 1, 0, 0, 0, .null), (5, .bipush 16, 2, 0, 0, 0, .null), (7, .if_icmp .ge 17, 3, 0, 0, 0, .null), (10, .aload_n 0, 1, 0, 0, 0, .null), (11, .getfield 9, 3, 4, 0, 135, .null), (14, .iload_n 1, 1, 0, 0, 0, .null), (15, .iload_n 2, 1, 0, 0, 0, .null), (16, .iastore, 1, 0, 0, 0, .null), (17, .aload_n 0, 1, 0, 0, 0, .null), (18, .getfield 17, 3, 4, 1, 136, .null)]),
  (24, [(21, .iload_n 1, 1, 0, 0, 0, .null), (22, .aload_n 3, 1, 0, 0, 0, .null), (23, .aastore, 1, 0, 0, 0, .null), (24, .return_, 1, 0, 0, 0, .null)])]
noncomputable def M_Ta_put : zM := (y_Ta_put, prog_8_method_2_code, 4, (Option.none : Option FieldType), 3, (0, 0, 0, 4), 1, k_Ta_put)
set_option maxRecDepth 100000 in
theorem x_Ta_put : (k_Ta_put.all fun g => g.2.all (zxo R_Ta prog_8_method_2_code 4 false)) = true := by decide +kernel
set_option maxRecDepth 100000 in
theorem o_Ta_put : zMo 32 M_Ta_put := ⟨rfl, zmm (k := 362) rfl rfl, zmm (k := 64) (by decide +kernel) rfl, by decide +kernel, by decide +kernel, fun h => (by cases h), fun _ => ⟨zmm (k := 360) (by decide +kernel) rfl, zmm (k := 361) (by decide +kernel) rfl, (R_Ta, T_Ta, 2), rfl, rfl⟩, fun h => (by cases h), zall x_Ta_put⟩
noncomputable def k_In_add : List (Nat × List zE) := [(19, [(0, .aload_n 0, 1, 0, 0, 0, .null), (1, .getfield 27, 3, 5, 5, 152, .null), (4, .ifCond .ne 10, 3, 0, 0, 0, .null), (7, .aload_n 0, 1, 0, 0, 0, .null), (8, .invokevirtual 47, 3, 34, 0, 367, .null), (11, .goto 4, 3, 0, 0, 0, .null), (14, .iconst 0, 1, 0, 0, 0, .null), (15, .istore_n 2, 1, 0, 0, 0, .null), (16, .aload_n 0, 1, 0, 0, 0, .null), (17, .iload_n 2, 1, 0, 0, 0, .null), (18, .aload_n 1, 1, 0, 0, 0, .null), (19, .invokevirtual 51, 3, 35, 0, 371, .null)]),
  (39, [(22, .aload_n 1, 1, 0, 0, 0, .null), (23, .invokevirtual 55, 3, 36, 0, 377, .null), (26, .istore_n 3, 1, 0, 0, 0, .null), (27, .iconst 1, 1, 0, 0, 0, .null), (28, .istore 4, 2, 0, 0, 0, .null), (30, .iload 4, 2, 0, 0, 0, .null), (32, .iload_n 3, 1, 0, 0, 0, .null), (33, .if_icmp .gt 27, 3, 0, 0, 0, .null), (36, .aload_n 0, 1, 0, 0, 0, .null), (37, .iload_n 2, 1, 0, 0, 0, .null), (38, .aload_n 1, 1, 0, 0, 0, .null), (39, .iload 4, 2, 0, 0, 0, .null)]),
  (60, [(41, .invokevirtual 60, 3, 37, 0, 381, .null), (44, .invokevirtual 64, 3, 38, 0, 385, .null), (47, .istore_n 2, 1, 0, 0, 0, .null), (48, .aload_n 0, 1, 0, 0, 0, .null), (49, .iload_n 2, 1, 0, 0, 0, .null), (50, .aload_n 1, 1, 0, 0, 0, .null), (51, .invokevirtual 51, 3, 35, 0, 371, .null), (54, .iinc 4 1, 3, 0, 0, 0, .null), (57, .goto (-27), 3, 0, 0, 0, .null), (60, .return_, 1, 0, 0, 0, .null)])]
noncomputable def M_In_add : zM := (y_In_add, prog_7_method_4_code, 5, (Option.none : Option FieldType), 1, (0, 0, 0, 5), 1, k_In_add)
set_option maxRecDepth 100000 in
theorem x_In_add : (k_In_add.all fun g => g.2.all (zxo R_In prog_7_method_4_code 5 false)) = true := by decide +kernel
set_option maxRecDepth 100000 in
theorem o_In_add : zMo 33 M_In_add := ⟨rfl, zmm (k := 366) rfl rfl, zmm (k := 65) (by decide +kernel) rfl, by decide +kernel, by decide +kernel, fun h => (by cases h), fun _ => ⟨zmm (k := 364) (by decide +kernel) rfl, zmm (k := 365) (by decide +kernel) rfl, (R_In, T_In, 6), rfl, rfl⟩, fun h => (by cases h), zall x_In_add⟩
noncomputable def k_In_newNode : List (Nat × List zE) := [(17, [(0, .aload_n 0, 1, 0, 0, 0, .null), (1, .getfield 27, 3, 5, 5, 152, .null), (4, .istore_n 1, 1, 0, 0, 0, .null), (5, .aload_n 0, 1, 0, 0, 0, .null), (6, .dup, 1, 0, 0, 0, .null), (7, .getfield 27, 3, 5, 5, 152, .null), (10, .iconst 1, 1, 0, 0, 0, .null), (11, .iadd, 1, 0, 0, 0, .null), (12, .putfield 27, 3, 5, 5, 152, .null), (15, .iconst 0, 1, 0, 0, 0, .null), (16, .istore_n 2, 1, 0, 0, 0, .null), (17, .iload_n 2, 1, 0, 0, 0, .null)]),
  (33, [(18, .iconst 4, 1, 0, 0, 0, .null), (19, .if_icmp .ge 20, 3, 0, 0, 0, .null), (22, .aload_n 0, 1, 0, 0, 0, .null), (23, .getfield 11, 3, 5, 0, 147, .null), (26, .iconst 4, 1, 0, 0, 0, .null), (27, .iload_n 1, 1, 0, 0, 0, .null), (28, .imul, 1, 0, 0, 0, .null), (29, .iload_n 2, 1, 0, 0, 0, .null), (30, .iadd, 1, 0, 0, 0, .null), (31, .iconst 0, 1, 0, 0, 0, .null), (32, .iastore, 1, 0, 0, 0, .null), (33, .iinc 2 1, 3, 0, 0, 0, .null)]),
  (57, [(36, .goto (-19), 3, 0, 0, 0, .null), (39, .aload_n 0, 1, 0, 0, 0, .null), (40, .getfield 15, 3, 5, 1, 148, .null), (43, .iload_n 1, 1, 0, 0, 0, .null), (44, .sipush 255, 3, 0, 0, 0, .null), (47, .iastore, 1, 0, 0, 0, .null), (48, .aload_n 0, 1, 0, 0, 0, .null), (49, .getfield 18, 3, 5, 2, 149, .null), (52, .iload_n 1, 1, 0, 0, 0, .null), (53, .sipush 255, 3, 0, 0, 0, .null), (56, .iastore, 1, 0, 0, 0, .null), (57, .aload_n 0, 1, 0, 0, 0, .null)]),
  (72, [(58, .getfield 21, 3, 5, 3, 150, .null), (61, .iload_n 1, 1, 0, 0, 0, .null), (62, .iconst 0, 1, 0, 0, 0, .null), (63, .iastore, 1, 0, 0, 0, .null), (64, .aload_n 0, 1, 0, 0, 0, .null), (65, .getfield 24, 3, 5, 4, 151, .null), (68, .iload_n 1, 1, 0, 0, 0, .null), (69, .iconst 0, 1, 0, 0, 0, .null), (70, .iastore, 1, 0, 0, 0, .null), (71, .iload_n 1, 1, 0, 0, 0, .null), (72, .ireturn, 1, 0, 0, 0, .null)])]
noncomputable def M_In_newNode : zM := (y_In_newNode, prog_7_method_6_code, 3, (Option.some FieldType.int), 0, (0, 0, 0, 5), 1, k_In_newNode)
set_option maxRecDepth 100000 in
theorem x_In_newNode : (k_In_newNode.all fun g => g.2.all (zxo R_In prog_7_method_6_code 3 false)) = true := by decide +kernel
set_option maxRecDepth 100000 in
theorem o_In_newNode : zMo 34 M_In_newNode := ⟨rfl, zmm (k := 370) rfl rfl, zmm (k := 65) (by decide +kernel) rfl, by decide +kernel, by decide +kernel, fun h => (by cases h), fun _ => ⟨zmm (k := 369) (by decide +kernel) rfl, zmm (k := 6) (by decide +kernel) rfl, (R_In, T_In, 6), rfl, rfl⟩, fun h => (by cases h), zall x_In_newNode⟩
noncomputable def k_In_stretch : List (Nat × List zE) := [(19, [(0, .aload_n 0, 1, 0, 0, 0, .null), (1, .getfield 15, 3, 5, 1, 148, .null), (4, .iload_n 1, 1, 0, 0, 0, .null), (5, .aload_n 0, 1, 0, 0, 0, .null), (6, .getfield 15, 3, 5, 1, 148, .null), (9, .iload_n 1, 1, 0, 0, 0, .null), (10, .iaload, 1, 0, 0, 0, .null), (11, .aload_n 2, 1, 0, 0, 0, .null), (12, .getfield 68, 3, 7, 0, 266, .null), (15, .invokestatic 70, 3, 0, 3, 375, .null), (18, .iastore, 1, 0, 0, 0, .null), (19, .aload_n 0, 1, 0, 0, 0, .null)]),
  (39, [(20, .getfield 18, 3, 5, 2, 149, .null), (23, .iload_n 1, 1, 0, 0, 0, .null), (24, .aload_n 0, 1, 0, 0, 0, .null), (25, .getfield 18, 3, 5, 2, 149, .null), (28, .iload_n 1, 1, 0, 0, 0, .null), (29, .iaload, 1, 0, 0, 0, .null), (30, .aload_n 2, 1, 0, 0, 0, .null), (31, .getfield 75, 3, 7, 1, 268, .null), (34, .invokestatic 70, 3, 0, 3, 375, .null), (37, .iastore, 1, 0, 0, 0, .null), (38, .aload_n 0, 1, 0, 0, 0, .null), (39, .getfield 21, 3, 5, 3, 150, .null)]),
  (61, [(42, .iload_n 1, 1, 0, 0, 0, .null), (43, .aload_n 0, 1, 0, 0, 0, .null), (44, .getfield 21, 3, 5, 3, 150, .null), (47, .iload_n 1, 1, 0, 0, 0, .null), (48, .iaload, 1, 0, 0, 0, .null), (49, .aload_n 2, 1, 0, 0, 0, .null), (50, .getfield 77, 3, 7, 2, 270, .null), (53, .invokestatic 79, 3, 0, 4, 376, .null), (56, .iastore, 1, 0, 0, 0, .null), (57, .aload_n 0, 1, 0, 0, 0, .null), (58, .getfield 24, 3, 5, 4, 151, .null), (61, .iload_n 1, 1, 0, 0, 0, .null)]),
  (76, [(62, .aload_n 0, 1, 0, 0, 0, .null), (63, .getfield 24, 3, 5, 4, 151, .null), (66, .iload_n 1, 1, 0, 0, 0, .null), (67, .iaload, 1, 0, 0, 0, .null), (68, .aload_n 2, 1, 0, 0, 0, .null), (69, .getfield 82, 3, 7, 3, 272, .null), (72, .invokestatic 79, 3, 0, 4, 376, .null), (75, .iastore, 1, 0, 0, 0, .null), (76, .return_, 1, 0, 0, 0, .null)])]
noncomputable def M_In_stretch : zM := (y_In_stretch, prog_7_method_7_code, 3, (Option.none : Option FieldType), 2, (0, 0, 0, 5), 1, k_In_stretch)
set_option maxRecDepth 100000 in
theorem x_In_stretch : (k_In_stretch.all fun g => g.2.all (zxo R_In prog_7_method_7_code 3 false)) = true := by decide +kernel
set_option maxRecDepth 100000 in
theorem o_In_stretch : zMo 35 M_In_stretch := ⟨rfl, zmm (k := 374) rfl rfl, zmm (k := 65) (by decide +kernel) rfl, by decide +kernel, by decide +kernel, fun h => (by cases h), fun _ => ⟨zmm (k := 373) (by decide +kernel) rfl, zmm (k := 7) (by decide +kernel) rfl, (R_In, T_In, 6), rfl, rfl⟩, fun h => (by cases h), zall x_In_stretch⟩
noncomputable def k_Bo_homeLevel : List (Nat × List zE) := [(19, [(0, .aload_n 0, 1, 0, 0, 0, .null), (1, .getfield 18, 3, 7, 0, 265, .null), (4, .aload_n 0, 1, 0, 0, 0, .null), (5, .getfield 27, 3, 7, 2, 269, .null), (8, .ixor, 1, 0, 0, 0, .null), (9, .aload_n 0, 1, 0, 0, 0, .null), (10, .getfield 24, 3, 7, 1, 267, .null), (13, .aload_n 0, 1, 0, 0, 0, .null), (14, .getfield 30, 3, 7, 3, 271, .null), (17, .ixor, 1, 0, 0, 0, .null), (18, .ior, 1, 0, 0, 0, .null), (19, .istore_n 1, 1, 0, 0, 0, .null)]),
  (39, [(20, .bipush 8, 2, 0, 0, 0, .null), (22, .istore_n 2, 1, 0, 0, 0, .null), (23, .iload_n 2, 1, 0, 0, 0, .null), (24, .ifCond .le 18, 3, 0, 0, 0, .null), (27, .iload_n 1, 1, 0, 0, 0, .null), (28, .bipush 8, 2, 0, 0, 0, .null), (30, .iload_n 2, 1, 0, 0, 0, .null), (31, .isub, 1, 0, 0, 0, .null), (32, .ishr, 1, 0, 0, 0, .null), (33, .ifCond .eq 9, 3, 0, 0, 0, .null), (36, .iinc 2 (-1), 3, 0, 0, 0, .null), (39, .goto (-16), 3, 0, 0, 0, .null)]),
  (43, [(42, .iload_n 2, 1, 0, 0, 0, .null), (43, .ireturn, 1, 0, 0, 0, .null)])]
noncomputable def M_Bo_homeLevel : zM := (y_Bo_homeLevel, prog_2_method_5_code, 3, (Option.some FieldType.int), 0, (0, 0, 0, 7), 1, k_Bo_homeLevel)
set_option maxRecDepth 100000 in
theorem x_Bo_homeLevel : (k_Bo_homeLevel.all fun g => g.2.all (zxo R_Bo prog_2_method_5_code 3 false)) = true := by decide +kernel
set_option maxRecDepth 100000 in
theorem o_Bo_homeLevel : zMo 36 M_Bo_homeLevel := ⟨rfl, zmm (k := 380) rfl rfl, zmm (k := 70) (by decide +kernel) rfl, by decide +kernel, by decide +kernel, fun h => (by cases h), fun _ => ⟨zmm (k := 378) (by decide +kernel) rfl, zmm (k := 379) (by decide +kernel) rfl, (R_Bo, T_Bo, 4), rfl, rfl⟩, fun h => (by cases h), zall x_Bo_homeLevel⟩
noncomputable def k_Bo_quarter : List (Nat × List zE) := [(14, [(0, .bipush 8, 2, 0, 0, 0, .null), (2, .iload_n 1, 1, 0, 0, 0, .null), (3, .isub, 1, 0, 0, 0, .null), (4, .istore_n 2, 1, 0, 0, 0, .null), (5, .aload_n 0, 1, 0, 0, 0, .null), (6, .getfield 24, 3, 7, 1, 267, .null), (9, .iload_n 2, 1, 0, 0, 0, .null), (10, .ishr, 1, 0, 0, 0, .null), (11, .iconst 1, 1, 0, 0, 0, .null), (12, .iand, 1, 0, 0, 0, .null), (13, .iconst 2, 1, 0, 0, 0, .null), (14, .imul, 1, 0, 0, 0, .null)]),
  (24, [(15, .aload_n 0, 1, 0, 0, 0, .null), (16, .getfield 18, 3, 7, 0, 265, .null), (19, .iload_n 2, 1, 0, 0, 0, .null), (20, .ishr, 1, 0, 0, 0, .null), (21, .iconst 1, 1, 0, 0, 0, .null), (22, .iand, 1, 0, 0, 0, .null), (23, .iadd, 1, 0, 0, 0, .null), (24, .ireturn, 1, 0, 0, 0, .null)])]
noncomputable def M_Bo_quarter : zM := (y_Bo_quarter, prog_2_method_6_code, 3, (Option.some FieldType.int), 1, (0, 0, 0, 7), 1, k_Bo_quarter)
set_option maxRecDepth 100000 in
theorem x_Bo_quarter : (k_Bo_quarter.all fun g => g.2.all (zxo R_Bo prog_2_method_6_code 3 false)) = true := by decide +kernel
set_option maxRecDepth 100000 in
theorem o_Bo_quarter : zMo 37 M_Bo_quarter := ⟨rfl, zmm (k := 384) rfl rfl, zmm (k := 70) (by decide +kernel) rfl, by decide +kernel, by decide +kernel, fun h => (by cases h), fun _ => ⟨zmm (k := 382) (by decide +kernel) rfl, zmm (k := 383) (by decide +kernel) rfl, (R_Bo, T_Bo, 4), rfl, rfl⟩, fun h => (by cases h), zall x_Bo_quarter⟩
noncomputable def k_In_partOf : List (Nat × List zE) := [(15, [(0, .iconst 4, 1, 0, 0, 0, .null), (1, .iload_n 1, 1, 0, 0, 0, .null), (2, .imul, 1, 0, 0, 0, .null), (3, .iload_n 2, 1, 0, 0, 0, .null), (4, .iadd, 1, 0, 0, 0, .null), (5, .istore_n 3, 1, 0, 0, 0, .null), (6, .aload_n 0, 1, 0, 0, 0, .null), (7, .getfield 11, 3, 5, 0, 147, .null), (10, .iload_n 3, 1, 0, 0, 0, .null), (11, .iaload, 1, 0, 0, 0, .null), (12, .ifCond .ne 23, 3, 0, 0, 0, .null), (15, .aload_n 0, 1, 0, 0, 0, .null)]),
  (39, [(16, .getfield 27, 3, 5, 5, 152, .null), (19, .sipush 129, 3, 0, 0, 0, .null), (22, .if_icmp .ge 13, 3, 0, 0, 0, .null), (25, .aload_n 0, 1, 0, 0, 0, .null), (26, .getfield 11, 3, 5, 0, 147, .null), (29, .iload_n 3, 1, 0, 0, 0, .null), (30, .aload_n 0, 1, 0, 0, 0, .null), (31, .invokevirtual 47, 3, 34, 0, 367, .null), (34, .iastore, 1, 0, 0, 0, .null), (35, .aload_n 0, 1, 0, 0, 0, .null), (36, .getfield 11, 3, 5, 0, 147, .null), (39, .iload_n 3, 1, 0, 0, 0, .null)]),
  (41, [(40, .iaload, 1, 0, 0, 0, .null), (41, .ireturn, 1, 0, 0, 0, .null)])]
noncomputable def M_In_partOf : zM := (y_In_partOf, prog_7_method_5_code, 4, (Option.some FieldType.int), 2, (0, 0, 0, 5), 1, k_In_partOf)
set_option maxRecDepth 100000 in
theorem x_In_partOf : (k_In_partOf.all fun g => g.2.all (zxo R_In prog_7_method_5_code 4 false)) = true := by decide +kernel
set_option maxRecDepth 100000 in
theorem o_In_partOf : zMo 38 M_In_partOf := ⟨rfl, zmm (k := 388) rfl rfl, zmm (k := 65) (by decide +kernel) rfl, by decide +kernel, by decide +kernel, fun h => (by cases h), fun _ => ⟨zmm (k := 387) (by decide +kernel) rfl, zmm (k := 8) (by decide +kernel) rfl, (R_In, T_In, 6), rfl, rfl⟩, fun h => (by cases h), zall x_In_partOf⟩
noncomputable def k_ST_delete : List (Nat × List zE) := [(17, [(0, .aload_n 0, 1, 0, 0, 0, .null), (1, .iload_n 1, 1, 0, 0, 0, .null), (2, .iload_n 2, 1, 0, 0, 0, .null), (3, .invokevirtual 111, 3, 40, 0, 393, .null), (6, .ifnonnull 5, 3, 0, 0, 0, .null), (9, .iconst 0, 1, 0, 0, 0, .null), (10, .ireturn, 1, 0, 0, 0, .null), (11, .aload_n 0, 1, 0, 0, 0, .null), (12, .getfield 11, 3, 0, 0, 166, .null), (15, .iload_n 1, 1, 0, 0, 0, .null), (16, .aaload, 1, 0, 0, 0, .null), (17, .iload_n 2, 1, 0, 0, 0, .null)]),
  (35, [(18, .iconst 0, 1, 0, 0, 0, .null), (19, .aconst_null, 1, 0, 0, 0, .null), (20, .invokevirtual 99, 3, 32, 0, 359, .null), (23, .aload_n 0, 1, 0, 0, 0, .null), (24, .getfield 20, 3, 0, 2, 168, .null), (27, .iload_n 1, 1, 0, 0, 0, .null), (28, .aaload, 1, 0, 0, 0, .null), (29, .aload_n 0, 1, 0, 0, 0, .null), (30, .getfield 11, 3, 0, 0, 166, .null), (33, .iload_n 1, 1, 0, 0, 0, .null), (34, .aaload, 1, 0, 0, 0, .null), (35, .invokevirtual 115, 3, 42, 0, 401, .null)]),
  (39, [(38, .iconst 1, 1, 0, 0, 0, .null), (39, .ireturn, 1, 0, 0, 0, .null)])]
noncomputable def M_ST_delete : zM := (y_ST_delete, prog_1_method_5_code, 3, (Option.some FieldType.boolean), 2, (0, 0, 0, 0), 1, k_ST_delete)
set_option maxRecDepth 100000 in
theorem x_ST_delete : (k_ST_delete.all fun g => g.2.all (zxo R_ST prog_1_method_5_code 3 false)) = true := by decide +kernel
set_option maxRecDepth 100000 in
theorem o_ST_delete : zMo 39 M_ST_delete := ⟨rfl, zmm (k := 392) rfl rfl, zmm (k := 59) (by decide +kernel) rfl, by decide +kernel, by decide +kernel, fun h => (by cases h), fun _ => ⟨zmm (k := 390) (by decide +kernel) rfl, zmm (k := 391) (by decide +kernel) rfl, (R_ST, T_ST, 13), rfl, rfl⟩, fun h => (by cases h), zall x_ST_delete⟩
noncomputable def k_ST_placeOf : List (Nat × List zE) := [(21, [(0, .iload_n 1, 1, 0, 0, 0, .null), (1, .invokestatic 93, 3, 30, 0, 352, .null), (4, .ifCond .eq 16, 3, 0, 0, 0, .null), (7, .aload_n 0, 1, 0, 0, 0, .null), (8, .getfield 11, 3, 0, 0, 166, .null), (11, .iload_n 1, 1, 0, 0, 0, .null), (12, .aaload, 1, 0, 0, 0, .null), (13, .iload_n 2, 1, 0, 0, 0, .null), (14, .invokevirtual 152, 3, 41, 0, 397, .null), (17, .goto 4, 3, 0, 0, 0, .null), (20, .aconst_null, 1, 0, 0, 0, .null), (21, .areturn, 1, 0, 0, 0, .null)])]
noncomputable def M_ST_placeOf : zM := (y_ST_placeOf, prog_1_method_22_code, 3, (Option.some (FieldType.object "SpatialTables$Geometry")), 2, (0, 0, 0, 0), 1, k_ST_placeOf)
set_option maxRecDepth 100000 in
theorem x_ST_placeOf : (k_ST_placeOf.all fun g => g.2.all (zxo R_ST prog_1_method_22_code 3 false)) = true := by decide +kernel
set_option maxRecDepth 100000 in
theorem o_ST_placeOf : zMo 40 M_ST_placeOf := ⟨rfl, zmm (k := 396) rfl rfl, zmm (k := 59) (by decide +kernel) rfl, by decide +kernel, by decide +kernel, fun h => (by cases h), fun _ => ⟨zmm (k := 395) (by decide +kernel) rfl, zmm (k := 9) (by decide +kernel) rfl, (R_ST, T_ST, 13), rfl, rfl⟩, fun h => (by cases h), zall x_ST_placeOf⟩
noncomputable def k_Ta_placeAt : List (Nat × List zE) := [(20, [(0, .iload_n 1, 1, 0, 0, 0, .null), (1, .ifCond .lt 18, 3, 0, 0, 0, .null), (4, .iload_n 1, 1, 0, 0, 0, .null), (5, .bipush 16, 2, 0, 0, 0, .null), (7, .if_icmp .ge 12, 3, 0, 0, 0, .null), (10, .aload_n 0, 1, 0, 0, 0, .null), (11, .getfield 17, 3, 4, 1, 136, .null), (14, .iload_n 1, 1, 0, 0, 0, .null), (15, .aaload, 1, 0, 0, 0, .null), (16, .goto 4, 3, 0, 0, 0, .null), (19, .aconst_null, 1, 0, 0, 0, .null), (20, .areturn, 1, 0, 0, 0, .null)])]
noncomputable def M_Ta_placeAt : zM := (y_Ta_placeAt, prog_8_method_3_code, 2, (Option.some (FieldType.object "SpatialTables$Geometry")), 1, (0, 0, 0, 4), 1, k_Ta_placeAt)
set_option maxRecDepth 100000 in
theorem x_Ta_placeAt : (k_Ta_placeAt.all fun g => g.2.all (zxo R_Ta prog_8_method_3_code 2 false)) = true := by decide +kernel
set_option maxRecDepth 100000 in
theorem o_Ta_placeAt : zMo 41 M_Ta_placeAt := ⟨rfl, zmm (k := 400) rfl rfl, zmm (k := 64) (by decide +kernel) rfl, by decide +kernel, by decide +kernel, fun h => (by cases h), fun _ => ⟨zmm (k := 398) (by decide +kernel) rfl, zmm (k := 399) (by decide +kernel) rfl, (R_Ta, T_Ta, 2), rfl, rfl⟩, fun h => (by cases h), zall x_Ta_placeAt⟩
noncomputable def k_In_rebuild : List (Nat × List zE) := [(18, [(0, .aload_n 0, 1, 0, 0, 0, .null), (1, .iconst 0, 1, 0, 0, 0, .null), (2, .putfield 27, 3, 5, 5, 152, .null), (5, .iconst 0, 1, 0, 0, 0, .null), (6, .istore_n 2, 1, 0, 0, 0, .null), (7, .iload_n 2, 1, 0, 0, 0, .null), (8, .bipush 16, 2, 0, 0, 0, .null), (10, .if_icmp .ge 27, 3, 0, 0, 0, .null), (13, .aload_n 1, 1, 0, 0, 0, .null), (14, .iload_n 2, 1, 0, 0, 0, .null), (15, .invokevirtual 31, 3, 41, 0, 405, .null), (18, .astore_n 3, 1, 0, 0, 0, .null)]),
  (37, [(19, .aload_n 3, 1, 0, 0, 0, .null), (20, .ifnull 11, 3, 0, 0, 0, .null), (23, .aload_n 0, 1, 0, 0, 0, .null), (24, .aload_n 3, 1, 0, 0, 0, .null), (25, .getfield 37, 3, 6, 3, 288, .null), (28, .invokevirtual 43, 3, 33, 0, 406, .null), (31, .iinc 2 1, 3, 0, 0, 0, .null), (34, .goto (-27), 3, 0, 0, 0, .null), (37, .return_, 1, 0, 0, 0, .null)])]
noncomputable def M_In_rebuild : zM := (y_In_rebuild, prog_7_method_3_code, 4, (Option.none : Option FieldType), 1, (0, 0, 0, 5), 1, k_In_rebuild)
set_option maxRecDepth 100000 in
theorem x_In_rebuild : (k_In_rebuild.all fun g => g.2.all (zxo R_In prog_7_method_3_code 4 false)) = true := by decide +kernel
set_option maxRecDepth 100000 in
theorem o_In_rebuild : zMo 42 M_In_rebuild := ⟨rfl, zmm (k := 404) rfl rfl, zmm (k := 65) (by decide +kernel) rfl, by decide +kernel, by decide +kernel, fun h => (by cases h), fun _ => ⟨zmm (k := 402) (by decide +kernel) rfl, zmm (k := 403) (by decide +kernel) rfl, (R_In, T_In, 6), rfl, rfl⟩, fun h => (by cases h), zall x_In_rebuild⟩
noncomputable def k_ST_update : List (Nat × List zE) := [(22, [(0, .aload_n 0, 1, 0, 0, 0, .null), (1, .iload_n 1, 1, 0, 0, 0, .null), (2, .iload_n 2, 1, 0, 0, 0, .null), (3, .invokevirtual 111, 3, 40, 0, 393, .null), (6, .astore 5, 2, 0, 0, 0, .null), (8, .aload 5, 2, 0, 0, 0, .null), (10, .ifnull 15, 3, 0, 0, 0, .null), (13, .iload 4, 2, 0, 0, 0, .null), (15, .ifCond .eq 12, 3, 0, 0, 0, .null), (18, .aload_n 0, 1, 0, 0, 0, .null), (19, .getfield 38, 3, 0, 5, 171, .null), (22, .ifnonnull 5, 3, 0, 0, 0, .null)]),
  (41, [(25, .iconst 0, 1, 0, 0, 0, .null), (26, .ireturn, 1, 0, 0, 0, .null), (27, .aload_n 0, 1, 0, 0, 0, .null), (28, .getfield 11, 3, 0, 0, 166, .null), (31, .iload_n 1, 1, 0, 0, 0, .null), (32, .aaload, 1, 0, 0, 0, .null), (33, .iload_n 2, 1, 0, 0, 0, .null), (34, .iload_n 3, 1, 0, 0, 0, .null), (35, .iload 4, 2, 0, 0, 0, .null), (37, .ifCond .eq 10, 3, 0, 0, 0, .null), (40, .aload_n 0, 1, 0, 0, 0, .null), (41, .getfield 38, 3, 0, 5, 171, .null)]),
  (67, [(44, .goto 5, 3, 0, 0, 0, .null), (47, .aload 5, 2, 0, 0, 0, .null), (49, .invokevirtual 99, 3, 32, 0, 359, .null), (52, .iload 4, 2, 0, 0, 0, .null), (54, .ifCond .eq 18, 3, 0, 0, 0, .null), (57, .aload_n 0, 1, 0, 0, 0, .null), (58, .getfield 20, 3, 0, 2, 168, .null), (61, .iload_n 1, 1, 0, 0, 0, .null), (62, .aaload, 1, 0, 0, 0, .null), (63, .aload_n 0, 1, 0, 0, 0, .null), (64, .getfield 11, 3, 0, 0, 166, .null), (67, .iload_n 1, 1, 0, 0, 0, .null)]),
  (73, [(68, .aaload, 1, 0, 0, 0, .null), (69, .invokevirtual 115, 3, 42, 0, 401, .null), (72, .iconst 1, 1, 0, 0, 0, .null), (73, .ireturn, 1, 0, 0, 0, .null)])]
noncomputable def M_ST_update : zM := (y_ST_update, prog_1_method_6_code, 6, (Option.some FieldType.boolean), 4, (0, 0, 0, 0), 1, k_ST_update)
set_option maxRecDepth 100000 in
theorem x_ST_update : (k_ST_update.all fun g => g.2.all (zxo R_ST prog_1_method_6_code 6 false)) = true := by decide +kernel
set_option maxRecDepth 100000 in
theorem o_ST_update : zMo 43 M_ST_update := ⟨rfl, zmm (k := 410) rfl rfl, zmm (k := 59) (by decide +kernel) rfl, by decide +kernel, by decide +kernel, fun h => (by cases h), fun _ => ⟨zmm (k := 408) (by decide +kernel) rfl, zmm (k := 409) (by decide +kernel) rfl, (R_ST, T_ST, 13), rfl, rfl⟩, fun h => (by cases h), zall x_ST_update⟩
noncomputable def k_ST_select : List (Nat × List zE) := [(21, [(0, .iload_n 1, 1, 0, 0, 0, .null), (1, .invokestatic 93, 3, 30, 0, 352, .null), (4, .ifCond .eq 14, 3, 0, 0, 0, .null), (7, .aload_n 0, 1, 0, 0, 0, .null), (8, .getfield 38, 3, 0, 5, 171, .null), (11, .ifnull 7, 3, 0, 0, 0, .null), (14, .iload_n 2, 1, 0, 0, 0, .null), (15, .ifCond .ge 5, 3, 0, 0, 0, .null), (18, .iconst (-1), 1, 0, 0, 0, .null), (19, .ireturn, 1, 0, 0, 0, .null), (20, .aload_n 0, 1, 0, 0, 0, .null), (21, .invokevirtual 119, 3, 45, 0, 415, .null)]),
  (43, [(24, .aload_n 0, 1, 0, 0, 0, .null), (25, .aload_n 0, 1, 0, 0, 0, .null), (26, .aload_n 0, 1, 0, 0, 0, .null), (27, .getfield 38, 3, 0, 5, 171, .null), (30, .iload_n 1, 1, 0, 0, 0, .null), (31, .iload_n 2, 1, 0, 0, 0, .null), (32, .invokevirtual 122, 3, 46, 0, 419, .null), (35, .putfield 50, 3, 0, 8, 174, .null), (38, .aload_n 0, 1, 0, 0, 0, .null), (39, .aload_n 0, 1, 0, 0, 0, .null), (40, .getfield 38, 3, 0, 5, 171, .null), (43, .iload_n 1, 1, 0, 0, 0, .null)]),
  (65, [(44, .iload_n 2, 1, 0, 0, 0, .null), (45, .invokevirtual 126, 3, 57, 0, 466, .null), (48, .istore 5, 2, 0, 0, 0, .null), (50, .iconst 0, 1, 0, 0, 0, .null), (51, .istore 6, 2, 0, 0, 0, .null), (53, .iload 6, 2, 0, 0, 0, .null), (55, .bipush 16, 2, 0, 0, 0, .null), (57, .if_icmp .ge 51, 3, 0, 0, 0, .null), (60, .aload_n 0, 1, 0, 0, 0, .null), (61, .getfield 11, 3, 0, 0, 166, .null), (64, .iload_n 1, 1, 0, 0, 0, .null), (65, .aaload, 1, 0, 0, 0, .null)]),
  (91, [(66, .iload 6, 2, 0, 0, 0, .null), (68, .invokevirtual 129, 3, 64, 0, 500, .null), (71, .istore 7, 2, 0, 0, 0, .null), (73, .iload 5, 2, 0, 0, 0, .null), (75, .iload 6, 2, 0, 0, 0, .null), (77, .invokestatic 133, 3, 65, 0, 504, .null), (80, .ifCond .eq 22, 3, 0, 0, 0, .null), (83, .iload_n 3, 1, 0, 0, 0, .null), (84, .iload 7, 2, 0, 0, 0, .null), (86, .if_icmp .gt 16, 3, 0, 0, 0, .null), (89, .iload 7, 2, 0, 0, 0, .null), (91, .iload 4, 2, 0, 0, 0, .null)]),
  (112, [(93, .if_icmp .gt 9, 3, 0, 0, 0, .null), (96, .aload_n 0, 1, 0, 0, 0, .null), (97, .iload 6, 2, 0, 0, 0, .null), (99, .invokevirtual 137, 3, 66, 0, 507, .null), (102, .iinc 6 1, 3, 0, 0, 0, .null), (105, .goto (-52), 3, 0, 0, 0, .null), (108, .aload_n 0, 1, 0, 0, 0, .null), (109, .getfield 46, 3, 0, 7, 173, .null), (112, .ireturn, 1, 0, 0, 0, .null)])]
noncomputable def M_ST_select : zM := (y_ST_select, prog_1_method_7_code, 8, (Option.some FieldType.int), 4, (0, 0, 0, 0), 1, k_ST_select)
set_option maxRecDepth 100000 in
theorem x_ST_select : (k_ST_select.all fun g => g.2.all (zxo R_ST prog_1_method_7_code 8 false)) = true := by decide +kernel
set_option maxRecDepth 100000 in
theorem o_ST_select : zMo 44 M_ST_select := ⟨rfl, zmm (k := 414) rfl rfl, zmm (k := 59) (by decide +kernel) rfl, by decide +kernel, by decide +kernel, fun h => (by cases h), fun _ => ⟨zmm (k := 412) (by decide +kernel) rfl, zmm (k := 413) (by decide +kernel) rfl, (R_ST, T_ST, 13), rfl, rfl⟩, fun h => (by cases h), zall x_ST_select⟩
noncomputable def k_ST_clearAnswers : List (Nat × List zE) := [(10, [(0, .aload_n 0, 1, 0, 0, 0, .null), (1, .iconst 0, 1, 0, 0, 0, .null), (2, .putfield 46, 3, 0, 7, 173, .null), (5, .aload_n 0, 1, 0, 0, 0, .null), (6, .iconst 0, 1, 0, 0, 0, .null), (7, .putfield 50, 3, 0, 8, 174, .null), (10, .return_, 1, 0, 0, 0, .null)])]
noncomputable def M_ST_clearAnswers : zM := (y_ST_clearAnswers, prog_1_method_23_code, 1, (Option.none : Option FieldType), 0, (0, 0, 0, 0), 1, k_ST_clearAnswers)
set_option maxRecDepth 100000 in
theorem x_ST_clearAnswers : (k_ST_clearAnswers.all fun g => g.2.all (zxo R_ST prog_1_method_23_code 1 false)) = true := by decide +kernel
set_option maxRecDepth 100000 in
theorem o_ST_clearAnswers : zMo 45 M_ST_clearAnswers := ⟨rfl, zmm (k := 418) rfl rfl, zmm (k := 59) (by decide +kernel) rfl, by decide +kernel, by decide +kernel, fun h => (by cases h), fun _ => ⟨zmm (k := 417) (by decide +kernel) rfl, zmm (k := 10) (by decide +kernel) rfl, (R_ST, T_ST, 13), rfl, rfl⟩, fun h => (by cases h), zall x_ST_clearAnswers⟩
noncomputable def k_ST_searchReads : List (Nat × List zE) := [(22, [(0, .aload_n 0, 1, 0, 0, 0, .null), (1, .getfield 11, 3, 0, 0, 166, .null), (4, .iload_n 2, 1, 0, 0, 0, .null), (5, .aaload, 1, 0, 0, 0, .null), (6, .invokevirtual 166, 3, 47, 0, 423, .null), (9, .invokestatic 175, 3, 48, 0, 427, .null), (12, .istore 4, 2, 0, 0, 0, .null), (14, .iload 4, 2, 0, 0, 0, .null), (16, .iconst 4, 1, 0, 0, 0, .null), (17, .if_icmp .gt 6, 3, 0, 0, 0, .null), (20, .iload 4, 2, 0, 0, 0, .null), (22, .ireturn, 1, 0, 0, 0, .null)]),
  (40, [(23, .aload_n 0, 1, 0, 0, 0, .null), (24, .getfield 60, 3, 0, 10, 176, .null), (27, .iload_n 3, 1, 0, 0, 0, .null), (28, .i2l, 1, 0, 0, 0, .null), (29, .lconst 1, 1, 0, 0, 0, .null), (30, .invokevirtual 210, 3, 49, 0, 433, .null), (33, .aload_n 0, 1, 0, 0, 0, .null), (34, .aload_n 1, 1, 0, 0, 0, .null), (35, .getfield 103, 3, 6, 3, 289, .null), (38, .iload_n 2, 1, 0, 0, 0, .null), (39, .aload_n 0, 1, 0, 0, 0, .null), (40, .getfield 60, 3, 0, 10, 176, .null)]),
  (46, [(43, .invokevirtual 148, 3, 50, 0, 437, .null), (46, .ireturn, 1, 0, 0, 0, .null)])]
noncomputable def M_ST_searchReads : zM := (y_ST_searchReads, prog_1_method_27_code, 5, (Option.some FieldType.int), 3, (0, 0, 0, 0), 1, k_ST_searchReads)
set_option maxRecDepth 100000 in
theorem x_ST_searchReads : (k_ST_searchReads.all fun g => g.2.all (zxo R_ST prog_1_method_27_code 5 false)) = true := by decide +kernel
set_option maxRecDepth 100000 in
theorem o_ST_searchReads : zMo 46 M_ST_searchReads := ⟨rfl, zmm (k := 422) rfl rfl, zmm (k := 59) (by decide +kernel) rfl, by decide +kernel, by decide +kernel, fun h => (by cases h), fun _ => ⟨zmm (k := 421) (by decide +kernel) rfl, zmm (k := 11) (by decide +kernel) rfl, (R_ST, T_ST, 13), rfl, rfl⟩, fun h => (by cases h), zall x_ST_searchReads⟩
noncomputable def k_Ta_rowBits : List (Nat × List zE) := [(16, [(0, .iconst 0, 1, 0, 0, 0, .null), (1, .istore_n 1, 1, 0, 0, 0, .null), (2, .iconst 0, 1, 0, 0, 0, .null), (3, .istore_n 2, 1, 0, 0, 0, .null), (4, .iload_n 2, 1, 0, 0, 0, .null), (5, .bipush 16, 2, 0, 0, 0, .null), (7, .if_icmp .ge 28, 3, 0, 0, 0, .null), (10, .iload_n 1, 1, 0, 0, 0, .null), (11, .aload_n 0, 1, 0, 0, 0, .null), (12, .getfield 17, 3, 4, 1, 136, .null), (15, .iload_n 2, 1, 0, 0, 0, .null), (16, .aaload, 1, 0, 0, 0, .null)]),
  (36, [(17, .ifnull 9, 3, 0, 0, 0, .null), (20, .iconst 1, 1, 0, 0, 0, .null), (21, .iload_n 2, 1, 0, 0, 0, .null), (22, .ishl, 1, 0, 0, 0, .null), (23, .goto 4, 3, 0, 0, 0, .null), (26, .iconst 0, 1, 0, 0, 0, .null), (27, .ior, 1, 0, 0, 0, .null), (28, .istore_n 1, 1, 0, 0, 0, .null), (29, .iinc 2 1, 3, 0, 0, 0, .null), (32, .goto (-28), 3, 0, 0, 0, .null), (35, .iload_n 1, 1, 0, 0, 0, .null), (36, .ireturn, 1, 0, 0, 0, .null)])]
noncomputable def M_Ta_rowBits : zM := (y_Ta_rowBits, prog_8_method_6_code, 3, (Option.some FieldType.int), 0, (0, 0, 0, 4), 1, k_Ta_rowBits)
set_option maxRecDepth 100000 in
theorem x_Ta_rowBits : (k_Ta_rowBits.all fun g => g.2.all (zxo R_Ta prog_8_method_6_code 3 false)) = true := by decide +kernel
set_option maxRecDepth 100000 in
theorem o_Ta_rowBits : zMo 47 M_Ta_rowBits := ⟨rfl, zmm (k := 426) rfl rfl, zmm (k := 64) (by decide +kernel) rfl, by decide +kernel, by decide +kernel, fun h => (by cases h), fun _ => ⟨zmm (k := 424) (by decide +kernel) rfl, zmm (k := 425) (by decide +kernel) rfl, (R_Ta, T_Ta, 2), rfl, rfl⟩, fun h => (by cases h), zall x_Ta_rowBits⟩
noncomputable def k_Ig_bitCount : List (Nat × List zE) := [(15, [(0, .iload_n 0, 1, 0, 0, 0, .null), (1, .iload_n 0, 1, 0, 0, 0, .null), (2, .iconst 1, 1, 0, 0, 0, .null), (3, .iushr, 1, 0, 0, 0, .null), (4, .ldc_w 265, 3, 0, 0, 430, .int (1431655765)), (7, .iand, 1, 0, 0, 0, .null), (8, .isub, 1, 0, 0, 0, .null), (9, .istore_n 0, 1, 0, 0, 0, .null), (10, .iload_n 0, 1, 0, 0, 0, .null), (11, .ldc_w 266, 3, 0, 0, 431, .int (858993459)), (14, .iand, 1, 0, 0, 0, .null), (15, .iload_n 0, 1, 0, 0, 0, .null)]),
  (29, [(16, .iconst 2, 1, 0, 0, 0, .null), (17, .iushr, 1, 0, 0, 0, .null), (18, .ldc_w 266, 3, 0, 0, 431, .int (858993459)), (21, .iand, 1, 0, 0, 0, .null), (22, .iadd, 1, 0, 0, 0, .null), (23, .istore_n 0, 1, 0, 0, 0, .null), (24, .iload_n 0, 1, 0, 0, 0, .null), (25, .iload_n 0, 1, 0, 0, 0, .null), (26, .iconst 4, 1, 0, 0, 0, .null), (27, .iushr, 1, 0, 0, 0, .null), (28, .iadd, 1, 0, 0, 0, .null), (29, .ldc_w 267, 3, 0, 0, 432, .int (252645135))]),
  (45, [(32, .iand, 1, 0, 0, 0, .null), (33, .istore_n 0, 1, 0, 0, 0, .null), (34, .iload_n 0, 1, 0, 0, 0, .null), (35, .iload_n 0, 1, 0, 0, 0, .null), (36, .bipush 8, 2, 0, 0, 0, .null), (38, .iushr, 1, 0, 0, 0, .null), (39, .iadd, 1, 0, 0, 0, .null), (40, .istore_n 0, 1, 0, 0, 0, .null), (41, .iload_n 0, 1, 0, 0, 0, .null), (42, .iload_n 0, 1, 0, 0, 0, .null), (43, .bipush 16, 2, 0, 0, 0, .null), (45, .iushr, 1, 0, 0, 0, .null)]),
  (52, [(46, .iadd, 1, 0, 0, 0, .null), (47, .istore_n 0, 1, 0, 0, 0, .null), (48, .iload_n 0, 1, 0, 0, 0, .null), (49, .bipush 63, 2, 0, 0, 0, .null), (51, .iand, 1, 0, 0, 0, .null), (52, .ireturn, 1, 0, 0, 0, .null)])]
noncomputable def M_Ig_bitCount : zM := (y_Ig_bitCount, prog_12_method_49_code, 1, (Option.some FieldType.int), 1, (0, 0, 0, 999), 0, k_Ig_bitCount)
set_option maxRecDepth 100000 in
theorem x_Ig_bitCount : (k_Ig_bitCount.all fun g => g.2.all (zxo R_Ig prog_12_method_49_code 1 false)) = true := by decide +kernel
set_option maxRecDepth 100000 in
theorem o_Ig_bitCount : zMo 48 M_Ig_bitCount := ⟨rfl, zmm (k := 429) rfl rfl, zmm (k := 71) (by decide +kernel) rfl, by decide +kernel, by decide +kernel, fun _ => zmm (k := 428) (by decide +kernel) rfl, fun h => (by cases h), fun h => (by cases h), zall x_Ig_bitCount⟩
noncomputable def k_Di_become : List (Nat × List zE) := [(10, [(0, .aload_n 0, 1, 0, 0, 0, .null), (1, .lload_n 1, 1, 0, 0, 0, .null), (2, .putfield 7, 3, 3, 0, 120, .null), (5, .aload_n 0, 1, 0, 0, 0, .null), (6, .lload_n 3, 1, 0, 0, 0, .null), (7, .putfield 13, 3, 3, 1, 121, .null), (10, .return_, 1, 0, 0, 0, .null)])]
noncomputable def M_Di_become : zM := (y_Di_become, prog_3_method_2_code, 5, (Option.none : Option FieldType), 2, (0, 0, 0, 3), 1, k_Di_become)
set_option maxRecDepth 100000 in
theorem x_Di_become : (k_Di_become.all fun g => g.2.all (zxo R_Di prog_3_method_2_code 5 false)) = true := by decide +kernel
set_option maxRecDepth 100000 in
theorem o_Di_become : zMo 49 M_Di_become := ⟨rfl, zmm (k := 436) rfl rfl, zmm (k := 63) (by decide +kernel) rfl, by decide +kernel, by decide +kernel, fun h => (by cases h), fun _ => ⟨zmm (k := 434) (by decide +kernel) rfl, zmm (k := 435) (by decide +kernel) rfl, (R_Di, T_Di, 2), rfl, rfl⟩, fun h => (by cases h), zall x_Di_become⟩
noncomputable def k_ST_readsWithin : List (Nat × List zE) := [(17, [(0, .aload_n 0, 1, 0, 0, 0, .null), (1, .getfield 20, 3, 0, 2, 168, .null), (4, .iload_n 2, 1, 0, 0, 0, .null), (5, .aaload, 1, 0, 0, 0, .null), (6, .aload_n 1, 1, 0, 0, 0, .null), (7, .aload_n 3, 1, 0, 0, 0, .null), (8, .invokevirtual 214, 3, 51, 0, 441, .null), (11, .aload_n 0, 1, 0, 0, 0, .null), (12, .getfield 11, 3, 0, 0, 166, .null), (15, .iload_n 2, 1, 0, 0, 0, .null), (16, .aaload, 1, 0, 0, 0, .null), (17, .aload_n 1, 1, 0, 0, 0, .null)]),
  (23, [(18, .aload_n 3, 1, 0, 0, 0, .null), (19, .invokevirtual 218, 3, 55, 0, 456, .null), (22, .iadd, 1, 0, 0, 0, .null), (23, .ireturn, 1, 0, 0, 0, .null)])]
noncomputable def M_ST_readsWithin : zM := (y_ST_readsWithin, prog_1_method_28_code, 4, (Option.some FieldType.int), 3, (0, 0, 0, 0), 1, k_ST_readsWithin)
set_option maxRecDepth 100000 in
theorem x_ST_readsWithin : (k_ST_readsWithin.all fun g => g.2.all (zxo R_ST prog_1_method_28_code 4 false)) = true := by decide +kernel
set_option maxRecDepth 100000 in
theorem o_ST_readsWithin : zMo 50 M_ST_readsWithin := ⟨rfl, zmm (k := 440) rfl rfl, zmm (k := 59) (by decide +kernel) rfl, by decide +kernel, by decide +kernel, fun h => (by cases h), fun _ => ⟨zmm (k := 439) (by decide +kernel) rfl, zmm (k := 12) (by decide +kernel) rfl, (R_ST, T_ST, 13), rfl, rfl⟩, fun h => (by cases h), zall x_ST_readsWithin⟩
noncomputable def k_In_countWithin : List (Nat × List zE) := [(17, [(0, .iconst 0, 1, 0, 0, 0, .null), (1, .istore_n 3, 1, 0, 0, 0, .null), (2, .iconst 0, 1, 0, 0, 0, .null), (3, .istore 4, 2, 0, 0, 0, .null), (5, .iload 4, 2, 0, 0, 0, .null), (7, .aload_n 0, 1, 0, 0, 0, .null), (8, .getfield 27, 3, 5, 5, 152, .null), (11, .if_icmp .ge 51, 3, 0, 0, 0, .null), (14, .aload_n 2, 1, 0, 0, 0, .null), (15, .aload_n 1, 1, 0, 0, 0, .null), (16, .aload_n 0, 1, 0, 0, 0, .null), (17, .getfield 15, 3, 5, 1, 148, .null)]),
  (38, [(20, .iload 4, 2, 0, 0, 0, .null), (22, .iaload, 1, 0, 0, 0, .null), (23, .aload_n 0, 1, 0, 0, 0, .null), (24, .getfield 18, 3, 5, 2, 149, .null), (27, .iload 4, 2, 0, 0, 0, .null), (29, .iaload, 1, 0, 0, 0, .null), (30, .aload_n 0, 1, 0, 0, 0, .null), (31, .getfield 21, 3, 5, 3, 150, .null), (34, .iload 4, 2, 0, 0, 0, .null), (36, .iaload, 1, 0, 0, 0, .null), (37, .aload_n 0, 1, 0, 0, 0, .null), (38, .getfield 24, 3, 5, 4, 151, .null)]),
  (63, [(41, .iload 4, 2, 0, 0, 0, .null), (43, .iaload, 1, 0, 0, 0, .null), (44, .invokevirtual 84, 3, 52, 0, 445, .null), (47, .invokevirtual 88, 3, 54, 0, 452, .null), (50, .ifCond .eq 6, 3, 0, 0, 0, .null), (53, .iinc 3 1, 3, 0, 0, 0, .null), (56, .iinc 4 1, 3, 0, 0, 0, .null), (59, .goto (-54), 3, 0, 0, 0, .null), (62, .iload_n 3, 1, 0, 0, 0, .null), (63, .ireturn, 1, 0, 0, 0, .null)])]
noncomputable def M_In_countWithin : zM := (y_In_countWithin, prog_7_method_8_code, 5, (Option.some FieldType.int), 2, (0, 0, 0, 5), 1, k_In_countWithin)
set_option maxRecDepth 100000 in
theorem x_In_countWithin : (k_In_countWithin.all fun g => g.2.all (zxo R_In prog_7_method_8_code 5 false)) = true := by decide +kernel
set_option maxRecDepth 100000 in
theorem o_In_countWithin : zMo 51 M_In_countWithin := ⟨rfl, zmm (k := 444) rfl rfl, zmm (k := 65) (by decide +kernel) rfl, by decide +kernel, by decide +kernel, fun h => (by cases h), fun _ => ⟨zmm (k := 442) (by decide +kernel) rfl, zmm (k := 443) (by decide +kernel) rfl, (R_In, T_In, 6), rfl, rfl⟩, fun h => (by cases h), zall x_In_countWithin⟩
end
section
noncomputable def k_Bo_gapToRectangle : List (Nat × List zE) := [(20, [(0, .aload_n 0, 1, 0, 0, 0, .null), (1, .getfield 18, 3, 7, 0, 265, .null), (4, .aload_n 0, 1, 0, 0, 0, .null), (5, .getfield 27, 3, 7, 2, 269, .null), (8, .iload_n 1, 1, 0, 0, 0, .null), (9, .iload_n 3, 1, 0, 0, 0, .null), (10, .invokestatic 37, 3, 53, 0, 449, .null), (13, .istore 5, 2, 0, 0, 0, .null), (15, .aload_n 0, 1, 0, 0, 0, .null), (16, .getfield 24, 3, 7, 1, 267, .null), (19, .aload_n 0, 1, 0, 0, 0, .null), (20, .getfield 30, 3, 7, 3, 271, .null)]),
  (42, [(23, .iload_n 2, 1, 0, 0, 0, .null), (24, .iload 4, 2, 0, 0, 0, .null), (26, .invokestatic 37, 3, 53, 0, 449, .null), (29, .istore 6, 2, 0, 0, 0, .null), (31, .iload 5, 2, 0, 0, 0, .null), (33, .iload 5, 2, 0, 0, 0, .null), (35, .imul, 1, 0, 0, 0, .null), (36, .iload 6, 2, 0, 0, 0, .null), (38, .iload 6, 2, 0, 0, 0, .null), (40, .imul, 1, 0, 0, 0, .null), (41, .iadd, 1, 0, 0, 0, .null), (42, .ireturn, 1, 0, 0, 0, .null)])]
noncomputable def M_Bo_gapToRectangle : zM := (y_Bo_gapToRectangle, prog_2_method_3_code, 7, (Option.some FieldType.int), 4, (0, 0, 0, 7), 1, k_Bo_gapToRectangle)
set_option maxRecDepth 100000 in
theorem x_Bo_gapToRectangle : (k_Bo_gapToRectangle.all fun g => g.2.all (zxo R_Bo prog_2_method_3_code 7 false)) = true := by decide +kernel
set_option maxRecDepth 100000 in
theorem o_Bo_gapToRectangle : zMo 52 M_Bo_gapToRectangle := ⟨rfl, zmm (k := 448) rfl rfl, zmm (k := 70) (by decide +kernel) rfl, by decide +kernel, by decide +kernel, fun h => (by cases h), fun _ => ⟨zmm (k := 446) (by decide +kernel) rfl, zmm (k := 447) (by decide +kernel) rfl, (R_Bo, T_Bo, 4), rfl, rfl⟩, fun h => (by cases h), zall x_Bo_gapToRectangle⟩
noncomputable def k_Bo_apart : List (Nat × List zE) := [(13, [(0, .iconst 0, 1, 0, 0, 0, .null), (1, .iload_n 2, 1, 0, 0, 0, .null), (2, .iload_n 1, 1, 0, 0, 0, .null), (3, .isub, 1, 0, 0, 0, .null), (4, .iload_n 0, 1, 0, 0, 0, .null), (5, .iload_n 3, 1, 0, 0, 0, .null), (6, .isub, 1, 0, 0, 0, .null), (7, .invokestatic 15, 3, 0, 4, 262, .null), (10, .invokestatic 15, 3, 0, 4, 262, .null), (13, .ireturn, 1, 0, 0, 0, .null)])]
noncomputable def M_Bo_apart : zM := (y_Bo_apart, prog_2_method_4_code, 4, (Option.some FieldType.int), 4, (0, 0, 0, 7), 0, k_Bo_apart)
set_option maxRecDepth 100000 in
theorem x_Bo_apart : (k_Bo_apart.all fun g => g.2.all (zxo R_Bo prog_2_method_4_code 4 false)) = true := by decide +kernel
set_option maxRecDepth 100000 in
theorem o_Bo_apart : zMo 53 M_Bo_apart := ⟨rfl, zmm (k := 451) rfl rfl, zmm (k := 70) (by decide +kernel) rfl, by decide +kernel, by decide +kernel, fun _ => zmm (k := 450) (by decide +kernel) rfl, fun h => (by cases h), fun h => (by cases h), zall x_Bo_apart⟩
noncomputable def k_Di_isAtLeast : List (Nat × List zE) := [(19, [(0, .iload_n 1, 1, 0, 0, 0, .null), (1, .i2l, 1, 0, 0, 0, .null), (2, .aload_n 0, 1, 0, 0, 0, .null), (3, .getfield 13, 3, 3, 1, 121, .null), (6, .lmul, 1, 0, 0, 0, .null), (7, .aload_n 0, 1, 0, 0, 0, .null), (8, .getfield 7, 3, 3, 0, 120, .null), (11, .lcmp, 1, 0, 0, 0, .null), (12, .ifCond .gt 7, 3, 0, 0, 0, .null), (15, .iconst 1, 1, 0, 0, 0, .null), (16, .goto 4, 3, 0, 0, 0, .null), (19, .iconst 0, 1, 0, 0, 0, .null)]),
  (20, [(20, .ireturn, 1, 0, 0, 0, .null)])]
noncomputable def M_Di_isAtLeast : zM := (y_Di_isAtLeast, prog_3_method_4_code, 2, (Option.some FieldType.boolean), 1, (0, 0, 0, 3), 1, k_Di_isAtLeast)
set_option maxRecDepth 100000 in
theorem x_Di_isAtLeast : (k_Di_isAtLeast.all fun g => g.2.all (zxo R_Di prog_3_method_4_code 2 false)) = true := by decide +kernel
set_option maxRecDepth 100000 in
theorem o_Di_isAtLeast : zMo 54 M_Di_isAtLeast := ⟨rfl, zmm (k := 455) rfl rfl, zmm (k := 63) (by decide +kernel) rfl, by decide +kernel, by decide +kernel, fun h => (by cases h), fun _ => ⟨zmm (k := 453) (by decide +kernel) rfl, zmm (k := 454) (by decide +kernel) rfl, (R_Di, T_Di, 2), rfl, rfl⟩, fun h => (by cases h), zall x_Di_isAtLeast⟩
noncomputable def k_Ta_countWithin : List (Nat × List zE) := [(19, [(0, .iconst 0, 1, 0, 0, 0, .null), (1, .istore_n 3, 1, 0, 0, 0, .null), (2, .iconst 0, 1, 0, 0, 0, .null), (3, .istore 4, 2, 0, 0, 0, .null), (5, .iload 4, 2, 0, 0, 0, .null), (7, .bipush 16, 2, 0, 0, 0, .null), (9, .if_icmp .ge 42, 3, 0, 0, 0, .null), (12, .aload_n 0, 1, 0, 0, 0, .null), (13, .getfield 17, 3, 4, 1, 136, .null), (16, .iload 4, 2, 0, 0, 0, .null), (18, .aaload, 1, 0, 0, 0, .null), (19, .astore 5, 2, 0, 0, 0, .null)]),
  (48, [(21, .aload 5, 2, 0, 0, 0, .null), (23, .ifnull 22, 3, 0, 0, 0, .null), (26, .aload_n 2, 1, 0, 0, 0, .null), (27, .aload_n 1, 1, 0, 0, 0, .null), (28, .aload 5, 2, 0, 0, 0, .null), (30, .getfield 21, 3, 6, 3, 290, .null), (33, .invokevirtual 25, 3, 56, 0, 460, .null), (36, .invokevirtual 31, 3, 54, 0, 465, .null), (39, .ifCond .eq 6, 3, 0, 0, 0, .null), (42, .iinc 3 1, 3, 0, 0, 0, .null), (45, .iinc 4 1, 3, 0, 0, 0, .null), (48, .goto (-43), 3, 0, 0, 0, .null)]),
  (52, [(51, .iload_n 3, 1, 0, 0, 0, .null), (52, .ireturn, 1, 0, 0, 0, .null)])]
noncomputable def M_Ta_countWithin : zM := (y_Ta_countWithin, prog_8_method_7_code, 6, (Option.some FieldType.int), 2, (0, 0, 0, 4), 1, k_Ta_countWithin)
set_option maxRecDepth 100000 in
theorem x_Ta_countWithin : (k_Ta_countWithin.all fun g => g.2.all (zxo R_Ta prog_8_method_7_code 6 false)) = true := by decide +kernel
set_option maxRecDepth 100000 in
theorem o_Ta_countWithin : zMo 55 M_Ta_countWithin := ⟨rfl, zmm (k := 459) rfl rfl, zmm (k := 64) (by decide +kernel) rfl, by decide +kernel, by decide +kernel, fun h => (by cases h), fun _ => ⟨zmm (k := 457) (by decide +kernel) rfl, zmm (k := 458) (by decide +kernel) rfl, (R_Ta, T_Ta, 2), rfl, rfl⟩, fun h => (by cases h), zall x_Ta_countWithin⟩
noncomputable def k_Bo_gapTo : List (Nat × List zE) := [(20, [(0, .aload_n 0, 1, 0, 0, 0, .null), (1, .aload_n 1, 1, 0, 0, 0, .null), (2, .getfield 18, 3, 7, 0, 265, .null), (5, .aload_n 1, 1, 0, 0, 0, .null), (6, .getfield 24, 3, 7, 1, 267, .null), (9, .aload_n 1, 1, 0, 0, 0, .null), (10, .getfield 27, 3, 7, 2, 269, .null), (13, .aload_n 1, 1, 0, 0, 0, .null), (14, .getfield 30, 3, 7, 3, 271, .null), (17, .invokevirtual 33, 3, 52, 0, 464, .null), (20, .ireturn, 1, 0, 0, 0, .null)])]
noncomputable def M_Bo_gapTo : zM := (y_Bo_gapTo, prog_2_method_2_code, 2, (Option.some FieldType.int), 1, (0, 0, 0, 7), 1, k_Bo_gapTo)
set_option maxRecDepth 100000 in
theorem x_Bo_gapTo : (k_Bo_gapTo.all fun g => g.2.all (zxo R_Bo prog_2_method_2_code 2 false)) = true := by decide +kernel
set_option maxRecDepth 100000 in
theorem o_Bo_gapTo : zMo 56 M_Bo_gapTo := ⟨rfl, zmm (k := 463) rfl rfl, zmm (k := 70) (by decide +kernel) rfl, by decide +kernel, by decide +kernel, fun h => (by cases h), fun _ => ⟨zmm (k := 461) (by decide +kernel) rfl, zmm (k := 462) (by decide +kernel) rfl, (R_Bo, T_Bo, 4), rfl, rfl⟩, fun h => (by cases h), zall x_Bo_gapTo⟩
noncomputable def k_ST_rowsFound : List (Nat × List zE) := [(19, [(0, .iconst 0, 1, 0, 0, 0, .null), (1, .istore 4, 2, 0, 0, 0, .null), (3, .iconst 0, 1, 0, 0, 0, .null), (4, .istore 5, 2, 0, 0, 0, .null), (6, .iload 5, 2, 0, 0, 0, .null), (8, .bipush 16, 2, 0, 0, 0, .null), (10, .if_icmp .ge 77, 3, 0, 0, 0, .null), (13, .aload_n 0, 1, 0, 0, 0, .null), (14, .getfield 11, 3, 0, 0, 166, .null), (17, .iload_n 2, 1, 0, 0, 0, .null), (18, .aaload, 1, 0, 0, 0, .null), (19, .iload 5, 2, 0, 0, 0, .null)]),
  (47, [(21, .invokevirtual 152, 3, 41, 0, 397, .null), (24, .astore 6, 2, 0, 0, 0, .null), (26, .aload 6, 2, 0, 0, 0, .null), (28, .ifnull 53, 3, 0, 0, 0, .null), (31, .aload_n 1, 1, 0, 0, 0, .null), (32, .getfield 103, 3, 6, 3, 289, .null), (35, .aload 6, 2, 0, 0, 0, .null), (37, .getfield 103, 3, 6, 3, 289, .null), (40, .invokevirtual 201, 3, 56, 0, 470, .null), (43, .iload_n 3, 1, 0, 0, 0, .null), (44, .if_icmp .gt 37, 3, 0, 0, 0, .null), (47, .aload_n 0, 1, 0, 0, 0, .null)]),
  (71, [(48, .getfield 56, 3, 0, 9, 175, .null), (51, .aload_n 1, 1, 0, 0, 0, .null), (52, .aload 6, 2, 0, 0, 0, .null), (54, .invokevirtual 159, 3, 58, 0, 471, .null), (57, .iload 4, 2, 0, 0, 0, .null), (59, .aload_n 0, 1, 0, 0, 0, .null), (60, .getfield 56, 3, 0, 9, 175, .null), (63, .iload_n 3, 1, 0, 0, 0, .null), (64, .invokevirtual 207, 3, 63, 0, 496, .null), (67, .ifCond .eq 10, 3, 0, 0, 0, .null), (70, .iconst 1, 1, 0, 0, 0, .null), (71, .iload 5, 2, 0, 0, 0, .null)]),
  (89, [(73, .ishl, 1, 0, 0, 0, .null), (74, .goto 4, 3, 0, 0, 0, .null), (77, .iconst 0, 1, 0, 0, 0, .null), (78, .ior, 1, 0, 0, 0, .null), (79, .istore 4, 2, 0, 0, 0, .null), (81, .iinc 5 1, 3, 0, 0, 0, .null), (84, .goto (-78), 3, 0, 0, 0, .null), (87, .iload 4, 2, 0, 0, 0, .null), (89, .ireturn, 1, 0, 0, 0, .null)])]
noncomputable def M_ST_rowsFound : zM := (y_ST_rowsFound, prog_1_method_26_code, 7, (Option.some FieldType.int), 3, (0, 0, 0, 0), 1, k_ST_rowsFound)
set_option maxRecDepth 100000 in
theorem x_ST_rowsFound : (k_ST_rowsFound.all fun g => g.2.all (zxo R_ST prog_1_method_26_code 7 false)) = true := by decide +kernel
set_option maxRecDepth 100000 in
theorem o_ST_rowsFound : zMo 57 M_ST_rowsFound := ⟨rfl, zmm (k := 469) rfl rfl, zmm (k := 59) (by decide +kernel) rfl, by decide +kernel, by decide +kernel, fun h => (by cases h), fun _ => ⟨zmm (k := 468) (by decide +kernel) rfl, zmm (k := 13) (by decide +kernel) rfl, (R_ST, T_ST, 13), rfl, rfl⟩, fun h => (by cases h), zall x_ST_rowsFound⟩
noncomputable def k_Di_between : List (Nat × List zE) := [(19, [(0, .aload_n 1, 1, 0, 0, 0, .null), (1, .aload_n 2, 1, 0, 0, 0, .null), (2, .getfield 16, 3, 6, 1, 284, .null), (5, .iconst 0, 1, 0, 0, 0, .null), (6, .iaload, 1, 0, 0, 0, .null), (7, .aload_n 2, 1, 0, 0, 0, .null), (8, .getfield 22, 3, 6, 2, 286, .null), (11, .iconst 0, 1, 0, 0, 0, .null), (12, .iaload, 1, 0, 0, 0, .null), (13, .invokevirtual 25, 3, 59, 0, 475, .null), (16, .ifCond .ne 22, 3, 0, 0, 0, .null), (19, .aload_n 2, 1, 0, 0, 0, .null)]),
  (39, [(20, .aload_n 1, 1, 0, 0, 0, .null), (21, .getfield 16, 3, 6, 1, 284, .null), (24, .iconst 0, 1, 0, 0, 0, .null), (25, .iaload, 1, 0, 0, 0, .null), (26, .aload_n 1, 1, 0, 0, 0, .null), (27, .getfield 22, 3, 6, 2, 286, .null), (30, .iconst 0, 1, 0, 0, 0, .null), (31, .iaload, 1, 0, 0, 0, .null), (32, .invokevirtual 25, 3, 59, 0, 475, .null), (35, .ifCond .eq 10, 3, 0, 0, 0, .null), (38, .aload_n 0, 1, 0, 0, 0, .null), (39, .lconst 0, 1, 0, 0, 0, .null)]),
  (57, [(40, .lconst 1, 1, 0, 0, 0, .null), (41, .invokevirtual 29, 3, 49, 0, 479, .null), (44, .return_, 1, 0, 0, 0, .null), (45, .aload_n 0, 1, 0, 0, 0, .null), (46, .ldc2_w 33, 3, 0, 0, 480, .long (1048576)), (49, .lconst 1, 1, 0, 0, 0, .null), (50, .invokevirtual 29, 3, 49, 0, 479, .null), (53, .iconst 0, 1, 0, 0, 0, .null), (54, .istore_n 3, 1, 0, 0, 0, .null), (55, .iload_n 3, 1, 0, 0, 0, .null), (56, .aload_n 1, 1, 0, 0, 0, .null), (57, .invokevirtual 35, 3, 19, 0, 481, .null)]),
  (81, [(60, .if_icmp .ge 45, 3, 0, 0, 0, .null), (63, .iconst 0, 1, 0, 0, 0, .null), (64, .istore 4, 2, 0, 0, 0, .null), (66, .iload 4, 2, 0, 0, 0, .null), (68, .aload_n 2, 1, 0, 0, 0, .null), (69, .invokevirtual 35, 3, 19, 0, 481, .null), (72, .if_icmp .ge 27, 3, 0, 0, 0, .null), (75, .aload_n 0, 1, 0, 0, 0, .null), (76, .getfield 7, 3, 3, 0, 120, .null), (79, .lconst 0, 1, 0, 0, 0, .null), (80, .lcmp, 1, 0, 0, 0, .null), (81, .ifCond .le 18, 3, 0, 0, 0, .null)]),
  (105, [(84, .aload_n 0, 1, 0, 0, 0, .null), (85, .aload_n 1, 1, 0, 0, 0, .null), (86, .iload_n 3, 1, 0, 0, 0, .null), (87, .aload_n 2, 1, 0, 0, 0, .null), (88, .iload 4, 2, 0, 0, 0, .null), (90, .invokevirtual 39, 3, 60, 0, 482, .null), (93, .iinc 4 1, 3, 0, 0, 0, .null), (96, .goto (-30), 3, 0, 0, 0, .null), (99, .iinc 3 1, 3, 0, 0, 0, .null), (102, .goto (-47), 3, 0, 0, 0, .null), (105, .return_, 1, 0, 0, 0, .null)])]
noncomputable def M_Di_between : zM := (y_Di_between, prog_3_method_7_code, 5, (Option.none : Option FieldType), 2, (0, 0, 0, 3), 1, k_Di_between)
set_option maxRecDepth 100000 in
theorem x_Di_between : (k_Di_between.all fun g => g.2.all (zxo R_Di prog_3_method_7_code 5 false)) = true := by decide +kernel
set_option maxRecDepth 100000 in
theorem o_Di_between : zMo 58 M_Di_between := ⟨rfl, zmm (k := 474) rfl rfl, zmm (k := 63) (by decide +kernel) rfl, by decide +kernel, by decide +kernel, fun h => (by cases h), fun _ => ⟨zmm (k := 472) (by decide +kernel) rfl, zmm (k := 473) (by decide +kernel) rfl, (R_Di, T_Di, 2), rfl, rfl⟩, fun h => (by cases h), zall x_Di_between⟩
noncomputable def k_Ge_encloses : List (Nat × List zE) := [(17, [(0, .iconst 0, 1, 0, 0, 0, .null), (1, .istore_n 3, 1, 0, 0, 0, .null), (2, .aload_n 0, 1, 0, 0, 0, .null), (3, .getfield 9, 3, 6, 0, 282, .null), (6, .iconst 2, 1, 0, 0, 0, .null), (7, .if_icmp .eq 5, 3, 0, 0, 0, .null), (10, .iload_n 3, 1, 0, 0, 0, .null), (11, .ireturn, 1, 0, 0, 0, .null), (12, .iconst 0, 1, 0, 0, 0, .null), (13, .istore 4, 2, 0, 0, 0, .null), (15, .iload 4, 2, 0, 0, 0, .null), (17, .aload_n 0, 1, 0, 0, 0, .null)]),
  (40, [(18, .invokevirtual 38, 3, 19, 0, 308, .null), (21, .if_icmp .ge 83, 3, 0, 0, 0, .null), (24, .aload_n 0, 1, 0, 0, 0, .null), (25, .getfield 19, 3, 6, 2, 285, .null), (28, .aload_n 0, 1, 0, 0, 0, .null), (29, .iload 4, 2, 0, 0, 0, .null), (31, .invokevirtual 42, 3, 20, 0, 312, .null), (34, .iaload, 1, 0, 0, 0, .null), (35, .iload_n 2, 1, 0, 0, 0, .null), (36, .if_icmp .le 7, 3, 0, 0, 0, .null), (39, .iconst 1, 1, 0, 0, 0, .null), (40, .goto 4, 3, 0, 0, 0, .null)]),
  (63, [(43, .iconst 0, 1, 0, 0, 0, .null), (44, .istore 5, 2, 0, 0, 0, .null), (46, .iload 5, 2, 0, 0, 0, .null), (48, .aload_n 0, 1, 0, 0, 0, .null), (49, .getfield 19, 3, 6, 2, 285, .null), (52, .iload 4, 2, 0, 0, 0, .null), (54, .iaload, 1, 0, 0, 0, .null), (55, .iload_n 2, 1, 0, 0, 0, .null), (56, .if_icmp .le 7, 3, 0, 0, 0, .null), (59, .iconst 1, 1, 0, 0, 0, .null), (60, .goto 4, 3, 0, 0, 0, .null), (63, .iconst 0, 1, 0, 0, 0, .null)]),
  (85, [(64, .if_icmp .eq 34, 3, 0, 0, 0, .null), (67, .iload 5, 2, 0, 0, 0, .null), (69, .aload_n 0, 1, 0, 0, 0, .null), (70, .iload 4, 2, 0, 0, 0, .null), (72, .iload_n 1, 1, 0, 0, 0, .null), (73, .iload_n 2, 1, 0, 0, 0, .null), (74, .invokevirtual 57, 3, 25, 0, 332, .null), (77, .ifCond .le 7, 3, 0, 0, 0, .null), (80, .iconst 1, 1, 0, 0, 0, .null), (81, .goto 4, 3, 0, 0, 0, .null), (84, .iconst 0, 1, 0, 0, 0, .null), (85, .if_icmp .ne 13, 3, 0, 0, 0, .null)]),
  (105, [(88, .iload_n 3, 1, 0, 0, 0, .null), (89, .ifCond .ne 7, 3, 0, 0, 0, .null), (92, .iconst 1, 1, 0, 0, 0, .null), (93, .goto 4, 3, 0, 0, 0, .null), (96, .iconst 0, 1, 0, 0, 0, .null), (97, .istore_n 3, 1, 0, 0, 0, .null), (98, .iinc 4 1, 3, 0, 0, 0, .null), (101, .goto (-86), 3, 0, 0, 0, .null), (104, .iload_n 3, 1, 0, 0, 0, .null), (105, .ireturn, 1, 0, 0, 0, .null)])]
noncomputable def M_Ge_encloses : zM := (y_Ge_encloses, prog_6_method_14_code, 6, (Option.some FieldType.boolean), 2, (0, 0, 0, 6), 1, k_Ge_encloses)
set_option maxRecDepth 100000 in
theorem x_Ge_encloses : (k_Ge_encloses.all fun g => g.2.all (zxo R_Ge prog_6_method_14_code 6 false)) = true := by decide +kernel
set_option maxRecDepth 100000 in
theorem o_Ge_encloses : zMo 59 M_Ge_encloses := ⟨rfl, zmm (k := 478) rfl rfl, zmm (k := 67) (by decide +kernel) rfl, by decide +kernel, by decide +kernel, fun h => (by cases h), fun _ => ⟨zmm (k := 476) (by decide +kernel) rfl, zmm (k := 477) (by decide +kernel) rfl, (R_Ge, T_Ge, 4), rfl, rfl⟩, fun h => (by cases h), zall x_Ge_encloses⟩
noncomputable def k_Di_lessenBySides : List (Nat × List zE) := [(18, [(0, .aload_n 1, 1, 0, 0, 0, .null), (1, .iload_n 2, 1, 0, 0, 0, .null), (2, .aload_n 3, 1, 0, 0, 0, .null), (3, .iload 4, 2, 0, 0, 0, .null), (5, .invokevirtual 43, 3, 24, 0, 486, .null), (8, .ifCond .eq 10, 3, 0, 0, 0, .null), (11, .aload_n 0, 1, 0, 0, 0, .null), (12, .lconst 0, 1, 0, 0, 0, .null), (13, .lconst 1, 1, 0, 0, 0, .null), (14, .invokevirtual 29, 3, 49, 0, 479, .null), (17, .return_, 1, 0, 0, 0, .null), (18, .aload_n 0, 1, 0, 0, 0, .null)]),
  (34, [(19, .aload_n 1, 1, 0, 0, 0, .null), (20, .iload_n 2, 1, 0, 0, 0, .null), (21, .aload_n 3, 1, 0, 0, 0, .null), (22, .iload 4, 2, 0, 0, 0, .null), (24, .invokevirtual 47, 3, 61, 0, 487, .null), (27, .aload_n 0, 1, 0, 0, 0, .null), (28, .aload_n 1, 1, 0, 0, 0, .null), (29, .iload_n 2, 1, 0, 0, 0, .null), (30, .aload_n 3, 1, 0, 0, 0, .null), (31, .aload_n 3, 1, 0, 0, 0, .null), (32, .iload 4, 2, 0, 0, 0, .null), (34, .invokevirtual 50, 3, 20, 0, 491, .null)]),
  (54, [(37, .invokevirtual 47, 3, 61, 0, 487, .null), (40, .aload_n 0, 1, 0, 0, 0, .null), (41, .aload_n 3, 1, 0, 0, 0, .null), (42, .iload 4, 2, 0, 0, 0, .null), (44, .aload_n 1, 1, 0, 0, 0, .null), (45, .iload_n 2, 1, 0, 0, 0, .null), (46, .invokevirtual 47, 3, 61, 0, 487, .null), (49, .aload_n 0, 1, 0, 0, 0, .null), (50, .aload_n 3, 1, 0, 0, 0, .null), (51, .iload 4, 2, 0, 0, 0, .null), (53, .aload_n 1, 1, 0, 0, 0, .null), (54, .aload_n 1, 1, 0, 0, 0, .null)]),
  (62, [(55, .iload_n 2, 1, 0, 0, 0, .null), (56, .invokevirtual 50, 3, 20, 0, 491, .null), (59, .invokevirtual 47, 3, 61, 0, 487, .null), (62, .return_, 1, 0, 0, 0, .null)])]
noncomputable def M_Di_lessenBySides : zM := (y_Di_lessenBySides, prog_3_method_8_code, 5, (Option.none : Option FieldType), 4, (0, 0, 0, 3), 1, k_Di_lessenBySides)
set_option maxRecDepth 100000 in
theorem x_Di_lessenBySides : (k_Di_lessenBySides.all fun g => g.2.all (zxo R_Di prog_3_method_8_code 5 false)) = true := by decide +kernel
set_option maxRecDepth 100000 in
theorem o_Di_lessenBySides : zMo 60 M_Di_lessenBySides := ⟨rfl, zmm (k := 485) rfl rfl, zmm (k := 63) (by decide +kernel) rfl, by decide +kernel, by decide +kernel, fun h => (by cases h), fun _ => ⟨zmm (k := 484) (by decide +kernel) rfl, zmm (k := 14) (by decide +kernel) rfl, (R_Di, T_Di, 2), rfl, rfl⟩, fun h => (by cases h), zall x_Di_lessenBySides⟩
noncomputable def k_Di_lessenByEnd : List (Nat × List zE) := [(17, [(0, .aload_n 1, 1, 0, 0, 0, .null), (1, .getfield 16, 3, 6, 1, 284, .null), (4, .aload_n 1, 1, 0, 0, 0, .null), (5, .iload_n 2, 1, 0, 0, 0, .null), (6, .invokevirtual 50, 3, 20, 0, 491, .null), (9, .iaload, 1, 0, 0, 0, .null), (10, .aload_n 1, 1, 0, 0, 0, .null), (11, .getfield 16, 3, 6, 1, 284, .null), (14, .iload_n 2, 1, 0, 0, 0, .null), (15, .iaload, 1, 0, 0, 0, .null), (16, .isub, 1, 0, 0, 0, .null), (17, .i2l, 1, 0, 0, 0, .null)]),
  (36, [(18, .lstore 5, 2, 0, 0, 0, .null), (20, .aload_n 1, 1, 0, 0, 0, .null), (21, .getfield 22, 3, 6, 2, 286, .null), (24, .aload_n 1, 1, 0, 0, 0, .null), (25, .iload_n 2, 1, 0, 0, 0, .null), (26, .invokevirtual 50, 3, 20, 0, 491, .null), (29, .iaload, 1, 0, 0, 0, .null), (30, .aload_n 1, 1, 0, 0, 0, .null), (31, .getfield 22, 3, 6, 2, 286, .null), (34, .iload_n 2, 1, 0, 0, 0, .null), (35, .iaload, 1, 0, 0, 0, .null), (36, .isub, 1, 0, 0, 0, .null)]),
  (54, [(37, .i2l, 1, 0, 0, 0, .null), (38, .lstore 7, 2, 0, 0, 0, .null), (40, .aload_n 3, 1, 0, 0, 0, .null), (41, .getfield 16, 3, 6, 1, 284, .null), (44, .iload 4, 2, 0, 0, 0, .null), (46, .iaload, 1, 0, 0, 0, .null), (47, .aload_n 1, 1, 0, 0, 0, .null), (48, .getfield 16, 3, 6, 1, 284, .null), (51, .iload_n 2, 1, 0, 0, 0, .null), (52, .iaload, 1, 0, 0, 0, .null), (53, .isub, 1, 0, 0, 0, .null), (54, .i2l, 1, 0, 0, 0, .null)]),
  (72, [(55, .lstore 9, 2, 0, 0, 0, .null), (57, .aload_n 3, 1, 0, 0, 0, .null), (58, .getfield 22, 3, 6, 2, 286, .null), (61, .iload 4, 2, 0, 0, 0, .null), (63, .iaload, 1, 0, 0, 0, .null), (64, .aload_n 1, 1, 0, 0, 0, .null), (65, .getfield 22, 3, 6, 2, 286, .null), (68, .iload_n 2, 1, 0, 0, 0, .null), (69, .iaload, 1, 0, 0, 0, .null), (70, .isub, 1, 0, 0, 0, .null), (71, .i2l, 1, 0, 0, 0, .null), (72, .lstore 11, 2, 0, 0, 0, .null)]),
  (92, [(74, .lload 5, 2, 0, 0, 0, .null), (76, .lload 5, 2, 0, 0, 0, .null), (78, .lmul, 1, 0, 0, 0, .null), (79, .lload 7, 2, 0, 0, 0, .null), (81, .lload 7, 2, 0, 0, 0, .null), (83, .lmul, 1, 0, 0, 0, .null), (84, .ladd, 1, 0, 0, 0, .null), (85, .lstore 13, 2, 0, 0, 0, .null), (87, .lload 9, 2, 0, 0, 0, .null), (89, .lload 5, 2, 0, 0, 0, .null), (91, .lmul, 1, 0, 0, 0, .null), (92, .lload 11, 2, 0, 0, 0, .null)]),
  (112, [(94, .lload 7, 2, 0, 0, 0, .null), (96, .lmul, 1, 0, 0, 0, .null), (97, .ladd, 1, 0, 0, 0, .null), (98, .lstore 15, 2, 0, 0, 0, .null), (100, .lload 15, 2, 0, 0, 0, .null), (102, .lconst 0, 1, 0, 0, 0, .null), (103, .lcmp, 1, 0, 0, 0, .null), (104, .ifCond .gt 22, 3, 0, 0, 0, .null), (107, .aload_n 0, 1, 0, 0, 0, .null), (108, .lload 9, 2, 0, 0, 0, .null), (110, .lload 9, 2, 0, 0, 0, .null), (112, .lmul, 1, 0, 0, 0, .null)]),
  (134, [(113, .lload 11, 2, 0, 0, 0, .null), (115, .lload 11, 2, 0, 0, 0, .null), (117, .lmul, 1, 0, 0, 0, .null), (118, .ladd, 1, 0, 0, 0, .null), (119, .lconst 1, 1, 0, 0, 0, .null), (120, .invokevirtual 54, 3, 62, 0, 492, .null), (123, .goto 66, 3, 0, 0, 0, .null), (126, .lload 15, 2, 0, 0, 0, .null), (128, .lload 13, 2, 0, 0, 0, .null), (130, .lcmp, 1, 0, 0, 0, .null), (131, .ifCond .lt 34, 3, 0, 0, 0, .null), (134, .aload_n 0, 1, 0, 0, 0, .null)]),
  (153, [(135, .lload 9, 2, 0, 0, 0, .null), (137, .lload 5, 2, 0, 0, 0, .null), (139, .lsub, 1, 0, 0, 0, .null), (140, .lload 9, 2, 0, 0, 0, .null), (142, .lload 5, 2, 0, 0, 0, .null), (144, .lsub, 1, 0, 0, 0, .null), (145, .lmul, 1, 0, 0, 0, .null), (146, .lload 11, 2, 0, 0, 0, .null), (148, .lload 7, 2, 0, 0, 0, .null), (150, .lsub, 1, 0, 0, 0, .null), (151, .lload 11, 2, 0, 0, 0, .null), (153, .lload 7, 2, 0, 0, 0, .null)]),
  (174, [(155, .lsub, 1, 0, 0, 0, .null), (156, .lmul, 1, 0, 0, 0, .null), (157, .ladd, 1, 0, 0, 0, .null), (158, .lconst 1, 1, 0, 0, 0, .null), (159, .invokevirtual 54, 3, 62, 0, 492, .null), (162, .goto 27, 3, 0, 0, 0, .null), (165, .lload 9, 2, 0, 0, 0, .null), (167, .lload 7, 2, 0, 0, 0, .null), (169, .lmul, 1, 0, 0, 0, .null), (170, .lload 11, 2, 0, 0, 0, .null), (172, .lload 5, 2, 0, 0, 0, .null), (174, .lmul, 1, 0, 0, 0, .null)]),
  (189, [(175, .lsub, 1, 0, 0, 0, .null), (176, .lstore 17, 2, 0, 0, 0, .null), (178, .aload_n 0, 1, 0, 0, 0, .null), (179, .lload 17, 2, 0, 0, 0, .null), (181, .lload 17, 2, 0, 0, 0, .null), (183, .lmul, 1, 0, 0, 0, .null), (184, .lload 13, 2, 0, 0, 0, .null), (186, .invokevirtual 54, 3, 62, 0, 492, .null), (189, .return_, 1, 0, 0, 0, .null)])]
noncomputable def M_Di_lessenByEnd : zM := (y_Di_lessenByEnd, prog_3_method_9_code, 19, (Option.none : Option FieldType), 4, (0, 0, 0, 3), 1, k_Di_lessenByEnd)
set_option maxRecDepth 100000 in
theorem x_Di_lessenByEnd : (k_Di_lessenByEnd.all fun g => g.2.all (zxo R_Di prog_3_method_9_code 19 false)) = true := by decide +kernel
set_option maxRecDepth 100000 in
theorem o_Di_lessenByEnd : zMo 61 M_Di_lessenByEnd := ⟨rfl, zmm (k := 490) rfl rfl, zmm (k := 63) (by decide +kernel) rfl, by decide +kernel, by decide +kernel, fun h => (by cases h), fun _ => ⟨zmm (k := 489) (by decide +kernel) rfl, zmm (k := 15) (by decide +kernel) rfl, (R_Di, T_Di, 2), rfl, rfl⟩, fun h => (by cases h), zall x_Di_lessenByEnd⟩
noncomputable def k_Di_lessen : List (Nat × List zE) := [(17, [(0, .lload_n 1, 1, 0, 0, 0, .null), (1, .aload_n 0, 1, 0, 0, 0, .null), (2, .getfield 13, 3, 3, 1, 121, .null), (5, .lmul, 1, 0, 0, 0, .null), (6, .aload_n 0, 1, 0, 0, 0, .null), (7, .getfield 7, 3, 3, 0, 120, .null), (10, .lload_n 3, 1, 0, 0, 0, .null), (11, .lmul, 1, 0, 0, 0, .null), (12, .lcmp, 1, 0, 0, 0, .null), (13, .ifCond .ge 9, 3, 0, 0, 0, .null), (16, .aload_n 0, 1, 0, 0, 0, .null), (17, .lload_n 1, 1, 0, 0, 0, .null)]),
  (22, [(18, .lload_n 3, 1, 0, 0, 0, .null), (19, .invokevirtual 29, 3, 49, 0, 479, .null), (22, .return_, 1, 0, 0, 0, .null)])]
noncomputable def M_Di_lessen : zM := (y_Di_lessen, prog_3_method_10_code, 5, (Option.none : Option FieldType), 2, (0, 0, 0, 3), 1, k_Di_lessen)
set_option maxRecDepth 100000 in
theorem x_Di_lessen : (k_Di_lessen.all fun g => g.2.all (zxo R_Di prog_3_method_10_code 5 false)) = true := by decide +kernel
set_option maxRecDepth 100000 in
theorem o_Di_lessen : zMo 62 M_Di_lessen := ⟨rfl, zmm (k := 495) rfl rfl, zmm (k := 63) (by decide +kernel) rfl, by decide +kernel, by decide +kernel, fun h => (by cases h), fun _ => ⟨zmm (k := 494) (by decide +kernel) rfl, zmm (k := 16) (by decide +kernel) rfl, (R_Di, T_Di, 2), rfl, rfl⟩, fun h => (by cases h), zall x_Di_lessen⟩
noncomputable def k_Di_isAtMost : List (Nat × List zE) := [(19, [(0, .aload_n 0, 1, 0, 0, 0, .null), (1, .getfield 7, 3, 3, 0, 120, .null), (4, .iload_n 1, 1, 0, 0, 0, .null), (5, .i2l, 1, 0, 0, 0, .null), (6, .aload_n 0, 1, 0, 0, 0, .null), (7, .getfield 13, 3, 3, 1, 121, .null), (10, .lmul, 1, 0, 0, 0, .null), (11, .lcmp, 1, 0, 0, 0, .null), (12, .ifCond .gt 7, 3, 0, 0, 0, .null), (15, .iconst 1, 1, 0, 0, 0, .null), (16, .goto 4, 3, 0, 0, 0, .null), (19, .iconst 0, 1, 0, 0, 0, .null)]),
  (20, [(20, .ireturn, 1, 0, 0, 0, .null)])]
noncomputable def M_Di_isAtMost : zM := (y_Di_isAtMost, prog_3_method_3_code, 2, (Option.some FieldType.boolean), 1, (0, 0, 0, 3), 1, k_Di_isAtMost)
set_option maxRecDepth 100000 in
theorem x_Di_isAtMost : (k_Di_isAtMost.all fun g => g.2.all (zxo R_Di prog_3_method_3_code 2 false)) = true := by decide +kernel
set_option maxRecDepth 100000 in
theorem o_Di_isAtMost : zMo 63 M_Di_isAtMost := ⟨rfl, zmm (k := 499) rfl rfl, zmm (k := 63) (by decide +kernel) rfl, by decide +kernel, by decide +kernel, fun h => (by cases h), fun _ => ⟨zmm (k := 497) (by decide +kernel) rfl, zmm (k := 498) (by decide +kernel) rfl, (R_Di, T_Di, 2), rfl, rfl⟩, fun h => (by cases h), zall x_Di_isAtMost⟩
noncomputable def k_Ta_amountOf : List (Nat × List zE) := [(20, [(0, .iload_n 1, 1, 0, 0, 0, .null), (1, .ifCond .lt 18, 3, 0, 0, 0, .null), (4, .iload_n 1, 1, 0, 0, 0, .null), (5, .bipush 16, 2, 0, 0, 0, .null), (7, .if_icmp .ge 12, 3, 0, 0, 0, .null), (10, .aload_n 0, 1, 0, 0, 0, .null), (11, .getfield 9, 3, 4, 0, 135, .null), (14, .iload_n 1, 1, 0, 0, 0, .null), (15, .iaload, 1, 0, 0, 0, .null), (16, .goto 4, 3, 0, 0, 0, .null), (19, .iconst 0, 1, 0, 0, 0, .null), (20, .ireturn, 1, 0, 0, 0, .null)])]
noncomputable def M_Ta_amountOf : zM := (y_Ta_amountOf, prog_8_method_4_code, 2, (Option.some FieldType.int), 1, (0, 0, 0, 4), 1, k_Ta_amountOf)
set_option maxRecDepth 100000 in
theorem x_Ta_amountOf : (k_Ta_amountOf.all fun g => g.2.all (zxo R_Ta prog_8_method_4_code 2 false)) = true := by decide +kernel
set_option maxRecDepth 100000 in
theorem o_Ta_amountOf : zMo 64 M_Ta_amountOf := ⟨rfl, zmm (k := 503) rfl rfl, zmm (k := 64) (by decide +kernel) rfl, by decide +kernel, by decide +kernel, fun h => (by cases h), fun _ => ⟨zmm (k := 501) (by decide +kernel) rfl, zmm (k := 502) (by decide +kernel) rfl, (R_Ta, T_Ta, 2), rfl, rfl⟩, fun h => (by cases h), zall x_Ta_amountOf⟩
noncomputable def k_ST_hasBit : List (Nat × List zE) := [(13, [(0, .iload_n 0, 1, 0, 0, 0, .null), (1, .iload_n 1, 1, 0, 0, 0, .null), (2, .ishr, 1, 0, 0, 0, .null), (3, .iconst 1, 1, 0, 0, 0, .null), (4, .iand, 1, 0, 0, 0, .null), (5, .ifCond .eq 7, 3, 0, 0, 0, .null), (8, .iconst 1, 1, 0, 0, 0, .null), (9, .goto 4, 3, 0, 0, 0, .null), (12, .iconst 0, 1, 0, 0, 0, .null), (13, .ireturn, 1, 0, 0, 0, .null)])]
noncomputable def M_ST_hasBit : zM := (y_ST_hasBit, prog_1_method_21_code, 2, (Option.some FieldType.boolean), 2, (0, 0, 0, 0), 0, k_ST_hasBit)
set_option maxRecDepth 100000 in
theorem x_ST_hasBit : (k_ST_hasBit.all fun g => g.2.all (zxo R_ST prog_1_method_21_code 2 false)) = true := by decide +kernel
set_option maxRecDepth 100000 in
theorem o_ST_hasBit : zMo 65 M_ST_hasBit := ⟨rfl, zmm (k := 506) rfl rfl, zmm (k := 59) (by decide +kernel) rfl, by decide +kernel, by decide +kernel, fun _ => zmm (k := 505) (by decide +kernel) rfl, fun h => (by cases h), fun h => (by cases h), zall x_ST_hasBit⟩
noncomputable def k_ST_addAnswer : List (Nat × List zE) := [(21, [(0, .aload_n 0, 1, 0, 0, 0, .null), (1, .getfield 46, 3, 0, 7, 173, .null), (4, .aload_n 0, 1, 0, 0, 0, .null), (5, .getfield 42, 3, 0, 6, 172, .null), (8, .arraylength, 1, 0, 0, 0, .null), (9, .if_icmp .ge 23, 3, 0, 0, 0, .null), (12, .aload_n 0, 1, 0, 0, 0, .null), (13, .getfield 42, 3, 0, 6, 172, .null), (16, .aload_n 0, 1, 0, 0, 0, .null), (17, .getfield 46, 3, 0, 7, 173, .null), (20, .iload_n 1, 1, 0, 0, 0, .null), (21, .iastore, 1, 0, 0, 0, .null)]),
  (32, [(22, .aload_n 0, 1, 0, 0, 0, .null), (23, .dup, 1, 0, 0, 0, .null), (24, .getfield 46, 3, 0, 7, 173, .null), (27, .iconst 1, 1, 0, 0, 0, .null), (28, .iadd, 1, 0, 0, 0, .null), (29, .putfield 46, 3, 0, 7, 173, .null), (32, .return_, 1, 0, 0, 0, .null)])]
noncomputable def M_ST_addAnswer : zM := (y_ST_addAnswer, prog_1_method_24_code, 2, (Option.none : Option FieldType), 1, (0, 0, 0, 0), 1, k_ST_addAnswer)
set_option maxRecDepth 100000 in
theorem x_ST_addAnswer : (k_ST_addAnswer.all fun g => g.2.all (zxo R_ST prog_1_method_24_code 2 false)) = true := by decide +kernel
set_option maxRecDepth 100000 in
theorem o_ST_addAnswer : zMo 66 M_ST_addAnswer := ⟨rfl, zmm (k := 510) rfl rfl, zmm (k := 59) (by decide +kernel) rfl, by decide +kernel, by decide +kernel, fun h => (by cases h), fun _ => ⟨zmm (k := 509) (by decide +kernel) rfl, zmm (k := 17) (by decide +kernel) rfl, (R_ST, T_ST, 13), rfl, rfl⟩, fun h => (by cases h), zall x_ST_addAnswer⟩
noncomputable def k_ST_nearest : List (Nat × List zE) := [(22, [(0, .iload_n 1, 1, 0, 0, 0, .null), (1, .invokestatic 93, 3, 30, 0, 352, .null), (4, .ifCond .eq 21, 3, 0, 0, 0, .null), (7, .aload_n 0, 1, 0, 0, 0, .null), (8, .getfield 38, 3, 0, 5, 171, .null), (11, .ifnull 14, 3, 0, 0, 0, .null), (14, .iload_n 2, 1, 0, 0, 0, .null), (15, .iconst 1, 1, 0, 0, 0, .null), (16, .if_icmp .lt 9, 3, 0, 0, 0, .null), (19, .iload_n 2, 1, 0, 0, 0, .null), (20, .bipush 16, 2, 0, 0, 0, .null), (22, .if_icmp .le 5, 3, 0, 0, 0, .null)]),
  (42, [(25, .iconst (-1), 1, 0, 0, 0, .null), (26, .ireturn, 1, 0, 0, 0, .null), (27, .aload_n 0, 1, 0, 0, 0, .null), (28, .invokevirtual 119, 3, 45, 0, 415, .null), (31, .aload_n 0, 1, 0, 0, 0, .null), (32, .aload_n 0, 1, 0, 0, 0, .null), (33, .getfield 38, 3, 0, 5, 171, .null), (36, .aload_n 0, 1, 0, 0, 0, .null), (37, .getfield 11, 3, 0, 0, 166, .null), (40, .iload_n 1, 1, 0, 0, 0, .null), (41, .aaload, 1, 0, 0, 0, .null), (42, .invokevirtual 141, 3, 68, 0, 515, .null)]),
  (63, [(45, .istore_n 3, 1, 0, 0, 0, .null), (46, .iconst 0, 1, 0, 0, 0, .null), (47, .istore 4, 2, 0, 0, 0, .null), (49, .iload 4, 2, 0, 0, 0, .null), (51, .iload_n 2, 1, 0, 0, 0, .null), (52, .if_icmp .ge 26, 3, 0, 0, 0, .null), (55, .iload 4, 2, 0, 0, 0, .null), (57, .iload_n 3, 1, 0, 0, 0, .null), (58, .if_icmp .ge 20, 3, 0, 0, 0, .null), (61, .aload_n 0, 1, 0, 0, 0, .null), (62, .aload_n 0, 1, 0, 0, 0, .null), (63, .getfield 67, 3, 0, 12, 178, .null)]),
  (88, [(66, .iload 4, 2, 0, 0, 0, .null), (68, .iaload, 1, 0, 0, 0, .null), (69, .invokevirtual 137, 3, 66, 0, 507, .null), (72, .iinc 4 1, 3, 0, 0, 0, .null), (75, .goto (-26), 3, 0, 0, 0, .null), (78, .iload_n 3, 1, 0, 0, 0, .null), (79, .iload_n 2, 1, 0, 0, 0, .null), (80, .if_icmp .ge 21, 3, 0, 0, 0, .null), (83, .aload_n 0, 1, 0, 0, 0, .null), (84, .aload_n 0, 1, 0, 0, 0, .null), (85, .getfield 20, 3, 0, 2, 168, .null), (88, .iload_n 1, 1, 0, 0, 0, .null)]),
  (110, [(89, .aaload, 1, 0, 0, 0, .null), (90, .invokevirtual 145, 3, 71, 0, 527, .null), (93, .iload_n 3, 1, 0, 0, 0, .null), (94, .iadd, 1, 0, 0, 0, .null), (95, .putfield 50, 3, 0, 8, 174, .null), (98, .goto 32, 3, 0, 0, 0, .null), (101, .aload_n 0, 1, 0, 0, 0, .null), (102, .aload_n 0, 1, 0, 0, 0, .null), (103, .aload_n 0, 1, 0, 0, 0, .null), (104, .getfield 38, 3, 0, 5, 171, .null), (107, .getfield 103, 3, 6, 3, 289, .null), (110, .iload_n 1, 1, 0, 0, 0, .null)]),
  (130, [(111, .aload_n 0, 1, 0, 0, 0, .null), (112, .getfield 63, 3, 0, 11, 177, .null), (115, .aload_n 0, 1, 0, 0, 0, .null), (116, .getfield 67, 3, 0, 12, 178, .null), (119, .iload_n 2, 1, 0, 0, 0, .null), (120, .iconst 1, 1, 0, 0, 0, .null), (121, .isub, 1, 0, 0, 0, .null), (122, .iaload, 1, 0, 0, 0, .null), (123, .aaload, 1, 0, 0, 0, .null), (124, .invokevirtual 148, 3, 50, 0, 437, .null), (127, .putfield 50, 3, 0, 8, 174, .null), (130, .aload_n 0, 1, 0, 0, 0, .null)]),
  (134, [(131, .getfield 46, 3, 0, 7, 173, .null), (134, .ireturn, 1, 0, 0, 0, .null)])]
noncomputable def M_ST_nearest : zM := (y_ST_nearest, prog_1_method_8_code, 5, (Option.some FieldType.int), 2, (0, 0, 0, 0), 1, k_ST_nearest)
set_option maxRecDepth 100000 in
theorem x_ST_nearest : (k_ST_nearest.all fun g => g.2.all (zxo R_ST prog_1_method_8_code 5 false)) = true := by decide +kernel
set_option maxRecDepth 100000 in
theorem o_ST_nearest : zMo 67 M_ST_nearest := ⟨rfl, zmm (k := 514) rfl rfl, zmm (k := 59) (by decide +kernel) rfl, by decide +kernel, by decide +kernel, fun h => (by cases h), fun _ => ⟨zmm (k := 512) (by decide +kernel) rfl, zmm (k := 513) (by decide +kernel) rfl, (R_ST, T_ST, 13), rfl, rfl⟩, fun h => (by cases h), zall x_ST_nearest⟩
noncomputable def k_ST_orderByDistance : List (Nat × List zE) := [(20, [(0, .iconst 0, 1, 0, 0, 0, .null), (1, .istore_n 3, 1, 0, 0, 0, .null), (2, .iconst 0, 1, 0, 0, 0, .null), (3, .istore 4, 2, 0, 0, 0, .null), (5, .iload 4, 2, 0, 0, 0, .null), (7, .bipush 16, 2, 0, 0, 0, .null), (9, .if_icmp .ge 45, 3, 0, 0, 0, .null), (12, .aload_n 2, 1, 0, 0, 0, .null), (13, .iload 4, 2, 0, 0, 0, .null), (15, .invokevirtual 152, 3, 41, 0, 397, .null), (18, .astore 5, 2, 0, 0, 0, .null), (20, .aload 5, 2, 0, 0, 0, .null)]),
  (42, [(22, .ifnull 26, 3, 0, 0, 0, .null), (25, .aload_n 0, 1, 0, 0, 0, .null), (26, .getfield 63, 3, 0, 11, 177, .null), (29, .iload 4, 2, 0, 0, 0, .null), (31, .aaload, 1, 0, 0, 0, .null), (32, .aload_n 1, 1, 0, 0, 0, .null), (33, .aload 5, 2, 0, 0, 0, .null), (35, .invokevirtual 159, 3, 58, 0, 471, .null), (38, .aload_n 0, 1, 0, 0, 0, .null), (39, .iload 4, 2, 0, 0, 0, .null), (41, .iload_n 3, 1, 0, 0, 0, .null), (42, .invokevirtual 219, 3, 69, 0, 519, .null)]),
  (55, [(45, .iinc 3 1, 3, 0, 0, 0, .null), (48, .iinc 4 1, 3, 0, 0, 0, .null), (51, .goto (-46), 3, 0, 0, 0, .null), (54, .iload_n 3, 1, 0, 0, 0, .null), (55, .ireturn, 1, 0, 0, 0, .null)])]
noncomputable def M_ST_orderByDistance : zM := (y_ST_orderByDistance, prog_1_method_29_code, 6, (Option.some FieldType.int), 2, (0, 0, 0, 0), 1, k_ST_orderByDistance)
set_option maxRecDepth 100000 in
theorem x_ST_orderByDistance : (k_ST_orderByDistance.all fun g => g.2.all (zxo R_ST prog_1_method_29_code 6 false)) = true := by decide +kernel
set_option maxRecDepth 100000 in
theorem o_ST_orderByDistance : zMo 68 M_ST_orderByDistance := ⟨rfl, zmm (k := 518) rfl rfl, zmm (k := 59) (by decide +kernel) rfl, by decide +kernel, by decide +kernel, fun h => (by cases h), fun _ => ⟨zmm (k := 517) (by decide +kernel) rfl, zmm (k := 18) (by decide +kernel) rfl, (R_ST, T_ST, 13), rfl, rfl⟩, fun h => (by cases h), zall x_ST_orderByDistance⟩
noncomputable def k_ST_putInOrder : List (Nat × List zE) := [(17, [(0, .iload_n 2, 1, 0, 0, 0, .null), (1, .istore_n 3, 1, 0, 0, 0, .null), (2, .iload_n 3, 1, 0, 0, 0, .null), (3, .ifCond .le 48, 3, 0, 0, 0, .null), (6, .aload_n 0, 1, 0, 0, 0, .null), (7, .getfield 63, 3, 0, 11, 177, .null), (10, .iload_n 1, 1, 0, 0, 0, .null), (11, .aaload, 1, 0, 0, 0, .null), (12, .aload_n 0, 1, 0, 0, 0, .null), (13, .getfield 63, 3, 0, 11, 177, .null), (16, .aload_n 0, 1, 0, 0, 0, .null), (17, .getfield 67, 3, 0, 12, 178, .null)]),
  (37, [(20, .iload_n 3, 1, 0, 0, 0, .null), (21, .iconst 1, 1, 0, 0, 0, .null), (22, .isub, 1, 0, 0, 0, .null), (23, .iaload, 1, 0, 0, 0, .null), (24, .aaload, 1, 0, 0, 0, .null), (25, .invokevirtual 222, 3, 70, 0, 523, .null), (28, .ifCond .eq 23, 3, 0, 0, 0, .null), (31, .aload_n 0, 1, 0, 0, 0, .null), (32, .getfield 67, 3, 0, 12, 178, .null), (35, .iload_n 3, 1, 0, 0, 0, .null), (36, .aload_n 0, 1, 0, 0, 0, .null), (37, .getfield 67, 3, 0, 12, 178, .null)]),
  (57, [(40, .iload_n 3, 1, 0, 0, 0, .null), (41, .iconst 1, 1, 0, 0, 0, .null), (42, .isub, 1, 0, 0, 0, .null), (43, .iaload, 1, 0, 0, 0, .null), (44, .iastore, 1, 0, 0, 0, .null), (45, .iinc 3 (-1), 3, 0, 0, 0, .null), (48, .goto (-46), 3, 0, 0, 0, .null), (51, .aload_n 0, 1, 0, 0, 0, .null), (52, .getfield 67, 3, 0, 12, 178, .null), (55, .iload_n 3, 1, 0, 0, 0, .null), (56, .iload_n 1, 1, 0, 0, 0, .null), (57, .iastore, 1, 0, 0, 0, .null)]),
  (58, [(58, .return_, 1, 0, 0, 0, .null)])]
noncomputable def M_ST_putInOrder : zM := (y_ST_putInOrder, prog_1_method_30_code, 4, (Option.none : Option FieldType), 2, (0, 0, 0, 0), 1, k_ST_putInOrder)
set_option maxRecDepth 100000 in
theorem x_ST_putInOrder : (k_ST_putInOrder.all fun g => g.2.all (zxo R_ST prog_1_method_30_code 4 false)) = true := by decide +kernel
set_option maxRecDepth 100000 in
theorem o_ST_putInOrder : zMo 69 M_ST_putInOrder := ⟨rfl, zmm (k := 522) rfl rfl, zmm (k := 59) (by decide +kernel) rfl, by decide +kernel, by decide +kernel, fun h => (by cases h), fun _ => ⟨zmm (k := 521) (by decide +kernel) rfl, zmm (k := 19) (by decide +kernel) rfl, (R_ST, T_ST, 13), rfl, rfl⟩, fun h => (by cases h), zall x_ST_putInOrder⟩
noncomputable def k_Di_isBelow : List (Nat × List zE) := [(19, [(0, .aload_n 0, 1, 0, 0, 0, .null), (1, .getfield 7, 3, 3, 0, 120, .null), (4, .aload_n 1, 1, 0, 0, 0, .null), (5, .getfield 13, 3, 3, 1, 121, .null), (8, .lmul, 1, 0, 0, 0, .null), (9, .aload_n 1, 1, 0, 0, 0, .null), (10, .getfield 7, 3, 3, 0, 120, .null), (13, .aload_n 0, 1, 0, 0, 0, .null), (14, .getfield 13, 3, 3, 1, 121, .null), (17, .lmul, 1, 0, 0, 0, .null), (18, .lcmp, 1, 0, 0, 0, .null), (19, .ifCond .ge 7, 3, 0, 0, 0, .null)]),
  (27, [(22, .iconst 1, 1, 0, 0, 0, .null), (23, .goto 4, 3, 0, 0, 0, .null), (26, .iconst 0, 1, 0, 0, 0, .null), (27, .ireturn, 1, 0, 0, 0, .null)])]
noncomputable def M_Di_isBelow : zM := (y_Di_isBelow, prog_3_method_5_code, 2, (Option.some FieldType.boolean), 1, (0, 0, 0, 3), 1, k_Di_isBelow)
set_option maxRecDepth 100000 in
theorem x_Di_isBelow : (k_Di_isBelow.all fun g => g.2.all (zxo R_Di prog_3_method_5_code 2 false)) = true := by decide +kernel
set_option maxRecDepth 100000 in
theorem o_Di_isBelow : zMo 70 M_Di_isBelow := ⟨rfl, zmm (k := 526) rfl rfl, zmm (k := 63) (by decide +kernel) rfl, by decide +kernel, by decide +kernel, fun h => (by cases h), fun _ => ⟨zmm (k := 524) (by decide +kernel) rfl, zmm (k := 525) (by decide +kernel) rfl, (R_Di, T_Di, 2), rfl, rfl⟩, fun h => (by cases h), zall x_Di_isBelow⟩
noncomputable def k_In_size : List (Nat × List zE) := [(4, [(0, .aload_n 0, 1, 0, 0, 0, .null), (1, .getfield 27, 3, 5, 5, 152, .null), (4, .ireturn, 1, 0, 0, 0, .null)])]
noncomputable def M_In_size : zM := (y_In_size, prog_7_method_2_code, 1, (Option.some FieldType.int), 0, (0, 0, 0, 5), 1, k_In_size)
set_option maxRecDepth 100000 in
theorem x_In_size : (k_In_size.all fun g => g.2.all (zxo R_In prog_7_method_2_code 1 false)) = true := by decide +kernel
set_option maxRecDepth 100000 in
theorem o_In_size : zMo 71 M_In_size := ⟨rfl, zmm (k := 530) rfl rfl, zmm (k := 65) (by decide +kernel) rfl, by decide +kernel, by decide +kernel, fun h => (by cases h), fun _ => ⟨zmm (k := 528) (by decide +kernel) rfl, zmm (k := 529) (by decide +kernel) rfl, (R_In, T_In, 6), rfl, rfl⟩, fun h => (by cases h), zall x_In_size⟩
noncomputable def k_ST_join : List (Nat × List zE) := [(18, [(0, .iload_n 1, 1, 0, 0, 0, .null), (1, .ifCond .ge 5, 3, 0, 0, 0, .null), (4, .iconst (-1), 1, 0, 0, 0, .null), (5, .ireturn, 1, 0, 0, 0, .null), (6, .aload_n 0, 1, 0, 0, 0, .null), (7, .invokevirtual 119, 3, 45, 0, 415, .null), (10, .iconst 0, 1, 0, 0, 0, .null), (11, .istore_n 2, 1, 0, 0, 0, .null), (12, .iload_n 2, 1, 0, 0, 0, .null), (13, .bipush 16, 2, 0, 0, 0, .null), (15, .if_icmp .ge 52, 3, 0, 0, 0, .null), (18, .aload_n 0, 1, 0, 0, 0, .null)]),
  (38, [(19, .getfield 11, 3, 0, 0, 166, .null), (22, .iconst 0, 1, 0, 0, 0, .null), (23, .aaload, 1, 0, 0, 0, .null), (24, .iload_n 2, 1, 0, 0, 0, .null), (25, .invokevirtual 152, 3, 41, 0, 397, .null), (28, .astore_n 3, 1, 0, 0, 0, .null), (29, .aload_n 3, 1, 0, 0, 0, .null), (30, .ifnull 31, 3, 0, 0, 0, .null), (33, .aload_n 0, 1, 0, 0, 0, .null), (34, .dup, 1, 0, 0, 0, .null), (35, .getfield 50, 3, 0, 8, 174, .null), (38, .aload_n 0, 1, 0, 0, 0, .null)]),
  (54, [(39, .aload_n 3, 1, 0, 0, 0, .null), (40, .iconst 1, 1, 0, 0, 0, .null), (41, .iload_n 1, 1, 0, 0, 0, .null), (42, .invokevirtual 122, 3, 46, 0, 419, .null), (45, .iadd, 1, 0, 0, 0, .null), (46, .putfield 50, 3, 0, 8, 174, .null), (49, .aload_n 0, 1, 0, 0, 0, .null), (50, .iload_n 2, 1, 0, 0, 0, .null), (51, .aload_n 0, 1, 0, 0, 0, .null), (52, .aload_n 3, 1, 0, 0, 0, .null), (53, .iconst 1, 1, 0, 0, 0, .null), (54, .iload_n 1, 1, 0, 0, 0, .null)]),
  (71, [(55, .invokevirtual 126, 3, 57, 0, 466, .null), (58, .invokevirtual 155, 3, 73, 0, 535, .null), (61, .iinc 2 1, 3, 0, 0, 0, .null), (64, .goto (-52), 3, 0, 0, 0, .null), (67, .aload_n 0, 1, 0, 0, 0, .null), (68, .getfield 46, 3, 0, 7, 173, .null), (71, .ireturn, 1, 0, 0, 0, .null)])]
noncomputable def M_ST_join : zM := (y_ST_join, prog_1_method_9_code, 4, (Option.some FieldType.int), 1, (0, 0, 0, 0), 1, k_ST_join)
set_option maxRecDepth 100000 in
theorem x_ST_join : (k_ST_join.all fun g => g.2.all (zxo R_ST prog_1_method_9_code 4 false)) = true := by decide +kernel
set_option maxRecDepth 100000 in
theorem o_ST_join : zMo 72 M_ST_join := ⟨rfl, zmm (k := 534) rfl rfl, zmm (k := 59) (by decide +kernel) rfl, by decide +kernel, by decide +kernel, fun h => (by cases h), fun _ => ⟨zmm (k := 532) (by decide +kernel) rfl, zmm (k := 533) (by decide +kernel) rfl, (R_ST, T_ST, 13), rfl, rfl⟩, fun h => (by cases h), zall x_ST_join⟩
noncomputable def k_ST_addPairs : List (Nat × List zE) := [(19, [(0, .iconst 0, 1, 0, 0, 0, .null), (1, .istore_n 3, 1, 0, 0, 0, .null), (2, .iload_n 3, 1, 0, 0, 0, .null), (3, .bipush 16, 2, 0, 0, 0, .null), (5, .if_icmp .ge 27, 3, 0, 0, 0, .null), (8, .iload_n 2, 1, 0, 0, 0, .null), (9, .iload_n 3, 1, 0, 0, 0, .null), (10, .invokestatic 133, 3, 65, 0, 504, .null), (13, .ifCond .eq 13, 3, 0, 0, 0, .null), (16, .aload_n 0, 1, 0, 0, 0, .null), (17, .bipush 16, 2, 0, 0, 0, .null), (19, .iload_n 1, 1, 0, 0, 0, .null)]),
  (32, [(20, .imul, 1, 0, 0, 0, .null), (21, .iload_n 3, 1, 0, 0, 0, .null), (22, .iadd, 1, 0, 0, 0, .null), (23, .invokevirtual 137, 3, 66, 0, 507, .null), (26, .iinc 3 1, 3, 0, 0, 0, .null), (29, .goto (-27), 3, 0, 0, 0, .null), (32, .return_, 1, 0, 0, 0, .null)])]
noncomputable def M_ST_addPairs : zM := (y_ST_addPairs, prog_1_method_25_code, 4, (Option.none : Option FieldType), 2, (0, 0, 0, 0), 1, k_ST_addPairs)
set_option maxRecDepth 100000 in
theorem x_ST_addPairs : (k_ST_addPairs.all fun g => g.2.all (zxo R_ST prog_1_method_25_code 4 false)) = true := by decide +kernel
set_option maxRecDepth 100000 in
theorem o_ST_addPairs : zMo 73 M_ST_addPairs := ⟨rfl, zmm (k := 538) rfl rfl, zmm (k := 59) (by decide +kernel) rfl, by decide +kernel, by decide +kernel, fun h => (by cases h), fun _ => ⟨zmm (k := 537) (by decide +kernel) rfl, zmm (k := 20) (by decide +kernel) rfl, (R_ST, T_ST, 13), rfl, rfl⟩, fun h => (by cases h), zall x_ST_addPairs⟩
noncomputable def k_ST_result : List (Nat × List zE) := [(21, [(0, .iload_n 1, 1, 0, 0, 0, .null), (1, .ifCond .lt 11, 3, 0, 0, 0, .null), (4, .iload_n 1, 1, 0, 0, 0, .null), (5, .aload_n 0, 1, 0, 0, 0, .null), (6, .getfield 46, 3, 0, 7, 173, .null), (9, .if_icmp .lt 7, 3, 0, 0, 0, .null), (12, .iconst (-1), 1, 0, 0, 0, .null), (13, .goto 9, 3, 0, 0, 0, .null), (16, .aload_n 0, 1, 0, 0, 0, .null), (17, .getfield 42, 3, 0, 6, 172, .null), (20, .iload_n 1, 1, 0, 0, 0, .null), (21, .iaload, 1, 0, 0, 0, .null)]),
  (22, [(22, .ireturn, 1, 0, 0, 0, .null)])]
noncomputable def M_ST_result : zM := (y_ST_result, prog_1_method_10_code, 2, (Option.some FieldType.int), 1, (0, 0, 0, 0), 1, k_ST_result)
set_option maxRecDepth 100000 in
theorem x_ST_result : (k_ST_result.all fun g => g.2.all (zxo R_ST prog_1_method_10_code 2 false)) = true := by decide +kernel
set_option maxRecDepth 100000 in
theorem o_ST_result : zMo 74 M_ST_result := ⟨rfl, zmm (k := 542) rfl rfl, zmm (k := 59) (by decide +kernel) rfl, by decide +kernel, by decide +kernel, fun h => (by cases h), fun _ => ⟨zmm (k := 540) (by decide +kernel) rfl, zmm (k := 541) (by decide +kernel) rfl, (R_ST, T_ST, 13), rfl, rfl⟩, fun h => (by cases h), zall x_ST_result⟩
end
section
noncomputable def k_ST_reads : List (Nat × List zE) := [(4, [(0, .aload_n 0, 1, 0, 0, 0, .null), (1, .getfield 50, 3, 0, 8, 174, .null), (4, .ireturn, 1, 0, 0, 0, .null)])]
noncomputable def M_ST_reads : zM := (y_ST_reads, prog_1_method_11_code, 1, (Option.some FieldType.int), 0, (0, 0, 0, 0), 1, k_ST_reads)
set_option maxRecDepth 100000 in
theorem x_ST_reads : (k_ST_reads.all fun g => g.2.all (zxo R_ST prog_1_method_11_code 1 false)) = true := by decide +kernel
set_option maxRecDepth 100000 in
theorem o_ST_reads : zMo 75 M_ST_reads := ⟨rfl, zmm (k := 546) rfl rfl, zmm (k := 59) (by decide +kernel) rfl, by decide +kernel, by decide +kernel, fun h => (by cases h), fun _ => ⟨zmm (k := 544) (by decide +kernel) rfl, zmm (k := 545) (by decide +kernel) rfl, (R_ST, T_ST, 13), rfl, rfl⟩, fun h => (by cases h), zall x_ST_reads⟩
noncomputable def k_ST_measure : List (Nat × List zE) := [(19, [(0, .aload_n 0, 1, 0, 0, 0, .null), (1, .iload_n 1, 1, 0, 0, 0, .null), (2, .iload_n 2, 1, 0, 0, 0, .null), (3, .invokevirtual 111, 3, 40, 0, 393, .null), (6, .astore_n 3, 1, 0, 0, 0, .null), (7, .aload_n 3, 1, 0, 0, 0, .null), (8, .ifnull 10, 3, 0, 0, 0, .null), (11, .aload_n 0, 1, 0, 0, 0, .null), (12, .getfield 38, 3, 0, 5, 171, .null), (15, .ifnonnull 5, 3, 0, 0, 0, .null), (18, .iconst (-1), 1, 0, 0, 0, .null), (19, .ireturn, 1, 0, 0, 0, .null)]),
  (39, [(20, .aload_n 0, 1, 0, 0, 0, .null), (21, .getfield 56, 3, 0, 9, 175, .null), (24, .aload_n 0, 1, 0, 0, 0, .null), (25, .getfield 38, 3, 0, 5, 171, .null), (28, .aload_n 3, 1, 0, 0, 0, .null), (29, .invokevirtual 159, 3, 58, 0, 471, .null), (32, .aload_n 0, 1, 0, 0, 0, .null), (33, .getfield 56, 3, 0, 9, 175, .null), (36, .invokevirtual 163, 3, 77, 0, 551, .null), (39, .ireturn, 1, 0, 0, 0, .null)])]
noncomputable def M_ST_measure : zM := (y_ST_measure, prog_1_method_12_code, 4, (Option.some FieldType.int), 2, (0, 0, 0, 0), 1, k_ST_measure)
set_option maxRecDepth 100000 in
theorem x_ST_measure : (k_ST_measure.all fun g => g.2.all (zxo R_ST prog_1_method_12_code 4 false)) = true := by decide +kernel
set_option maxRecDepth 100000 in
theorem o_ST_measure : zMo 76 M_ST_measure := ⟨rfl, zmm (k := 550) rfl rfl, zmm (k := 59) (by decide +kernel) rfl, by decide +kernel, by decide +kernel, fun h => (by cases h), fun _ => ⟨zmm (k := 548) (by decide +kernel) rfl, zmm (k := 549) (by decide +kernel) rfl, (R_ST, T_ST, 13), rfl, rfl⟩, fun h => (by cases h), zall x_ST_measure⟩
noncomputable def k_Di_wholePart : List (Nat × List zE) := [(19, [(0, .aload_n 0, 1, 0, 0, 0, .null), (1, .getfield 13, 3, 3, 1, 121, .null), (4, .lconst 0, 1, 0, 0, 0, .null), (5, .lcmp, 1, 0, 0, 0, .null), (6, .ifCond .le 16, 3, 0, 0, 0, .null), (9, .aload_n 0, 1, 0, 0, 0, .null), (10, .getfield 7, 3, 3, 0, 120, .null), (13, .aload_n 0, 1, 0, 0, 0, .null), (14, .getfield 13, 3, 3, 1, 121, .null), (17, .ldiv, 1, 0, 0, 0, .null), (18, .l2i, 1, 0, 0, 0, .null), (19, .goto 4, 3, 0, 0, 0, .null)]),
  (23, [(22, .iconst 0, 1, 0, 0, 0, .null), (23, .ireturn, 1, 0, 0, 0, .null)])]
noncomputable def M_Di_wholePart : zM := (y_Di_wholePart, prog_3_method_6_code, 1, (Option.some FieldType.int), 0, (0, 0, 0, 3), 1, k_Di_wholePart)
set_option maxRecDepth 100000 in
theorem x_Di_wholePart : (k_Di_wholePart.all fun g => g.2.all (zxo R_Di prog_3_method_6_code 1 false)) = true := by decide +kernel
set_option maxRecDepth 100000 in
theorem o_Di_wholePart : zMo 77 M_Di_wholePart := ⟨rfl, zmm (k := 554) rfl rfl, zmm (k := 63) (by decide +kernel) rfl, by decide +kernel, by decide +kernel, fun h => (by cases h), fun _ => ⟨zmm (k := 552) (by decide +kernel) rfl, zmm (k := 553) (by decide +kernel) rfl, (R_Di, T_Di, 2), rfl, rfl⟩, fun h => (by cases h), zall x_Di_wholePart⟩
noncomputable def k_ST_value : List (Nat × List zE) := [(19, [(0, .aload_n 0, 1, 0, 0, 0, .null), (1, .iload_n 1, 1, 0, 0, 0, .null), (2, .iload_n 2, 1, 0, 0, 0, .null), (3, .invokevirtual 111, 3, 40, 0, 393, .null), (6, .ifnonnull 7, 3, 0, 0, 0, .null), (9, .iconst 0, 1, 0, 0, 0, .null), (10, .goto 13, 3, 0, 0, 0, .null), (13, .aload_n 0, 1, 0, 0, 0, .null), (14, .getfield 11, 3, 0, 0, 166, .null), (17, .iload_n 1, 1, 0, 0, 0, .null), (18, .aaload, 1, 0, 0, 0, .null), (19, .iload_n 2, 1, 0, 0, 0, .null)]),
  (23, [(20, .invokevirtual 129, 3, 64, 0, 500, .null), (23, .ireturn, 1, 0, 0, 0, .null)])]
noncomputable def M_ST_value : zM := (y_ST_value, prog_1_method_13_code, 3, (Option.some FieldType.int), 2, (0, 0, 0, 0), 1, k_ST_value)
set_option maxRecDepth 100000 in
theorem x_ST_value : (k_ST_value.all fun g => g.2.all (zxo R_ST prog_1_method_13_code 3 false)) = true := by decide +kernel
set_option maxRecDepth 100000 in
theorem o_ST_value : zMo 78 M_ST_value := ⟨rfl, zmm (k := 558) rfl rfl, zmm (k := 59) (by decide +kernel) rfl, by decide +kernel, by decide +kernel, fun h => (by cases h), fun _ => ⟨zmm (k := 556) (by decide +kernel) rfl, zmm (k := 557) (by decide +kernel) rfl, (R_ST, T_ST, 13), rfl, rfl⟩, fun h => (by cases h), zall x_ST_value⟩
noncomputable def k_ST_rows : List (Nat × List zE) := [(20, [(0, .iload_n 1, 1, 0, 0, 0, .null), (1, .invokestatic 93, 3, 30, 0, 352, .null), (4, .ifCond .eq 15, 3, 0, 0, 0, .null), (7, .aload_n 0, 1, 0, 0, 0, .null), (8, .getfield 11, 3, 0, 0, 166, .null), (11, .iload_n 1, 1, 0, 0, 0, .null), (12, .aaload, 1, 0, 0, 0, .null), (13, .invokevirtual 166, 3, 47, 0, 423, .null), (16, .goto 4, 3, 0, 0, 0, .null), (19, .iconst (-1), 1, 0, 0, 0, .null), (20, .ireturn, 1, 0, 0, 0, .null)])]
noncomputable def M_ST_rows : zM := (y_ST_rows, prog_1_method_14_code, 2, (Option.some FieldType.int), 1, (0, 0, 0, 0), 1, k_ST_rows)
set_option maxRecDepth 100000 in
theorem x_ST_rows : (k_ST_rows.all fun g => g.2.all (zxo R_ST prog_1_method_14_code 2 false)) = true := by decide +kernel
set_option maxRecDepth 100000 in
theorem o_ST_rows : zMo 79 M_ST_rows := ⟨rfl, zmm (k := 562) rfl rfl, zmm (k := 59) (by decide +kernel) rfl, by decide +kernel, by decide +kernel, fun h => (by cases h), fun _ => ⟨zmm (k := 560) (by decide +kernel) rfl, zmm (k := 561) (by decide +kernel) rfl, (R_ST, T_ST, 13), rfl, rfl⟩, fun h => (by cases h), zall x_ST_rows⟩
noncomputable def k_ST_nodes : List (Nat × List zE) := [(20, [(0, .iload_n 1, 1, 0, 0, 0, .null), (1, .invokestatic 93, 3, 30, 0, 352, .null), (4, .ifCond .eq 15, 3, 0, 0, 0, .null), (7, .aload_n 0, 1, 0, 0, 0, .null), (8, .getfield 20, 3, 0, 2, 168, .null), (11, .iload_n 1, 1, 0, 0, 0, .null), (12, .aaload, 1, 0, 0, 0, .null), (13, .invokevirtual 145, 3, 71, 0, 527, .null), (16, .goto 4, 3, 0, 0, 0, .null), (19, .iconst (-1), 1, 0, 0, 0, .null), (20, .ireturn, 1, 0, 0, 0, .null)])]
noncomputable def M_ST_nodes : zM := (y_ST_nodes, prog_1_method_15_code, 2, (Option.some FieldType.int), 1, (0, 0, 0, 0), 1, k_ST_nodes)
set_option maxRecDepth 100000 in
theorem x_ST_nodes : (k_ST_nodes.all fun g => g.2.all (zxo R_ST prog_1_method_15_code 2 false)) = true := by decide +kernel
set_option maxRecDepth 100000 in
theorem o_ST_nodes : zMo 80 M_ST_nodes := ⟨rfl, zmm (k := 566) rfl rfl, zmm (k := 59) (by decide +kernel) rfl, by decide +kernel, by decide +kernel, fun h => (by cases h), fun _ => ⟨zmm (k := 564) (by decide +kernel) rfl, zmm (k := 565) (by decide +kernel) rfl, (R_ST, T_ST, 13), rfl, rfl⟩, fun h => (by cases h), zall x_ST_nodes⟩
noncomputable def k_ST_commit : List (Nat × List zE) := [(17, [(0, .aload_n 0, 1, 0, 0, 0, .null), (1, .invokevirtual 169, 3, 82, 0, 571, .null), (4, .istore_n 2, 1, 0, 0, 0, .null), (5, .iload_n 2, 1, 0, 0, 0, .null), (6, .ifCond .ne 5, 3, 0, 0, 0, .null), (9, .iconst 0, 1, 0, 0, 0, .null), (10, .ireturn, 1, 0, 0, 0, .null), (11, .iload_n 2, 1, 0, 0, 0, .null), (12, .aload_n 0, 1, 0, 0, 0, .null), (13, .invokevirtual 172, 3, 86, 0, 588, .null), (16, .iand, 1, 0, 0, 0, .null), (17, .istore_n 3, 1, 0, 0, 0, .null)]),
  (39, [(18, .iload_n 3, 1, 0, 0, 0, .null), (19, .invokestatic 175, 3, 48, 0, 427, .null), (22, .iconst 1, 1, 0, 0, 0, .null), (23, .iadd, 1, 0, 0, 0, .null), (24, .istore 4, 2, 0, 0, 0, .null), (26, .iload 4, 2, 0, 0, 0, .null), (28, .aload_n 0, 1, 0, 0, 0, .null), (29, .getfield 27, 3, 0, 3, 169, .null), (32, .invokevirtual 180, 3, 87, 0, 592, .null), (35, .if_icmp .le 5, 3, 0, 0, 0, .null), (38, .iconst (-1), 1, 0, 0, 0, .null), (39, .ireturn, 1, 0, 0, 0, .null)]),
  (60, [(40, .iload 4, 2, 0, 0, 0, .null), (42, .iconst 1, 1, 0, 0, 0, .null), (43, .iadd, 1, 0, 0, 0, .null), (44, .istore 5, 2, 0, 0, 0, .null), (46, .iload_n 1, 1, 0, 0, 0, .null), (47, .ifCond .lt 9, 3, 0, 0, 0, .null), (50, .iload_n 1, 1, 0, 0, 0, .null), (51, .iload 5, 2, 0, 0, 0, .null), (53, .if_icmp .lt 7, 3, 0, 0, 0, .null), (56, .iconst 1, 1, 0, 0, 0, .null), (57, .goto 4, 3, 0, 0, 0, .null), (60, .iconst 0, 1, 0, 0, 0, .null)]),
  (82, [(61, .istore 6, 2, 0, 0, 0, .null), (63, .iload 6, 2, 0, 0, 0, .null), (65, .ifCond .eq 16, 3, 0, 0, 0, .null), (68, .aload_n 0, 1, 0, 0, 0, .null), (69, .getfield 27, 3, 0, 3, 169, .null), (72, .iload_n 2, 1, 0, 0, 0, .null), (73, .iload_n 3, 1, 0, 0, 0, .null), (74, .invokevirtual 183, 3, 89, 0, 601, .null), (77, .aload_n 0, 1, 0, 0, 0, .null), (78, .invokevirtual 186, 3, 91, 0, 609, .null), (81, .iload_n 1, 1, 0, 0, 0, .null), (82, .ifCond .lt 13, 3, 0, 0, 0, .null)]),
  (106, [(85, .iload_n 1, 1, 0, 0, 0, .null), (86, .iload 5, 2, 0, 0, 0, .null), (88, .if_icmp .gt 7, 3, 0, 0, 0, .null), (91, .aload_n 0, 1, 0, 0, 0, .null), (92, .invokevirtual 189, 3, 93, 0, 617, .null), (95, .iload 6, 2, 0, 0, 0, .null), (97, .ifCond .eq 8, 3, 0, 0, 0, .null), (100, .iload 5, 2, 0, 0, 0, .null), (102, .goto 4, 3, 0, 0, 0, .null), (105, .iload_n 1, 1, 0, 0, 0, .null), (106, .ireturn, 1, 0, 0, 0, .null)])]
noncomputable def M_ST_commit : zM := (y_ST_commit, prog_1_method_16_code, 7, (Option.some FieldType.int), 1, (0, 0, 0, 0), 1, k_ST_commit)
set_option maxRecDepth 100000 in
theorem x_ST_commit : (k_ST_commit.all fun g => g.2.all (zxo R_ST prog_1_method_16_code 7 false)) = true := by decide +kernel
set_option maxRecDepth 100000 in
theorem o_ST_commit : zMo 81 M_ST_commit := ⟨rfl, zmm (k := 570) rfl rfl, zmm (k := 59) (by decide +kernel) rfl, by decide +kernel, by decide +kernel, fun h => (by cases h), fun _ => ⟨zmm (k := 568) (by decide +kernel) rfl, zmm (k := 569) (by decide +kernel) rfl, (R_ST, T_ST, 13), rfl, rfl⟩, fun h => (by cases h), zall x_ST_commit⟩
noncomputable def k_ST_changedPages : List (Nat × List zE) := [(14, [(0, .iconst 0, 1, 0, 0, 0, .null), (1, .istore_n 1, 1, 0, 0, 0, .null), (2, .iconst 0, 1, 0, 0, 0, .null), (3, .istore_n 2, 1, 0, 0, 0, .null), (4, .iload_n 2, 1, 0, 0, 0, .null), (5, .iconst 2, 1, 0, 0, 0, .null), (6, .if_icmp .ge 50, 3, 0, 0, 0, .null), (9, .iconst 0, 1, 0, 0, 0, .null), (10, .istore_n 3, 1, 0, 0, 0, .null), (11, .iload_n 3, 1, 0, 0, 0, .null), (12, .bipush 16, 2, 0, 0, 0, .null), (14, .if_icmp .ge 36, 3, 0, 0, 0, .null)]),
  (36, [(17, .aload_n 0, 1, 0, 0, 0, .null), (18, .getfield 11, 3, 0, 0, 166, .null), (21, .iload_n 2, 1, 0, 0, 0, .null), (22, .aaload, 1, 0, 0, 0, .null), (23, .aload_n 0, 1, 0, 0, 0, .null), (24, .getfield 15, 3, 0, 1, 167, .null), (27, .iload_n 2, 1, 0, 0, 0, .null), (28, .aaload, 1, 0, 0, 0, .null), (29, .iload_n 3, 1, 0, 0, 0, .null), (30, .invokevirtual 226, 3, 83, 0, 575, .null), (33, .ifCond .ne 11, 3, 0, 0, 0, .null), (36, .iload_n 1, 1, 0, 0, 0, .null)]),
  (57, [(37, .iload_n 2, 1, 0, 0, 0, .null), (38, .iload_n 3, 1, 0, 0, 0, .null), (39, .invokestatic 230, 3, 85, 0, 585, .null), (42, .ior, 1, 0, 0, 0, .null), (43, .istore_n 1, 1, 0, 0, 0, .null), (44, .iinc 3 1, 3, 0, 0, 0, .null), (47, .goto (-36), 3, 0, 0, 0, .null), (50, .iinc 2 1, 3, 0, 0, 0, .null), (53, .goto (-49), 3, 0, 0, 0, .null), (56, .iload_n 1, 1, 0, 0, 0, .null), (57, .ireturn, 1, 0, 0, 0, .null)])]
noncomputable def M_ST_changedPages : zM := (y_ST_changedPages, prog_1_method_32_code, 4, (Option.some FieldType.int), 0, (0, 0, 0, 0), 1, k_ST_changedPages)
set_option maxRecDepth 100000 in
theorem x_ST_changedPages : (k_ST_changedPages.all fun g => g.2.all (zxo R_ST prog_1_method_32_code 4 false)) = true := by decide +kernel
set_option maxRecDepth 100000 in
theorem o_ST_changedPages : zMo 82 M_ST_changedPages := ⟨rfl, zmm (k := 574) rfl rfl, zmm (k := 59) (by decide +kernel) rfl, by decide +kernel, by decide +kernel, fun h => (by cases h), fun _ => ⟨zmm (k := 573) (by decide +kernel) rfl, zmm (k := 21) (by decide +kernel) rfl, (R_ST, T_ST, 13), rfl, rfl⟩, fun h => (by cases h), zall x_ST_changedPages⟩
noncomputable def k_Ta_hasSameRow : List (Nat × List zE) := [(19, [(0, .aload_n 0, 1, 0, 0, 0, .null), (1, .iload_n 2, 1, 0, 0, 0, .null), (2, .invokevirtual 37, 3, 41, 0, 579, .null), (5, .astore_n 3, 1, 0, 0, 0, .null), (6, .aload_n 1, 1, 0, 0, 0, .null), (7, .iload_n 2, 1, 0, 0, 0, .null), (8, .invokevirtual 37, 3, 41, 0, 579, .null), (11, .astore 4, 2, 0, 0, 0, .null), (13, .aload_n 3, 1, 0, 0, 0, .null), (14, .ifnull 8, 3, 0, 0, 0, .null), (17, .aload 4, 2, 0, 0, 0, .null), (19, .ifnonnull 18, 3, 0, 0, 0, .null)]),
  (42, [(22, .aload_n 3, 1, 0, 0, 0, .null), (23, .ifnonnull 12, 3, 0, 0, 0, .null), (26, .aload 4, 2, 0, 0, 0, .null), (28, .ifnonnull 7, 3, 0, 0, 0, .null), (31, .iconst 1, 1, 0, 0, 0, .null), (32, .goto 4, 3, 0, 0, 0, .null), (35, .iconst 0, 1, 0, 0, 0, .null), (36, .ireturn, 1, 0, 0, 0, .null), (37, .aload_n 0, 1, 0, 0, 0, .null), (38, .iload_n 2, 1, 0, 0, 0, .null), (39, .invokevirtual 41, 3, 64, 0, 580, .null), (42, .aload_n 1, 1, 0, 0, 0, .null)]),
  (64, [(43, .iload_n 2, 1, 0, 0, 0, .null), (44, .invokevirtual 41, 3, 64, 0, 580, .null), (47, .if_icmp .ne 16, 3, 0, 0, 0, .null), (50, .aload_n 3, 1, 0, 0, 0, .null), (51, .aload 4, 2, 0, 0, 0, .null), (53, .invokevirtual 45, 3, 84, 0, 581, .null), (56, .ifCond .eq 7, 3, 0, 0, 0, .null), (59, .iconst 1, 1, 0, 0, 0, .null), (60, .goto 4, 3, 0, 0, 0, .null), (63, .iconst 0, 1, 0, 0, 0, .null), (64, .ireturn, 1, 0, 0, 0, .null)])]
noncomputable def M_Ta_hasSameRow : zM := (y_Ta_hasSameRow, prog_8_method_8_code, 5, (Option.some FieldType.boolean), 2, (0, 0, 0, 4), 1, k_Ta_hasSameRow)
set_option maxRecDepth 100000 in
theorem x_Ta_hasSameRow : (k_Ta_hasSameRow.all fun g => g.2.all (zxo R_Ta prog_8_method_8_code 5 false)) = true := by decide +kernel
set_option maxRecDepth 100000 in
theorem o_Ta_hasSameRow : zMo 83 M_Ta_hasSameRow := ⟨rfl, zmm (k := 578) rfl rfl, zmm (k := 64) (by decide +kernel) rfl, by decide +kernel, by decide +kernel, fun h => (by cases h), fun _ => ⟨zmm (k := 576) (by decide +kernel) rfl, zmm (k := 577) (by decide +kernel) rfl, (R_Ta, T_Ta, 2), rfl, rfl⟩, fun h => (by cases h), zall x_Ta_hasSameRow⟩
noncomputable def k_Ge_isSameAs : List (Nat × List zE) := [(21, [(0, .aload_n 0, 1, 0, 0, 0, .null), (1, .getfield 9, 3, 6, 0, 282, .null), (4, .aload_n 1, 1, 0, 0, 0, .null), (5, .getfield 9, 3, 6, 0, 282, .null), (8, .if_icmp .ne 16, 3, 0, 0, 0, .null), (11, .aload_n 0, 1, 0, 0, 0, .null), (12, .getfield 15, 3, 6, 1, 283, .null), (15, .arraylength, 1, 0, 0, 0, .null), (16, .aload_n 1, 1, 0, 0, 0, .null), (17, .getfield 15, 3, 6, 1, 283, .null), (20, .arraylength, 1, 0, 0, 0, .null), (21, .if_icmp .eq 5, 3, 0, 0, 0, .null)]),
  (41, [(24, .iconst 0, 1, 0, 0, 0, .null), (25, .ireturn, 1, 0, 0, 0, .null), (26, .iconst 0, 1, 0, 0, 0, .null), (27, .istore_n 2, 1, 0, 0, 0, .null), (28, .iload_n 2, 1, 0, 0, 0, .null), (29, .aload_n 0, 1, 0, 0, 0, .null), (30, .getfield 15, 3, 6, 1, 283, .null), (33, .arraylength, 1, 0, 0, 0, .null), (34, .if_icmp .ge 41, 3, 0, 0, 0, .null), (37, .aload_n 0, 1, 0, 0, 0, .null), (38, .getfield 15, 3, 6, 1, 283, .null), (41, .iload_n 2, 1, 0, 0, 0, .null)]),
  (59, [(42, .iaload, 1, 0, 0, 0, .null), (43, .aload_n 1, 1, 0, 0, 0, .null), (44, .getfield 15, 3, 6, 1, 283, .null), (47, .iload_n 2, 1, 0, 0, 0, .null), (48, .iaload, 1, 0, 0, 0, .null), (49, .if_icmp .ne 18, 3, 0, 0, 0, .null), (52, .aload_n 0, 1, 0, 0, 0, .null), (53, .getfield 19, 3, 6, 2, 285, .null), (56, .iload_n 2, 1, 0, 0, 0, .null), (57, .iaload, 1, 0, 0, 0, .null), (58, .aload_n 1, 1, 0, 0, 0, .null), (59, .getfield 19, 3, 6, 2, 285, .null)]),
  (76, [(62, .iload_n 2, 1, 0, 0, 0, .null), (63, .iaload, 1, 0, 0, 0, .null), (64, .if_icmp .eq 5, 3, 0, 0, 0, .null), (67, .iconst 0, 1, 0, 0, 0, .null), (68, .ireturn, 1, 0, 0, 0, .null), (69, .iinc 2 1, 3, 0, 0, 0, .null), (72, .goto (-44), 3, 0, 0, 0, .null), (75, .iconst 1, 1, 0, 0, 0, .null), (76, .ireturn, 1, 0, 0, 0, .null)])]
noncomputable def M_Ge_isSameAs : zM := (y_Ge_isSameAs, prog_6_method_15_code, 3, (Option.some FieldType.boolean), 1, (0, 0, 0, 6), 1, k_Ge_isSameAs)
set_option maxRecDepth 100000 in
theorem x_Ge_isSameAs : (k_Ge_isSameAs.all fun g => g.2.all (zxo R_Ge prog_6_method_15_code 3 false)) = true := by decide +kernel
set_option maxRecDepth 100000 in
theorem o_Ge_isSameAs : zMo 84 M_Ge_isSameAs := ⟨rfl, zmm (k := 584) rfl rfl, zmm (k := 67) (by decide +kernel) rfl, by decide +kernel, by decide +kernel, fun h => (by cases h), fun _ => ⟨zmm (k := 582) (by decide +kernel) rfl, zmm (k := 583) (by decide +kernel) rfl, (R_Ge, T_Ge, 4), rfl, rfl⟩, fun h => (by cases h), zall x_Ge_isSameAs⟩
noncomputable def k_ST_pageBit : List (Nat × List zE) := [(9, [(0, .iconst 1, 1, 0, 0, 0, .null), (1, .iconst 4, 1, 0, 0, 0, .null), (2, .iload_n 0, 1, 0, 0, 0, .null), (3, .imul, 1, 0, 0, 0, .null), (4, .iload_n 1, 1, 0, 0, 0, .null), (5, .iconst 4, 1, 0, 0, 0, .null), (6, .idiv, 1, 0, 0, 0, .null), (7, .iadd, 1, 0, 0, 0, .null), (8, .ishl, 1, 0, 0, 0, .null), (9, .ireturn, 1, 0, 0, 0, .null)])]
noncomputable def M_ST_pageBit : zM := (y_ST_pageBit, prog_1_method_31_code, 2, (Option.some FieldType.int), 2, (0, 0, 0, 0), 0, k_ST_pageBit)
set_option maxRecDepth 100000 in
theorem x_ST_pageBit : (k_ST_pageBit.all fun g => g.2.all (zxo R_ST prog_1_method_31_code 2 false)) = true := by decide +kernel
set_option maxRecDepth 100000 in
theorem o_ST_pageBit : zMo 85 M_ST_pageBit := ⟨rfl, zmm (k := 587) rfl rfl, zmm (k := 59) (by decide +kernel) rfl, by decide +kernel, by decide +kernel, fun _ => zmm (k := 586) (by decide +kernel) rfl, fun h => (by cases h), fun h => (by cases h), zall x_ST_pageBit⟩
noncomputable def k_ST_pagesWithRows : List (Nat × List zE) := [(14, [(0, .iconst 0, 1, 0, 0, 0, .null), (1, .istore_n 1, 1, 0, 0, 0, .null), (2, .iconst 0, 1, 0, 0, 0, .null), (3, .istore_n 2, 1, 0, 0, 0, .null), (4, .iload_n 2, 1, 0, 0, 0, .null), (5, .iconst 2, 1, 0, 0, 0, .null), (6, .if_icmp .ge 44, 3, 0, 0, 0, .null), (9, .iconst 0, 1, 0, 0, 0, .null), (10, .istore_n 3, 1, 0, 0, 0, .null), (11, .iload_n 3, 1, 0, 0, 0, .null), (12, .bipush 16, 2, 0, 0, 0, .null), (14, .if_icmp .ge 30, 3, 0, 0, 0, .null)]),
  (36, [(17, .aload_n 0, 1, 0, 0, 0, .null), (18, .getfield 11, 3, 0, 0, 166, .null), (21, .iload_n 2, 1, 0, 0, 0, .null), (22, .aaload, 1, 0, 0, 0, .null), (23, .iload_n 3, 1, 0, 0, 0, .null), (24, .invokevirtual 152, 3, 41, 0, 397, .null), (27, .ifnull 11, 3, 0, 0, 0, .null), (30, .iload_n 1, 1, 0, 0, 0, .null), (31, .iload_n 2, 1, 0, 0, 0, .null), (32, .iload_n 3, 1, 0, 0, 0, .null), (33, .invokestatic 230, 3, 85, 0, 585, .null), (36, .ior, 1, 0, 0, 0, .null)]),
  (51, [(37, .istore_n 1, 1, 0, 0, 0, .null), (38, .iinc 3 1, 3, 0, 0, 0, .null), (41, .goto (-30), 3, 0, 0, 0, .null), (44, .iinc 2 1, 3, 0, 0, 0, .null), (47, .goto (-43), 3, 0, 0, 0, .null), (50, .iload_n 1, 1, 0, 0, 0, .null), (51, .ireturn, 1, 0, 0, 0, .null)])]
noncomputable def M_ST_pagesWithRows : zM := (y_ST_pagesWithRows, prog_1_method_33_code, 4, (Option.some FieldType.int), 0, (0, 0, 0, 0), 1, k_ST_pagesWithRows)
set_option maxRecDepth 100000 in
theorem x_ST_pagesWithRows : (k_ST_pagesWithRows.all fun g => g.2.all (zxo R_ST prog_1_method_33_code 4 false)) = true := by decide +kernel
set_option maxRecDepth 100000 in
theorem o_ST_pagesWithRows : zMo 86 M_ST_pagesWithRows := ⟨rfl, zmm (k := 591) rfl rfl, zmm (k := 59) (by decide +kernel) rfl, by decide +kernel, by decide +kernel, fun h => (by cases h), fun _ => ⟨zmm (k := 590) (by decide +kernel) rfl, zmm (k := 22) (by decide +kernel) rfl, (R_ST, T_ST, 13), rfl, rfl⟩, fun h => (by cases h), zall x_ST_pagesWithRows⟩
noncomputable def k_Fr_countFree : List (Nat × List zE) := [(10, [(0, .bipush 16, 2, 0, 0, 0, .null), (2, .aload_n 0, 1, 0, 0, 0, .null), (3, .invokevirtual 21, 3, 88, 0, 596, .null), (6, .invokestatic 25, 3, 48, 0, 600, .null), (9, .isub, 1, 0, 0, 0, .null), (10, .ireturn, 1, 0, 0, 0, .null)])]
noncomputable def M_Fr_countFree : zM := (y_Fr_countFree, prog_5_method_3_code, 1, (Option.some FieldType.int), 0, (0, 0, 0, 1), 1, k_Fr_countFree)
set_option maxRecDepth 100000 in
theorem x_Fr_countFree : (k_Fr_countFree.all fun g => g.2.all (zxo R_Fr prog_5_method_3_code 1 false)) = true := by decide +kernel
set_option maxRecDepth 100000 in
theorem o_Fr_countFree : zMo 87 M_Fr_countFree := ⟨rfl, zmm (k := 595) rfl rfl, zmm (k := 60) (by decide +kernel) rfl, by decide +kernel, by decide +kernel, fun h => (by cases h), fun _ => ⟨zmm (k := 593) (by decide +kernel) rfl, zmm (k := 594) (by decide +kernel) rfl, (R_Fr, T_Fr, 1), rfl, rfl⟩, fun h => (by cases h), zall x_Fr_countFree⟩
noncomputable def k_Fr_takenFrames : List (Nat × List zE) := [(15, [(0, .iconst 0, 1, 0, 0, 0, .null), (1, .istore_n 1, 1, 0, 0, 0, .null), (2, .aload_n 0, 1, 0, 0, 0, .null), (3, .getfield 9, 3, 1, 0, 93, .null), (6, .astore_n 2, 1, 0, 0, 0, .null), (7, .aload_n 2, 1, 0, 0, 0, .null), (8, .arraylength, 1, 0, 0, 0, .null), (9, .istore_n 3, 1, 0, 0, 0, .null), (10, .iconst 0, 1, 0, 0, 0, .null), (11, .istore 4, 2, 0, 0, 0, .null), (13, .iload 4, 2, 0, 0, 0, .null), (15, .iload_n 3, 1, 0, 0, 0, .null)]),
  (35, [(16, .if_icmp .ge 32, 3, 0, 0, 0, .null), (19, .aload_n 2, 1, 0, 0, 0, .null), (20, .iload 4, 2, 0, 0, 0, .null), (22, .iaload, 1, 0, 0, 0, .null), (23, .istore 5, 2, 0, 0, 0, .null), (25, .iload_n 1, 1, 0, 0, 0, .null), (26, .iload 5, 2, 0, 0, 0, .null), (28, .iconst (-1), 1, 0, 0, 0, .null), (29, .if_icmp .eq 10, 3, 0, 0, 0, .null), (32, .iconst 1, 1, 0, 0, 0, .null), (33, .iload 5, 2, 0, 0, 0, .null), (35, .ishl, 1, 0, 0, 0, .null)]),
  (49, [(36, .goto 4, 3, 0, 0, 0, .null), (39, .iconst 0, 1, 0, 0, 0, .null), (40, .ior, 1, 0, 0, 0, .null), (41, .istore_n 1, 1, 0, 0, 0, .null), (42, .iinc 4 1, 3, 0, 0, 0, .null), (45, .goto (-32), 3, 0, 0, 0, .null), (48, .iload_n 1, 1, 0, 0, 0, .null), (49, .ireturn, 1, 0, 0, 0, .null)])]
noncomputable def M_Fr_takenFrames : zM := (y_Fr_takenFrames, prog_5_method_4_code, 6, (Option.some FieldType.int), 0, (0, 0, 0, 1), 1, k_Fr_takenFrames)
set_option maxRecDepth 100000 in
theorem x_Fr_takenFrames : (k_Fr_takenFrames.all fun g => g.2.all (zxo R_Fr prog_5_method_4_code 6 false)) = true := by decide +kernel
set_option maxRecDepth 100000 in
theorem o_Fr_takenFrames : zMo 88 M_Fr_takenFrames := ⟨rfl, zmm (k := 599) rfl rfl, zmm (k := 60) (by decide +kernel) rfl, by decide +kernel, by decide +kernel, fun h => (by cases h), fun _ => ⟨zmm (k := 598) (by decide +kernel) rfl, zmm (k := 23) (by decide +kernel) rfl, (R_Fr, T_Fr, 1), rfl, rfl⟩, fun h => (by cases h), zall x_Fr_takenFrames⟩
noncomputable def k_Fr_switchTo : List (Nat × List zE) := [(21, [(0, .aload_n 0, 1, 0, 0, 0, .null), (1, .invokevirtual 21, 3, 88, 0, 596, .null), (4, .istore_n 3, 1, 0, 0, 0, .null), (5, .iconst 0, 1, 0, 0, 0, .null), (6, .istore 4, 2, 0, 0, 0, .null), (8, .iload 4, 2, 0, 0, 0, .null), (10, .bipush 8, 2, 0, 0, 0, .null), (12, .if_icmp .ge 61, 3, 0, 0, 0, .null), (15, .iload_n 2, 1, 0, 0, 0, .null), (16, .iload 4, 2, 0, 0, 0, .null), (18, .invokestatic 31, 3, 65, 1, 605, .null), (21, .ifCond .eq 29, 3, 0, 0, 0, .null)]),
  (43, [(24, .aload_n 0, 1, 0, 0, 0, .null), (25, .getfield 9, 3, 1, 0, 93, .null), (28, .iload 4, 2, 0, 0, 0, .null), (30, .iload_n 3, 1, 0, 0, 0, .null), (31, .invokestatic 35, 3, 90, 0, 606, .null), (34, .iastore, 1, 0, 0, 0, .null), (35, .iload_n 3, 1, 0, 0, 0, .null), (36, .iconst 1, 1, 0, 0, 0, .null), (37, .aload_n 0, 1, 0, 0, 0, .null), (38, .getfield 9, 3, 1, 0, 93, .null), (41, .iload 4, 2, 0, 0, 0, .null), (43, .iaload, 1, 0, 0, 0, .null)]),
  (65, [(44, .ishl, 1, 0, 0, 0, .null), (45, .ior, 1, 0, 0, 0, .null), (46, .istore_n 3, 1, 0, 0, 0, .null), (47, .goto 20, 3, 0, 0, 0, .null), (50, .iload_n 1, 1, 0, 0, 0, .null), (51, .iload 4, 2, 0, 0, 0, .null), (53, .invokestatic 31, 3, 65, 1, 605, .null), (56, .ifCond .eq 11, 3, 0, 0, 0, .null), (59, .aload_n 0, 1, 0, 0, 0, .null), (60, .getfield 9, 3, 1, 0, 93, .null), (63, .iload 4, 2, 0, 0, 0, .null), (65, .iconst (-1), 1, 0, 0, 0, .null)]),
  (84, [(66, .iastore, 1, 0, 0, 0, .null), (67, .iinc 4 1, 3, 0, 0, 0, .null), (70, .goto (-62), 3, 0, 0, 0, .null), (73, .aload_n 0, 1, 0, 0, 0, .null), (74, .getfield 9, 3, 1, 0, 93, .null), (77, .bipush 8, 2, 0, 0, 0, .null), (79, .iload_n 3, 1, 0, 0, 0, .null), (80, .invokestatic 35, 3, 90, 0, 606, .null), (83, .iastore, 1, 0, 0, 0, .null), (84, .return_, 1, 0, 0, 0, .null)])]
noncomputable def M_Fr_switchTo : zM := (y_Fr_switchTo, prog_5_method_5_code, 5, (Option.none : Option FieldType), 2, (0, 0, 0, 1), 1, k_Fr_switchTo)
set_option maxRecDepth 100000 in
theorem x_Fr_switchTo : (k_Fr_switchTo.all fun g => g.2.all (zxo R_Fr prog_5_method_5_code 5 false)) = true := by decide +kernel
set_option maxRecDepth 100000 in
theorem o_Fr_switchTo : zMo 89 M_Fr_switchTo := ⟨rfl, zmm (k := 604) rfl rfl, zmm (k := 60) (by decide +kernel) rfl, by decide +kernel, by decide +kernel, fun h => (by cases h), fun _ => ⟨zmm (k := 602) (by decide +kernel) rfl, zmm (k := 603) (by decide +kernel) rfl, (R_Fr, T_Fr, 1), rfl, rfl⟩, fun h => (by cases h), zall x_Fr_switchTo⟩
noncomputable def k_Fr_leastFree : List (Nat × List zE) := [(22, [(0, .iconst 0, 1, 0, 0, 0, .null), (1, .istore_n 1, 1, 0, 0, 0, .null), (2, .iload_n 1, 1, 0, 0, 0, .null), (3, .bipush 15, 2, 0, 0, 0, .null), (5, .if_icmp .ge 17, 3, 0, 0, 0, .null), (8, .iload_n 0, 1, 0, 0, 0, .null), (9, .iload_n 1, 1, 0, 0, 0, .null), (10, .invokestatic 31, 3, 65, 1, 605, .null), (13, .ifCond .eq 9, 3, 0, 0, 0, .null), (16, .iinc 1 1, 3, 0, 0, 0, .null), (19, .goto (-17), 3, 0, 0, 0, .null), (22, .iload_n 1, 1, 0, 0, 0, .null)]),
  (23, [(23, .ireturn, 1, 0, 0, 0, .null)])]
noncomputable def M_Fr_leastFree : zM := (y_Fr_leastFree, prog_5_method_6_code, 2, (Option.some FieldType.int), 1, (0, 0, 0, 1), 0, k_Fr_leastFree)
set_option maxRecDepth 100000 in
theorem x_Fr_leastFree : (k_Fr_leastFree.all fun g => g.2.all (zxo R_Fr prog_5_method_6_code 2 false)) = true := by decide +kernel
set_option maxRecDepth 100000 in
theorem o_Fr_leastFree : zMo 90 M_Fr_leastFree := ⟨rfl, zmm (k := 608) rfl rfl, zmm (k := 60) (by decide +kernel) rfl, by decide +kernel, by decide +kernel, fun _ => zmm (k := 607) (by decide +kernel) rfl, fun h => (by cases h), fun h => (by cases h), zall x_Fr_leastFree⟩
noncomputable def k_ST_keepPresentTables : List (Nat × List zE) := [(17, [(0, .iconst 0, 1, 0, 0, 0, .null), (1, .istore_n 1, 1, 0, 0, 0, .null), (2, .iload_n 1, 1, 0, 0, 0, .null), (3, .iconst 2, 1, 0, 0, 0, .null), (4, .if_icmp .ge 24, 3, 0, 0, 0, .null), (7, .aload_n 0, 1, 0, 0, 0, .null), (8, .getfield 15, 3, 0, 1, 167, .null), (11, .iload_n 1, 1, 0, 0, 0, .null), (12, .aaload, 1, 0, 0, 0, .null), (13, .aload_n 0, 1, 0, 0, 0, .null), (14, .getfield 11, 3, 0, 0, 166, .null), (17, .iload_n 1, 1, 0, 0, 0, .null)]),
  (28, [(18, .aaload, 1, 0, 0, 0, .null), (19, .invokevirtual 192, 3, 92, 0, 613, .null), (22, .iinc 1 1, 3, 0, 0, 0, .null), (25, .goto (-23), 3, 0, 0, 0, .null), (28, .return_, 1, 0, 0, 0, .null)])]
noncomputable def M_ST_keepPresentTables : zM := (y_ST_keepPresentTables, prog_1_method_34_code, 2, (Option.none : Option FieldType), 0, (0, 0, 0, 0), 1, k_ST_keepPresentTables)
set_option maxRecDepth 100000 in
theorem x_ST_keepPresentTables : (k_ST_keepPresentTables.all fun g => g.2.all (zxo R_ST prog_1_method_34_code 2 false)) = true := by decide +kernel
set_option maxRecDepth 100000 in
theorem o_ST_keepPresentTables : zMo 91 M_ST_keepPresentTables := ⟨rfl, zmm (k := 612) rfl rfl, zmm (k := 59) (by decide +kernel) rfl, by decide +kernel, by decide +kernel, fun h => (by cases h), fun _ => ⟨zmm (k := 611) (by decide +kernel) rfl, zmm (k := 24) (by decide +kernel) rfl, (R_ST, T_ST, 13), rfl, rfl⟩, fun h => (by cases h), zall x_ST_keepPresentTables⟩
noncomputable def k_Ta_copy : List (Nat × List zE) := [(18, [(0, .iconst 0, 1, 0, 0, 0, .null), (1, .istore_n 2, 1, 0, 0, 0, .null), (2, .iload_n 2, 1, 0, 0, 0, .null), (3, .bipush 16, 2, 0, 0, 0, .null), (5, .if_icmp .ge 33, 3, 0, 0, 0, .null), (8, .aload_n 0, 1, 0, 0, 0, .null), (9, .getfield 9, 3, 4, 0, 135, .null), (12, .iload_n 2, 1, 0, 0, 0, .null), (13, .aload_n 1, 1, 0, 0, 0, .null), (14, .getfield 9, 3, 4, 0, 135, .null), (17, .iload_n 2, 1, 0, 0, 0, .null), (18, .iaload, 1, 0, 0, 0, .null)]),
  (38, [(19, .iastore, 1, 0, 0, 0, .null), (20, .aload_n 0, 1, 0, 0, 0, .null), (21, .getfield 17, 3, 4, 1, 136, .null), (24, .iload_n 2, 1, 0, 0, 0, .null), (25, .aload_n 1, 1, 0, 0, 0, .null), (26, .getfield 17, 3, 4, 1, 136, .null), (29, .iload_n 2, 1, 0, 0, 0, .null), (30, .aaload, 1, 0, 0, 0, .null), (31, .aastore, 1, 0, 0, 0, .null), (32, .iinc 2 1, 3, 0, 0, 0, .null), (35, .goto (-33), 3, 0, 0, 0, .null), (38, .return_, 1, 0, 0, 0, .null)])]
noncomputable def M_Ta_copy : zM := (y_Ta_copy, prog_8_method_9_code, 3, (Option.none : Option FieldType), 1, (0, 0, 0, 4), 1, k_Ta_copy)
set_option maxRecDepth 100000 in
theorem x_Ta_copy : (k_Ta_copy.all fun g => g.2.all (zxo R_Ta prog_8_method_9_code 3 false)) = true := by decide +kernel
set_option maxRecDepth 100000 in
theorem o_Ta_copy : zMo 92 M_Ta_copy := ⟨rfl, zmm (k := 616) rfl rfl, zmm (k := 64) (by decide +kernel) rfl, by decide +kernel, by decide +kernel, fun h => (by cases h), fun _ => ⟨zmm (k := 614) (by decide +kernel) rfl, zmm (k := 615) (by decide +kernel) rfl, (R_Ta, T_Ta, 2), rfl, rfl⟩, fun h => (by cases h), zall x_Ta_copy⟩
noncomputable def k_ST_crash : List (Nat × List zE) := [(20, [(0, .aload_n 0, 1, 0, 0, 0, .null), (1, .invokevirtual 195, 3, 94, 0, 621, .null), (4, .aload_n 0, 1, 0, 0, 0, .null), (5, .getfield 34, 3, 0, 4, 170, .null), (8, .invokevirtual 80, 3, 12, 0, 225, .null), (11, .aload_n 0, 1, 0, 0, 0, .null), (12, .invokevirtual 119, 3, 45, 0, 415, .null), (15, .aload_n 0, 1, 0, 0, 0, .null), (16, .aconst_null, 1, 0, 0, 0, .null), (17, .putfield 38, 3, 0, 5, 171, .null), (20, .return_, 1, 0, 0, 0, .null)])]
noncomputable def M_ST_crash : zM := (y_ST_crash, prog_1_method_18_code, 1, (Option.none : Option FieldType), 0, (0, 0, 0, 0), 1, k_ST_crash)
set_option maxRecDepth 100000 in
theorem x_ST_crash : (k_ST_crash.all fun g => g.2.all (zxo R_ST prog_1_method_18_code 1 false)) = true := by decide +kernel
set_option maxRecDepth 100000 in
theorem o_ST_crash : zMo 93 M_ST_crash := ⟨rfl, zmm (k := 620) rfl rfl, zmm (k := 59) (by decide +kernel) rfl, by decide +kernel, by decide +kernel, fun h => (by cases h), fun _ => ⟨zmm (k := 618) (by decide +kernel) rfl, zmm (k := 619) (by decide +kernel) rfl, (R_ST, T_ST, 13), rfl, rfl⟩, fun h => (by cases h), zall x_ST_crash⟩
noncomputable def k_ST_rollback : List (Nat × List zE) := [(17, [(0, .iconst 0, 1, 0, 0, 0, .null), (1, .istore_n 1, 1, 0, 0, 0, .null), (2, .iload_n 1, 1, 0, 0, 0, .null), (3, .iconst 2, 1, 0, 0, 0, .null), (4, .if_icmp .ge 39, 3, 0, 0, 0, .null), (7, .aload_n 0, 1, 0, 0, 0, .null), (8, .getfield 11, 3, 0, 0, 166, .null), (11, .iload_n 1, 1, 0, 0, 0, .null), (12, .aaload, 1, 0, 0, 0, .null), (13, .aload_n 0, 1, 0, 0, 0, .null), (14, .getfield 15, 3, 0, 1, 167, .null), (17, .iload_n 1, 1, 0, 0, 0, .null)]),
  (37, [(18, .aaload, 1, 0, 0, 0, .null), (19, .invokevirtual 192, 3, 92, 0, 613, .null), (22, .aload_n 0, 1, 0, 0, 0, .null), (23, .getfield 20, 3, 0, 2, 168, .null), (26, .iload_n 1, 1, 0, 0, 0, .null), (27, .aaload, 1, 0, 0, 0, .null), (28, .aload_n 0, 1, 0, 0, 0, .null), (29, .getfield 11, 3, 0, 0, 166, .null), (32, .iload_n 1, 1, 0, 0, 0, .null), (33, .aaload, 1, 0, 0, 0, .null), (34, .invokevirtual 115, 3, 42, 0, 401, .null), (37, .iinc 1 1, 3, 0, 0, 0, .null)]),
  (43, [(40, .goto (-38), 3, 0, 0, 0, .null), (43, .return_, 1, 0, 0, 0, .null)])]
noncomputable def M_ST_rollback : zM := (y_ST_rollback, prog_1_method_17_code, 2, (Option.none : Option FieldType), 0, (0, 0, 0, 0), 1, k_ST_rollback)
set_option maxRecDepth 100000 in
theorem x_ST_rollback : (k_ST_rollback.all fun g => g.2.all (zxo R_ST prog_1_method_17_code 2 false)) = true := by decide +kernel
set_option maxRecDepth 100000 in
theorem o_ST_rollback : zMo 94 M_ST_rollback := ⟨rfl, zmm (k := 624) rfl rfl, zmm (k := 59) (by decide +kernel) rfl, by decide +kernel, by decide +kernel, fun h => (by cases h), fun _ => ⟨zmm (k := 622) (by decide +kernel) rfl, zmm (k := 623) (by decide +kernel) rfl, (R_ST, T_ST, 13), rfl, rfl⟩, fun h => (by cases h), zall x_ST_rollback⟩
noncomputable def k_ST_frame : List (Nat × List zE) := [(8, [(0, .aload_n 0, 1, 0, 0, 0, .null), (1, .getfield 27, 3, 0, 3, 169, .null), (4, .iload_n 1, 1, 0, 0, 0, .null), (5, .invokevirtual 198, 3, 96, 0, 631, .null), (8, .ireturn, 1, 0, 0, 0, .null)])]
noncomputable def M_ST_frame : zM := (y_ST_frame, prog_1_method_19_code, 2, (Option.some FieldType.int), 1, (0, 0, 0, 0), 1, k_ST_frame)
set_option maxRecDepth 100000 in
theorem x_ST_frame : (k_ST_frame.all fun g => g.2.all (zxo R_ST prog_1_method_19_code 2 false)) = true := by decide +kernel
set_option maxRecDepth 100000 in
theorem o_ST_frame : zMo 95 M_ST_frame := ⟨rfl, zmm (k := 630) rfl rfl, zmm (k := 59) (by decide +kernel) rfl, by decide +kernel, by decide +kernel, fun h => (by cases h), fun _ => ⟨zmm (k := 628) (by decide +kernel) rfl, zmm (k := 629) (by decide +kernel) rfl, (R_ST, T_ST, 13), rfl, rfl⟩, fun h => (by cases h), zall x_ST_frame⟩
noncomputable def k_Fr_frameOf : List (Nat × List zE) := [(20, [(0, .iload_n 1, 1, 0, 0, 0, .null), (1, .ifCond .lt 18, 3, 0, 0, 0, .null), (4, .iload_n 1, 1, 0, 0, 0, .null), (5, .bipush 8, 2, 0, 0, 0, .null), (7, .if_icmp .gt 12, 3, 0, 0, 0, .null), (10, .aload_n 0, 1, 0, 0, 0, .null), (11, .getfield 9, 3, 1, 0, 93, .null), (14, .iload_n 1, 1, 0, 0, 0, .null), (15, .iaload, 1, 0, 0, 0, .null), (16, .goto 4, 3, 0, 0, 0, .null), (19, .iconst (-1), 1, 0, 0, 0, .null), (20, .ireturn, 1, 0, 0, 0, .null)])]
noncomputable def M_Fr_frameOf : zM := (y_Fr_frameOf, prog_5_method_2_code, 2, (Option.some FieldType.int), 1, (0, 0, 0, 1), 1, k_Fr_frameOf)
set_option maxRecDepth 100000 in
theorem x_Fr_frameOf : (k_Fr_frameOf.all fun g => g.2.all (zxo R_Fr prog_5_method_2_code 2 false)) = true := by decide +kernel
set_option maxRecDepth 100000 in
theorem o_Fr_frameOf : zMo 96 M_Fr_frameOf := ⟨rfl, zmm (k := 634) rfl rfl, zmm (k := 60) (by decide +kernel) rfl, by decide +kernel, by decide +kernel, fun h => (by cases h), fun _ => ⟨zmm (k := 632) (by decide +kernel) rfl, zmm (k := 633) (by decide +kernel) rfl, (R_Fr, T_Fr, 1), rfl, rfl⟩, fun h => (by cases h), zall x_Fr_frameOf⟩
noncomputable def k_Mo_init : List (Nat × List zE) := [(21, [(0, .aload_n 0, 1, 0, 0, 0, .null), (1, .invokespecial 1, 3, 0, 2, 640, .null), (4, .aload_n 0, 1, 0, 0, 0, .null), (5, .bipush 65, 2, 0, 0, 0, .null), (7, .newarray .boolean, 2, 1, 0, 0, .null), (9, .putfield 7, 3, 8, 0, 641, .null), (12, .aload_n 0, 1, 0, 0, 0, .null), (13, .bipush 65, 2, 0, 0, 0, .null), (15, .newarray .int, 2, 0, 0, 0, .null), (17, .putfield 13, 3, 8, 1, 642, .null), (20, .aload_n 0, 1, 0, 0, 0, .null), (21, .bipush 65, 2, 0, 0, 0, .null)]),
  (46, [(23, .newarray .int, 2, 0, 0, 0, .null), (25, .putfield 17, 3, 8, 2, 643, .null), (28, .aload_n 0, 1, 0, 0, 0, .null), (29, .bipush 65, 2, 0, 0, 0, .null), (31, .newarray .int, 2, 0, 0, 0, .null), (33, .putfield 20, 3, 8, 3, 644, .null), (36, .aload_n 0, 1, 0, 0, 0, .null), (37, .sipush 390, 3, 0, 0, 0, .null), (40, .newarray .int, 2, 0, 0, 0, .null), (42, .putfield 23, 3, 8, 4, 645, .null), (45, .aload_n 0, 1, 0, 0, 0, .null), (46, .sipush 390, 3, 0, 0, 0, .null)]),
  (71, [(49, .newarray .int, 2, 0, 0, 0, .null), (51, .putfield 26, 3, 8, 5, 646, .null), (54, .aload_n 0, 1, 0, 0, 0, .null), (55, .bipush 65, 2, 0, 0, 0, .null), (57, .newarray .int, 2, 0, 0, 0, .null), (59, .putfield 29, 3, 8, 6, 647, .null), (62, .aload_n 0, 1, 0, 0, 0, .null), (63, .bipush 65, 2, 0, 0, 0, .null), (65, .newarray .int, 2, 0, 0, 0, .null), (67, .putfield 32, 3, 8, 7, 648, .null), (70, .aload_n 0, 1, 0, 0, 0, .null), (71, .bipush 65, 2, 0, 0, 0, .null)]),
  (95, [(73, .newarray .int, 2, 0, 0, 0, .null), (75, .putfield 35, 3, 8, 8, 649, .null), (78, .aload_n 0, 1, 0, 0, 0, .null), (79, .bipush 65, 2, 0, 0, 0, .null), (81, .newarray .int, 2, 0, 0, 0, .null), (83, .putfield 38, 3, 8, 9, 650, .null), (86, .aload_n 0, 1, 0, 0, 0, .null), (87, .bipush 6, 2, 0, 0, 0, .null), (89, .newarray .int, 2, 0, 0, 0, .null), (91, .putfield 41, 3, 8, 11, 652, .null), (94, .aload_n 0, 1, 0, 0, 0, .null), (95, .bipush 6, 2, 0, 0, 0, .null)]),
  (119, [(97, .newarray .int, 2, 0, 0, 0, .null), (99, .putfield 44, 3, 8, 12, 653, .null), (102, .aload_n 0, 1, 0, 0, 0, .null), (103, .bipush 16, 2, 0, 0, 0, .null), (105, .newarray .long, 2, 2, 0, 0, .null), (107, .putfield 47, 3, 8, 15, 656, .null), (110, .aload_n 0, 1, 0, 0, 0, .null), (111, .bipush 16, 2, 0, 0, 0, .null), (113, .newarray .long, 2, 2, 0, 0, .null), (115, .putfield 51, 3, 8, 16, 657, .null), (118, .aload_n 0, 1, 0, 0, 0, .null), (119, .sipush 256, 3, 0, 0, 0, .null)]),
  (144, [(122, .newarray .int, 2, 0, 0, 0, .null), (124, .putfield 54, 3, 8, 23, 664, .null), (127, .aload_n 0, 1, 0, 0, 0, .null), (128, .bipush 9, 2, 0, 0, 0, .null), (130, .newarray .int, 2, 0, 0, 0, .null), (132, .putfield 57, 3, 8, 24, 665, .null), (135, .aload_n 0, 1, 0, 0, 0, .null), (136, .bipush 9, 2, 0, 0, 0, .null), (138, .newarray .int, 2, 0, 0, 0, .null), (140, .putfield 60, 3, 8, 25, 666, .null), (143, .iconst 0, 1, 0, 0, 0, .null), (144, .istore_n 1, 1, 0, 0, 0, .null)]),
  (164, [(145, .iload_n 1, 1, 0, 0, 0, .null), (146, .bipush 8, 2, 0, 0, 0, .null), (148, .if_icmp .ge 16, 3, 0, 0, 0, .null), (151, .aload_n 0, 1, 0, 0, 0, .null), (152, .getfield 57, 3, 8, 24, 665, .null), (155, .iload_n 1, 1, 0, 0, 0, .null), (156, .iconst (-1), 1, 0, 0, 0, .null), (157, .iastore, 1, 0, 0, 0, .null), (158, .iinc 1 1, 3, 0, 0, 0, .null), (161, .goto (-16), 3, 0, 0, 0, .null), (164, .return_, 1, 0, 0, 0, .null)])]
noncomputable def M_Mo_init : zM := (y_Mo_init, prog_10_method_1_code, 2, (Option.none : Option FieldType), 0, (0, 0, 0, 8), 2, k_Mo_init)
set_option maxRecDepth 100000 in
theorem x_Mo_init : (k_Mo_init.all fun g => g.2.all (zxo R_Mo prog_10_method_1_code 2 true)) = true := by decide +kernel
set_option maxRecDepth 100000 in
theorem o_Mo_init : zMo 97 M_Mo_init := ⟨rfl, zmm (k := 639) rfl rfl, zmm (k := 66) (by decide +kernel) rfl, by decide +kernel, by decide +kernel, fun h => (by cases h), fun h => (by cases h), fun _ => ⟨zmm (k := 638) (by decide +kernel) rfl, rfl, rfl⟩, zall x_Mo_init⟩
noncomputable def k_Mo_vertex : List (Nat × List zE) := [(23, [(0, .iload_n 1, 1, 0, 0, 0, .null), (1, .ifCond .lt 30, 3, 0, 0, 0, .null), (4, .iload_n 1, 1, 0, 0, 0, .null), (5, .sipush 255, 3, 0, 0, 0, .null), (8, .if_icmp .gt 23, 3, 0, 0, 0, .null), (11, .iload_n 2, 1, 0, 0, 0, .null), (12, .ifCond .lt 19, 3, 0, 0, 0, .null), (15, .iload_n 2, 1, 0, 0, 0, .null), (16, .sipush 255, 3, 0, 0, 0, .null), (19, .if_icmp .gt 12, 3, 0, 0, 0, .null), (22, .aload_n 0, 1, 0, 0, 0, .null), (23, .getfield 63, 3, 8, 10, 651, .null)]),
  (44, [(26, .bipush 6, 2, 0, 0, 0, .null), (28, .if_icmp .lt 5, 3, 0, 0, 0, .null), (31, .iconst (-1), 1, 0, 0, 0, .null), (32, .ireturn, 1, 0, 0, 0, .null), (33, .aload_n 0, 1, 0, 0, 0, .null), (34, .getfield 41, 3, 8, 11, 652, .null), (37, .aload_n 0, 1, 0, 0, 0, .null), (38, .getfield 63, 3, 8, 10, 651, .null), (41, .iload_n 1, 1, 0, 0, 0, .null), (42, .iastore, 1, 0, 0, 0, .null), (43, .aload_n 0, 1, 0, 0, 0, .null), (44, .getfield 44, 3, 8, 12, 653, .null)]),
  (64, [(47, .aload_n 0, 1, 0, 0, 0, .null), (48, .getfield 63, 3, 8, 10, 651, .null), (51, .iload_n 2, 1, 0, 0, 0, .null), (52, .iastore, 1, 0, 0, 0, .null), (53, .aload_n 0, 1, 0, 0, 0, .null), (54, .dup, 1, 0, 0, 0, .null), (55, .getfield 63, 3, 8, 10, 651, .null), (58, .iconst 1, 1, 0, 0, 0, .null), (59, .iadd, 1, 0, 0, 0, .null), (60, .putfield 63, 3, 8, 10, 651, .null), (63, .aload_n 0, 1, 0, 0, 0, .null), (64, .getfield 63, 3, 8, 10, 651, .null)]),
  (67, [(67, .ireturn, 1, 0, 0, 0, .null)])]
noncomputable def M_Mo_vertex : zM := (y_Mo_vertex, prog_10_method_2_code, 3, (Option.some FieldType.int), 2, (0, 0, 0, 8), 1, k_Mo_vertex)
set_option maxRecDepth 100000 in
theorem x_Mo_vertex : (k_Mo_vertex.all fun g => g.2.all (zxo R_Mo prog_10_method_2_code 3 false)) = true := by decide +kernel
set_option maxRecDepth 100000 in
theorem o_Mo_vertex : zMo 98 M_Mo_vertex := ⟨rfl, zmm (k := 725) rfl rfl, zmm (k := 66) (by decide +kernel) rfl, by decide +kernel, by decide +kernel, fun h => (by cases h), fun _ => ⟨zmm (k := 723) (by decide +kernel) rfl, zmm (k := 724) (by decide +kernel) rfl, (R_Mo, T_Mo, 26), rfl, rfl⟩, fun h => (by cases h), zall x_Mo_vertex⟩
noncomputable def k_Mo_shape : List (Nat × List zE) := [(17, [(0, .iload_n 1, 1, 0, 0, 0, .null), (1, .ifCond .lt 8, 3, 0, 0, 0, .null), (4, .iload_n 1, 1, 0, 0, 0, .null), (5, .iconst 2, 1, 0, 0, 0, .null), (6, .if_icmp .le 5, 3, 0, 0, 0, .null), (9, .iconst (-1), 1, 0, 0, 0, .null), (10, .ireturn, 1, 0, 0, 0, .null), (11, .aload_n 0, 1, 0, 0, 0, .null), (12, .iload_n 1, 1, 0, 0, 0, .null), (13, .invokevirtual 90, 3, 100, 0, 730, .null), (16, .istore_n 2, 1, 0, 0, 0, .null), (17, .iload_n 2, 1, 0, 0, 0, .null)]),
  (37, [(18, .ifCond .ne 84, 3, 0, 0, 0, .null), (21, .aload_n 0, 1, 0, 0, 0, .null), (22, .getfield 7, 3, 8, 0, 641, .null), (25, .bipush 64, 2, 0, 0, 0, .null), (27, .iconst 1, 1, 0, 0, 0, .null), (28, .bastore, 1, 0, 0, 0, .null), (29, .aload_n 0, 1, 0, 0, 0, .null), (30, .getfield 17, 3, 8, 2, 643, .null), (33, .bipush 64, 2, 0, 0, 0, .null), (35, .iload_n 1, 1, 0, 0, 0, .null), (36, .iastore, 1, 0, 0, 0, .null), (37, .aload_n 0, 1, 0, 0, 0, .null)]),
  (58, [(38, .getfield 20, 3, 8, 3, 644, .null), (41, .bipush 64, 2, 0, 0, 0, .null), (43, .aload_n 0, 1, 0, 0, 0, .null), (44, .getfield 63, 3, 8, 10, 651, .null), (47, .iastore, 1, 0, 0, 0, .null), (48, .iconst 0, 1, 0, 0, 0, .null), (49, .istore_n 3, 1, 0, 0, 0, .null), (50, .iload_n 3, 1, 0, 0, 0, .null), (51, .aload_n 0, 1, 0, 0, 0, .null), (52, .getfield 63, 3, 8, 10, 651, .null), (55, .if_icmp .ge 41, 3, 0, 0, 0, .null), (58, .aload_n 0, 1, 0, 0, 0, .null)]),
  (78, [(59, .getfield 23, 3, 8, 4, 645, .null), (62, .sipush 384, 3, 0, 0, 0, .null), (65, .iload_n 3, 1, 0, 0, 0, .null), (66, .iadd, 1, 0, 0, 0, .null), (67, .aload_n 0, 1, 0, 0, 0, .null), (68, .getfield 41, 3, 8, 11, 652, .null), (71, .iload_n 3, 1, 0, 0, 0, .null), (72, .iaload, 1, 0, 0, 0, .null), (73, .iastore, 1, 0, 0, 0, .null), (74, .aload_n 0, 1, 0, 0, 0, .null), (75, .getfield 26, 3, 8, 5, 646, .null), (78, .sipush 384, 3, 0, 0, 0, .null)]),
  (99, [(81, .iload_n 3, 1, 0, 0, 0, .null), (82, .iadd, 1, 0, 0, 0, .null), (83, .aload_n 0, 1, 0, 0, 0, .null), (84, .getfield 44, 3, 8, 12, 653, .null), (87, .iload_n 3, 1, 0, 0, 0, .null), (88, .iaload, 1, 0, 0, 0, .null), (89, .iastore, 1, 0, 0, 0, .null), (90, .iinc 3 1, 3, 0, 0, 0, .null), (93, .goto (-43), 3, 0, 0, 0, .null), (96, .aload_n 0, 1, 0, 0, 0, .null), (97, .bipush 64, 2, 0, 0, 0, .null), (99, .invokevirtual 94, 3, 107, 0, 755, .null)]),
  (108, [(102, .aload_n 0, 1, 0, 0, 0, .null), (103, .iconst 0, 1, 0, 0, 0, .null), (104, .putfield 63, 3, 8, 10, 651, .null), (107, .iload_n 2, 1, 0, 0, 0, .null), (108, .ireturn, 1, 0, 0, 0, .null)])]
noncomputable def M_Mo_shape : zM := (y_Mo_shape, prog_10_method_10_code, 4, (Option.some FieldType.int), 1, (0, 0, 0, 8), 1, k_Mo_shape)
set_option maxRecDepth 100000 in
theorem x_Mo_shape : (k_Mo_shape.all fun g => g.2.all (zxo R_Mo prog_10_method_10_code 4 false)) = true := by decide +kernel
set_option maxRecDepth 100000 in
theorem o_Mo_shape : zMo 99 M_Mo_shape := ⟨rfl, zmm (k := 729) rfl rfl, zmm (k := 66) (by decide +kernel) rfl, by decide +kernel, by decide +kernel, fun h => (by cases h), fun _ => ⟨zmm (k := 727) (by decide +kernel) rfl, zmm (k := 728) (by decide +kernel) rfl, (R_Mo, T_Mo, 26), rfl, rfl⟩, fun h => (by cases h), zall x_Mo_shape⟩
noncomputable def k_Mo_fault : List (Nat × List zE) := [(19, [(0, .aload_n 0, 1, 0, 0, 0, .null), (1, .getfield 63, 3, 8, 10, 651, .null), (4, .istore_n 2, 1, 0, 0, 0, .null), (5, .iload_n 1, 1, 0, 0, 0, .null), (6, .ifCond .ne 11, 3, 0, 0, 0, .null), (9, .iload_n 2, 1, 0, 0, 0, .null), (10, .iconst 1, 1, 0, 0, 0, .null), (11, .if_icmp .eq 26, 3, 0, 0, 0, .null), (14, .goto 21, 3, 0, 0, 0, .null), (17, .iload_n 1, 1, 0, 0, 0, .null), (18, .iconst 1, 1, 0, 0, 0, .null), (19, .if_icmp .ne 11, 3, 0, 0, 0, .null)]),
  (39, [(22, .iload_n 2, 1, 0, 0, 0, .null), (23, .iconst 2, 1, 0, 0, 0, .null), (24, .if_icmp .ge 13, 3, 0, 0, 0, .null), (27, .goto 8, 3, 0, 0, 0, .null), (30, .iload_n 2, 1, 0, 0, 0, .null), (31, .iconst 3, 1, 0, 0, 0, .null), (32, .if_icmp .ge 5, 3, 0, 0, 0, .null), (35, .iconst 1, 1, 0, 0, 0, .null), (36, .ireturn, 1, 0, 0, 0, .null), (37, .iconst 0, 1, 0, 0, 0, .null), (38, .istore_n 3, 1, 0, 0, 0, .null), (39, .iload_n 3, 1, 0, 0, 0, .null)]),
  (56, [(40, .iload_n 2, 1, 0, 0, 0, .null), (41, .if_icmp .ge 77, 3, 0, 0, 0, .null), (44, .iload_n 3, 1, 0, 0, 0, .null), (45, .iconst 1, 1, 0, 0, 0, .null), (46, .iadd, 1, 0, 0, 0, .null), (47, .iload_n 2, 1, 0, 0, 0, .null), (48, .irem, 1, 0, 0, 0, .null), (49, .istore 4, 2, 0, 0, 0, .null), (51, .iload_n 1, 1, 0, 0, 0, .null), (52, .iconst 2, 1, 0, 0, 0, .null), (53, .if_icmp .eq 8, 3, 0, 0, 0, .null), (56, .iload 4, 2, 0, 0, 0, .null)]),
  (79, [(58, .ifCond .le 7, 3, 0, 0, 0, .null), (61, .iconst 1, 1, 0, 0, 0, .null), (62, .goto 4, 3, 0, 0, 0, .null), (65, .iconst 0, 1, 0, 0, 0, .null), (66, .istore 5, 2, 0, 0, 0, .null), (68, .iload 5, 2, 0, 0, 0, .null), (70, .ifCond .eq 42, 3, 0, 0, 0, .null), (73, .iload_n 2, 1, 0, 0, 0, .null), (74, .iconst 1, 1, 0, 0, 0, .null), (75, .if_icmp .le 37, 3, 0, 0, 0, .null), (78, .aload_n 0, 1, 0, 0, 0, .null), (79, .getfield 41, 3, 8, 11, 652, .null)]),
  (100, [(82, .iload_n 3, 1, 0, 0, 0, .null), (83, .iaload, 1, 0, 0, 0, .null), (84, .aload_n 0, 1, 0, 0, 0, .null), (85, .getfield 41, 3, 8, 11, 652, .null), (88, .iload 4, 2, 0, 0, 0, .null), (90, .iaload, 1, 0, 0, 0, .null), (91, .if_icmp .ne 21, 3, 0, 0, 0, .null), (94, .aload_n 0, 1, 0, 0, 0, .null), (95, .getfield 44, 3, 8, 12, 653, .null), (98, .iload_n 3, 1, 0, 0, 0, .null), (99, .iaload, 1, 0, 0, 0, .null), (100, .aload_n 0, 1, 0, 0, 0, .null)]),
  (121, [(101, .getfield 44, 3, 8, 12, 653, .null), (104, .iload 4, 2, 0, 0, 0, .null), (106, .iaload, 1, 0, 0, 0, .null), (107, .if_icmp .ne 5, 3, 0, 0, 0, .null), (110, .iconst 2, 1, 0, 0, 0, .null), (111, .ireturn, 1, 0, 0, 0, .null), (112, .iinc 3 1, 3, 0, 0, 0, .null), (115, .goto (-76), 3, 0, 0, 0, .null), (118, .iconst 0, 1, 0, 0, 0, .null), (119, .istore_n 3, 1, 0, 0, 0, .null), (120, .iload_n 3, 1, 0, 0, 0, .null), (121, .iload_n 2, 1, 0, 0, 0, .null)]),
  (141, [(122, .if_icmp .ge 41, 3, 0, 0, 0, .null), (125, .iload_n 1, 1, 0, 0, 0, .null), (126, .iconst 2, 1, 0, 0, 0, .null), (127, .if_icmp .ne 36, 3, 0, 0, 0, .null), (130, .iconst 0, 1, 0, 0, 0, .null), (131, .istore 4, 2, 0, 0, 0, .null), (133, .iload 4, 2, 0, 0, 0, .null), (135, .iload_n 3, 1, 0, 0, 0, .null), (136, .if_icmp .ge 21, 3, 0, 0, 0, .null), (139, .aload_n 0, 1, 0, 0, 0, .null), (140, .iload_n 3, 1, 0, 0, 0, .null), (141, .iload 4, 2, 0, 0, 0, .null)]),
  (164, [(143, .invokevirtual 86, 3, 101, 0, 734, .null), (146, .ifCond .eq 5, 3, 0, 0, 0, .null), (149, .iconst 3, 1, 0, 0, 0, .null), (150, .ireturn, 1, 0, 0, 0, .null), (151, .iinc 4 1, 3, 0, 0, 0, .null), (154, .goto (-21), 3, 0, 0, 0, .null), (157, .iinc 3 1, 3, 0, 0, 0, .null), (160, .goto (-40), 3, 0, 0, 0, .null), (163, .iconst 0, 1, 0, 0, 0, .null), (164, .ireturn, 1, 0, 0, 0, .null)])]
noncomputable def M_Mo_fault : zM := (y_Mo_fault, prog_10_method_9_code, 6, (Option.some FieldType.int), 1, (0, 0, 0, 8), 1, k_Mo_fault)
set_option maxRecDepth 100000 in
theorem x_Mo_fault : (k_Mo_fault.all fun g => g.2.all (zxo R_Mo prog_10_method_9_code 6 false)) = true := by decide +kernel
set_option maxRecDepth 100000 in
theorem o_Mo_fault : zMo 100 M_Mo_fault := ⟨rfl, zmm (k := 733) rfl rfl, zmm (k := 66) (by decide +kernel) rfl, by decide +kernel, by decide +kernel, fun h => (by cases h), fun _ => ⟨zmm (k := 732) (by decide +kernel) rfl, zmm (k := 25) (by decide +kernel) rfl, (R_Mo, T_Mo, 26), rfl, rfl⟩, fun h => (by cases h), zall x_Mo_fault⟩
end
section
noncomputable def k_Mo_clash : List (Nat × List zE) := [(15, [(0, .iload_n 1, 1, 0, 0, 0, .null), (1, .istore_n 3, 1, 0, 0, 0, .null), (2, .iload_n 1, 1, 0, 0, 0, .null), (3, .iconst 1, 1, 0, 0, 0, .null), (4, .iadd, 1, 0, 0, 0, .null), (5, .aload_n 0, 1, 0, 0, 0, .null), (6, .getfield 63, 3, 8, 10, 651, .null), (9, .irem, 1, 0, 0, 0, .null), (10, .istore 4, 2, 0, 0, 0, .null), (12, .iload_n 2, 1, 0, 0, 0, .null), (13, .istore 5, 2, 0, 0, 0, .null), (15, .iload_n 2, 1, 0, 0, 0, .null)]),
  (34, [(16, .iconst 1, 1, 0, 0, 0, .null), (17, .iadd, 1, 0, 0, 0, .null), (18, .aload_n 0, 1, 0, 0, 0, .null), (19, .getfield 63, 3, 8, 10, 651, .null), (22, .irem, 1, 0, 0, 0, .null), (23, .istore 6, 2, 0, 0, 0, .null), (25, .iload 4, 2, 0, 0, 0, .null), (27, .iload 5, 2, 0, 0, 0, .null), (29, .if_icmp .ne 13, 3, 0, 0, 0, .null), (32, .aload_n 0, 1, 0, 0, 0, .null), (33, .iload_n 3, 1, 0, 0, 0, .null), (34, .iload 4, 2, 0, 0, 0, .null)]),
  (58, [(36, .iload 6, 2, 0, 0, 0, .null), (38, .invokevirtual 75, 3, 102, 0, 738, .null), (41, .ireturn, 1, 0, 0, 0, .null), (42, .iload 6, 2, 0, 0, 0, .null), (44, .iload_n 3, 1, 0, 0, 0, .null), (45, .if_icmp .ne 14, 3, 0, 0, 0, .null), (48, .aload_n 0, 1, 0, 0, 0, .null), (49, .iload 5, 2, 0, 0, 0, .null), (51, .iload 6, 2, 0, 0, 0, .null), (53, .iload 4, 2, 0, 0, 0, .null), (55, .invokevirtual 75, 3, 102, 0, 738, .null), (58, .ireturn, 1, 0, 0, 0, .null)]),
  (77, [(59, .aload_n 0, 1, 0, 0, 0, .null), (60, .getfield 41, 3, 8, 11, 652, .null), (63, .iload_n 3, 1, 0, 0, 0, .null), (64, .iaload, 1, 0, 0, 0, .null), (65, .aload_n 0, 1, 0, 0, 0, .null), (66, .getfield 44, 3, 8, 12, 653, .null), (69, .iload_n 3, 1, 0, 0, 0, .null), (70, .iaload, 1, 0, 0, 0, .null), (71, .aload_n 0, 1, 0, 0, 0, .null), (72, .getfield 41, 3, 8, 11, 652, .null), (75, .iload 4, 2, 0, 0, 0, .null), (77, .iaload, 1, 0, 0, 0, .null)]),
  (98, [(78, .aload_n 0, 1, 0, 0, 0, .null), (79, .getfield 44, 3, 8, 12, 653, .null), (82, .iload 4, 2, 0, 0, 0, .null), (84, .iaload, 1, 0, 0, 0, .null), (85, .aload_n 0, 1, 0, 0, 0, .null), (86, .getfield 41, 3, 8, 11, 652, .null), (89, .iload 5, 2, 0, 0, 0, .null), (91, .iaload, 1, 0, 0, 0, .null), (92, .aload_n 0, 1, 0, 0, 0, .null), (93, .getfield 44, 3, 8, 12, 653, .null), (96, .iload 5, 2, 0, 0, 0, .null), (98, .iaload, 1, 0, 0, 0, .null)]),
  (118, [(99, .invokestatic 78, 3, 104, 0, 745, .null), (102, .ifCond .ne 49, 3, 0, 0, 0, .null), (105, .aload_n 0, 1, 0, 0, 0, .null), (106, .getfield 41, 3, 8, 11, 652, .null), (109, .iload_n 3, 1, 0, 0, 0, .null), (110, .iaload, 1, 0, 0, 0, .null), (111, .aload_n 0, 1, 0, 0, 0, .null), (112, .getfield 44, 3, 8, 12, 653, .null), (115, .iload_n 3, 1, 0, 0, 0, .null), (116, .iaload, 1, 0, 0, 0, .null), (117, .aload_n 0, 1, 0, 0, 0, .null), (118, .getfield 41, 3, 8, 11, 652, .null)]),
  (139, [(121, .iload 4, 2, 0, 0, 0, .null), (123, .iaload, 1, 0, 0, 0, .null), (124, .aload_n 0, 1, 0, 0, 0, .null), (125, .getfield 44, 3, 8, 12, 653, .null), (128, .iload 4, 2, 0, 0, 0, .null), (130, .iaload, 1, 0, 0, 0, .null), (131, .aload_n 0, 1, 0, 0, 0, .null), (132, .getfield 41, 3, 8, 11, 652, .null), (135, .iload 6, 2, 0, 0, 0, .null), (137, .iaload, 1, 0, 0, 0, .null), (138, .aload_n 0, 1, 0, 0, 0, .null), (139, .getfield 44, 3, 8, 12, 653, .null)]),
  (164, [(142, .iload 6, 2, 0, 0, 0, .null), (144, .iaload, 1, 0, 0, 0, .null), (145, .invokestatic 78, 3, 104, 0, 745, .null), (148, .ifCond .eq 7, 3, 0, 0, 0, .null), (151, .iconst 1, 1, 0, 0, 0, .null), (152, .goto 4, 3, 0, 0, 0, .null), (155, .iconst 0, 1, 0, 0, 0, .null), (156, .istore 7, 2, 0, 0, 0, .null), (158, .iload 7, 2, 0, 0, 0, .null), (160, .ifCond .ne 97, 3, 0, 0, 0, .null), (163, .aload_n 0, 1, 0, 0, 0, .null), (164, .getfield 41, 3, 8, 11, 652, .null)]),
  (185, [(167, .iload 5, 2, 0, 0, 0, .null), (169, .iaload, 1, 0, 0, 0, .null), (170, .aload_n 0, 1, 0, 0, 0, .null), (171, .getfield 44, 3, 8, 12, 653, .null), (174, .iload 5, 2, 0, 0, 0, .null), (176, .iaload, 1, 0, 0, 0, .null), (177, .aload_n 0, 1, 0, 0, 0, .null), (178, .getfield 41, 3, 8, 11, 652, .null), (181, .iload 6, 2, 0, 0, 0, .null), (183, .iaload, 1, 0, 0, 0, .null), (184, .aload_n 0, 1, 0, 0, 0, .null), (185, .getfield 44, 3, 8, 12, 653, .null)]),
  (206, [(188, .iload 6, 2, 0, 0, 0, .null), (190, .iaload, 1, 0, 0, 0, .null), (191, .aload_n 0, 1, 0, 0, 0, .null), (192, .getfield 41, 3, 8, 11, 652, .null), (195, .iload_n 3, 1, 0, 0, 0, .null), (196, .iaload, 1, 0, 0, 0, .null), (197, .aload_n 0, 1, 0, 0, 0, .null), (198, .getfield 44, 3, 8, 12, 653, .null), (201, .iload_n 3, 1, 0, 0, 0, .null), (202, .iaload, 1, 0, 0, 0, .null), (203, .invokestatic 78, 3, 104, 0, 745, .null), (206, .ifCond .ne 51, 3, 0, 0, 0, .null)]),
  (229, [(209, .aload_n 0, 1, 0, 0, 0, .null), (210, .getfield 41, 3, 8, 11, 652, .null), (213, .iload 5, 2, 0, 0, 0, .null), (215, .iaload, 1, 0, 0, 0, .null), (216, .aload_n 0, 1, 0, 0, 0, .null), (217, .getfield 44, 3, 8, 12, 653, .null), (220, .iload 5, 2, 0, 0, 0, .null), (222, .iaload, 1, 0, 0, 0, .null), (223, .aload_n 0, 1, 0, 0, 0, .null), (224, .getfield 41, 3, 8, 11, 652, .null), (227, .iload 6, 2, 0, 0, 0, .null), (229, .iaload, 1, 0, 0, 0, .null)]),
  (250, [(230, .aload_n 0, 1, 0, 0, 0, .null), (231, .getfield 44, 3, 8, 12, 653, .null), (234, .iload 6, 2, 0, 0, 0, .null), (236, .iaload, 1, 0, 0, 0, .null), (237, .aload_n 0, 1, 0, 0, 0, .null), (238, .getfield 41, 3, 8, 11, 652, .null), (241, .iload 4, 2, 0, 0, 0, .null), (243, .iaload, 1, 0, 0, 0, .null), (244, .aload_n 0, 1, 0, 0, 0, .null), (245, .getfield 44, 3, 8, 12, 653, .null), (248, .iload 4, 2, 0, 0, 0, .null), (250, .iaload, 1, 0, 0, 0, .null)]),
  (273, [(251, .invokestatic 78, 3, 104, 0, 745, .null), (254, .ifCond .eq 7, 3, 0, 0, 0, .null), (257, .iconst 1, 1, 0, 0, 0, .null), (258, .goto 4, 3, 0, 0, 0, .null), (261, .iconst 0, 1, 0, 0, 0, .null), (262, .istore 7, 2, 0, 0, 0, .null), (264, .iload 7, 2, 0, 0, 0, .null), (266, .ifCond .ne 31, 3, 0, 0, 0, .null), (269, .aload_n 0, 1, 0, 0, 0, .null), (270, .iload_n 3, 1, 0, 0, 0, .null), (271, .iload 4, 2, 0, 0, 0, .null), (273, .iload 5, 2, 0, 0, 0, .null)]),
  (298, [(275, .iload 6, 2, 0, 0, 0, .null), (277, .invokevirtual 82, 3, 106, 0, 751, .null), (280, .ifCond .eq 21, 3, 0, 0, 0, .null), (283, .aload_n 0, 1, 0, 0, 0, .null), (284, .iload 5, 2, 0, 0, 0, .null), (286, .iload 6, 2, 0, 0, 0, .null), (288, .iload_n 3, 1, 0, 0, 0, .null), (289, .iload 4, 2, 0, 0, 0, .null), (291, .invokevirtual 82, 3, 106, 0, 751, .null), (294, .ifCond .eq 7, 3, 0, 0, 0, .null), (297, .iconst 1, 1, 0, 0, 0, .null), (298, .goto 4, 3, 0, 0, 0, .null)]),
  (302, [(301, .iconst 0, 1, 0, 0, 0, .null), (302, .ireturn, 1, 0, 0, 0, .null)])]
noncomputable def M_Mo_clash : zM := (y_Mo_clash, prog_10_method_6_code, 8, (Option.some FieldType.boolean), 2, (0, 0, 0, 8), 1, k_Mo_clash)
set_option maxRecDepth 100000 in
theorem x_Mo_clash : (k_Mo_clash.all fun g => g.2.all (zxo R_Mo prog_10_method_6_code 8 false)) = true := by decide +kernel
set_option maxRecDepth 100000 in
theorem o_Mo_clash : zMo 101 M_Mo_clash := ⟨rfl, zmm (k := 737) rfl rfl, zmm (k := 66) (by decide +kernel) rfl, by decide +kernel, by decide +kernel, fun h => (by cases h), fun _ => ⟨zmm (k := 736) (by decide +kernel) rfl, zmm (k := 26) (by decide +kernel) rfl, (R_Mo, T_Mo, 26), rfl, rfl⟩, fun h => (by cases h), zall x_Mo_clash⟩
noncomputable def k_Mo_stuck : List (Nat × List zE) := [(17, [(0, .aload_n 0, 1, 0, 0, 0, .null), (1, .getfield 41, 3, 8, 11, 652, .null), (4, .iload_n 1, 1, 0, 0, 0, .null), (5, .iaload, 1, 0, 0, 0, .null), (6, .aload_n 0, 1, 0, 0, 0, .null), (7, .getfield 41, 3, 8, 11, 652, .null), (10, .iload_n 2, 1, 0, 0, 0, .null), (11, .iaload, 1, 0, 0, 0, .null), (12, .isub, 1, 0, 0, 0, .null), (13, .aload_n 0, 1, 0, 0, 0, .null), (14, .getfield 41, 3, 8, 11, 652, .null), (17, .iload_n 3, 1, 0, 0, 0, .null)]),
  (33, [(18, .iaload, 1, 0, 0, 0, .null), (19, .aload_n 0, 1, 0, 0, 0, .null), (20, .getfield 41, 3, 8, 11, 652, .null), (23, .iload_n 2, 1, 0, 0, 0, .null), (24, .iaload, 1, 0, 0, 0, .null), (25, .isub, 1, 0, 0, 0, .null), (26, .imul, 1, 0, 0, 0, .null), (27, .aload_n 0, 1, 0, 0, 0, .null), (28, .getfield 44, 3, 8, 12, 653, .null), (31, .iload_n 1, 1, 0, 0, 0, .null), (32, .iaload, 1, 0, 0, 0, .null), (33, .aload_n 0, 1, 0, 0, 0, .null)]),
  (51, [(34, .getfield 44, 3, 8, 12, 653, .null), (37, .iload_n 2, 1, 0, 0, 0, .null), (38, .iaload, 1, 0, 0, 0, .null), (39, .isub, 1, 0, 0, 0, .null), (40, .aload_n 0, 1, 0, 0, 0, .null), (41, .getfield 44, 3, 8, 12, 653, .null), (44, .iload_n 3, 1, 0, 0, 0, .null), (45, .iaload, 1, 0, 0, 0, .null), (46, .aload_n 0, 1, 0, 0, 0, .null), (47, .getfield 44, 3, 8, 12, 653, .null), (50, .iload_n 2, 1, 0, 0, 0, .null), (51, .iaload, 1, 0, 0, 0, .null)]),
  (68, [(52, .isub, 1, 0, 0, 0, .null), (53, .imul, 1, 0, 0, 0, .null), (54, .iadd, 1, 0, 0, 0, .null), (55, .istore 4, 2, 0, 0, 0, .null), (57, .aload_n 0, 1, 0, 0, 0, .null), (58, .getfield 41, 3, 8, 11, 652, .null), (61, .iload_n 1, 1, 0, 0, 0, .null), (62, .iaload, 1, 0, 0, 0, .null), (63, .aload_n 0, 1, 0, 0, 0, .null), (64, .getfield 44, 3, 8, 12, 653, .null), (67, .iload_n 1, 1, 0, 0, 0, .null), (68, .iaload, 1, 0, 0, 0, .null)]),
  (86, [(69, .aload_n 0, 1, 0, 0, 0, .null), (70, .getfield 41, 3, 8, 11, 652, .null), (73, .iload_n 2, 1, 0, 0, 0, .null), (74, .iaload, 1, 0, 0, 0, .null), (75, .aload_n 0, 1, 0, 0, 0, .null), (76, .getfield 44, 3, 8, 12, 653, .null), (79, .iload_n 2, 1, 0, 0, 0, .null), (80, .iaload, 1, 0, 0, 0, .null), (81, .aload_n 0, 1, 0, 0, 0, .null), (82, .getfield 41, 3, 8, 11, 652, .null), (85, .iload_n 3, 1, 0, 0, 0, .null), (86, .iaload, 1, 0, 0, 0, .null)]),
  (107, [(87, .aload_n 0, 1, 0, 0, 0, .null), (88, .getfield 44, 3, 8, 12, 653, .null), (91, .iload_n 3, 1, 0, 0, 0, .null), (92, .iaload, 1, 0, 0, 0, .null), (93, .invokestatic 67, 3, 103, 0, 742, .null), (96, .lconst 0, 1, 0, 0, 0, .null), (97, .lcmp, 1, 0, 0, 0, .null), (98, .ifCond .ne 12, 3, 0, 0, 0, .null), (101, .iload 4, 2, 0, 0, 0, .null), (103, .ifCond .le 7, 3, 0, 0, 0, .null), (106, .iconst 1, 1, 0, 0, 0, .null), (107, .goto 4, 3, 0, 0, 0, .null)]),
  (111, [(110, .iconst 0, 1, 0, 0, 0, .null), (111, .ireturn, 1, 0, 0, 0, .null)])]
noncomputable def M_Mo_stuck : zM := (y_Mo_stuck, prog_10_method_8_code, 5, (Option.some FieldType.boolean), 3, (0, 0, 0, 8), 1, k_Mo_stuck)
set_option maxRecDepth 100000 in
theorem x_Mo_stuck : (k_Mo_stuck.all fun g => g.2.all (zxo R_Mo prog_10_method_8_code 5 false)) = true := by decide +kernel
set_option maxRecDepth 100000 in
theorem o_Mo_stuck : zMo 102 M_Mo_stuck := ⟨rfl, zmm (k := 741) rfl rfl, zmm (k := 66) (by decide +kernel) rfl, by decide +kernel, by decide +kernel, fun h => (by cases h), fun _ => ⟨zmm (k := 740) (by decide +kernel) rfl, zmm (k := 27) (by decide +kernel) rfl, (R_Mo, T_Mo, 26), rfl, rfl⟩, fun h => (by cases h), zall x_Mo_stuck⟩
noncomputable def k_Mo_cross : List (Nat × List zE) := [(12, [(0, .iload_n 2, 1, 0, 0, 0, .null), (1, .iload_n 0, 1, 0, 0, 0, .null), (2, .isub, 1, 0, 0, 0, .null), (3, .i2l, 1, 0, 0, 0, .null), (4, .iload 5, 2, 0, 0, 0, .null), (6, .iload_n 1, 1, 0, 0, 0, .null), (7, .isub, 1, 0, 0, 0, .null), (8, .i2l, 1, 0, 0, 0, .null), (9, .lmul, 1, 0, 0, 0, .null), (10, .iload_n 3, 1, 0, 0, 0, .null), (11, .iload_n 1, 1, 0, 0, 0, .null), (12, .isub, 1, 0, 0, 0, .null)]),
  (21, [(13, .i2l, 1, 0, 0, 0, .null), (14, .iload 4, 2, 0, 0, 0, .null), (16, .iload_n 0, 1, 0, 0, 0, .null), (17, .isub, 1, 0, 0, 0, .null), (18, .i2l, 1, 0, 0, 0, .null), (19, .lmul, 1, 0, 0, 0, .null), (20, .lsub, 1, 0, 0, 0, .null), (21, .lreturn, 1, 0, 0, 0, .null)])]
noncomputable def M_Mo_cross : zM := (y_Mo_cross, prog_10_method_3_code, 6, (Option.some FieldType.long), 6, (0, 0, 0, 8), 0, k_Mo_cross)
set_option maxRecDepth 100000 in
theorem x_Mo_cross : (k_Mo_cross.all fun g => g.2.all (zxo R_Mo prog_10_method_3_code 6 false)) = true := by decide +kernel
set_option maxRecDepth 100000 in
theorem o_Mo_cross : zMo 103 M_Mo_cross := ⟨rfl, zmm (k := 744) rfl rfl, zmm (k := 66) (by decide +kernel) rfl, by decide +kernel, by decide +kernel, fun _ => zmm (k := 743) (by decide +kernel) rfl, fun h => (by cases h), fun h => (by cases h), zall x_Mo_cross⟩
noncomputable def k_Mo_on : List (Nat × List zE) := [(17, [(0, .iload_n 0, 1, 0, 0, 0, .null), (1, .iload_n 1, 1, 0, 0, 0, .null), (2, .iload_n 2, 1, 0, 0, 0, .null), (3, .iload_n 3, 1, 0, 0, 0, .null), (4, .iload 4, 2, 0, 0, 0, .null), (6, .iload 5, 2, 0, 0, 0, .null), (8, .invokestatic 67, 3, 103, 0, 742, .null), (11, .lconst 0, 1, 0, 0, 0, .null), (12, .lcmp, 1, 0, 0, 0, .null), (13, .ifCond .ne 27, 3, 0, 0, 0, .null), (16, .iload_n 0, 1, 0, 0, 0, .null), (17, .iload 4, 2, 0, 0, 0, .null)]),
  (41, [(19, .iload_n 2, 1, 0, 0, 0, .null), (20, .invokestatic 71, 3, 105, 0, 748, .null), (23, .ifCond .eq 17, 3, 0, 0, 0, .null), (26, .iload_n 1, 1, 0, 0, 0, .null), (27, .iload 5, 2, 0, 0, 0, .null), (29, .iload_n 3, 1, 0, 0, 0, .null), (30, .invokestatic 71, 3, 105, 0, 748, .null), (33, .ifCond .eq 7, 3, 0, 0, 0, .null), (36, .iconst 1, 1, 0, 0, 0, .null), (37, .goto 4, 3, 0, 0, 0, .null), (40, .iconst 0, 1, 0, 0, 0, .null), (41, .ireturn, 1, 0, 0, 0, .null)])]
noncomputable def M_Mo_on : zM := (y_Mo_on, prog_10_method_5_code, 6, (Option.some FieldType.boolean), 6, (0, 0, 0, 8), 0, k_Mo_on)
set_option maxRecDepth 100000 in
theorem x_Mo_on : (k_Mo_on.all fun g => g.2.all (zxo R_Mo prog_10_method_5_code 6 false)) = true := by decide +kernel
set_option maxRecDepth 100000 in
theorem o_Mo_on : zMo 104 M_Mo_on := ⟨rfl, zmm (k := 747) rfl rfl, zmm (k := 66) (by decide +kernel) rfl, by decide +kernel, by decide +kernel, fun _ => zmm (k := 746) (by decide +kernel) rfl, fun h => (by cases h), fun h => (by cases h), zall x_Mo_on⟩
noncomputable def k_Mo_between : List (Nat × List zE) := [(17, [(0, .iload_n 0, 1, 0, 0, 0, .null), (1, .iload_n 1, 1, 0, 0, 0, .null), (2, .if_icmp .gt 8, 3, 0, 0, 0, .null), (5, .iload_n 1, 1, 0, 0, 0, .null), (6, .iload_n 2, 1, 0, 0, 0, .null), (7, .if_icmp .le 13, 3, 0, 0, 0, .null), (10, .iload_n 2, 1, 0, 0, 0, .null), (11, .iload_n 1, 1, 0, 0, 0, .null), (12, .if_icmp .gt 12, 3, 0, 0, 0, .null), (15, .iload_n 1, 1, 0, 0, 0, .null), (16, .iload_n 0, 1, 0, 0, 0, .null), (17, .if_icmp .gt 7, 3, 0, 0, 0, .null)]),
  (25, [(20, .iconst 1, 1, 0, 0, 0, .null), (21, .goto 4, 3, 0, 0, 0, .null), (24, .iconst 0, 1, 0, 0, 0, .null), (25, .ireturn, 1, 0, 0, 0, .null)])]
noncomputable def M_Mo_between : zM := (y_Mo_between, prog_10_method_4_code, 3, (Option.some FieldType.boolean), 3, (0, 0, 0, 8), 0, k_Mo_between)
set_option maxRecDepth 100000 in
theorem x_Mo_between : (k_Mo_between.all fun g => g.2.all (zxo R_Mo prog_10_method_4_code 3 false)) = true := by decide +kernel
set_option maxRecDepth 100000 in
theorem o_Mo_between : zMo 105 M_Mo_between := ⟨rfl, zmm (k := 750) rfl rfl, zmm (k := 66) (by decide +kernel) rfl, by decide +kernel, by decide +kernel, fun _ => zmm (k := 749) (by decide +kernel) rfl, fun h => (by cases h), fun h => (by cases h), zall x_Mo_between⟩
noncomputable def k_Mo_apart : List (Nat × List zE) := [(17, [(0, .aload_n 0, 1, 0, 0, 0, .null), (1, .getfield 41, 3, 8, 11, 652, .null), (4, .iload_n 1, 1, 0, 0, 0, .null), (5, .iaload, 1, 0, 0, 0, .null), (6, .aload_n 0, 1, 0, 0, 0, .null), (7, .getfield 44, 3, 8, 12, 653, .null), (10, .iload_n 1, 1, 0, 0, 0, .null), (11, .iaload, 1, 0, 0, 0, .null), (12, .aload_n 0, 1, 0, 0, 0, .null), (13, .getfield 41, 3, 8, 11, 652, .null), (16, .iload_n 2, 1, 0, 0, 0, .null), (17, .iaload, 1, 0, 0, 0, .null)]),
  (35, [(18, .aload_n 0, 1, 0, 0, 0, .null), (19, .getfield 44, 3, 8, 12, 653, .null), (22, .iload_n 2, 1, 0, 0, 0, .null), (23, .iaload, 1, 0, 0, 0, .null), (24, .aload_n 0, 1, 0, 0, 0, .null), (25, .getfield 41, 3, 8, 11, 652, .null), (28, .iload_n 3, 1, 0, 0, 0, .null), (29, .iaload, 1, 0, 0, 0, .null), (30, .aload_n 0, 1, 0, 0, 0, .null), (31, .getfield 44, 3, 8, 12, 653, .null), (34, .iload_n 3, 1, 0, 0, 0, .null), (35, .iaload, 1, 0, 0, 0, .null)]),
  (54, [(36, .invokestatic 67, 3, 103, 0, 742, .null), (39, .lstore 5, 2, 0, 0, 0, .null), (41, .aload_n 0, 1, 0, 0, 0, .null), (42, .getfield 41, 3, 8, 11, 652, .null), (45, .iload_n 1, 1, 0, 0, 0, .null), (46, .iaload, 1, 0, 0, 0, .null), (47, .aload_n 0, 1, 0, 0, 0, .null), (48, .getfield 44, 3, 8, 12, 653, .null), (51, .iload_n 1, 1, 0, 0, 0, .null), (52, .iaload, 1, 0, 0, 0, .null), (53, .aload_n 0, 1, 0, 0, 0, .null), (54, .getfield 41, 3, 8, 11, 652, .null)]),
  (73, [(57, .iload_n 2, 1, 0, 0, 0, .null), (58, .iaload, 1, 0, 0, 0, .null), (59, .aload_n 0, 1, 0, 0, 0, .null), (60, .getfield 44, 3, 8, 12, 653, .null), (63, .iload_n 2, 1, 0, 0, 0, .null), (64, .iaload, 1, 0, 0, 0, .null), (65, .aload_n 0, 1, 0, 0, 0, .null), (66, .getfield 41, 3, 8, 11, 652, .null), (69, .iload 4, 2, 0, 0, 0, .null), (71, .iaload, 1, 0, 0, 0, .null), (72, .aload_n 0, 1, 0, 0, 0, .null), (73, .getfield 44, 3, 8, 12, 653, .null)]),
  (95, [(76, .iload 4, 2, 0, 0, 0, .null), (78, .iaload, 1, 0, 0, 0, .null), (79, .invokestatic 67, 3, 103, 0, 742, .null), (82, .lstore 7, 2, 0, 0, 0, .null), (84, .lload 5, 2, 0, 0, 0, .null), (86, .lconst 0, 1, 0, 0, 0, .null), (87, .lcmp, 1, 0, 0, 0, .null), (88, .ifCond .ge 10, 3, 0, 0, 0, .null), (91, .lload 7, 2, 0, 0, 0, .null), (93, .lconst 0, 1, 0, 0, 0, .null), (94, .lcmp, 1, 0, 0, 0, .null), (95, .ifCond .gt 17, 3, 0, 0, 0, .null)]),
  (117, [(98, .lload 5, 2, 0, 0, 0, .null), (100, .lconst 0, 1, 0, 0, 0, .null), (101, .lcmp, 1, 0, 0, 0, .null), (102, .ifCond .le 14, 3, 0, 0, 0, .null), (105, .lload 7, 2, 0, 0, 0, .null), (107, .lconst 0, 1, 0, 0, 0, .null), (108, .lcmp, 1, 0, 0, 0, .null), (109, .ifCond .ge 7, 3, 0, 0, 0, .null), (112, .iconst 1, 1, 0, 0, 0, .null), (113, .goto 4, 3, 0, 0, 0, .null), (116, .iconst 0, 1, 0, 0, 0, .null), (117, .ireturn, 1, 0, 0, 0, .null)])]
noncomputable def M_Mo_apart : zM := (y_Mo_apart, prog_10_method_7_code, 9, (Option.some FieldType.boolean), 4, (0, 0, 0, 8), 1, k_Mo_apart)
set_option maxRecDepth 100000 in
theorem x_Mo_apart : (k_Mo_apart.all fun g => g.2.all (zxo R_Mo prog_10_method_7_code 9 false)) = true := by decide +kernel
set_option maxRecDepth 100000 in
theorem o_Mo_apart : zMo 106 M_Mo_apart := ⟨rfl, zmm (k := 754) rfl rfl, zmm (k := 66) (by decide +kernel) rfl, by decide +kernel, by decide +kernel, fun h => (by cases h), fun _ => ⟨zmm (k := 753) (by decide +kernel) rfl, zmm (k := 28) (by decide +kernel) rfl, (R_Mo, T_Mo, 26), rfl, rfl⟩, fun h => (by cases h), zall x_Mo_apart⟩
noncomputable def k_Mo_bind : List (Nat × List zE) := [(17, [(0, .aload_n 0, 1, 0, 0, 0, .null), (1, .getfield 29, 3, 8, 6, 647, .null), (4, .iload_n 1, 1, 0, 0, 0, .null), (5, .sipush 255, 3, 0, 0, 0, .null), (8, .iastore, 1, 0, 0, 0, .null), (9, .aload_n 0, 1, 0, 0, 0, .null), (10, .getfield 32, 3, 8, 7, 648, .null), (13, .iload_n 1, 1, 0, 0, 0, .null), (14, .iconst 0, 1, 0, 0, 0, .null), (15, .iastore, 1, 0, 0, 0, .null), (16, .aload_n 0, 1, 0, 0, 0, .null), (17, .getfield 35, 3, 8, 8, 649, .null)]),
  (36, [(20, .iload_n 1, 1, 0, 0, 0, .null), (21, .sipush 255, 3, 0, 0, 0, .null), (24, .iastore, 1, 0, 0, 0, .null), (25, .aload_n 0, 1, 0, 0, 0, .null), (26, .getfield 38, 3, 8, 9, 650, .null), (29, .iload_n 1, 1, 0, 0, 0, .null), (30, .iconst 0, 1, 0, 0, 0, .null), (31, .iastore, 1, 0, 0, 0, .null), (32, .bipush 6, 2, 0, 0, 0, .null), (34, .iload_n 1, 1, 0, 0, 0, .null), (35, .imul, 1, 0, 0, 0, .null), (36, .istore_n 2, 1, 0, 0, 0, .null)]),
  (53, [(37, .iload_n 2, 1, 0, 0, 0, .null), (38, .bipush 6, 2, 0, 0, 0, .null), (40, .iload_n 1, 1, 0, 0, 0, .null), (41, .imul, 1, 0, 0, 0, .null), (42, .aload_n 0, 1, 0, 0, 0, .null), (43, .getfield 20, 3, 8, 3, 644, .null), (46, .iload_n 1, 1, 0, 0, 0, .null), (47, .iaload, 1, 0, 0, 0, .null), (48, .iadd, 1, 0, 0, 0, .null), (49, .if_icmp .ge 153, 3, 0, 0, 0, .null), (52, .aload_n 0, 1, 0, 0, 0, .null), (53, .getfield 29, 3, 8, 6, 647, .null)]),
  (73, [(56, .iload_n 1, 1, 0, 0, 0, .null), (57, .aload_n 0, 1, 0, 0, 0, .null), (58, .getfield 23, 3, 8, 4, 645, .null), (61, .iload_n 2, 1, 0, 0, 0, .null), (62, .iaload, 1, 0, 0, 0, .null), (63, .aload_n 0, 1, 0, 0, 0, .null), (64, .getfield 29, 3, 8, 6, 647, .null), (67, .iload_n 1, 1, 0, 0, 0, .null), (68, .iaload, 1, 0, 0, 0, .null), (69, .if_icmp .ge 12, 3, 0, 0, 0, .null), (72, .aload_n 0, 1, 0, 0, 0, .null), (73, .getfield 23, 3, 8, 4, 645, .null)]),
  (93, [(76, .iload_n 2, 1, 0, 0, 0, .null), (77, .iaload, 1, 0, 0, 0, .null), (78, .goto 9, 3, 0, 0, 0, .null), (81, .aload_n 0, 1, 0, 0, 0, .null), (82, .getfield 29, 3, 8, 6, 647, .null), (85, .iload_n 1, 1, 0, 0, 0, .null), (86, .iaload, 1, 0, 0, 0, .null), (87, .iastore, 1, 0, 0, 0, .null), (88, .aload_n 0, 1, 0, 0, 0, .null), (89, .getfield 32, 3, 8, 7, 648, .null), (92, .iload_n 1, 1, 0, 0, 0, .null), (93, .aload_n 0, 1, 0, 0, 0, .null)]),
  (113, [(94, .getfield 23, 3, 8, 4, 645, .null), (97, .iload_n 2, 1, 0, 0, 0, .null), (98, .iaload, 1, 0, 0, 0, .null), (99, .aload_n 0, 1, 0, 0, 0, .null), (100, .getfield 32, 3, 8, 7, 648, .null), (103, .iload_n 1, 1, 0, 0, 0, .null), (104, .iaload, 1, 0, 0, 0, .null), (105, .if_icmp .le 12, 3, 0, 0, 0, .null), (108, .aload_n 0, 1, 0, 0, 0, .null), (109, .getfield 23, 3, 8, 4, 645, .null), (112, .iload_n 2, 1, 0, 0, 0, .null), (113, .iaload, 1, 0, 0, 0, .null)]),
  (133, [(114, .goto 9, 3, 0, 0, 0, .null), (117, .aload_n 0, 1, 0, 0, 0, .null), (118, .getfield 32, 3, 8, 7, 648, .null), (121, .iload_n 1, 1, 0, 0, 0, .null), (122, .iaload, 1, 0, 0, 0, .null), (123, .iastore, 1, 0, 0, 0, .null), (124, .aload_n 0, 1, 0, 0, 0, .null), (125, .getfield 35, 3, 8, 8, 649, .null), (128, .iload_n 1, 1, 0, 0, 0, .null), (129, .aload_n 0, 1, 0, 0, 0, .null), (130, .getfield 26, 3, 8, 5, 646, .null), (133, .iload_n 2, 1, 0, 0, 0, .null)]),
  (153, [(134, .iaload, 1, 0, 0, 0, .null), (135, .aload_n 0, 1, 0, 0, 0, .null), (136, .getfield 35, 3, 8, 8, 649, .null), (139, .iload_n 1, 1, 0, 0, 0, .null), (140, .iaload, 1, 0, 0, 0, .null), (141, .if_icmp .ge 12, 3, 0, 0, 0, .null), (144, .aload_n 0, 1, 0, 0, 0, .null), (145, .getfield 26, 3, 8, 5, 646, .null), (148, .iload_n 2, 1, 0, 0, 0, .null), (149, .iaload, 1, 0, 0, 0, .null), (150, .goto 9, 3, 0, 0, 0, .null), (153, .aload_n 0, 1, 0, 0, 0, .null)]),
  (171, [(154, .getfield 35, 3, 8, 8, 649, .null), (157, .iload_n 1, 1, 0, 0, 0, .null), (158, .iaload, 1, 0, 0, 0, .null), (159, .iastore, 1, 0, 0, 0, .null), (160, .aload_n 0, 1, 0, 0, 0, .null), (161, .getfield 38, 3, 8, 9, 650, .null), (164, .iload_n 1, 1, 0, 0, 0, .null), (165, .aload_n 0, 1, 0, 0, 0, .null), (166, .getfield 26, 3, 8, 5, 646, .null), (169, .iload_n 2, 1, 0, 0, 0, .null), (170, .iaload, 1, 0, 0, 0, .null), (171, .aload_n 0, 1, 0, 0, 0, .null)]),
  (193, [(172, .getfield 38, 3, 8, 9, 650, .null), (175, .iload_n 1, 1, 0, 0, 0, .null), (176, .iaload, 1, 0, 0, 0, .null), (177, .if_icmp .le 12, 3, 0, 0, 0, .null), (180, .aload_n 0, 1, 0, 0, 0, .null), (181, .getfield 26, 3, 8, 5, 646, .null), (184, .iload_n 2, 1, 0, 0, 0, .null), (185, .iaload, 1, 0, 0, 0, .null), (186, .goto 9, 3, 0, 0, 0, .null), (189, .aload_n 0, 1, 0, 0, 0, .null), (190, .getfield 38, 3, 8, 9, 650, .null), (193, .iload_n 1, 1, 0, 0, 0, .null)]),
  (202, [(194, .iaload, 1, 0, 0, 0, .null), (195, .iastore, 1, 0, 0, 0, .null), (196, .iinc 2 1, 3, 0, 0, 0, .null), (199, .goto (-162), 3, 0, 0, 0, .null), (202, .return_, 1, 0, 0, 0, .null)])]
noncomputable def M_Mo_bind : zM := (y_Mo_bind, prog_10_method_11_code, 3, (Option.none : Option FieldType), 1, (0, 0, 0, 8), 1, k_Mo_bind)
set_option maxRecDepth 100000 in
theorem x_Mo_bind : (k_Mo_bind.all fun g => g.2.all (zxo R_Mo prog_10_method_11_code 3 false)) = true := by decide +kernel
set_option maxRecDepth 100000 in
theorem o_Mo_bind : zMo 107 M_Mo_bind := ⟨rfl, zmm (k := 758) rfl rfl, zmm (k := 66) (by decide +kernel) rfl, by decide +kernel, by decide +kernel, fun h => (by cases h), fun _ => ⟨zmm (k := 757) (by decide +kernel) rfl, zmm (k := 29) (by decide +kernel) rfl, (R_Mo, T_Mo, 26), rfl, rfl⟩, fun h => (by cases h), zall x_Mo_bind⟩
noncomputable def k_Mo_insert : List (Nat × List zE) := [(22, [(0, .iload_n 1, 1, 0, 0, 0, .null), (1, .invokestatic 170, 3, 109, 0, 763, .null), (4, .ifCond .eq 23, 3, 0, 0, 0, .null), (7, .aload_n 0, 1, 0, 0, 0, .null), (8, .getfield 7, 3, 8, 0, 641, .null), (11, .bipush 64, 2, 0, 0, 0, .null), (13, .baload, 1, 0, 0, 0, .null), (14, .ifCond .eq 13, 3, 0, 0, 0, .null), (17, .aload_n 0, 1, 0, 0, 0, .null), (18, .iload_n 1, 1, 0, 0, 0, .null), (19, .invokevirtual 174, 3, 110, 0, 766, .null), (22, .bipush 16, 2, 0, 0, 0, .null)]),
  (40, [(24, .if_icmp .ne 5, 3, 0, 0, 0, .null), (27, .iconst (-1), 1, 0, 0, 0, .null), (28, .ireturn, 1, 0, 0, 0, .null), (29, .iconst 0, 1, 0, 0, 0, .null), (30, .istore_n 3, 1, 0, 0, 0, .null), (31, .aload_n 0, 1, 0, 0, 0, .null), (32, .getfield 7, 3, 8, 0, 641, .null), (35, .bipush 16, 2, 0, 0, 0, .null), (37, .iload_n 1, 1, 0, 0, 0, .null), (38, .imul, 1, 0, 0, 0, .null), (39, .iload_n 3, 1, 0, 0, 0, .null), (40, .iadd, 1, 0, 0, 0, .null)]),
  (60, [(41, .baload, 1, 0, 0, 0, .null), (42, .ifCond .eq 9, 3, 0, 0, 0, .null), (45, .iinc 3 1, 3, 0, 0, 0, .null), (48, .goto (-17), 3, 0, 0, 0, .null), (51, .bipush 16, 2, 0, 0, 0, .null), (53, .iload_n 1, 1, 0, 0, 0, .null), (54, .imul, 1, 0, 0, 0, .null), (55, .iload_n 3, 1, 0, 0, 0, .null), (56, .iadd, 1, 0, 0, 0, .null), (57, .istore 4, 2, 0, 0, 0, .null), (59, .aload_n 0, 1, 0, 0, 0, .null), (60, .getfield 7, 3, 8, 0, 641, .null)]),
  (80, [(63, .iload 4, 2, 0, 0, 0, .null), (65, .iconst 1, 1, 0, 0, 0, .null), (66, .bastore, 1, 0, 0, 0, .null), (67, .aload_n 0, 1, 0, 0, 0, .null), (68, .getfield 13, 3, 8, 1, 642, .null), (71, .iload 4, 2, 0, 0, 0, .null), (73, .iload_n 2, 1, 0, 0, 0, .null), (74, .iastore, 1, 0, 0, 0, .null), (75, .aload_n 0, 1, 0, 0, 0, .null), (76, .bipush 64, 2, 0, 0, 0, .null), (78, .iload 4, 2, 0, 0, 0, .null), (80, .invokevirtual 177, 3, 111, 0, 770, .null)]),
  (84, [(83, .iload_n 3, 1, 0, 0, 0, .null), (84, .ireturn, 1, 0, 0, 0, .null)])]
noncomputable def M_Mo_insert : zM := (y_Mo_insert, prog_10_method_33_code, 5, (Option.some FieldType.int), 2, (0, 0, 0, 8), 1, k_Mo_insert)
set_option maxRecDepth 100000 in
theorem x_Mo_insert : (k_Mo_insert.all fun g => g.2.all (zxo R_Mo prog_10_method_33_code 5 false)) = true := by decide +kernel
set_option maxRecDepth 100000 in
theorem o_Mo_insert : zMo 108 M_Mo_insert := ⟨rfl, zmm (k := 762) rfl rfl, zmm (k := 66) (by decide +kernel) rfl, by decide +kernel, by decide +kernel, fun h => (by cases h), fun _ => ⟨zmm (k := 760) (by decide +kernel) rfl, zmm (k := 761) (by decide +kernel) rfl, (R_Mo, T_Mo, 26), rfl, rfl⟩, fun h => (by cases h), zall x_Mo_insert⟩
noncomputable def k_Mo_isTable : List (Nat × List zE) := [(14, [(0, .iload_n 0, 1, 0, 0, 0, .null), (1, .ifCond .eq 8, 3, 0, 0, 0, .null), (4, .iload_n 0, 1, 0, 0, 0, .null), (5, .iconst 1, 1, 0, 0, 0, .null), (6, .if_icmp .ne 7, 3, 0, 0, 0, .null), (9, .iconst 1, 1, 0, 0, 0, .null), (10, .goto 4, 3, 0, 0, 0, .null), (13, .iconst 0, 1, 0, 0, 0, .null), (14, .ireturn, 1, 0, 0, 0, .null)])]
noncomputable def M_Mo_isTable : zM := (y_Mo_isTable, prog_10_method_30_code, 1, (Option.some FieldType.boolean), 1, (0, 0, 0, 8), 0, k_Mo_isTable)
set_option maxRecDepth 100000 in
theorem x_Mo_isTable : (k_Mo_isTable.all fun g => g.2.all (zxo R_Mo prog_10_method_30_code 1 false)) = true := by decide +kernel
set_option maxRecDepth 100000 in
theorem o_Mo_isTable : zMo 109 M_Mo_isTable := ⟨rfl, zmm (k := 765) rfl rfl, zmm (k := 66) (by decide +kernel) rfl, by decide +kernel, by decide +kernel, fun _ => zmm (k := 764) (by decide +kernel) rfl, fun h => (by cases h), fun h => (by cases h), zall x_Mo_isTable⟩
noncomputable def k_Mo_size : List (Nat × List zE) := [(14, [(0, .iconst 0, 1, 0, 0, 0, .null), (1, .istore_n 2, 1, 0, 0, 0, .null), (2, .bipush 16, 2, 0, 0, 0, .null), (4, .iload_n 1, 1, 0, 0, 0, .null), (5, .imul, 1, 0, 0, 0, .null), (6, .istore_n 3, 1, 0, 0, 0, .null), (7, .iload_n 3, 1, 0, 0, 0, .null), (8, .bipush 16, 2, 0, 0, 0, .null), (10, .iload_n 1, 1, 0, 0, 0, .null), (11, .imul, 1, 0, 0, 0, .null), (12, .bipush 16, 2, 0, 0, 0, .null), (14, .iadd, 1, 0, 0, 0, .null)]),
  (34, [(15, .if_icmp .ge 26, 3, 0, 0, 0, .null), (18, .iload_n 2, 1, 0, 0, 0, .null), (19, .aload_n 0, 1, 0, 0, 0, .null), (20, .getfield 7, 3, 8, 0, 641, .null), (23, .iload_n 3, 1, 0, 0, 0, .null), (24, .baload, 1, 0, 0, 0, .null), (25, .ifCond .eq 7, 3, 0, 0, 0, .null), (28, .iconst 1, 1, 0, 0, 0, .null), (29, .goto 4, 3, 0, 0, 0, .null), (32, .iconst 0, 1, 0, 0, 0, .null), (33, .iadd, 1, 0, 0, 0, .null), (34, .istore_n 2, 1, 0, 0, 0, .null)]),
  (42, [(35, .iinc 3 1, 3, 0, 0, 0, .null), (38, .goto (-31), 3, 0, 0, 0, .null), (41, .iload_n 2, 1, 0, 0, 0, .null), (42, .ireturn, 1, 0, 0, 0, .null)])]
noncomputable def M_Mo_size : zM := (y_Mo_size, prog_10_method_31_code, 4, (Option.some FieldType.int), 1, (0, 0, 0, 8), 1, k_Mo_size)
set_option maxRecDepth 100000 in
theorem x_Mo_size : (k_Mo_size.all fun g => g.2.all (zxo R_Mo prog_10_method_31_code 4 false)) = true := by decide +kernel
set_option maxRecDepth 100000 in
theorem o_Mo_size : zMo 110 M_Mo_size := ⟨rfl, zmm (k := 769) rfl rfl, zmm (k := 66) (by decide +kernel) rfl, by decide +kernel, by decide +kernel, fun h => (by cases h), fun _ => ⟨zmm (k := 768) (by decide +kernel) rfl, zmm (k := 30) (by decide +kernel) rfl, (R_Mo, T_Mo, 26), rfl, rfl⟩, fun h => (by cases h), zall x_Mo_size⟩
noncomputable def k_Mo_copyShape : List (Nat × List zE) := [(17, [(0, .aload_n 0, 1, 0, 0, 0, .null), (1, .getfield 17, 3, 8, 2, 643, .null), (4, .iload_n 2, 1, 0, 0, 0, .null), (5, .aload_n 0, 1, 0, 0, 0, .null), (6, .getfield 17, 3, 8, 2, 643, .null), (9, .iload_n 1, 1, 0, 0, 0, .null), (10, .iaload, 1, 0, 0, 0, .null), (11, .iastore, 1, 0, 0, 0, .null), (12, .aload_n 0, 1, 0, 0, 0, .null), (13, .getfield 20, 3, 8, 3, 644, .null), (16, .iload_n 2, 1, 0, 0, 0, .null), (17, .aload_n 0, 1, 0, 0, 0, .null)]),
  (36, [(18, .getfield 20, 3, 8, 3, 644, .null), (21, .iload_n 1, 1, 0, 0, 0, .null), (22, .iaload, 1, 0, 0, 0, .null), (23, .iastore, 1, 0, 0, 0, .null), (24, .iconst 0, 1, 0, 0, 0, .null), (25, .istore_n 3, 1, 0, 0, 0, .null), (26, .iload_n 3, 1, 0, 0, 0, .null), (27, .bipush 6, 2, 0, 0, 0, .null), (29, .if_icmp .ge 53, 3, 0, 0, 0, .null), (32, .aload_n 0, 1, 0, 0, 0, .null), (33, .getfield 23, 3, 8, 4, 645, .null), (36, .bipush 6, 2, 0, 0, 0, .null)]),
  (52, [(38, .iload_n 2, 1, 0, 0, 0, .null), (39, .imul, 1, 0, 0, 0, .null), (40, .iload_n 3, 1, 0, 0, 0, .null), (41, .iadd, 1, 0, 0, 0, .null), (42, .aload_n 0, 1, 0, 0, 0, .null), (43, .getfield 23, 3, 8, 4, 645, .null), (46, .bipush 6, 2, 0, 0, 0, .null), (48, .iload_n 1, 1, 0, 0, 0, .null), (49, .imul, 1, 0, 0, 0, .null), (50, .iload_n 3, 1, 0, 0, 0, .null), (51, .iadd, 1, 0, 0, 0, .null), (52, .iaload, 1, 0, 0, 0, .null)]),
  (70, [(53, .iastore, 1, 0, 0, 0, .null), (54, .aload_n 0, 1, 0, 0, 0, .null), (55, .getfield 26, 3, 8, 5, 646, .null), (58, .bipush 6, 2, 0, 0, 0, .null), (60, .iload_n 2, 1, 0, 0, 0, .null), (61, .imul, 1, 0, 0, 0, .null), (62, .iload_n 3, 1, 0, 0, 0, .null), (63, .iadd, 1, 0, 0, 0, .null), (64, .aload_n 0, 1, 0, 0, 0, .null), (65, .getfield 26, 3, 8, 5, 646, .null), (68, .bipush 6, 2, 0, 0, 0, .null), (70, .iload_n 1, 1, 0, 0, 0, .null)]),
  (87, [(71, .imul, 1, 0, 0, 0, .null), (72, .iload_n 3, 1, 0, 0, 0, .null), (73, .iadd, 1, 0, 0, 0, .null), (74, .iaload, 1, 0, 0, 0, .null), (75, .iastore, 1, 0, 0, 0, .null), (76, .iinc 3 1, 3, 0, 0, 0, .null), (79, .goto (-53), 3, 0, 0, 0, .null), (82, .aload_n 0, 1, 0, 0, 0, .null), (83, .iload_n 2, 1, 0, 0, 0, .null), (84, .invokevirtual 94, 3, 107, 0, 755, .null), (87, .return_, 1, 0, 0, 0, .null)])]
noncomputable def M_Mo_copyShape : zM := (y_Mo_copyShape, prog_10_method_12_code, 4, (Option.none : Option FieldType), 2, (0, 0, 0, 8), 1, k_Mo_copyShape)
set_option maxRecDepth 100000 in
theorem x_Mo_copyShape : (k_Mo_copyShape.all fun g => g.2.all (zxo R_Mo prog_10_method_12_code 4 false)) = true := by decide +kernel
set_option maxRecDepth 100000 in
theorem o_Mo_copyShape : zMo 111 M_Mo_copyShape := ⟨rfl, zmm (k := 773) rfl rfl, zmm (k := 66) (by decide +kernel) rfl, by decide +kernel, by decide +kernel, fun h => (by cases h), fun _ => ⟨zmm (k := 772) (by decide +kernel) rfl, zmm (k := 31) (by decide +kernel) rfl, (R_Mo, T_Mo, 26), rfl, rfl⟩, fun h => (by cases h), zall x_Mo_copyShape⟩
noncomputable def k_Mo_delete : List (Nat × List zE) := [(17, [(0, .aload_n 0, 1, 0, 0, 0, .null), (1, .iload_n 1, 1, 0, 0, 0, .null), (2, .iload_n 2, 1, 0, 0, 0, .null), (3, .invokevirtual 180, 3, 113, 0, 778, .null), (6, .istore_n 3, 1, 0, 0, 0, .null), (7, .iload_n 3, 1, 0, 0, 0, .null), (8, .ifCond .ge 5, 3, 0, 0, 0, .null), (11, .iconst 0, 1, 0, 0, 0, .null), (12, .ireturn, 1, 0, 0, 0, .null), (13, .aload_n 0, 1, 0, 0, 0, .null), (14, .getfield 7, 3, 8, 0, 641, .null), (17, .iload_n 3, 1, 0, 0, 0, .null)]),
  (21, [(18, .iconst 0, 1, 0, 0, 0, .null), (19, .bastore, 1, 0, 0, 0, .null), (20, .iconst 1, 1, 0, 0, 0, .null), (21, .ireturn, 1, 0, 0, 0, .null)])]
noncomputable def M_Mo_delete : zM := (y_Mo_delete, prog_10_method_34_code, 4, (Option.some FieldType.boolean), 2, (0, 0, 0, 8), 1, k_Mo_delete)
set_option maxRecDepth 100000 in
theorem x_Mo_delete : (k_Mo_delete.all fun g => g.2.all (zxo R_Mo prog_10_method_34_code 4 false)) = true := by decide +kernel
set_option maxRecDepth 100000 in
theorem o_Mo_delete : zMo 112 M_Mo_delete := ⟨rfl, zmm (k := 777) rfl rfl, zmm (k := 66) (by decide +kernel) rfl, by decide +kernel, by decide +kernel, fun h => (by cases h), fun _ => ⟨zmm (k := 775) (by decide +kernel) rfl, zmm (k := 776) (by decide +kernel) rfl, (R_Mo, T_Mo, 26), rfl, rfl⟩, fun h => (by cases h), zall x_Mo_delete⟩
noncomputable def k_Mo_slot : List (Nat × List zE) := [(23, [(0, .iload_n 1, 1, 0, 0, 0, .null), (1, .invokestatic 170, 3, 109, 0, 763, .null), (4, .ifCond .eq 36, 3, 0, 0, 0, .null), (7, .iload_n 2, 1, 0, 0, 0, .null), (8, .ifCond .lt 32, 3, 0, 0, 0, .null), (11, .iload_n 2, 1, 0, 0, 0, .null), (12, .bipush 15, 2, 0, 0, 0, .null), (14, .if_icmp .gt 26, 3, 0, 0, 0, .null), (17, .aload_n 0, 1, 0, 0, 0, .null), (18, .getfield 7, 3, 8, 0, 641, .null), (21, .bipush 16, 2, 0, 0, 0, .null), (23, .iload_n 1, 1, 0, 0, 0, .null)]),
  (40, [(24, .imul, 1, 0, 0, 0, .null), (25, .iload_n 2, 1, 0, 0, 0, .null), (26, .iadd, 1, 0, 0, 0, .null), (27, .baload, 1, 0, 0, 0, .null), (28, .ifCond .eq 12, 3, 0, 0, 0, .null), (31, .bipush 16, 2, 0, 0, 0, .null), (33, .iload_n 1, 1, 0, 0, 0, .null), (34, .imul, 1, 0, 0, 0, .null), (35, .iload_n 2, 1, 0, 0, 0, .null), (36, .iadd, 1, 0, 0, 0, .null), (37, .goto 4, 3, 0, 0, 0, .null), (40, .iconst (-1), 1, 0, 0, 0, .null)]),
  (41, [(41, .ireturn, 1, 0, 0, 0, .null)])]
noncomputable def M_Mo_slot : zM := (y_Mo_slot, prog_10_method_32_code, 3, (Option.some FieldType.int), 2, (0, 0, 0, 8), 1, k_Mo_slot)
set_option maxRecDepth 100000 in
theorem x_Mo_slot : (k_Mo_slot.all fun g => g.2.all (zxo R_Mo prog_10_method_32_code 3 false)) = true := by decide +kernel
set_option maxRecDepth 100000 in
theorem o_Mo_slot : zMo 113 M_Mo_slot := ⟨rfl, zmm (k := 781) rfl rfl, zmm (k := 66) (by decide +kernel) rfl, by decide +kernel, by decide +kernel, fun h => (by cases h), fun _ => ⟨zmm (k := 780) (by decide +kernel) rfl, zmm (k := 32) (by decide +kernel) rfl, (R_Mo, T_Mo, 26), rfl, rfl⟩, fun h => (by cases h), zall x_Mo_slot⟩
noncomputable def k_Mo_update : List (Nat × List zE) := [(22, [(0, .aload_n 0, 1, 0, 0, 0, .null), (1, .iload_n 1, 1, 0, 0, 0, .null), (2, .iload_n 2, 1, 0, 0, 0, .null), (3, .invokevirtual 180, 3, 113, 0, 778, .null), (6, .istore 5, 2, 0, 0, 0, .null), (8, .iload 5, 2, 0, 0, 0, .null), (10, .ifCond .lt 18, 3, 0, 0, 0, .null), (13, .iload 4, 2, 0, 0, 0, .null), (15, .ifCond .eq 15, 3, 0, 0, 0, .null), (18, .aload_n 0, 1, 0, 0, 0, .null), (19, .getfield 7, 3, 8, 0, 641, .null), (22, .bipush 64, 2, 0, 0, 0, .null)]),
  (43, [(24, .baload, 1, 0, 0, 0, .null), (25, .ifCond .ne 5, 3, 0, 0, 0, .null), (28, .iconst 0, 1, 0, 0, 0, .null), (29, .ireturn, 1, 0, 0, 0, .null), (30, .aload_n 0, 1, 0, 0, 0, .null), (31, .getfield 13, 3, 8, 1, 642, .null), (34, .iload 5, 2, 0, 0, 0, .null), (36, .iload_n 3, 1, 0, 0, 0, .null), (37, .iastore, 1, 0, 0, 0, .null), (38, .iload 4, 2, 0, 0, 0, .null), (40, .ifCond .eq 11, 3, 0, 0, 0, .null), (43, .aload_n 0, 1, 0, 0, 0, .null)]),
  (52, [(44, .bipush 64, 2, 0, 0, 0, .null), (46, .iload 5, 2, 0, 0, 0, .null), (48, .invokevirtual 177, 3, 111, 0, 770, .null), (51, .iconst 1, 1, 0, 0, 0, .null), (52, .ireturn, 1, 0, 0, 0, .null)])]
noncomputable def M_Mo_update : zM := (y_Mo_update, prog_10_method_35_code, 6, (Option.some FieldType.boolean), 4, (0, 0, 0, 8), 1, k_Mo_update)
set_option maxRecDepth 100000 in
theorem x_Mo_update : (k_Mo_update.all fun g => g.2.all (zxo R_Mo prog_10_method_35_code 6 false)) = true := by decide +kernel
set_option maxRecDepth 100000 in
theorem o_Mo_update : zMo 114 M_Mo_update := ⟨rfl, zmm (k := 785) rfl rfl, zmm (k := 66) (by decide +kernel) rfl, by decide +kernel, by decide +kernel, fun h => (by cases h), fun _ => ⟨zmm (k := 783) (by decide +kernel) rfl, zmm (k := 784) (by decide +kernel) rfl, (R_Mo, T_Mo, 26), rfl, rfl⟩, fun h => (by cases h), zall x_Mo_update⟩
end
section
noncomputable def k_Mo_select : List (Nat × List zE) := [(22, [(0, .iload_n 1, 1, 0, 0, 0, .null), (1, .invokestatic 170, 3, 109, 0, 763, .null), (4, .ifCond .eq 17, 3, 0, 0, 0, .null), (7, .aload_n 0, 1, 0, 0, 0, .null), (8, .getfield 7, 3, 8, 0, 641, .null), (11, .bipush 64, 2, 0, 0, 0, .null), (13, .baload, 1, 0, 0, 0, .null), (14, .ifCond .eq 7, 3, 0, 0, 0, .null), (17, .iload_n 2, 1, 0, 0, 0, .null), (18, .ifCond .ge 5, 3, 0, 0, 0, .null), (21, .iconst (-1), 1, 0, 0, 0, .null), (22, .ireturn, 1, 0, 0, 0, .null)]),
  (42, [(23, .aload_n 0, 1, 0, 0, 0, .null), (24, .iconst 0, 1, 0, 0, 0, .null), (25, .putfield 191, 3, 8, 21, 662, .null), (28, .iconst 0, 1, 0, 0, 0, .null), (29, .istore 5, 2, 0, 0, 0, .null), (31, .iload 5, 2, 0, 0, 0, .null), (33, .bipush 16, 2, 0, 0, 0, .null), (35, .if_icmp .ge 74, 3, 0, 0, 0, .null), (38, .bipush 16, 2, 0, 0, 0, .null), (40, .iload_n 1, 1, 0, 0, 0, .null), (41, .imul, 1, 0, 0, 0, .null), (42, .iload 5, 2, 0, 0, 0, .null)]),
  (64, [(44, .iadd, 1, 0, 0, 0, .null), (45, .istore 6, 2, 0, 0, 0, .null), (47, .aload_n 0, 1, 0, 0, 0, .null), (48, .bipush 64, 2, 0, 0, 0, .null), (50, .iload 6, 2, 0, 0, 0, .null), (52, .iload_n 2, 1, 0, 0, 0, .null), (53, .invokevirtual 194, 3, 116, 0, 790, .null), (56, .ifCond .eq 47, 3, 0, 0, 0, .null), (59, .iload_n 3, 1, 0, 0, 0, .null), (60, .aload_n 0, 1, 0, 0, 0, .null), (61, .getfield 13, 3, 8, 1, 642, .null), (64, .iload 6, 2, 0, 0, 0, .null)]),
  (87, [(66, .iaload, 1, 0, 0, 0, .null), (67, .if_icmp .gt 36, 3, 0, 0, 0, .null), (70, .aload_n 0, 1, 0, 0, 0, .null), (71, .getfield 13, 3, 8, 1, 642, .null), (74, .iload 6, 2, 0, 0, 0, .null), (76, .iaload, 1, 0, 0, 0, .null), (77, .iload 4, 2, 0, 0, 0, .null), (79, .if_icmp .gt 24, 3, 0, 0, 0, .null), (82, .aload_n 0, 1, 0, 0, 0, .null), (83, .getfield 54, 3, 8, 23, 664, .null), (86, .aload_n 0, 1, 0, 0, 0, .null), (87, .getfield 191, 3, 8, 21, 662, .null)]),
  (110, [(90, .iload 5, 2, 0, 0, 0, .null), (92, .iastore, 1, 0, 0, 0, .null), (93, .aload_n 0, 1, 0, 0, 0, .null), (94, .dup, 1, 0, 0, 0, .null), (95, .getfield 191, 3, 8, 21, 662, .null), (98, .iconst 1, 1, 0, 0, 0, .null), (99, .iadd, 1, 0, 0, 0, .null), (100, .putfield 191, 3, 8, 21, 662, .null), (103, .iinc 5 1, 3, 0, 0, 0, .null), (106, .goto (-75), 3, 0, 0, 0, .null), (109, .aload_n 0, 1, 0, 0, 0, .null), (110, .aload_n 0, 1, 0, 0, 0, .null)]),
  (125, [(111, .bipush 64, 2, 0, 0, 0, .null), (113, .iload_n 1, 1, 0, 0, 0, .null), (114, .iload_n 2, 1, 0, 0, 0, .null), (115, .invokevirtual 197, 3, 126, 0, 831, .null), (118, .putfield 200, 3, 8, 22, 663, .null), (121, .aload_n 0, 1, 0, 0, 0, .null), (122, .getfield 191, 3, 8, 21, 662, .null), (125, .ireturn, 1, 0, 0, 0, .null)])]
noncomputable def M_Mo_select : zM := (y_Mo_select, prog_10_method_38_code, 7, (Option.some FieldType.int), 4, (0, 0, 0, 8), 1, k_Mo_select)
set_option maxRecDepth 100000 in
theorem x_Mo_select : (k_Mo_select.all fun g => g.2.all (zxo R_Mo prog_10_method_38_code 7 false)) = true := by decide +kernel
set_option maxRecDepth 100000 in
theorem o_Mo_select : zMo 115 M_Mo_select := ⟨rfl, zmm (k := 789) rfl rfl, zmm (k := 66) (by decide +kernel) rfl, by decide +kernel, by decide +kernel, fun h => (by cases h), fun _ => ⟨zmm (k := 787) (by decide +kernel) rfl, zmm (k := 788) (by decide +kernel) rfl, (R_Mo, T_Mo, 26), rfl, rfl⟩, fun h => (by cases h), zall x_Mo_select⟩
noncomputable def k_Mo_finds : List (Nat × List zE) := [(17, [(0, .aload_n 0, 1, 0, 0, 0, .null), (1, .getfield 7, 3, 8, 0, 641, .null), (4, .iload_n 2, 1, 0, 0, 0, .null), (5, .baload, 1, 0, 0, 0, .null), (6, .ifCond .ne 5, 3, 0, 0, 0, .null), (9, .iconst 0, 1, 0, 0, 0, .null), (10, .ireturn, 1, 0, 0, 0, .null), (11, .aload_n 0, 1, 0, 0, 0, .null), (12, .iload_n 1, 1, 0, 0, 0, .null), (13, .iload_n 2, 1, 0, 0, 0, .null), (14, .invokevirtual 188, 3, 117, 0, 794, .null), (17, .aload_n 0, 1, 0, 0, 0, .null)]),
  (37, [(18, .getfield 122, 3, 8, 13, 654, .null), (21, .iload_n 3, 1, 0, 0, 0, .null), (22, .i2l, 1, 0, 0, 0, .null), (23, .aload_n 0, 1, 0, 0, 0, .null), (24, .getfield 118, 3, 8, 14, 655, .null), (27, .lmul, 1, 0, 0, 0, .null), (28, .lcmp, 1, 0, 0, 0, .null), (29, .ifCond .gt 7, 3, 0, 0, 0, .null), (32, .iconst 1, 1, 0, 0, 0, .null), (33, .goto 4, 3, 0, 0, 0, .null), (36, .iconst 0, 1, 0, 0, 0, .null), (37, .ireturn, 1, 0, 0, 0, .null)])]
noncomputable def M_Mo_finds : zM := (y_Mo_finds, prog_10_method_37_code, 4, (Option.some FieldType.boolean), 3, (0, 0, 0, 8), 1, k_Mo_finds)
set_option maxRecDepth 100000 in
theorem x_Mo_finds : (k_Mo_finds.all fun g => g.2.all (zxo R_Mo prog_10_method_37_code 4 false)) = true := by decide +kernel
set_option maxRecDepth 100000 in
theorem o_Mo_finds : zMo 116 M_Mo_finds := ⟨rfl, zmm (k := 793) rfl rfl, zmm (k := 66) (by decide +kernel) rfl, by decide +kernel, by decide +kernel, fun h => (by cases h), fun _ => ⟨zmm (k := 792) (by decide +kernel) rfl, zmm (k := 33) (by decide +kernel) rfl, (R_Mo, T_Mo, 26), rfl, rfl⟩, fun h => (by cases h), zall x_Mo_finds⟩
noncomputable def k_Mo_measureOut : List (Nat × List zE) := [(19, [(0, .aload_n 0, 1, 0, 0, 0, .null), (1, .lconst 1, 1, 0, 0, 0, .null), (2, .putfield 118, 3, 8, 14, 655, .null), (5, .aload_n 0, 1, 0, 0, 0, .null), (6, .aload_n 0, 1, 0, 0, 0, .null), (7, .iload_n 1, 1, 0, 0, 0, .null), (8, .iload_n 2, 1, 0, 0, 0, .null), (9, .invokevirtual 125, 3, 118, 0, 798, .null), (12, .ifCond .eq 7, 3, 0, 0, 0, .null), (15, .lconst 0, 1, 0, 0, 0, .null), (16, .goto 6, 3, 0, 0, 0, .null), (19, .ldc2_w 128, 3, 0, 0, 826, .long (1000000))]),
  (41, [(22, .putfield 122, 3, 8, 13, 654, .null), (25, .iconst 0, 1, 0, 0, 0, .null), (26, .istore_n 3, 1, 0, 0, 0, .null), (27, .iload_n 3, 1, 0, 0, 0, .null), (28, .aload_n 0, 1, 0, 0, 0, .null), (29, .iload_n 1, 1, 0, 0, 0, .null), (30, .invokevirtual 109, 3, 119, 0, 802, .null), (33, .if_icmp .ge 106, 3, 0, 0, 0, .null), (36, .iconst 0, 1, 0, 0, 0, .null), (37, .istore 4, 2, 0, 0, 0, .null), (39, .iload 4, 2, 0, 0, 0, .null), (41, .aload_n 0, 1, 0, 0, 0, .null)]),
  (60, [(42, .iload_n 2, 1, 0, 0, 0, .null), (43, .invokevirtual 109, 3, 119, 0, 802, .null), (46, .if_icmp .ge 87, 3, 0, 0, 0, .null), (49, .aload_n 0, 1, 0, 0, 0, .null), (50, .iload_n 1, 1, 0, 0, 0, .null), (51, .iload_n 3, 1, 0, 0, 0, .null), (52, .iconst 0, 1, 0, 0, 0, .null), (53, .invokevirtual 105, 3, 120, 0, 806, .null), (56, .istore 5, 2, 0, 0, 0, .null), (58, .aload_n 0, 1, 0, 0, 0, .null), (59, .iload_n 1, 1, 0, 0, 0, .null), (60, .iload_n 3, 1, 0, 0, 0, .null)]),
  (79, [(61, .iconst 1, 1, 0, 0, 0, .null), (62, .invokevirtual 105, 3, 120, 0, 806, .null), (65, .istore 6, 2, 0, 0, 0, .null), (67, .aload_n 0, 1, 0, 0, 0, .null), (68, .iload_n 2, 1, 0, 0, 0, .null), (69, .iload 4, 2, 0, 0, 0, .null), (71, .iconst 0, 1, 0, 0, 0, .null), (72, .invokevirtual 105, 3, 120, 0, 806, .null), (75, .istore 7, 2, 0, 0, 0, .null), (77, .aload_n 0, 1, 0, 0, 0, .null), (78, .iload_n 2, 1, 0, 0, 0, .null), (79, .iload 4, 2, 0, 0, 0, .null)]),
  (102, [(81, .iconst 1, 1, 0, 0, 0, .null), (82, .invokevirtual 105, 3, 120, 0, 806, .null), (85, .istore 8, 2, 0, 0, 0, .null), (87, .aload_n 0, 1, 0, 0, 0, .null), (88, .iload 5, 2, 0, 0, 0, .null), (90, .iload 6, 2, 0, 0, 0, .null), (92, .iload 7, 2, 0, 0, 0, .null), (94, .invokevirtual 130, 3, 125, 0, 827, .null), (97, .aload_n 0, 1, 0, 0, 0, .null), (98, .iload 5, 2, 0, 0, 0, .null), (100, .iload 6, 2, 0, 0, 0, .null), (102, .iload 8, 2, 0, 0, 0, .null)]),
  (127, [(104, .invokevirtual 130, 3, 125, 0, 827, .null), (107, .aload_n 0, 1, 0, 0, 0, .null), (108, .iload 7, 2, 0, 0, 0, .null), (110, .iload 8, 2, 0, 0, 0, .null), (112, .iload 5, 2, 0, 0, 0, .null), (114, .invokevirtual 130, 3, 125, 0, 827, .null), (117, .aload_n 0, 1, 0, 0, 0, .null), (118, .iload 7, 2, 0, 0, 0, .null), (120, .iload 8, 2, 0, 0, 0, .null), (122, .iload 6, 2, 0, 0, 0, .null), (124, .invokevirtual 130, 3, 125, 0, 827, .null), (127, .iinc 4 1, 3, 0, 0, 0, .null)]),
  (139, [(130, .goto (-91), 3, 0, 0, 0, .null), (133, .iinc 3 1, 3, 0, 0, 0, .null), (136, .goto (-109), 3, 0, 0, 0, .null), (139, .return_, 1, 0, 0, 0, .null)])]
noncomputable def M_Mo_measureOut : zM := (y_Mo_measureOut, prog_10_method_21_code, 9, (Option.none : Option FieldType), 2, (0, 0, 0, 8), 1, k_Mo_measureOut)
set_option maxRecDepth 100000 in
theorem x_Mo_measureOut : (k_Mo_measureOut.all fun g => g.2.all (zxo R_Mo prog_10_method_21_code 9 false)) = true := by decide +kernel
set_option maxRecDepth 100000 in
theorem o_Mo_measureOut : zMo 117 M_Mo_measureOut := ⟨rfl, zmm (k := 797) rfl rfl, zmm (k := 66) (by decide +kernel) rfl, by decide +kernel, by decide +kernel, fun h => (by cases h), fun _ => ⟨zmm (k := 796) (by decide +kernel) rfl, zmm (k := 34) (by decide +kernel) rfl, (R_Mo, T_Mo, 26), rfl, rfl⟩, fun h => (by cases h), zall x_Mo_measureOut⟩
noncomputable def k_Mo_meet : List (Nat × List zE) := [(17, [(0, .iconst 0, 1, 0, 0, 0, .null), (1, .istore_n 3, 1, 0, 0, 0, .null), (2, .iload_n 3, 1, 0, 0, 0, .null), (3, .aload_n 0, 1, 0, 0, 0, .null), (4, .iload_n 1, 1, 0, 0, 0, .null), (5, .invokevirtual 109, 3, 119, 0, 802, .null), (8, .if_icmp .ge 83, 3, 0, 0, 0, .null), (11, .iconst 0, 1, 0, 0, 0, .null), (12, .istore 4, 2, 0, 0, 0, .null), (14, .iload 4, 2, 0, 0, 0, .null), (16, .aload_n 0, 1, 0, 0, 0, .null), (17, .iload_n 2, 1, 0, 0, 0, .null)]),
  (36, [(18, .invokevirtual 109, 3, 119, 0, 802, .null), (21, .if_icmp .ge 64, 3, 0, 0, 0, .null), (24, .aload_n 0, 1, 0, 0, 0, .null), (25, .iload_n 1, 1, 0, 0, 0, .null), (26, .iload_n 3, 1, 0, 0, 0, .null), (27, .iconst 0, 1, 0, 0, 0, .null), (28, .invokevirtual 105, 3, 120, 0, 806, .null), (31, .istore 5, 2, 0, 0, 0, .null), (33, .aload_n 0, 1, 0, 0, 0, .null), (34, .iload_n 1, 1, 0, 0, 0, .null), (35, .iload_n 3, 1, 0, 0, 0, .null), (36, .iconst 1, 1, 0, 0, 0, .null)]),
  (56, [(37, .invokevirtual 105, 3, 120, 0, 806, .null), (40, .istore 6, 2, 0, 0, 0, .null), (42, .aload_n 0, 1, 0, 0, 0, .null), (43, .iload_n 2, 1, 0, 0, 0, .null), (44, .iload 4, 2, 0, 0, 0, .null), (46, .iconst 0, 1, 0, 0, 0, .null), (47, .invokevirtual 105, 3, 120, 0, 806, .null), (50, .istore 7, 2, 0, 0, 0, .null), (52, .aload_n 0, 1, 0, 0, 0, .null), (53, .iload_n 2, 1, 0, 0, 0, .null), (54, .iload 4, 2, 0, 0, 0, .null), (56, .iconst 1, 1, 0, 0, 0, .null)]),
  (79, [(57, .invokevirtual 105, 3, 120, 0, 806, .null), (60, .istore 8, 2, 0, 0, 0, .null), (62, .aload_n 0, 1, 0, 0, 0, .null), (63, .iload 5, 2, 0, 0, 0, .null), (65, .iload 6, 2, 0, 0, 0, .null), (67, .iload 7, 2, 0, 0, 0, .null), (69, .iload 8, 2, 0, 0, 0, .null), (71, .invokevirtual 112, 3, 121, 0, 810, .null), (74, .ifCond .eq 5, 3, 0, 0, 0, .null), (77, .iconst 1, 1, 0, 0, 0, .null), (78, .ireturn, 1, 0, 0, 0, .null), (79, .iinc 4 1, 3, 0, 0, 0, .null)]),
  (103, [(82, .goto (-68), 3, 0, 0, 0, .null), (85, .iinc 3 1, 3, 0, 0, 0, .null), (88, .goto (-86), 3, 0, 0, 0, .null), (91, .aload_n 0, 1, 0, 0, 0, .null), (92, .getfield 17, 3, 8, 2, 643, .null), (95, .iload_n 2, 1, 0, 0, 0, .null), (96, .iaload, 1, 0, 0, 0, .null), (97, .iconst 2, 1, 0, 0, 0, .null), (98, .if_icmp .ne 15, 3, 0, 0, 0, .null), (101, .aload_n 0, 1, 0, 0, 0, .null), (102, .iload_n 2, 1, 0, 0, 0, .null), (103, .bipush 6, 2, 0, 0, 0, .null)]),
  (124, [(105, .iload_n 1, 1, 0, 0, 0, .null), (106, .imul, 1, 0, 0, 0, .null), (107, .invokevirtual 115, 3, 124, 0, 822, .null), (110, .ifCond .ne 25, 3, 0, 0, 0, .null), (113, .aload_n 0, 1, 0, 0, 0, .null), (114, .getfield 17, 3, 8, 2, 643, .null), (117, .iload_n 1, 1, 0, 0, 0, .null), (118, .iaload, 1, 0, 0, 0, .null), (119, .iconst 2, 1, 0, 0, 0, .null), (120, .if_icmp .ne 19, 3, 0, 0, 0, .null), (123, .aload_n 0, 1, 0, 0, 0, .null), (124, .iload_n 1, 1, 0, 0, 0, .null)]),
  (140, [(125, .bipush 6, 2, 0, 0, 0, .null), (127, .iload_n 2, 1, 0, 0, 0, .null), (128, .imul, 1, 0, 0, 0, .null), (129, .invokevirtual 115, 3, 124, 0, 822, .null), (132, .ifCond .eq 7, 3, 0, 0, 0, .null), (135, .iconst 1, 1, 0, 0, 0, .null), (136, .goto 4, 3, 0, 0, 0, .null), (139, .iconst 0, 1, 0, 0, 0, .null), (140, .ireturn, 1, 0, 0, 0, .null)])]
noncomputable def M_Mo_meet : zM := (y_Mo_meet, prog_10_method_19_code, 9, (Option.some FieldType.boolean), 2, (0, 0, 0, 8), 1, k_Mo_meet)
set_option maxRecDepth 100000 in
theorem x_Mo_meet : (k_Mo_meet.all fun g => g.2.all (zxo R_Mo prog_10_method_19_code 9 false)) = true := by decide +kernel
set_option maxRecDepth 100000 in
theorem o_Mo_meet : zMo 118 M_Mo_meet := ⟨rfl, zmm (k := 801) rfl rfl, zmm (k := 66) (by decide +kernel) rfl, by decide +kernel, by decide +kernel, fun h => (by cases h), fun _ => ⟨zmm (k := 800) (by decide +kernel) rfl, zmm (k := 35) (by decide +kernel) rfl, (R_Mo, T_Mo, 26), rfl, rfl⟩, fun h => (by cases h), zall x_Mo_meet⟩
noncomputable def k_Mo_sides : List (Nat × List zE) := [(17, [(0, .aload_n 0, 1, 0, 0, 0, .null), (1, .getfield 17, 3, 8, 2, 643, .null), (4, .iload_n 1, 1, 0, 0, 0, .null), (5, .iaload, 1, 0, 0, 0, .null), (6, .iconst 1, 1, 0, 0, 0, .null), (7, .if_icmp .ne 14, 3, 0, 0, 0, .null), (10, .aload_n 0, 1, 0, 0, 0, .null), (11, .getfield 20, 3, 8, 3, 644, .null), (14, .iload_n 1, 1, 0, 0, 0, .null), (15, .iaload, 1, 0, 0, 0, .null), (16, .iconst 1, 1, 0, 0, 0, .null), (17, .isub, 1, 0, 0, 0, .null)]),
  (27, [(18, .goto 9, 3, 0, 0, 0, .null), (21, .aload_n 0, 1, 0, 0, 0, .null), (22, .getfield 20, 3, 8, 3, 644, .null), (25, .iload_n 1, 1, 0, 0, 0, .null), (26, .iaload, 1, 0, 0, 0, .null), (27, .ireturn, 1, 0, 0, 0, .null)])]
noncomputable def M_Mo_sides : zM := (y_Mo_sides, prog_10_method_13_code, 2, (Option.some FieldType.int), 1, (0, 0, 0, 8), 1, k_Mo_sides)
set_option maxRecDepth 100000 in
theorem x_Mo_sides : (k_Mo_sides.all fun g => g.2.all (zxo R_Mo prog_10_method_13_code 2 false)) = true := by decide +kernel
set_option maxRecDepth 100000 in
theorem o_Mo_sides : zMo 119 M_Mo_sides := ⟨rfl, zmm (k := 805) rfl rfl, zmm (k := 66) (by decide +kernel) rfl, by decide +kernel, by decide +kernel, fun h => (by cases h), fun _ => ⟨zmm (k := 804) (by decide +kernel) rfl, zmm (k := 36) (by decide +kernel) rfl, (R_Mo, T_Mo, 26), rfl, rfl⟩, fun h => (by cases h), zall x_Mo_sides⟩
noncomputable def k_Mo_corner : List (Nat × List zE) := [(14, [(0, .bipush 6, 2, 0, 0, 0, .null), (2, .iload_n 1, 1, 0, 0, 0, .null), (3, .imul, 1, 0, 0, 0, .null), (4, .iload_n 2, 1, 0, 0, 0, .null), (5, .iload_n 3, 1, 0, 0, 0, .null), (6, .iadd, 1, 0, 0, 0, .null), (7, .aload_n 0, 1, 0, 0, 0, .null), (8, .getfield 20, 3, 8, 3, 644, .null), (11, .iload_n 1, 1, 0, 0, 0, .null), (12, .iaload, 1, 0, 0, 0, .null), (13, .irem, 1, 0, 0, 0, .null), (14, .iadd, 1, 0, 0, 0, .null)]),
  (15, [(15, .ireturn, 1, 0, 0, 0, .null)])]
noncomputable def M_Mo_corner : zM := (y_Mo_corner, prog_10_method_14_code, 4, (Option.some FieldType.int), 3, (0, 0, 0, 8), 1, k_Mo_corner)
set_option maxRecDepth 100000 in
theorem x_Mo_corner : (k_Mo_corner.all fun g => g.2.all (zxo R_Mo prog_10_method_14_code 4 false)) = true := by decide +kernel
set_option maxRecDepth 100000 in
theorem o_Mo_corner : zMo 120 M_Mo_corner := ⟨rfl, zmm (k := 809) rfl rfl, zmm (k := 66) (by decide +kernel) rfl, by decide +kernel, by decide +kernel, fun h => (by cases h), fun _ => ⟨zmm (k := 808) (by decide +kernel) rfl, zmm (k := 37) (by decide +kernel) rfl, (R_Mo, T_Mo, 26), rfl, rfl⟩, fun h => (by cases h), zall x_Mo_corner⟩
noncomputable def k_Mo_touching : List (Nat × List zE) := [(18, [(0, .aload_n 0, 1, 0, 0, 0, .null), (1, .iload_n 1, 1, 0, 0, 0, .null), (2, .iload_n 2, 1, 0, 0, 0, .null), (3, .iload_n 3, 1, 0, 0, 0, .null), (4, .invokevirtual 98, 3, 122, 0, 814, .null), (7, .ifCond .ne 36, 3, 0, 0, 0, .null), (10, .aload_n 0, 1, 0, 0, 0, .null), (11, .iload_n 1, 1, 0, 0, 0, .null), (12, .iload_n 2, 1, 0, 0, 0, .null), (13, .iload 4, 2, 0, 0, 0, .null), (15, .invokevirtual 98, 3, 122, 0, 814, .null), (18, .ifCond .ne 25, 3, 0, 0, 0, .null)]),
  (40, [(21, .aload_n 0, 1, 0, 0, 0, .null), (22, .iload_n 3, 1, 0, 0, 0, .null), (23, .iload 4, 2, 0, 0, 0, .null), (25, .iload_n 1, 1, 0, 0, 0, .null), (26, .invokevirtual 98, 3, 122, 0, 814, .null), (29, .ifCond .ne 14, 3, 0, 0, 0, .null), (32, .aload_n 0, 1, 0, 0, 0, .null), (33, .iload_n 3, 1, 0, 0, 0, .null), (34, .iload 4, 2, 0, 0, 0, .null), (36, .iload_n 2, 1, 0, 0, 0, .null), (37, .invokevirtual 98, 3, 122, 0, 814, .null), (40, .ifCond .eq 5, 3, 0, 0, 0, .null)]),
  (57, [(43, .iconst 1, 1, 0, 0, 0, .null), (44, .ireturn, 1, 0, 0, 0, .null), (45, .aload_n 0, 1, 0, 0, 0, .null), (46, .iload_n 1, 1, 0, 0, 0, .null), (47, .iload_n 2, 1, 0, 0, 0, .null), (48, .iload_n 3, 1, 0, 0, 0, .null), (49, .invokevirtual 101, 3, 123, 0, 818, .null), (52, .lstore 5, 2, 0, 0, 0, .null), (54, .aload_n 0, 1, 0, 0, 0, .null), (55, .iload_n 1, 1, 0, 0, 0, .null), (56, .iload_n 2, 1, 0, 0, 0, .null), (57, .iload 4, 2, 0, 0, 0, .null)]),
  (78, [(59, .invokevirtual 101, 3, 123, 0, 818, .null), (62, .lstore 7, 2, 0, 0, 0, .null), (64, .aload_n 0, 1, 0, 0, 0, .null), (65, .iload_n 3, 1, 0, 0, 0, .null), (66, .iload 4, 2, 0, 0, 0, .null), (68, .iload_n 1, 1, 0, 0, 0, .null), (69, .invokevirtual 101, 3, 123, 0, 818, .null), (72, .lstore 9, 2, 0, 0, 0, .null), (74, .aload_n 0, 1, 0, 0, 0, .null), (75, .iload_n 3, 1, 0, 0, 0, .null), (76, .iload 4, 2, 0, 0, 0, .null), (78, .iload_n 2, 1, 0, 0, 0, .null)]),
  (100, [(79, .invokevirtual 101, 3, 123, 0, 818, .null), (82, .lstore 11, 2, 0, 0, 0, .null), (84, .lload 5, 2, 0, 0, 0, .null), (86, .lconst 0, 1, 0, 0, 0, .null), (87, .lcmp, 1, 0, 0, 0, .null), (88, .ifCond .ge 10, 3, 0, 0, 0, .null), (91, .lload 7, 2, 0, 0, 0, .null), (93, .lconst 0, 1, 0, 0, 0, .null), (94, .lcmp, 1, 0, 0, 0, .null), (95, .ifCond .gt 17, 3, 0, 0, 0, .null), (98, .lload 5, 2, 0, 0, 0, .null), (100, .lconst 0, 1, 0, 0, 0, .null)]),
  (121, [(101, .lcmp, 1, 0, 0, 0, .null), (102, .ifCond .le 42, 3, 0, 0, 0, .null), (105, .lload 7, 2, 0, 0, 0, .null), (107, .lconst 0, 1, 0, 0, 0, .null), (108, .lcmp, 1, 0, 0, 0, .null), (109, .ifCond .ge 35, 3, 0, 0, 0, .null), (112, .lload 9, 2, 0, 0, 0, .null), (114, .lconst 0, 1, 0, 0, 0, .null), (115, .lcmp, 1, 0, 0, 0, .null), (116, .ifCond .ge 10, 3, 0, 0, 0, .null), (119, .lload 11, 2, 0, 0, 0, .null), (121, .lconst 0, 1, 0, 0, 0, .null)]),
  (141, [(122, .lcmp, 1, 0, 0, 0, .null), (123, .ifCond .gt 17, 3, 0, 0, 0, .null), (126, .lload 9, 2, 0, 0, 0, .null), (128, .lconst 0, 1, 0, 0, 0, .null), (129, .lcmp, 1, 0, 0, 0, .null), (130, .ifCond .le 14, 3, 0, 0, 0, .null), (133, .lload 11, 2, 0, 0, 0, .null), (135, .lconst 0, 1, 0, 0, 0, .null), (136, .lcmp, 1, 0, 0, 0, .null), (137, .ifCond .ge 7, 3, 0, 0, 0, .null), (140, .iconst 1, 1, 0, 0, 0, .null), (141, .goto 4, 3, 0, 0, 0, .null)]),
  (145, [(144, .iconst 0, 1, 0, 0, 0, .null), (145, .ireturn, 1, 0, 0, 0, .null)])]
noncomputable def M_Mo_touching : zM := (y_Mo_touching, prog_10_method_17_code, 13, (Option.some FieldType.boolean), 4, (0, 0, 0, 8), 1, k_Mo_touching)
set_option maxRecDepth 100000 in
theorem x_Mo_touching : (k_Mo_touching.all fun g => g.2.all (zxo R_Mo prog_10_method_17_code 13 false)) = true := by decide +kernel
set_option maxRecDepth 100000 in
theorem o_Mo_touching : zMo 121 M_Mo_touching := ⟨rfl, zmm (k := 813) rfl rfl, zmm (k := 66) (by decide +kernel) rfl, by decide +kernel, by decide +kernel, fun h => (by cases h), fun _ => ⟨zmm (k := 812) (by decide +kernel) rfl, zmm (k := 38) (by decide +kernel) rfl, (R_Mo, T_Mo, 26), rfl, rfl⟩, fun h => (by cases h), zall x_Mo_touching⟩
noncomputable def k_Mo_lies : List (Nat × List zE) := [(17, [(0, .aload_n 0, 1, 0, 0, 0, .null), (1, .getfield 23, 3, 8, 4, 645, .null), (4, .iload_n 1, 1, 0, 0, 0, .null), (5, .iaload, 1, 0, 0, 0, .null), (6, .aload_n 0, 1, 0, 0, 0, .null), (7, .getfield 26, 3, 8, 5, 646, .null), (10, .iload_n 1, 1, 0, 0, 0, .null), (11, .iaload, 1, 0, 0, 0, .null), (12, .aload_n 0, 1, 0, 0, 0, .null), (13, .getfield 23, 3, 8, 4, 645, .null), (16, .iload_n 2, 1, 0, 0, 0, .null), (17, .iaload, 1, 0, 0, 0, .null)]),
  (35, [(18, .aload_n 0, 1, 0, 0, 0, .null), (19, .getfield 26, 3, 8, 5, 646, .null), (22, .iload_n 2, 1, 0, 0, 0, .null), (23, .iaload, 1, 0, 0, 0, .null), (24, .aload_n 0, 1, 0, 0, 0, .null), (25, .getfield 23, 3, 8, 4, 645, .null), (28, .iload_n 3, 1, 0, 0, 0, .null), (29, .iaload, 1, 0, 0, 0, .null), (30, .aload_n 0, 1, 0, 0, 0, .null), (31, .getfield 26, 3, 8, 5, 646, .null), (34, .iload_n 3, 1, 0, 0, 0, .null), (35, .iaload, 1, 0, 0, 0, .null)]),
  (39, [(36, .invokestatic 78, 3, 104, 0, 745, .null), (39, .ireturn, 1, 0, 0, 0, .null)])]
noncomputable def M_Mo_lies : zM := (y_Mo_lies, prog_10_method_16_code, 4, (Option.some FieldType.boolean), 3, (0, 0, 0, 8), 1, k_Mo_lies)
set_option maxRecDepth 100000 in
theorem x_Mo_lies : (k_Mo_lies.all fun g => g.2.all (zxo R_Mo prog_10_method_16_code 4 false)) = true := by decide +kernel
set_option maxRecDepth 100000 in
theorem o_Mo_lies : zMo 122 M_Mo_lies := ⟨rfl, zmm (k := 817) rfl rfl, zmm (k := 66) (by decide +kernel) rfl, by decide +kernel, by decide +kernel, fun h => (by cases h), fun _ => ⟨zmm (k := 816) (by decide +kernel) rfl, zmm (k := 39) (by decide +kernel) rfl, (R_Mo, T_Mo, 26), rfl, rfl⟩, fun h => (by cases h), zall x_Mo_lies⟩
noncomputable def k_Mo_turn : List (Nat × List zE) := [(17, [(0, .aload_n 0, 1, 0, 0, 0, .null), (1, .getfield 23, 3, 8, 4, 645, .null), (4, .iload_n 1, 1, 0, 0, 0, .null), (5, .iaload, 1, 0, 0, 0, .null), (6, .aload_n 0, 1, 0, 0, 0, .null), (7, .getfield 26, 3, 8, 5, 646, .null), (10, .iload_n 1, 1, 0, 0, 0, .null), (11, .iaload, 1, 0, 0, 0, .null), (12, .aload_n 0, 1, 0, 0, 0, .null), (13, .getfield 23, 3, 8, 4, 645, .null), (16, .iload_n 2, 1, 0, 0, 0, .null), (17, .iaload, 1, 0, 0, 0, .null)]),
  (35, [(18, .aload_n 0, 1, 0, 0, 0, .null), (19, .getfield 26, 3, 8, 5, 646, .null), (22, .iload_n 2, 1, 0, 0, 0, .null), (23, .iaload, 1, 0, 0, 0, .null), (24, .aload_n 0, 1, 0, 0, 0, .null), (25, .getfield 23, 3, 8, 4, 645, .null), (28, .iload_n 3, 1, 0, 0, 0, .null), (29, .iaload, 1, 0, 0, 0, .null), (30, .aload_n 0, 1, 0, 0, 0, .null), (31, .getfield 26, 3, 8, 5, 646, .null), (34, .iload_n 3, 1, 0, 0, 0, .null), (35, .iaload, 1, 0, 0, 0, .null)]),
  (39, [(36, .invokestatic 67, 3, 103, 0, 742, .null), (39, .lreturn, 1, 0, 0, 0, .null)])]
noncomputable def M_Mo_turn : zM := (y_Mo_turn, prog_10_method_15_code, 4, (Option.some FieldType.long), 3, (0, 0, 0, 8), 1, k_Mo_turn)
set_option maxRecDepth 100000 in
theorem x_Mo_turn : (k_Mo_turn.all fun g => g.2.all (zxo R_Mo prog_10_method_15_code 4 false)) = true := by decide +kernel
set_option maxRecDepth 100000 in
theorem o_Mo_turn : zMo 123 M_Mo_turn := ⟨rfl, zmm (k := 821) rfl rfl, zmm (k := 66) (by decide +kernel) rfl, by decide +kernel, by decide +kernel, fun h => (by cases h), fun _ => ⟨zmm (k := 820) (by decide +kernel) rfl, zmm (k := 40) (by decide +kernel) rfl, (R_Mo, T_Mo, 26), rfl, rfl⟩, fun h => (by cases h), zall x_Mo_turn⟩
noncomputable def k_Mo_within : List (Nat × List zE) := [(17, [(0, .iconst 0, 1, 0, 0, 0, .null), (1, .istore_n 3, 1, 0, 0, 0, .null), (2, .iconst 0, 1, 0, 0, 0, .null), (3, .istore 4, 2, 0, 0, 0, .null), (5, .iload 4, 2, 0, 0, 0, .null), (7, .aload_n 0, 1, 0, 0, 0, .null), (8, .getfield 20, 3, 8, 3, 644, .null), (11, .iload_n 1, 1, 0, 0, 0, .null), (12, .iaload, 1, 0, 0, 0, .null), (13, .if_icmp .ge 132, 3, 0, 0, 0, .null), (16, .aload_n 0, 1, 0, 0, 0, .null), (17, .iload_n 1, 1, 0, 0, 0, .null)]),
  (37, [(18, .iload 4, 2, 0, 0, 0, .null), (20, .iconst 0, 1, 0, 0, 0, .null), (21, .invokevirtual 105, 3, 120, 0, 806, .null), (24, .istore 5, 2, 0, 0, 0, .null), (26, .aload_n 0, 1, 0, 0, 0, .null), (27, .iload_n 1, 1, 0, 0, 0, .null), (28, .iload 4, 2, 0, 0, 0, .null), (30, .iconst 1, 1, 0, 0, 0, .null), (31, .invokevirtual 105, 3, 120, 0, 806, .null), (34, .istore 6, 2, 0, 0, 0, .null), (36, .aload_n 0, 1, 0, 0, 0, .null), (37, .getfield 26, 3, 8, 5, 646, .null)]),
  (58, [(40, .iload 5, 2, 0, 0, 0, .null), (42, .iaload, 1, 0, 0, 0, .null), (43, .aload_n 0, 1, 0, 0, 0, .null), (44, .getfield 26, 3, 8, 5, 646, .null), (47, .iload_n 2, 1, 0, 0, 0, .null), (48, .iaload, 1, 0, 0, 0, .null), (49, .if_icmp .le 7, 3, 0, 0, 0, .null), (52, .iconst 1, 1, 0, 0, 0, .null), (53, .goto 4, 3, 0, 0, 0, .null), (56, .iconst 0, 1, 0, 0, 0, .null), (57, .aload_n 0, 1, 0, 0, 0, .null), (58, .getfield 26, 3, 8, 5, 646, .null)]),
  (81, [(61, .iload 6, 2, 0, 0, 0, .null), (63, .iaload, 1, 0, 0, 0, .null), (64, .aload_n 0, 1, 0, 0, 0, .null), (65, .getfield 26, 3, 8, 5, 646, .null), (68, .iload_n 2, 1, 0, 0, 0, .null), (69, .iaload, 1, 0, 0, 0, .null), (70, .if_icmp .le 7, 3, 0, 0, 0, .null), (73, .iconst 1, 1, 0, 0, 0, .null), (74, .goto 4, 3, 0, 0, 0, .null), (77, .iconst 0, 1, 0, 0, 0, .null), (78, .if_icmp .ne 6, 3, 0, 0, 0, .null), (81, .goto 58, 3, 0, 0, 0, .null)]),
  (103, [(84, .aload_n 0, 1, 0, 0, 0, .null), (85, .iload 5, 2, 0, 0, 0, .null), (87, .iload 6, 2, 0, 0, 0, .null), (89, .iload_n 2, 1, 0, 0, 0, .null), (90, .invokevirtual 101, 3, 123, 0, 818, .null), (93, .lstore 7, 2, 0, 0, 0, .null), (95, .aload_n 0, 1, 0, 0, 0, .null), (96, .getfield 26, 3, 8, 5, 646, .null), (99, .iload 6, 2, 0, 0, 0, .null), (101, .iaload, 1, 0, 0, 0, .null), (102, .aload_n 0, 1, 0, 0, 0, .null), (103, .getfield 26, 3, 8, 5, 646, .null)]),
  (126, [(106, .iload 5, 2, 0, 0, 0, .null), (108, .iaload, 1, 0, 0, 0, .null), (109, .if_icmp .le 13, 3, 0, 0, 0, .null), (112, .lload 7, 2, 0, 0, 0, .null), (114, .lconst 0, 1, 0, 0, 0, .null), (115, .lcmp, 1, 0, 0, 0, .null), (116, .ifCond .le 23, 3, 0, 0, 0, .null), (119, .goto 10, 3, 0, 0, 0, .null), (122, .lload 7, 2, 0, 0, 0, .null), (124, .lconst 0, 1, 0, 0, 0, .null), (125, .lcmp, 1, 0, 0, 0, .null), (126, .ifCond .ge 13, 3, 0, 0, 0, .null)]),
  (146, [(129, .iload_n 3, 1, 0, 0, 0, .null), (130, .ifCond .ne 7, 3, 0, 0, 0, .null), (133, .iconst 1, 1, 0, 0, 0, .null), (134, .goto 4, 3, 0, 0, 0, .null), (137, .iconst 0, 1, 0, 0, 0, .null), (138, .istore_n 3, 1, 0, 0, 0, .null), (139, .iinc 4 1, 3, 0, 0, 0, .null), (142, .goto (-137), 3, 0, 0, 0, .null), (145, .iload_n 3, 1, 0, 0, 0, .null), (146, .ireturn, 1, 0, 0, 0, .null)])]
noncomputable def M_Mo_within : zM := (y_Mo_within, prog_10_method_18_code, 9, (Option.some FieldType.boolean), 2, (0, 0, 0, 8), 1, k_Mo_within)
set_option maxRecDepth 100000 in
theorem x_Mo_within : (k_Mo_within.all fun g => g.2.all (zxo R_Mo prog_10_method_18_code 9 false)) = true := by decide +kernel
set_option maxRecDepth 100000 in
theorem o_Mo_within : zMo 124 M_Mo_within := ⟨rfl, zmm (k := 825) rfl rfl, zmm (k := 66) (by decide +kernel) rfl, by decide +kernel, by decide +kernel, fun h => (by cases h), fun _ => ⟨zmm (k := 824) (by decide +kernel) rfl, zmm (k := 41) (by decide +kernel) rfl, (R_Mo, T_Mo, 26), rfl, rfl⟩, fun h => (by cases h), zall x_Mo_within⟩
noncomputable def k_Mo_reach : List (Nat × List zE) := [(16, [(0, .aload_n 0, 1, 0, 0, 0, .null), (1, .getfield 23, 3, 8, 4, 645, .null), (4, .iload_n 2, 1, 0, 0, 0, .null), (5, .iaload, 1, 0, 0, 0, .null), (6, .aload_n 0, 1, 0, 0, 0, .null), (7, .getfield 23, 3, 8, 4, 645, .null), (10, .iload_n 1, 1, 0, 0, 0, .null), (11, .iaload, 1, 0, 0, 0, .null), (12, .isub, 1, 0, 0, 0, .null), (13, .i2l, 1, 0, 0, 0, .null), (14, .lstore 4, 2, 0, 0, 0, .null), (16, .aload_n 0, 1, 0, 0, 0, .null)]),
  (33, [(17, .getfield 26, 3, 8, 5, 646, .null), (20, .iload_n 2, 1, 0, 0, 0, .null), (21, .iaload, 1, 0, 0, 0, .null), (22, .aload_n 0, 1, 0, 0, 0, .null), (23, .getfield 26, 3, 8, 5, 646, .null), (26, .iload_n 1, 1, 0, 0, 0, .null), (27, .iaload, 1, 0, 0, 0, .null), (28, .isub, 1, 0, 0, 0, .null), (29, .i2l, 1, 0, 0, 0, .null), (30, .lstore 6, 2, 0, 0, 0, .null), (32, .aload_n 0, 1, 0, 0, 0, .null), (33, .getfield 23, 3, 8, 4, 645, .null)]),
  (52, [(36, .iload_n 3, 1, 0, 0, 0, .null), (37, .iaload, 1, 0, 0, 0, .null), (38, .aload_n 0, 1, 0, 0, 0, .null), (39, .getfield 23, 3, 8, 4, 645, .null), (42, .iload_n 1, 1, 0, 0, 0, .null), (43, .iaload, 1, 0, 0, 0, .null), (44, .isub, 1, 0, 0, 0, .null), (45, .i2l, 1, 0, 0, 0, .null), (46, .lstore 8, 2, 0, 0, 0, .null), (48, .aload_n 0, 1, 0, 0, 0, .null), (49, .getfield 26, 3, 8, 5, 646, .null), (52, .iload_n 3, 1, 0, 0, 0, .null)]),
  (69, [(53, .iaload, 1, 0, 0, 0, .null), (54, .aload_n 0, 1, 0, 0, 0, .null), (55, .getfield 26, 3, 8, 5, 646, .null), (58, .iload_n 1, 1, 0, 0, 0, .null), (59, .iaload, 1, 0, 0, 0, .null), (60, .isub, 1, 0, 0, 0, .null), (61, .i2l, 1, 0, 0, 0, .null), (62, .lstore 10, 2, 0, 0, 0, .null), (64, .lload 4, 2, 0, 0, 0, .null), (66, .lload 8, 2, 0, 0, 0, .null), (68, .lmul, 1, 0, 0, 0, .null), (69, .lload 6, 2, 0, 0, 0, .null)]),
  (88, [(71, .lload 10, 2, 0, 0, 0, .null), (73, .lmul, 1, 0, 0, 0, .null), (74, .ladd, 1, 0, 0, 0, .null), (75, .lstore 12, 2, 0, 0, 0, .null), (77, .lload 4, 2, 0, 0, 0, .null), (79, .lload 4, 2, 0, 0, 0, .null), (81, .lmul, 1, 0, 0, 0, .null), (82, .lload 6, 2, 0, 0, 0, .null), (84, .lload 6, 2, 0, 0, 0, .null), (86, .lmul, 1, 0, 0, 0, .null), (87, .ladd, 1, 0, 0, 0, .null), (88, .lstore 14, 2, 0, 0, 0, .null)]),
  (106, [(90, .aload_n 0, 1, 0, 0, 0, .null), (91, .getfield 23, 3, 8, 4, 645, .null), (94, .iload_n 3, 1, 0, 0, 0, .null), (95, .iaload, 1, 0, 0, 0, .null), (96, .aload_n 0, 1, 0, 0, 0, .null), (97, .getfield 23, 3, 8, 4, 645, .null), (100, .iload_n 2, 1, 0, 0, 0, .null), (101, .iaload, 1, 0, 0, 0, .null), (102, .isub, 1, 0, 0, 0, .null), (103, .i2l, 1, 0, 0, 0, .null), (104, .lstore 16, 2, 0, 0, 0, .null), (106, .aload_n 0, 1, 0, 0, 0, .null)]),
  (124, [(107, .getfield 26, 3, 8, 5, 646, .null), (110, .iload_n 3, 1, 0, 0, 0, .null), (111, .iaload, 1, 0, 0, 0, .null), (112, .aload_n 0, 1, 0, 0, 0, .null), (113, .getfield 26, 3, 8, 5, 646, .null), (116, .iload_n 2, 1, 0, 0, 0, .null), (117, .iaload, 1, 0, 0, 0, .null), (118, .isub, 1, 0, 0, 0, .null), (119, .i2l, 1, 0, 0, 0, .null), (120, .lstore 18, 2, 0, 0, 0, .null), (122, .lload 12, 2, 0, 0, 0, .null), (124, .lconst 0, 1, 0, 0, 0, .null)]),
  (145, [(125, .lcmp, 1, 0, 0, 0, .null), (126, .ifCond .gt 17, 3, 0, 0, 0, .null), (129, .lload 8, 2, 0, 0, 0, .null), (131, .lload 8, 2, 0, 0, 0, .null), (133, .lmul, 1, 0, 0, 0, .null), (134, .lload 10, 2, 0, 0, 0, .null), (136, .lload 10, 2, 0, 0, 0, .null), (138, .lmul, 1, 0, 0, 0, .null), (139, .ladd, 1, 0, 0, 0, .null), (140, .goto 48, 3, 0, 0, 0, .null), (143, .lload 12, 2, 0, 0, 0, .null), (145, .lload 14, 2, 0, 0, 0, .null)]),
  (167, [(147, .lcmp, 1, 0, 0, 0, .null), (148, .ifCond .lt 17, 3, 0, 0, 0, .null), (151, .lload 16, 2, 0, 0, 0, .null), (153, .lload 16, 2, 0, 0, 0, .null), (155, .lmul, 1, 0, 0, 0, .null), (156, .lload 18, 2, 0, 0, 0, .null), (158, .lload 18, 2, 0, 0, 0, .null), (160, .lmul, 1, 0, 0, 0, .null), (161, .ladd, 1, 0, 0, 0, .null), (162, .goto 26, 3, 0, 0, 0, .null), (165, .lload 4, 2, 0, 0, 0, .null), (167, .lload 10, 2, 0, 0, 0, .null)]),
  (186, [(169, .lmul, 1, 0, 0, 0, .null), (170, .lload 6, 2, 0, 0, 0, .null), (172, .lload 8, 2, 0, 0, 0, .null), (174, .lmul, 1, 0, 0, 0, .null), (175, .lsub, 1, 0, 0, 0, .null), (176, .lload 4, 2, 0, 0, 0, .null), (178, .lload 10, 2, 0, 0, 0, .null), (180, .lmul, 1, 0, 0, 0, .null), (181, .lload 6, 2, 0, 0, 0, .null), (183, .lload 8, 2, 0, 0, 0, .null), (185, .lmul, 1, 0, 0, 0, .null), (186, .lsub, 1, 0, 0, 0, .null)]),
  (206, [(187, .lmul, 1, 0, 0, 0, .null), (188, .lstore 20, 2, 0, 0, 0, .null), (190, .lload 12, 2, 0, 0, 0, .null), (192, .lconst 0, 1, 0, 0, 0, .null), (193, .lcmp, 1, 0, 0, 0, .null), (194, .ifCond .le 11, 3, 0, 0, 0, .null), (197, .lload 12, 2, 0, 0, 0, .null), (199, .lload 14, 2, 0, 0, 0, .null), (201, .lcmp, 1, 0, 0, 0, .null), (202, .ifCond .lt 7, 3, 0, 0, 0, .null), (205, .lconst 1, 1, 0, 0, 0, .null), (206, .goto 5, 3, 0, 0, 0, .null)]),
  (228, [(209, .lload 14, 2, 0, 0, 0, .null), (211, .lstore 22, 2, 0, 0, 0, .null), (213, .lload 20, 2, 0, 0, 0, .null), (215, .aload_n 0, 1, 0, 0, 0, .null), (216, .getfield 118, 3, 8, 14, 655, .null), (219, .lmul, 1, 0, 0, 0, .null), (220, .aload_n 0, 1, 0, 0, 0, .null), (221, .getfield 122, 3, 8, 13, 654, .null), (224, .lload 22, 2, 0, 0, 0, .null), (226, .lmul, 1, 0, 0, 0, .null), (227, .lcmp, 1, 0, 0, 0, .null), (228, .ifCond .ge 15, 3, 0, 0, 0, .null)]),
  (243, [(231, .aload_n 0, 1, 0, 0, 0, .null), (232, .lload 20, 2, 0, 0, 0, .null), (234, .putfield 122, 3, 8, 13, 654, .null), (237, .aload_n 0, 1, 0, 0, 0, .null), (238, .lload 22, 2, 0, 0, 0, .null), (240, .putfield 118, 3, 8, 14, 655, .null), (243, .return_, 1, 0, 0, 0, .null)])]
noncomputable def M_Mo_reach : zM := (y_Mo_reach, prog_10_method_20_code, 24, (Option.none : Option FieldType), 3, (0, 0, 0, 8), 1, k_Mo_reach)
set_option maxRecDepth 100000 in
theorem x_Mo_reach : (k_Mo_reach.all fun g => g.2.all (zxo R_Mo prog_10_method_20_code 24 false)) = true := by decide +kernel
set_option maxRecDepth 100000 in
theorem o_Mo_reach : zMo 125 M_Mo_reach := ⟨rfl, zmm (k := 830) rfl rfl, zmm (k := 66) (by decide +kernel) rfl, by decide +kernel, by decide +kernel, fun h => (by cases h), fun _ => ⟨zmm (k := 829) (by decide +kernel) rfl, zmm (k := 42) (by decide +kernel) rfl, (R_Mo, T_Mo, 26), rfl, rfl⟩, fun h => (by cases h), zall x_Mo_reach⟩
noncomputable def k_Mo_searchReads : List (Nat × List zE) := [(20, [(0, .aload_n 0, 1, 0, 0, 0, .null), (1, .iload_n 2, 1, 0, 0, 0, .null), (2, .invokevirtual 174, 3, 110, 0, 766, .null), (5, .istore 4, 2, 0, 0, 0, .null), (7, .iload 4, 2, 0, 0, 0, .null), (9, .iconst 4, 1, 0, 0, 0, .null), (10, .if_icmp .gt 8, 3, 0, 0, 0, .null), (13, .iload 4, 2, 0, 0, 0, .null), (15, .goto 12, 3, 0, 0, 0, .null), (18, .aload_n 0, 1, 0, 0, 0, .null), (19, .iload_n 1, 1, 0, 0, 0, .null), (20, .iload_n 2, 1, 0, 0, 0, .null)]),
  (27, [(21, .iload_n 3, 1, 0, 0, 0, .null), (22, .i2l, 1, 0, 0, 0, .null), (23, .lconst 1, 1, 0, 0, 0, .null), (24, .invokevirtual 184, 3, 127, 0, 835, .null), (27, .ireturn, 1, 0, 0, 0, .null)])]
noncomputable def M_Mo_searchReads : zM := (y_Mo_searchReads, prog_10_method_36_code, 5, (Option.some FieldType.int), 3, (0, 0, 0, 8), 1, k_Mo_searchReads)
set_option maxRecDepth 100000 in
theorem x_Mo_searchReads : (k_Mo_searchReads.all fun g => g.2.all (zxo R_Mo prog_10_method_36_code 5 false)) = true := by decide +kernel
set_option maxRecDepth 100000 in
theorem o_Mo_searchReads : zMo 126 M_Mo_searchReads := ⟨rfl, zmm (k := 834) rfl rfl, zmm (k := 66) (by decide +kernel) rfl, by decide +kernel, by decide +kernel, fun h => (by cases h), fun _ => ⟨zmm (k := 833) (by decide +kernel) rfl, zmm (k := 43) (by decide +kernel) rfl, (R_Mo, T_Mo, 26), rfl, rfl⟩, fun h => (by cases h), zall x_Mo_searchReads⟩
noncomputable def k_Mo_readBy : List (Nat × List zE) := [(17, [(0, .iconst 0, 1, 0, 0, 0, .null), (1, .istore 7, 2, 0, 0, 0, .null), (3, .bipush 16, 2, 0, 0, 0, .null), (5, .iload_n 2, 1, 0, 0, 0, .null), (6, .imul, 1, 0, 0, 0, .null), (7, .istore 8, 2, 0, 0, 0, .null), (9, .iload 8, 2, 0, 0, 0, .null), (11, .bipush 16, 2, 0, 0, 0, .null), (13, .iload_n 2, 1, 0, 0, 0, .null), (14, .imul, 1, 0, 0, 0, .null), (15, .bipush 16, 2, 0, 0, 0, .null), (17, .iadd, 1, 0, 0, 0, .null)]),
  (42, [(18, .if_icmp .ge 116, 3, 0, 0, 0, .null), (21, .aload_n 0, 1, 0, 0, 0, .null), (22, .getfield 7, 3, 8, 0, 641, .null), (25, .iload 8, 2, 0, 0, 0, .null), (27, .baload, 1, 0, 0, 0, .null), (28, .ifCond .ne 6, 3, 0, 0, 0, .null), (31, .goto 97, 3, 0, 0, 0, .null), (34, .aload_n 0, 1, 0, 0, 0, .null), (35, .iload 8, 2, 0, 0, 0, .null), (37, .invokevirtual 156, 3, 128, 0, 839, .null), (40, .lload 5, 2, 0, 0, 0, .null), (42, .lconst 0, 1, 0, 0, 0, .null)]),
  (64, [(43, .lcmp, 1, 0, 0, 0, .null), (44, .ifCond .eq 14, 3, 0, 0, 0, .null), (47, .aload_n 0, 1, 0, 0, 0, .null), (48, .iload_n 1, 1, 0, 0, 0, .null), (49, .lload_n 3, 1, 0, 0, 0, .null), (50, .lload 5, 2, 0, 0, 0, .null), (52, .invokevirtual 159, 3, 129, 0, 843, .null), (55, .ifCond .eq 6, 3, 0, 0, 0, .null), (58, .iinc 7 1, 3, 0, 0, 0, .null), (61, .aload_n 0, 1, 0, 0, 0, .null), (62, .iload 8, 2, 0, 0, 0, .null), (64, .invokevirtual 150, 3, 131, 0, 850, .null)]),
  (90, [(67, .istore 9, 2, 0, 0, 0, .null), (69, .iconst 0, 1, 0, 0, 0, .null), (70, .istore 10, 2, 0, 0, 0, .null), (72, .iload 10, 2, 0, 0, 0, .null), (74, .iload 9, 2, 0, 0, 0, .null), (76, .if_icmp .gt 52, 3, 0, 0, 0, .null), (79, .aload_n 0, 1, 0, 0, 0, .null), (80, .iload 8, 2, 0, 0, 0, .null), (82, .iload 10, 2, 0, 0, 0, .null), (84, .invokevirtual 163, 3, 132, 0, 854, .null), (87, .ifCond .ne 6, 3, 0, 0, 0, .null), (90, .goto 32, 3, 0, 0, 0, .null)]),
  (111, [(93, .aload_n 0, 1, 0, 0, 0, .null), (94, .iload 8, 2, 0, 0, 0, .null), (96, .iload 10, 2, 0, 0, 0, .null), (98, .invokevirtual 166, 3, 134, 0, 862, .null), (101, .lload 5, 2, 0, 0, 0, .null), (103, .lconst 0, 1, 0, 0, 0, .null), (104, .lcmp, 1, 0, 0, 0, .null), (105, .ifCond .eq 14, 3, 0, 0, 0, .null), (108, .aload_n 0, 1, 0, 0, 0, .null), (109, .iload_n 1, 1, 0, 0, 0, .null), (110, .lload_n 3, 1, 0, 0, 0, .null), (111, .lload 5, 2, 0, 0, 0, .null)]),
  (136, [(113, .invokevirtual 159, 3, 129, 0, 843, .null), (116, .ifCond .eq 6, 3, 0, 0, 0, .null), (119, .iinc 7 1, 3, 0, 0, 0, .null), (122, .iinc 10 1, 3, 0, 0, 0, .null), (125, .goto (-53), 3, 0, 0, 0, .null), (128, .iinc 8 1, 3, 0, 0, 0, .null), (131, .goto (-122), 3, 0, 0, 0, .null), (134, .iload 7, 2, 0, 0, 0, .null), (136, .ireturn, 1, 0, 0, 0, .null)])]
noncomputable def M_Mo_readBy : zM := (y_Mo_readBy, prog_10_method_29_code, 11, (Option.some FieldType.int), 4, (0, 0, 0, 8), 1, k_Mo_readBy)
set_option maxRecDepth 100000 in
theorem x_Mo_readBy : (k_Mo_readBy.all fun g => g.2.all (zxo R_Mo prog_10_method_29_code 11 false)) = true := by decide +kernel
set_option maxRecDepth 100000 in
theorem o_Mo_readBy : zMo 127 M_Mo_readBy := ⟨rfl, zmm (k := 838) rfl rfl, zmm (k := 66) (by decide +kernel) rfl, by decide +kernel, by decide +kernel, fun h => (by cases h), fun _ => ⟨zmm (k := 837) (by decide +kernel) rfl, zmm (k := 44) (by decide +kernel) rfl, (R_Mo, T_Mo, 26), rfl, rfl⟩, fun h => (by cases h), zall x_Mo_readBy⟩
end
section
noncomputable def k_Mo_around : List (Nat × List zE) := [(17, [(0, .aload_n 0, 1, 0, 0, 0, .null), (1, .aload_n 0, 1, 0, 0, 0, .null), (2, .getfield 29, 3, 8, 6, 647, .null), (5, .iload_n 1, 1, 0, 0, 0, .null), (6, .iaload, 1, 0, 0, 0, .null), (7, .putfield 134, 3, 8, 17, 658, .null), (10, .aload_n 0, 1, 0, 0, 0, .null), (11, .aload_n 0, 1, 0, 0, 0, .null), (12, .getfield 32, 3, 8, 7, 648, .null), (15, .iload_n 1, 1, 0, 0, 0, .null), (16, .iaload, 1, 0, 0, 0, .null), (17, .putfield 137, 3, 8, 18, 659, .null)]),
  (37, [(20, .aload_n 0, 1, 0, 0, 0, .null), (21, .aload_n 0, 1, 0, 0, 0, .null), (22, .getfield 35, 3, 8, 8, 649, .null), (25, .iload_n 1, 1, 0, 0, 0, .null), (26, .iaload, 1, 0, 0, 0, .null), (27, .putfield 144, 3, 8, 19, 660, .null), (30, .aload_n 0, 1, 0, 0, 0, .null), (31, .aload_n 0, 1, 0, 0, 0, .null), (32, .getfield 38, 3, 8, 9, 650, .null), (35, .iload_n 1, 1, 0, 0, 0, .null), (36, .iaload, 1, 0, 0, 0, .null), (37, .putfield 147, 3, 8, 20, 661, .null)]),
  (40, [(40, .return_, 1, 0, 0, 0, .null)])]
noncomputable def M_Mo_around : zM := (y_Mo_around, prog_10_method_27_code, 2, (Option.none : Option FieldType), 1, (0, 0, 0, 8), 1, k_Mo_around)
set_option maxRecDepth 100000 in
theorem x_Mo_around : (k_Mo_around.all fun g => g.2.all (zxo R_Mo prog_10_method_27_code 2 false)) = true := by decide +kernel
set_option maxRecDepth 100000 in
theorem o_Mo_around : zMo 128 M_Mo_around := ⟨rfl, zmm (k := 842) rfl rfl, zmm (k := 66) (by decide +kernel) rfl, by decide +kernel, by decide +kernel, fun h => (by cases h), fun _ => ⟨zmm (k := 841) (by decide +kernel) rfl, zmm (k := 45) (by decide +kernel) rfl, (R_Mo, T_Mo, 26), rfl, rfl⟩, fun h => (by cases h), zall x_Mo_around⟩
noncomputable def k_Mo_close : List (Nat × List zE) := [(17, [(0, .aload_n 0, 1, 0, 0, 0, .null), (1, .getfield 29, 3, 8, 6, 647, .null), (4, .iload_n 1, 1, 0, 0, 0, .null), (5, .iaload, 1, 0, 0, 0, .null), (6, .aload_n 0, 1, 0, 0, 0, .null), (7, .getfield 32, 3, 8, 7, 648, .null), (10, .iload_n 1, 1, 0, 0, 0, .null), (11, .iaload, 1, 0, 0, 0, .null), (12, .aload_n 0, 1, 0, 0, 0, .null), (13, .getfield 134, 3, 8, 17, 658, .null), (16, .aload_n 0, 1, 0, 0, 0, .null), (17, .getfield 137, 3, 8, 18, 659, .null)]),
  (38, [(20, .invokestatic 140, 3, 130, 0, 847, .null), (23, .lstore 6, 2, 0, 0, 0, .null), (25, .aload_n 0, 1, 0, 0, 0, .null), (26, .getfield 35, 3, 8, 8, 649, .null), (29, .iload_n 1, 1, 0, 0, 0, .null), (30, .iaload, 1, 0, 0, 0, .null), (31, .aload_n 0, 1, 0, 0, 0, .null), (32, .getfield 38, 3, 8, 9, 650, .null), (35, .iload_n 1, 1, 0, 0, 0, .null), (36, .iaload, 1, 0, 0, 0, .null), (37, .aload_n 0, 1, 0, 0, 0, .null), (38, .getfield 144, 3, 8, 19, 660, .null)]),
  (61, [(41, .aload_n 0, 1, 0, 0, 0, .null), (42, .getfield 147, 3, 8, 20, 661, .null), (45, .invokestatic 140, 3, 130, 0, 847, .null), (48, .lstore 8, 2, 0, 0, 0, .null), (50, .lload 6, 2, 0, 0, 0, .null), (52, .lload 6, 2, 0, 0, 0, .null), (54, .lmul, 1, 0, 0, 0, .null), (55, .lload 8, 2, 0, 0, 0, .null), (57, .lload 8, 2, 0, 0, 0, .null), (59, .lmul, 1, 0, 0, 0, .null), (60, .ladd, 1, 0, 0, 0, .null), (61, .lload 4, 2, 0, 0, 0, .null)]),
  (74, [(63, .lmul, 1, 0, 0, 0, .null), (64, .lload_n 2, 1, 0, 0, 0, .null), (65, .lcmp, 1, 0, 0, 0, .null), (66, .ifCond .gt 7, 3, 0, 0, 0, .null), (69, .iconst 1, 1, 0, 0, 0, .null), (70, .goto 4, 3, 0, 0, 0, .null), (73, .iconst 0, 1, 0, 0, 0, .null), (74, .ireturn, 1, 0, 0, 0, .null)])]
noncomputable def M_Mo_close : zM := (y_Mo_close, prog_10_method_23_code, 10, (Option.some FieldType.boolean), 3, (0, 0, 0, 8), 1, k_Mo_close)
set_option maxRecDepth 100000 in
theorem x_Mo_close : (k_Mo_close.all fun g => g.2.all (zxo R_Mo prog_10_method_23_code 10 false)) = true := by decide +kernel
set_option maxRecDepth 100000 in
theorem o_Mo_close : zMo 129 M_Mo_close := ⟨rfl, zmm (k := 846) rfl rfl, zmm (k := 66) (by decide +kernel) rfl, by decide +kernel, by decide +kernel, fun h => (by cases h), fun _ => ⟨zmm (k := 845) (by decide +kernel) rfl, zmm (k := 46) (by decide +kernel) rfl, (R_Mo, T_Mo, 26), rfl, rfl⟩, fun h => (by cases h), zall x_Mo_close⟩
noncomputable def k_Mo_gap : List (Nat × List zE) := [(17, [(0, .iload_n 1, 1, 0, 0, 0, .null), (1, .iload_n 2, 1, 0, 0, 0, .null), (2, .if_icmp .ge 10, 3, 0, 0, 0, .null), (5, .iload_n 2, 1, 0, 0, 0, .null), (6, .iload_n 1, 1, 0, 0, 0, .null), (7, .isub, 1, 0, 0, 0, .null), (8, .i2l, 1, 0, 0, 0, .null), (9, .goto 16, 3, 0, 0, 0, .null), (12, .iload_n 3, 1, 0, 0, 0, .null), (13, .iload_n 0, 1, 0, 0, 0, .null), (14, .if_icmp .ge 10, 3, 0, 0, 0, .null), (17, .iload_n 0, 1, 0, 0, 0, .null)]),
  (25, [(18, .iload_n 3, 1, 0, 0, 0, .null), (19, .isub, 1, 0, 0, 0, .null), (20, .i2l, 1, 0, 0, 0, .null), (21, .goto 4, 3, 0, 0, 0, .null), (24, .lconst 0, 1, 0, 0, 0, .null), (25, .lreturn, 1, 0, 0, 0, .null)])]
noncomputable def M_Mo_gap : zM := (y_Mo_gap, prog_10_method_22_code, 4, (Option.some FieldType.long), 4, (0, 0, 0, 8), 0, k_Mo_gap)
set_option maxRecDepth 100000 in
theorem x_Mo_gap : (k_Mo_gap.all fun g => g.2.all (zxo R_Mo prog_10_method_22_code 4 false)) = true := by decide +kernel
set_option maxRecDepth 100000 in
theorem o_Mo_gap : zMo 130 M_Mo_gap := ⟨rfl, zmm (k := 849) rfl rfl, zmm (k := 66) (by decide +kernel) rfl, by decide +kernel, by decide +kernel, fun _ => zmm (k := 848) (by decide +kernel) rfl, fun h => (by cases h), fun h => (by cases h), zall x_Mo_gap⟩
noncomputable def k_Mo_home : List (Nat × List zE) := [(15, [(0, .bipush 8, 2, 0, 0, 0, .null), (2, .istore_n 2, 1, 0, 0, 0, .null), (3, .aload_n 0, 1, 0, 0, 0, .null), (4, .getfield 29, 3, 8, 6, 647, .null), (7, .iload_n 1, 1, 0, 0, 0, .null), (8, .iaload, 1, 0, 0, 0, .null), (9, .bipush 8, 2, 0, 0, 0, .null), (11, .iload_n 2, 1, 0, 0, 0, .null), (12, .isub, 1, 0, 0, 0, .null), (13, .ishr, 1, 0, 0, 0, .null), (14, .aload_n 0, 1, 0, 0, 0, .null), (15, .getfield 32, 3, 8, 7, 648, .null)]),
  (34, [(18, .iload_n 1, 1, 0, 0, 0, .null), (19, .iaload, 1, 0, 0, 0, .null), (20, .bipush 8, 2, 0, 0, 0, .null), (22, .iload_n 2, 1, 0, 0, 0, .null), (23, .isub, 1, 0, 0, 0, .null), (24, .ishr, 1, 0, 0, 0, .null), (25, .if_icmp .ne 28, 3, 0, 0, 0, .null), (28, .aload_n 0, 1, 0, 0, 0, .null), (29, .getfield 35, 3, 8, 8, 649, .null), (32, .iload_n 1, 1, 0, 0, 0, .null), (33, .iaload, 1, 0, 0, 0, .null), (34, .bipush 8, 2, 0, 0, 0, .null)]),
  (50, [(36, .iload_n 2, 1, 0, 0, 0, .null), (37, .isub, 1, 0, 0, 0, .null), (38, .ishr, 1, 0, 0, 0, .null), (39, .aload_n 0, 1, 0, 0, 0, .null), (40, .getfield 38, 3, 8, 9, 650, .null), (43, .iload_n 1, 1, 0, 0, 0, .null), (44, .iaload, 1, 0, 0, 0, .null), (45, .bipush 8, 2, 0, 0, 0, .null), (47, .iload_n 2, 1, 0, 0, 0, .null), (48, .isub, 1, 0, 0, 0, .null), (49, .ishr, 1, 0, 0, 0, .null), (50, .if_icmp .eq 9, 3, 0, 0, 0, .null)]),
  (60, [(53, .iinc 2 (-1), 3, 0, 0, 0, .null), (56, .goto (-53), 3, 0, 0, 0, .null), (59, .iload_n 2, 1, 0, 0, 0, .null), (60, .ireturn, 1, 0, 0, 0, .null)])]
noncomputable def M_Mo_home : zM := (y_Mo_home, prog_10_method_24_code, 3, (Option.some FieldType.int), 1, (0, 0, 0, 8), 1, k_Mo_home)
set_option maxRecDepth 100000 in
theorem x_Mo_home : (k_Mo_home.all fun g => g.2.all (zxo R_Mo prog_10_method_24_code 3 false)) = true := by decide +kernel
set_option maxRecDepth 100000 in
theorem o_Mo_home : zMo 131 M_Mo_home := ⟨rfl, zmm (k := 853) rfl rfl, zmm (k := 66) (by decide +kernel) rfl, by decide +kernel, by decide +kernel, fun h => (by cases h), fun _ => ⟨zmm (k := 852) (by decide +kernel) rfl, zmm (k := 47) (by decide +kernel) rfl, (R_Mo, T_Mo, 26), rfl, rfl⟩, fun h => (by cases h), zall x_Mo_home⟩
noncomputable def k_Mo_foremost : List (Nat × List zE) := [(15, [(0, .iload_n 1, 1, 0, 0, 0, .null), (1, .bipush 16, 2, 0, 0, 0, .null), (3, .idiv, 1, 0, 0, 0, .null), (4, .bipush 16, 2, 0, 0, 0, .null), (6, .imul, 1, 0, 0, 0, .null), (7, .istore_n 3, 1, 0, 0, 0, .null), (8, .iload_n 3, 1, 0, 0, 0, .null), (9, .iload_n 1, 1, 0, 0, 0, .null), (10, .if_icmp .ge 21, 3, 0, 0, 0, .null), (13, .aload_n 0, 1, 0, 0, 0, .null), (14, .iload_n 3, 1, 0, 0, 0, .null), (15, .iload_n 1, 1, 0, 0, 0, .null)]),
  (32, [(16, .iload_n 2, 1, 0, 0, 0, .null), (17, .invokevirtual 153, 3, 133, 0, 858, .null), (20, .ifCond .eq 5, 3, 0, 0, 0, .null), (23, .iconst 0, 1, 0, 0, 0, .null), (24, .ireturn, 1, 0, 0, 0, .null), (25, .iinc 3 1, 3, 0, 0, 0, .null), (28, .goto (-20), 3, 0, 0, 0, .null), (31, .iconst 1, 1, 0, 0, 0, .null), (32, .ireturn, 1, 0, 0, 0, .null)])]
noncomputable def M_Mo_foremost : zM := (y_Mo_foremost, prog_10_method_26_code, 4, (Option.some FieldType.boolean), 2, (0, 0, 0, 8), 1, k_Mo_foremost)
set_option maxRecDepth 100000 in
theorem x_Mo_foremost : (k_Mo_foremost.all fun g => g.2.all (zxo R_Mo prog_10_method_26_code 4 false)) = true := by decide +kernel
set_option maxRecDepth 100000 in
theorem o_Mo_foremost : zMo 132 M_Mo_foremost := ⟨rfl, zmm (k := 857) rfl rfl, zmm (k := 66) (by decide +kernel) rfl, by decide +kernel, by decide +kernel, fun h => (by cases h), fun _ => ⟨zmm (k := 856) (by decide +kernel) rfl, zmm (k := 48) (by decide +kernel) rfl, (R_Mo, T_Mo, 26), rfl, rfl⟩, fun h => (by cases h), zall x_Mo_foremost⟩
noncomputable def k_Mo_shares : List (Nat × List zE) := [(19, [(0, .aload_n 0, 1, 0, 0, 0, .null), (1, .getfield 7, 3, 8, 0, 641, .null), (4, .iload_n 1, 1, 0, 0, 0, .null), (5, .baload, 1, 0, 0, 0, .null), (6, .ifCond .eq 66, 3, 0, 0, 0, .null), (9, .aload_n 0, 1, 0, 0, 0, .null), (10, .iload_n 1, 1, 0, 0, 0, .null), (11, .invokevirtual 150, 3, 131, 0, 850, .null), (14, .iload_n 3, 1, 0, 0, 0, .null), (15, .if_icmp .lt 57, 3, 0, 0, 0, .null), (18, .aload_n 0, 1, 0, 0, 0, .null), (19, .getfield 29, 3, 8, 6, 647, .null)]),
  (37, [(22, .iload_n 1, 1, 0, 0, 0, .null), (23, .iaload, 1, 0, 0, 0, .null), (24, .bipush 8, 2, 0, 0, 0, .null), (26, .iload_n 3, 1, 0, 0, 0, .null), (27, .isub, 1, 0, 0, 0, .null), (28, .ishr, 1, 0, 0, 0, .null), (29, .aload_n 0, 1, 0, 0, 0, .null), (30, .getfield 29, 3, 8, 6, 647, .null), (33, .iload_n 2, 1, 0, 0, 0, .null), (34, .iaload, 1, 0, 0, 0, .null), (35, .bipush 8, 2, 0, 0, 0, .null), (37, .iload_n 3, 1, 0, 0, 0, .null)]),
  (54, [(38, .isub, 1, 0, 0, 0, .null), (39, .ishr, 1, 0, 0, 0, .null), (40, .if_icmp .ne 32, 3, 0, 0, 0, .null), (43, .aload_n 0, 1, 0, 0, 0, .null), (44, .getfield 35, 3, 8, 8, 649, .null), (47, .iload_n 1, 1, 0, 0, 0, .null), (48, .iaload, 1, 0, 0, 0, .null), (49, .bipush 8, 2, 0, 0, 0, .null), (51, .iload_n 3, 1, 0, 0, 0, .null), (52, .isub, 1, 0, 0, 0, .null), (53, .ishr, 1, 0, 0, 0, .null), (54, .aload_n 0, 1, 0, 0, 0, .null)]),
  (73, [(55, .getfield 35, 3, 8, 8, 649, .null), (58, .iload_n 2, 1, 0, 0, 0, .null), (59, .iaload, 1, 0, 0, 0, .null), (60, .bipush 8, 2, 0, 0, 0, .null), (62, .iload_n 3, 1, 0, 0, 0, .null), (63, .isub, 1, 0, 0, 0, .null), (64, .ishr, 1, 0, 0, 0, .null), (65, .if_icmp .ne 7, 3, 0, 0, 0, .null), (68, .iconst 1, 1, 0, 0, 0, .null), (69, .goto 4, 3, 0, 0, 0, .null), (72, .iconst 0, 1, 0, 0, 0, .null), (73, .ireturn, 1, 0, 0, 0, .null)])]
noncomputable def M_Mo_shares : zM := (y_Mo_shares, prog_10_method_25_code, 4, (Option.some FieldType.boolean), 3, (0, 0, 0, 8), 1, k_Mo_shares)
set_option maxRecDepth 100000 in
theorem x_Mo_shares : (k_Mo_shares.all fun g => g.2.all (zxo R_Mo prog_10_method_25_code 4 false)) = true := by decide +kernel
set_option maxRecDepth 100000 in
theorem o_Mo_shares : zMo 133 M_Mo_shares := ⟨rfl, zmm (k := 861) rfl rfl, zmm (k := 66) (by decide +kernel) rfl, by decide +kernel, by decide +kernel, fun h => (by cases h), fun _ => ⟨zmm (k := 860) (by decide +kernel) rfl, zmm (k := 49) (by decide +kernel) rfl, (R_Mo, T_Mo, 26), rfl, rfl⟩, fun h => (by cases h), zall x_Mo_shares⟩
noncomputable def k_Mo_nodeBound : List (Nat × List zE) := [(15, [(0, .aload_n 0, 1, 0, 0, 0, .null), (1, .iload_n 1, 1, 0, 0, 0, .null), (2, .invokevirtual 156, 3, 128, 0, 839, .null), (5, .iload_n 1, 1, 0, 0, 0, .null), (6, .bipush 16, 2, 0, 0, 0, .null), (8, .idiv, 1, 0, 0, 0, .null), (9, .bipush 16, 2, 0, 0, 0, .null), (11, .imul, 1, 0, 0, 0, .null), (12, .istore_n 3, 1, 0, 0, 0, .null), (13, .iload_n 3, 1, 0, 0, 0, .null), (14, .iload_n 1, 1, 0, 0, 0, .null), (15, .bipush 16, 2, 0, 0, 0, .null)]),
  (34, [(17, .idiv, 1, 0, 0, 0, .null), (18, .bipush 16, 2, 0, 0, 0, .null), (20, .imul, 1, 0, 0, 0, .null), (21, .bipush 16, 2, 0, 0, 0, .null), (23, .iadd, 1, 0, 0, 0, .null), (24, .if_icmp .ge 142, 3, 0, 0, 0, .null), (27, .aload_n 0, 1, 0, 0, 0, .null), (28, .iload_n 3, 1, 0, 0, 0, .null), (29, .iload_n 1, 1, 0, 0, 0, .null), (30, .iload_n 2, 1, 0, 0, 0, .null), (31, .invokevirtual 153, 3, 133, 0, 858, .null), (34, .ifCond .ne 6, 3, 0, 0, 0, .null)]),
  (58, [(37, .goto 123, 3, 0, 0, 0, .null), (40, .aload_n 0, 1, 0, 0, 0, .null), (41, .aload_n 0, 1, 0, 0, 0, .null), (42, .getfield 29, 3, 8, 6, 647, .null), (45, .iload_n 3, 1, 0, 0, 0, .null), (46, .iaload, 1, 0, 0, 0, .null), (47, .aload_n 0, 1, 0, 0, 0, .null), (48, .getfield 134, 3, 8, 17, 658, .null), (51, .if_icmp .ge 12, 3, 0, 0, 0, .null), (54, .aload_n 0, 1, 0, 0, 0, .null), (55, .getfield 29, 3, 8, 6, 647, .null), (58, .iload_n 3, 1, 0, 0, 0, .null)]),
  (78, [(59, .iaload, 1, 0, 0, 0, .null), (60, .goto 7, 3, 0, 0, 0, .null), (63, .aload_n 0, 1, 0, 0, 0, .null), (64, .getfield 134, 3, 8, 17, 658, .null), (67, .putfield 134, 3, 8, 17, 658, .null), (70, .aload_n 0, 1, 0, 0, 0, .null), (71, .aload_n 0, 1, 0, 0, 0, .null), (72, .getfield 32, 3, 8, 7, 648, .null), (75, .iload_n 3, 1, 0, 0, 0, .null), (76, .iaload, 1, 0, 0, 0, .null), (77, .aload_n 0, 1, 0, 0, 0, .null), (78, .getfield 137, 3, 8, 18, 659, .null)]),
  (102, [(81, .if_icmp .le 12, 3, 0, 0, 0, .null), (84, .aload_n 0, 1, 0, 0, 0, .null), (85, .getfield 32, 3, 8, 7, 648, .null), (88, .iload_n 3, 1, 0, 0, 0, .null), (89, .iaload, 1, 0, 0, 0, .null), (90, .goto 7, 3, 0, 0, 0, .null), (93, .aload_n 0, 1, 0, 0, 0, .null), (94, .getfield 137, 3, 8, 18, 659, .null), (97, .putfield 137, 3, 8, 18, 659, .null), (100, .aload_n 0, 1, 0, 0, 0, .null), (101, .aload_n 0, 1, 0, 0, 0, .null), (102, .getfield 35, 3, 8, 8, 649, .null)]),
  (124, [(105, .iload_n 3, 1, 0, 0, 0, .null), (106, .iaload, 1, 0, 0, 0, .null), (107, .aload_n 0, 1, 0, 0, 0, .null), (108, .getfield 144, 3, 8, 19, 660, .null), (111, .if_icmp .ge 12, 3, 0, 0, 0, .null), (114, .aload_n 0, 1, 0, 0, 0, .null), (115, .getfield 35, 3, 8, 8, 649, .null), (118, .iload_n 3, 1, 0, 0, 0, .null), (119, .iaload, 1, 0, 0, 0, .null), (120, .goto 7, 3, 0, 0, 0, .null), (123, .aload_n 0, 1, 0, 0, 0, .null), (124, .getfield 144, 3, 8, 19, 660, .null)]),
  (148, [(127, .putfield 144, 3, 8, 19, 660, .null), (130, .aload_n 0, 1, 0, 0, 0, .null), (131, .aload_n 0, 1, 0, 0, 0, .null), (132, .getfield 38, 3, 8, 9, 650, .null), (135, .iload_n 3, 1, 0, 0, 0, .null), (136, .iaload, 1, 0, 0, 0, .null), (137, .aload_n 0, 1, 0, 0, 0, .null), (138, .getfield 147, 3, 8, 20, 661, .null), (141, .if_icmp .le 12, 3, 0, 0, 0, .null), (144, .aload_n 0, 1, 0, 0, 0, .null), (145, .getfield 38, 3, 8, 9, 650, .null), (148, .iload_n 3, 1, 0, 0, 0, .null)]),
  (166, [(149, .iaload, 1, 0, 0, 0, .null), (150, .goto 7, 3, 0, 0, 0, .null), (153, .aload_n 0, 1, 0, 0, 0, .null), (154, .getfield 147, 3, 8, 20, 661, .null), (157, .putfield 147, 3, 8, 20, 661, .null), (160, .iinc 3 1, 3, 0, 0, 0, .null), (163, .goto (-150), 3, 0, 0, 0, .null), (166, .return_, 1, 0, 0, 0, .null)])]
noncomputable def M_Mo_nodeBound : zM := (y_Mo_nodeBound, prog_10_method_28_code, 4, (Option.none : Option FieldType), 2, (0, 0, 0, 8), 1, k_Mo_nodeBound)
set_option maxRecDepth 100000 in
theorem x_Mo_nodeBound : (k_Mo_nodeBound.all fun g => g.2.all (zxo R_Mo prog_10_method_28_code 4 false)) = true := by decide +kernel
set_option maxRecDepth 100000 in
theorem o_Mo_nodeBound : zMo 134 M_Mo_nodeBound := ⟨rfl, zmm (k := 865) rfl rfl, zmm (k := 66) (by decide +kernel) rfl, by decide +kernel, by decide +kernel, fun h => (by cases h), fun _ => ⟨zmm (k := 864) (by decide +kernel) rfl, zmm (k := 50) (by decide +kernel) rfl, (R_Mo, T_Mo, 26), rfl, rfl⟩, fun h => (by cases h), zall x_Mo_nodeBound⟩
noncomputable def k_Mo_nearest : List (Nat × List zE) := [(22, [(0, .iload_n 1, 1, 0, 0, 0, .null), (1, .invokestatic 170, 3, 109, 0, 763, .null), (4, .ifCond .eq 24, 3, 0, 0, 0, .null), (7, .aload_n 0, 1, 0, 0, 0, .null), (8, .getfield 7, 3, 8, 0, 641, .null), (11, .bipush 64, 2, 0, 0, 0, .null), (13, .baload, 1, 0, 0, 0, .null), (14, .ifCond .eq 14, 3, 0, 0, 0, .null), (17, .iload_n 2, 1, 0, 0, 0, .null), (18, .iconst 1, 1, 0, 0, 0, .null), (19, .if_icmp .lt 9, 3, 0, 0, 0, .null), (22, .iload_n 2, 1, 0, 0, 0, .null)]),
  (42, [(23, .bipush 16, 2, 0, 0, 0, .null), (25, .if_icmp .le 5, 3, 0, 0, 0, .null), (28, .iconst (-1), 1, 0, 0, 0, .null), (29, .ireturn, 1, 0, 0, 0, .null), (30, .iconst 0, 1, 0, 0, 0, .null), (31, .istore_n 3, 1, 0, 0, 0, .null), (32, .iload_n 3, 1, 0, 0, 0, .null), (33, .bipush 16, 2, 0, 0, 0, .null), (35, .if_icmp .ge 58, 3, 0, 0, 0, .null), (38, .aload_n 0, 1, 0, 0, 0, .null), (39, .getfield 7, 3, 8, 0, 641, .null), (42, .bipush 16, 2, 0, 0, 0, .null)]),
  (61, [(44, .iload_n 1, 1, 0, 0, 0, .null), (45, .imul, 1, 0, 0, 0, .null), (46, .iload_n 3, 1, 0, 0, 0, .null), (47, .iadd, 1, 0, 0, 0, .null), (48, .baload, 1, 0, 0, 0, .null), (49, .ifCond .ne 6, 3, 0, 0, 0, .null), (52, .goto 35, 3, 0, 0, 0, .null), (55, .aload_n 0, 1, 0, 0, 0, .null), (56, .bipush 64, 2, 0, 0, 0, .null), (58, .bipush 16, 2, 0, 0, 0, .null), (60, .iload_n 1, 1, 0, 0, 0, .null), (61, .imul, 1, 0, 0, 0, .null)]),
  (81, [(62, .iload_n 3, 1, 0, 0, 0, .null), (63, .iadd, 1, 0, 0, 0, .null), (64, .invokevirtual 188, 3, 117, 0, 794, .null), (67, .aload_n 0, 1, 0, 0, 0, .null), (68, .getfield 47, 3, 8, 15, 656, .null), (71, .iload_n 3, 1, 0, 0, 0, .null), (72, .aload_n 0, 1, 0, 0, 0, .null), (73, .getfield 122, 3, 8, 13, 654, .null), (76, .lastore, 1, 0, 0, 0, .null), (77, .aload_n 0, 1, 0, 0, 0, .null), (78, .getfield 51, 3, 8, 16, 657, .null), (81, .iload_n 3, 1, 0, 0, 0, .null)]),
  (101, [(82, .aload_n 0, 1, 0, 0, 0, .null), (83, .getfield 118, 3, 8, 14, 655, .null), (86, .lastore, 1, 0, 0, 0, .null), (87, .iinc 3 1, 3, 0, 0, 0, .null), (90, .goto (-58), 3, 0, 0, 0, .null), (93, .aload_n 0, 1, 0, 0, 0, .null), (94, .iload_n 1, 1, 0, 0, 0, .null), (95, .invokevirtual 174, 3, 110, 0, 766, .null), (98, .istore_n 3, 1, 0, 0, 0, .null), (99, .aload_n 0, 1, 0, 0, 0, .null), (100, .iload_n 3, 1, 0, 0, 0, .null), (101, .iload_n 2, 1, 0, 0, 0, .null)]),
  (124, [(102, .if_icmp .ge 7, 3, 0, 0, 0, .null), (105, .iload_n 3, 1, 0, 0, 0, .null), (106, .goto 4, 3, 0, 0, 0, .null), (109, .iload_n 2, 1, 0, 0, 0, .null), (110, .putfield 191, 3, 8, 21, 662, .null), (113, .iconst 0, 1, 0, 0, 0, .null), (114, .istore 4, 2, 0, 0, 0, .null), (116, .iload 4, 2, 0, 0, 0, .null), (118, .bipush 16, 2, 0, 0, 0, .null), (120, .if_icmp .ge 100, 3, 0, 0, 0, .null), (123, .aload_n 0, 1, 0, 0, 0, .null), (124, .getfield 7, 3, 8, 0, 641, .null)]),
  (145, [(127, .bipush 16, 2, 0, 0, 0, .null), (129, .iload_n 1, 1, 0, 0, 0, .null), (130, .imul, 1, 0, 0, 0, .null), (131, .iload 4, 2, 0, 0, 0, .null), (133, .iadd, 1, 0, 0, 0, .null), (134, .baload, 1, 0, 0, 0, .null), (135, .ifCond .ne 6, 3, 0, 0, 0, .null), (138, .goto 76, 3, 0, 0, 0, .null), (141, .iconst 0, 1, 0, 0, 0, .null), (142, .istore 5, 2, 0, 0, 0, .null), (144, .iconst 0, 1, 0, 0, 0, .null), (145, .istore 6, 2, 0, 0, 0, .null)]),
  (167, [(147, .iload 6, 2, 0, 0, 0, .null), (149, .bipush 16, 2, 0, 0, 0, .null), (151, .if_icmp .ge 45, 3, 0, 0, 0, .null), (154, .iload 5, 2, 0, 0, 0, .null), (156, .aload_n 0, 1, 0, 0, 0, .null), (157, .getfield 7, 3, 8, 0, 641, .null), (160, .bipush 16, 2, 0, 0, 0, .null), (162, .iload_n 1, 1, 0, 0, 0, .null), (163, .imul, 1, 0, 0, 0, .null), (164, .iload 6, 2, 0, 0, 0, .null), (166, .iadd, 1, 0, 0, 0, .null), (167, .baload, 1, 0, 0, 0, .null)]),
  (190, [(168, .ifCond .eq 18, 3, 0, 0, 0, .null), (171, .aload_n 0, 1, 0, 0, 0, .null), (172, .iload 6, 2, 0, 0, 0, .null), (174, .iload 4, 2, 0, 0, 0, .null), (176, .invokevirtual 203, 3, 136, 0, 870, .null), (179, .ifCond .eq 7, 3, 0, 0, 0, .null), (182, .iconst 1, 1, 0, 0, 0, .null), (183, .goto 4, 3, 0, 0, 0, .null), (186, .iconst 0, 1, 0, 0, 0, .null), (187, .iadd, 1, 0, 0, 0, .null), (188, .istore 5, 2, 0, 0, 0, .null), (190, .iinc 6 1, 3, 0, 0, 0, .null)]),
  (217, [(193, .goto (-46), 3, 0, 0, 0, .null), (196, .iload 5, 2, 0, 0, 0, .null), (198, .aload_n 0, 1, 0, 0, 0, .null), (199, .getfield 191, 3, 8, 21, 662, .null), (202, .if_icmp .ge 12, 3, 0, 0, 0, .null), (205, .aload_n 0, 1, 0, 0, 0, .null), (206, .getfield 54, 3, 8, 23, 664, .null), (209, .iload 5, 2, 0, 0, 0, .null), (211, .iload 4, 2, 0, 0, 0, .null), (213, .iastore, 1, 0, 0, 0, .null), (214, .iinc 4 1, 3, 0, 0, 0, .null), (217, .goto (-101), 3, 0, 0, 0, .null)]),
  (239, [(220, .iload_n 3, 1, 0, 0, 0, .null), (221, .iload_n 2, 1, 0, 0, 0, .null), (222, .if_icmp .ge 7, 3, 0, 0, 0, .null), (225, .iconst 1, 1, 0, 0, 0, .null), (226, .goto 4, 3, 0, 0, 0, .null), (229, .iconst 0, 1, 0, 0, 0, .null), (230, .istore 4, 2, 0, 0, 0, .null), (232, .aload_n 0, 1, 0, 0, 0, .null), (233, .iload 4, 2, 0, 0, 0, .null), (235, .ifCond .eq 15, 3, 0, 0, 0, .null), (238, .aload_n 0, 1, 0, 0, 0, .null), (239, .bipush 64, 2, 0, 0, 0, .null)]),
  (259, [(241, .iload_n 1, 1, 0, 0, 0, .null), (242, .lconst 0, 1, 0, 0, 0, .null), (243, .lconst 0, 1, 0, 0, 0, .null), (244, .invokevirtual 184, 3, 127, 0, 835, .null), (247, .goto 42, 3, 0, 0, 0, .null), (250, .aload_n 0, 1, 0, 0, 0, .null), (251, .bipush 64, 2, 0, 0, 0, .null), (253, .iload_n 1, 1, 0, 0, 0, .null), (254, .aload_n 0, 1, 0, 0, 0, .null), (255, .getfield 47, 3, 8, 15, 656, .null), (258, .aload_n 0, 1, 0, 0, 0, .null), (259, .getfield 54, 3, 8, 23, 664, .null)]),
  (279, [(262, .aload_n 0, 1, 0, 0, 0, .null), (263, .getfield 191, 3, 8, 21, 662, .null), (266, .iconst 1, 1, 0, 0, 0, .null), (267, .isub, 1, 0, 0, 0, .null), (268, .iaload, 1, 0, 0, 0, .null), (269, .laload, 1, 0, 0, 0, .null), (270, .aload_n 0, 1, 0, 0, 0, .null), (271, .getfield 51, 3, 8, 16, 657, .null), (274, .aload_n 0, 1, 0, 0, 0, .null), (275, .getfield 54, 3, 8, 23, 664, .null), (278, .aload_n 0, 1, 0, 0, 0, .null), (279, .getfield 191, 3, 8, 21, 662, .null)]),
  (296, [(282, .iconst 1, 1, 0, 0, 0, .null), (283, .isub, 1, 0, 0, 0, .null), (284, .iaload, 1, 0, 0, 0, .null), (285, .laload, 1, 0, 0, 0, .null), (286, .invokevirtual 184, 3, 127, 0, 835, .null), (289, .putfield 200, 3, 8, 22, 663, .null), (292, .aload_n 0, 1, 0, 0, 0, .null), (293, .getfield 191, 3, 8, 21, 662, .null), (296, .ireturn, 1, 0, 0, 0, .null)])]
noncomputable def M_Mo_nearest : zM := (y_Mo_nearest, prog_10_method_40_code, 7, (Option.some FieldType.int), 2, (0, 0, 0, 8), 1, k_Mo_nearest)
set_option maxRecDepth 100000 in
theorem x_Mo_nearest : (k_Mo_nearest.all fun g => g.2.all (zxo R_Mo prog_10_method_40_code 7 false)) = true := by decide +kernel
set_option maxRecDepth 100000 in
theorem o_Mo_nearest : zMo 135 M_Mo_nearest := ⟨rfl, zmm (k := 869) rfl rfl, zmm (k := 66) (by decide +kernel) rfl, by decide +kernel, by decide +kernel, fun h => (by cases h), fun _ => ⟨zmm (k := 867) (by decide +kernel) rfl, zmm (k := 868) (by decide +kernel) rfl, (R_Mo, T_Mo, 26), rfl, rfl⟩, fun h => (by cases h), zall x_Mo_nearest⟩
noncomputable def k_Mo_nearer : List (Nat × List zE) := [(15, [(0, .aload_n 0, 1, 0, 0, 0, .null), (1, .getfield 47, 3, 8, 15, 656, .null), (4, .iload_n 1, 1, 0, 0, 0, .null), (5, .laload, 1, 0, 0, 0, .null), (6, .aload_n 0, 1, 0, 0, 0, .null), (7, .getfield 51, 3, 8, 16, 657, .null), (10, .iload_n 2, 1, 0, 0, 0, .null), (11, .laload, 1, 0, 0, 0, .null), (12, .lmul, 1, 0, 0, 0, .null), (13, .lstore_n 3, 1, 0, 0, 0, .null), (14, .aload_n 0, 1, 0, 0, 0, .null), (15, .getfield 47, 3, 8, 15, 656, .null)]),
  (33, [(18, .iload_n 2, 1, 0, 0, 0, .null), (19, .laload, 1, 0, 0, 0, .null), (20, .aload_n 0, 1, 0, 0, 0, .null), (21, .getfield 51, 3, 8, 16, 657, .null), (24, .iload_n 1, 1, 0, 0, 0, .null), (25, .laload, 1, 0, 0, 0, .null), (26, .lmul, 1, 0, 0, 0, .null), (27, .lstore 5, 2, 0, 0, 0, .null), (29, .lload_n 3, 1, 0, 0, 0, .null), (30, .lload 5, 2, 0, 0, 0, .null), (32, .lcmp, 1, 0, 0, 0, .null), (33, .ifCond .lt 15, 3, 0, 0, 0, .null)]),
  (53, [(36, .lload_n 3, 1, 0, 0, 0, .null), (37, .lload 5, 2, 0, 0, 0, .null), (39, .lcmp, 1, 0, 0, 0, .null), (40, .ifCond .ne 12, 3, 0, 0, 0, .null), (43, .iload_n 1, 1, 0, 0, 0, .null), (44, .iload_n 2, 1, 0, 0, 0, .null), (45, .if_icmp .ge 7, 3, 0, 0, 0, .null), (48, .iconst 1, 1, 0, 0, 0, .null), (49, .goto 4, 3, 0, 0, 0, .null), (52, .iconst 0, 1, 0, 0, 0, .null), (53, .ireturn, 1, 0, 0, 0, .null)])]
noncomputable def M_Mo_nearer : zM := (y_Mo_nearer, prog_10_method_39_code, 7, (Option.some FieldType.boolean), 2, (0, 0, 0, 8), 1, k_Mo_nearer)
set_option maxRecDepth 100000 in
theorem x_Mo_nearer : (k_Mo_nearer.all fun g => g.2.all (zxo R_Mo prog_10_method_39_code 7 false)) = true := by decide +kernel
set_option maxRecDepth 100000 in
theorem o_Mo_nearer : zMo 136 M_Mo_nearer := ⟨rfl, zmm (k := 873) rfl rfl, zmm (k := 66) (by decide +kernel) rfl, by decide +kernel, by decide +kernel, fun h => (by cases h), fun _ => ⟨zmm (k := 872) (by decide +kernel) rfl, zmm (k := 51) (by decide +kernel) rfl, (R_Mo, T_Mo, 26), rfl, rfl⟩, fun h => (by cases h), zall x_Mo_nearer⟩
noncomputable def k_Mo_join : List (Nat × List zE) := [(17, [(0, .iload_n 1, 1, 0, 0, 0, .null), (1, .ifCond .ge 5, 3, 0, 0, 0, .null), (4, .iconst (-1), 1, 0, 0, 0, .null), (5, .ireturn, 1, 0, 0, 0, .null), (6, .aload_n 0, 1, 0, 0, 0, .null), (7, .iconst 0, 1, 0, 0, 0, .null), (8, .putfield 191, 3, 8, 21, 662, .null), (11, .aload_n 0, 1, 0, 0, 0, .null), (12, .iconst 0, 1, 0, 0, 0, .null), (13, .putfield 200, 3, 8, 22, 663, .null), (16, .iconst 0, 1, 0, 0, 0, .null), (17, .istore_n 2, 1, 0, 0, 0, .null)]),
  (38, [(18, .iload_n 2, 1, 0, 0, 0, .null), (19, .bipush 16, 2, 0, 0, 0, .null), (21, .if_icmp .ge 94, 3, 0, 0, 0, .null), (24, .aload_n 0, 1, 0, 0, 0, .null), (25, .getfield 7, 3, 8, 0, 641, .null), (28, .iload_n 2, 1, 0, 0, 0, .null), (29, .baload, 1, 0, 0, 0, .null), (30, .ifCond .ne 6, 3, 0, 0, 0, .null), (33, .goto 76, 3, 0, 0, 0, .null), (36, .iconst 0, 1, 0, 0, 0, .null), (37, .istore_n 3, 1, 0, 0, 0, .null), (38, .iload_n 3, 1, 0, 0, 0, .null)]),
  (60, [(39, .bipush 16, 2, 0, 0, 0, .null), (41, .if_icmp .ge 50, 3, 0, 0, 0, .null), (44, .aload_n 0, 1, 0, 0, 0, .null), (45, .iload_n 2, 1, 0, 0, 0, .null), (46, .bipush 16, 2, 0, 0, 0, .null), (48, .iload_n 3, 1, 0, 0, 0, .null), (49, .iadd, 1, 0, 0, 0, .null), (50, .iload_n 1, 1, 0, 0, 0, .null), (51, .invokevirtual 194, 3, 116, 0, 790, .null), (54, .ifCond .ne 6, 3, 0, 0, 0, .null), (57, .goto 28, 3, 0, 0, 0, .null), (60, .aload_n 0, 1, 0, 0, 0, .null)]),
  (77, [(61, .getfield 54, 3, 8, 23, 664, .null), (64, .aload_n 0, 1, 0, 0, 0, .null), (65, .getfield 191, 3, 8, 21, 662, .null), (68, .bipush 16, 2, 0, 0, 0, .null), (70, .iload_n 2, 1, 0, 0, 0, .null), (71, .imul, 1, 0, 0, 0, .null), (72, .iload_n 3, 1, 0, 0, 0, .null), (73, .iadd, 1, 0, 0, 0, .null), (74, .iastore, 1, 0, 0, 0, .null), (75, .aload_n 0, 1, 0, 0, 0, .null), (76, .dup, 1, 0, 0, 0, .null), (77, .getfield 191, 3, 8, 21, 662, .null)]),
  (99, [(80, .iconst 1, 1, 0, 0, 0, .null), (81, .iadd, 1, 0, 0, 0, .null), (82, .putfield 191, 3, 8, 21, 662, .null), (85, .iinc 3 1, 3, 0, 0, 0, .null), (88, .goto (-50), 3, 0, 0, 0, .null), (91, .aload_n 0, 1, 0, 0, 0, .null), (92, .iload_n 2, 1, 0, 0, 0, .null), (93, .iconst 1, 1, 0, 0, 0, .null), (94, .iload_n 1, 1, 0, 0, 0, .null), (95, .invokevirtual 197, 3, 126, 0, 831, .null), (98, .istore_n 3, 1, 0, 0, 0, .null), (99, .aload_n 0, 1, 0, 0, 0, .null)]),
  (119, [(100, .dup, 1, 0, 0, 0, .null), (101, .getfield 200, 3, 8, 22, 663, .null), (104, .iload_n 3, 1, 0, 0, 0, .null), (105, .iadd, 1, 0, 0, 0, .null), (106, .putfield 200, 3, 8, 22, 663, .null), (109, .iinc 2 1, 3, 0, 0, 0, .null), (112, .goto (-94), 3, 0, 0, 0, .null), (115, .aload_n 0, 1, 0, 0, 0, .null), (116, .getfield 191, 3, 8, 21, 662, .null), (119, .ireturn, 1, 0, 0, 0, .null)])]
noncomputable def M_Mo_join : zM := (y_Mo_join, prog_10_method_41_code, 4, (Option.some FieldType.int), 1, (0, 0, 0, 8), 1, k_Mo_join)
set_option maxRecDepth 100000 in
theorem x_Mo_join : (k_Mo_join.all fun g => g.2.all (zxo R_Mo prog_10_method_41_code 4 false)) = true := by decide +kernel
set_option maxRecDepth 100000 in
theorem o_Mo_join : zMo 137 M_Mo_join := ⟨rfl, zmm (k := 877) rfl rfl, zmm (k := 66) (by decide +kernel) rfl, by decide +kernel, by decide +kernel, fun h => (by cases h), fun _ => ⟨zmm (k := 875) (by decide +kernel) rfl, zmm (k := 876) (by decide +kernel) rfl, (R_Mo, T_Mo, 26), rfl, rfl⟩, fun h => (by cases h), zall x_Mo_join⟩
noncomputable def k_Mo_result : List (Nat × List zE) := [(21, [(0, .iload_n 1, 1, 0, 0, 0, .null), (1, .ifCond .lt 20, 3, 0, 0, 0, .null), (4, .iload_n 1, 1, 0, 0, 0, .null), (5, .aload_n 0, 1, 0, 0, 0, .null), (6, .getfield 191, 3, 8, 21, 662, .null), (9, .if_icmp .ge 12, 3, 0, 0, 0, .null), (12, .aload_n 0, 1, 0, 0, 0, .null), (13, .getfield 54, 3, 8, 23, 664, .null), (16, .iload_n 1, 1, 0, 0, 0, .null), (17, .iaload, 1, 0, 0, 0, .null), (18, .goto 4, 3, 0, 0, 0, .null), (21, .iconst (-1), 1, 0, 0, 0, .null)]),
  (22, [(22, .ireturn, 1, 0, 0, 0, .null)])]
noncomputable def M_Mo_result : zM := (y_Mo_result, prog_10_method_42_code, 2, (Option.some FieldType.int), 1, (0, 0, 0, 8), 1, k_Mo_result)
set_option maxRecDepth 100000 in
theorem x_Mo_result : (k_Mo_result.all fun g => g.2.all (zxo R_Mo prog_10_method_42_code 2 false)) = true := by decide +kernel
set_option maxRecDepth 100000 in
theorem o_Mo_result : zMo 138 M_Mo_result := ⟨rfl, zmm (k := 881) rfl rfl, zmm (k := 66) (by decide +kernel) rfl, by decide +kernel, by decide +kernel, fun h => (by cases h), fun _ => ⟨zmm (k := 879) (by decide +kernel) rfl, zmm (k := 880) (by decide +kernel) rfl, (R_Mo, T_Mo, 26), rfl, rfl⟩, fun h => (by cases h), zall x_Mo_result⟩
noncomputable def k_Mo_reads : List (Nat × List zE) := [(4, [(0, .aload_n 0, 1, 0, 0, 0, .null), (1, .getfield 200, 3, 8, 22, 663, .null), (4, .ireturn, 1, 0, 0, 0, .null)])]
noncomputable def M_Mo_reads : zM := (y_Mo_reads, prog_10_method_43_code, 1, (Option.some FieldType.int), 0, (0, 0, 0, 8), 1, k_Mo_reads)
set_option maxRecDepth 100000 in
theorem x_Mo_reads : (k_Mo_reads.all fun g => g.2.all (zxo R_Mo prog_10_method_43_code 1 false)) = true := by decide +kernel
set_option maxRecDepth 100000 in
theorem o_Mo_reads : zMo 139 M_Mo_reads := ⟨rfl, zmm (k := 885) rfl rfl, zmm (k := 66) (by decide +kernel) rfl, by decide +kernel, by decide +kernel, fun h => (by cases h), fun _ => ⟨zmm (k := 883) (by decide +kernel) rfl, zmm (k := 884) (by decide +kernel) rfl, (R_Mo, T_Mo, 26), rfl, rfl⟩, fun h => (by cases h), zall x_Mo_reads⟩
noncomputable def k_Mo_measure : List (Nat × List zE) := [(18, [(0, .aload_n 0, 1, 0, 0, 0, .null), (1, .iload_n 1, 1, 0, 0, 0, .null), (2, .iload_n 2, 1, 0, 0, 0, .null), (3, .invokevirtual 180, 3, 113, 0, 778, .null), (6, .istore_n 3, 1, 0, 0, 0, .null), (7, .iload_n 3, 1, 0, 0, 0, .null), (8, .ifCond .lt 13, 3, 0, 0, 0, .null), (11, .aload_n 0, 1, 0, 0, 0, .null), (12, .getfield 7, 3, 8, 0, 641, .null), (15, .bipush 64, 2, 0, 0, 0, .null), (17, .baload, 1, 0, 0, 0, .null), (18, .ifCond .ne 5, 3, 0, 0, 0, .null)]),
  (39, [(21, .iconst (-1), 1, 0, 0, 0, .null), (22, .ireturn, 1, 0, 0, 0, .null), (23, .aload_n 0, 1, 0, 0, 0, .null), (24, .bipush 64, 2, 0, 0, 0, .null), (26, .iload_n 3, 1, 0, 0, 0, .null), (27, .invokevirtual 188, 3, 117, 0, 794, .null), (30, .aload_n 0, 1, 0, 0, 0, .null), (31, .getfield 122, 3, 8, 13, 654, .null), (34, .aload_n 0, 1, 0, 0, 0, .null), (35, .getfield 118, 3, 8, 14, 655, .null), (38, .ldiv, 1, 0, 0, 0, .null), (39, .l2i, 1, 0, 0, 0, .null)]),
  (40, [(40, .ireturn, 1, 0, 0, 0, .null)])]
noncomputable def M_Mo_measure : zM := (y_Mo_measure, prog_10_method_44_code, 4, (Option.some FieldType.int), 2, (0, 0, 0, 8), 1, k_Mo_measure)
set_option maxRecDepth 100000 in
theorem x_Mo_measure : (k_Mo_measure.all fun g => g.2.all (zxo R_Mo prog_10_method_44_code 4 false)) = true := by decide +kernel
set_option maxRecDepth 100000 in
theorem o_Mo_measure : zMo 140 M_Mo_measure := ⟨rfl, zmm (k := 889) rfl rfl, zmm (k := 66) (by decide +kernel) rfl, by decide +kernel, by decide +kernel, fun h => (by cases h), fun _ => ⟨zmm (k := 887) (by decide +kernel) rfl, zmm (k := 888) (by decide +kernel) rfl, (R_Mo, T_Mo, 26), rfl, rfl⟩, fun h => (by cases h), zall x_Mo_measure⟩
noncomputable def k_Mo_value : List (Nat × List zE) := [(19, [(0, .aload_n 0, 1, 0, 0, 0, .null), (1, .iload_n 1, 1, 0, 0, 0, .null), (2, .iload_n 2, 1, 0, 0, 0, .null), (3, .invokevirtual 180, 3, 113, 0, 778, .null), (6, .istore_n 3, 1, 0, 0, 0, .null), (7, .iload_n 3, 1, 0, 0, 0, .null), (8, .ifCond .ge 7, 3, 0, 0, 0, .null), (11, .iconst 0, 1, 0, 0, 0, .null), (12, .goto 9, 3, 0, 0, 0, .null), (15, .aload_n 0, 1, 0, 0, 0, .null), (16, .getfield 13, 3, 8, 1, 642, .null), (19, .iload_n 3, 1, 0, 0, 0, .null)]),
  (21, [(20, .iaload, 1, 0, 0, 0, .null), (21, .ireturn, 1, 0, 0, 0, .null)])]
noncomputable def M_Mo_value : zM := (y_Mo_value, prog_10_method_45_code, 4, (Option.some FieldType.int), 2, (0, 0, 0, 8), 1, k_Mo_value)
set_option maxRecDepth 100000 in
theorem x_Mo_value : (k_Mo_value.all fun g => g.2.all (zxo R_Mo prog_10_method_45_code 4 false)) = true := by decide +kernel
set_option maxRecDepth 100000 in
theorem o_Mo_value : zMo 141 M_Mo_value := ⟨rfl, zmm (k := 893) rfl rfl, zmm (k := 66) (by decide +kernel) rfl, by decide +kernel, by decide +kernel, fun h => (by cases h), fun _ => ⟨zmm (k := 891) (by decide +kernel) rfl, zmm (k := 892) (by decide +kernel) rfl, (R_Mo, T_Mo, 26), rfl, rfl⟩, fun h => (by cases h), zall x_Mo_value⟩
noncomputable def k_Mo_rows : List (Nat × List zE) := [(16, [(0, .iload_n 1, 1, 0, 0, 0, .null), (1, .invokestatic 170, 3, 109, 0, 763, .null), (4, .ifCond .ne 5, 3, 0, 0, 0, .null), (7, .iconst (-1), 1, 0, 0, 0, .null), (8, .ireturn, 1, 0, 0, 0, .null), (9, .iconst 0, 1, 0, 0, 0, .null), (10, .istore_n 2, 1, 0, 0, 0, .null), (11, .iconst 0, 1, 0, 0, 0, .null), (12, .istore_n 3, 1, 0, 0, 0, .null), (13, .iload_n 3, 1, 0, 0, 0, .null), (14, .bipush 16, 2, 0, 0, 0, .null), (16, .if_icmp .ge 33, 3, 0, 0, 0, .null)]),
  (35, [(19, .aload_n 0, 1, 0, 0, 0, .null), (20, .getfield 7, 3, 8, 0, 641, .null), (23, .bipush 16, 2, 0, 0, 0, .null), (25, .iload_n 1, 1, 0, 0, 0, .null), (26, .imul, 1, 0, 0, 0, .null), (27, .iload_n 3, 1, 0, 0, 0, .null), (28, .iadd, 1, 0, 0, 0, .null), (29, .baload, 1, 0, 0, 0, .null), (30, .ifCond .eq 11, 3, 0, 0, 0, .null), (33, .iload_n 2, 1, 0, 0, 0, .null), (34, .iconst 1, 1, 0, 0, 0, .null), (35, .iload_n 3, 1, 0, 0, 0, .null)]),
  (50, [(36, .ishl, 1, 0, 0, 0, .null), (37, .ior, 1, 0, 0, 0, .null), (38, .goto 4, 3, 0, 0, 0, .null), (41, .iload_n 2, 1, 0, 0, 0, .null), (42, .istore_n 2, 1, 0, 0, 0, .null), (43, .iinc 3 1, 3, 0, 0, 0, .null), (46, .goto (-33), 3, 0, 0, 0, .null), (49, .iload_n 2, 1, 0, 0, 0, .null), (50, .ireturn, 1, 0, 0, 0, .null)])]
noncomputable def M_Mo_rows : zM := (y_Mo_rows, prog_10_method_46_code, 4, (Option.some FieldType.int), 1, (0, 0, 0, 8), 1, k_Mo_rows)
set_option maxRecDepth 100000 in
theorem x_Mo_rows : (k_Mo_rows.all fun g => g.2.all (zxo R_Mo prog_10_method_46_code 4 false)) = true := by decide +kernel
set_option maxRecDepth 100000 in
theorem o_Mo_rows : zMo 142 M_Mo_rows := ⟨rfl, zmm (k := 897) rfl rfl, zmm (k := 66) (by decide +kernel) rfl, by decide +kernel, by decide +kernel, fun h => (by cases h), fun _ => ⟨zmm (k := 895) (by decide +kernel) rfl, zmm (k := 896) (by decide +kernel) rfl, (R_Mo, T_Mo, 26), rfl, rfl⟩, fun h => (by cases h), zall x_Mo_rows⟩
noncomputable def k_Mo_nodes : List (Nat × List zE) := [(18, [(0, .iload_n 1, 1, 0, 0, 0, .null), (1, .invokestatic 170, 3, 109, 0, 763, .null), (4, .ifCond .ne 5, 3, 0, 0, 0, .null), (7, .iconst (-1), 1, 0, 0, 0, .null), (8, .ireturn, 1, 0, 0, 0, .null), (9, .aload_n 0, 1, 0, 0, 0, .null), (10, .bipush 64, 2, 0, 0, 0, .null), (12, .iload_n 1, 1, 0, 0, 0, .null), (13, .lconst 0, 1, 0, 0, 0, .null), (14, .lconst 0, 1, 0, 0, 0, .null), (15, .invokevirtual 184, 3, 127, 0, 835, .null), (18, .istore_n 2, 1, 0, 0, 0, .null)]),
  (26, [(19, .iload_n 2, 1, 0, 0, 0, .null), (20, .aload_n 0, 1, 0, 0, 0, .null), (21, .iload_n 1, 1, 0, 0, 0, .null), (22, .invokevirtual 174, 3, 110, 0, 766, .null), (25, .isub, 1, 0, 0, 0, .null), (26, .ireturn, 1, 0, 0, 0, .null)])]
noncomputable def M_Mo_nodes : zM := (y_Mo_nodes, prog_10_method_47_code, 3, (Option.some FieldType.int), 1, (0, 0, 0, 8), 1, k_Mo_nodes)
set_option maxRecDepth 100000 in
theorem x_Mo_nodes : (k_Mo_nodes.all fun g => g.2.all (zxo R_Mo prog_10_method_47_code 3 false)) = true := by decide +kernel
set_option maxRecDepth 100000 in
theorem o_Mo_nodes : zMo 143 M_Mo_nodes := ⟨rfl, zmm (k := 901) rfl rfl, zmm (k := 66) (by decide +kernel) rfl, by decide +kernel, by decide +kernel, fun h => (by cases h), fun _ => ⟨zmm (k := 899) (by decide +kernel) rfl, zmm (k := 900) (by decide +kernel) rfl, (R_Mo, T_Mo, 26), rfl, rfl⟩, fun h => (by cases h), zall x_Mo_nodes⟩
noncomputable def k_Mo_commit : List (Nat × List zE) := [(17, [(0, .iconst 0, 1, 0, 0, 0, .null), (1, .istore_n 2, 1, 0, 0, 0, .null), (2, .iconst 0, 1, 0, 0, 0, .null), (3, .istore_n 3, 1, 0, 0, 0, .null), (4, .iconst 1, 1, 0, 0, 0, .null), (5, .istore 4, 2, 0, 0, 0, .null), (7, .iconst 0, 1, 0, 0, 0, .null), (8, .istore 5, 2, 0, 0, 0, .null), (10, .iload 5, 2, 0, 0, 0, .null), (12, .bipush 9, 2, 0, 0, 0, .null), (14, .if_icmp .ge 17, 3, 0, 0, 0, .null), (17, .aload_n 0, 1, 0, 0, 0, .null)]),
  (41, [(18, .getfield 60, 3, 8, 25, 666, .null), (21, .iload 5, 2, 0, 0, 0, .null), (23, .iconst (-1), 1, 0, 0, 0, .null), (24, .iastore, 1, 0, 0, 0, .null), (25, .iinc 5 1, 3, 0, 0, 0, .null), (28, .goto (-18), 3, 0, 0, 0, .null), (31, .iconst 0, 1, 0, 0, 0, .null), (32, .istore 5, 2, 0, 0, 0, .null), (34, .iload 5, 2, 0, 0, 0, .null), (36, .bipush 8, 2, 0, 0, 0, .null), (38, .if_icmp .ge 73, 3, 0, 0, 0, .null), (41, .aload_n 0, 1, 0, 0, 0, .null)]),
  (64, [(42, .iload 5, 2, 0, 0, 0, .null), (44, .invokevirtual 212, 3, 145, 0, 906, .null), (47, .istore 6, 2, 0, 0, 0, .null), (49, .iload_n 3, 1, 0, 0, 0, .null), (50, .ifCond .ne 8, 3, 0, 0, 0, .null), (53, .iload 6, 2, 0, 0, 0, .null), (55, .ifCond .eq 7, 3, 0, 0, 0, .null), (58, .iconst 1, 1, 0, 0, 0, .null), (59, .goto 4, 3, 0, 0, 0, .null), (62, .iconst 0, 1, 0, 0, 0, .null), (63, .istore_n 3, 1, 0, 0, 0, .null), (64, .iload 6, 2, 0, 0, 0, .null)]),
  (92, [(66, .ifCond .eq 39, 3, 0, 0, 0, .null), (69, .aload_n 0, 1, 0, 0, 0, .null), (70, .iload 5, 2, 0, 0, 0, .null), (72, .invokevirtual 215, 3, 147, 0, 914, .null), (75, .ifCond .ne 6, 3, 0, 0, 0, .null), (78, .goto 27, 3, 0, 0, 0, .null), (81, .iload 4, 2, 0, 0, 0, .null), (83, .ifCond .eq 16, 3, 0, 0, 0, .null), (86, .aload_n 0, 1, 0, 0, 0, .null), (87, .iload 5, 2, 0, 0, 0, .null), (89, .invokevirtual 218, 3, 148, 0, 918, .null), (92, .ifCond .eq 7, 3, 0, 0, 0, .null)]),
  (117, [(95, .iconst 1, 1, 0, 0, 0, .null), (96, .goto 4, 3, 0, 0, 0, .null), (99, .iconst 0, 1, 0, 0, 0, .null), (100, .istore 4, 2, 0, 0, 0, .null), (102, .iinc 2 1, 3, 0, 0, 0, .null), (105, .iinc 5 1, 3, 0, 0, 0, .null), (108, .goto (-74), 3, 0, 0, 0, .null), (111, .iload_n 3, 1, 0, 0, 0, .null), (112, .ifCond .ne 5, 3, 0, 0, 0, .null), (115, .iconst 0, 1, 0, 0, 0, .null), (116, .ireturn, 1, 0, 0, 0, .null), (117, .iload 4, 2, 0, 0, 0, .null)]),
  (143, [(119, .ifCond .eq 16, 3, 0, 0, 0, .null), (122, .aload_n 0, 1, 0, 0, 0, .null), (123, .bipush 8, 2, 0, 0, 0, .null), (125, .invokevirtual 218, 3, 148, 0, 918, .null), (128, .ifCond .eq 7, 3, 0, 0, 0, .null), (131, .iconst 1, 1, 0, 0, 0, .null), (132, .goto 4, 3, 0, 0, 0, .null), (135, .iconst 0, 1, 0, 0, 0, .null), (136, .istore 4, 2, 0, 0, 0, .null), (138, .iinc 2 2, 3, 0, 0, 0, .null), (141, .iload 4, 2, 0, 0, 0, .null), (143, .ifCond .ne 5, 3, 0, 0, 0, .null)]),
  (163, [(146, .iconst (-1), 1, 0, 0, 0, .null), (147, .ireturn, 1, 0, 0, 0, .null), (148, .iload_n 1, 1, 0, 0, 0, .null), (149, .ifCond .lt 14, 3, 0, 0, 0, .null), (152, .iload_n 1, 1, 0, 0, 0, .null), (153, .iload_n 2, 1, 0, 0, 0, .null), (154, .if_icmp .ge 9, 3, 0, 0, 0, .null), (157, .aload_n 0, 1, 0, 0, 0, .null), (158, .invokevirtual 221, 3, 150, 0, 926, .null), (161, .iload_n 1, 1, 0, 0, 0, .null), (162, .ireturn, 1, 0, 0, 0, .null), (163, .iconst 0, 1, 0, 0, 0, .null)]),
  (189, [(164, .istore 5, 2, 0, 0, 0, .null), (166, .iload 5, 2, 0, 0, 0, .null), (168, .bipush 9, 2, 0, 0, 0, .null), (170, .if_icmp .ge 39, 3, 0, 0, 0, .null), (173, .iload 5, 2, 0, 0, 0, .null), (175, .bipush 8, 2, 0, 0, 0, .null), (177, .if_icmp .eq 12, 3, 0, 0, 0, .null), (180, .aload_n 0, 1, 0, 0, 0, .null), (181, .iload 5, 2, 0, 0, 0, .null), (183, .invokevirtual 212, 3, 145, 0, 906, .null), (186, .ifCond .eq 17, 3, 0, 0, 0, .null), (189, .aload_n 0, 1, 0, 0, 0, .null)]),
  (212, [(190, .getfield 57, 3, 8, 24, 665, .null), (193, .iload 5, 2, 0, 0, 0, .null), (195, .aload_n 0, 1, 0, 0, 0, .null), (196, .getfield 60, 3, 8, 25, 666, .null), (199, .iload 5, 2, 0, 0, 0, .null), (201, .iaload, 1, 0, 0, 0, .null), (202, .iastore, 1, 0, 0, 0, .null), (203, .iinc 5 1, 3, 0, 0, 0, .null), (206, .goto (-40), 3, 0, 0, 0, .null), (209, .iconst 0, 1, 0, 0, 0, .null), (210, .istore 5, 2, 0, 0, 0, .null), (212, .iload 5, 2, 0, 0, 0, .null)]),
  (237, [(214, .bipush 32, 2, 0, 0, 0, .null), (216, .if_icmp .ge 20, 3, 0, 0, 0, .null), (219, .aload_n 0, 1, 0, 0, 0, .null), (220, .iload 5, 2, 0, 0, 0, .null), (222, .iload 5, 2, 0, 0, 0, .null), (224, .bipush 32, 2, 0, 0, 0, .null), (226, .iadd, 1, 0, 0, 0, .null), (227, .invokevirtual 224, 3, 152, 0, 934, .null), (230, .iinc 5 1, 3, 0, 0, 0, .null), (233, .goto (-21), 3, 0, 0, 0, .null), (236, .iload_n 1, 1, 0, 0, 0, .null), (237, .iload_n 2, 1, 0, 0, 0, .null)]),
  (246, [(238, .if_icmp .ne 7, 3, 0, 0, 0, .null), (241, .aload_n 0, 1, 0, 0, 0, .null), (242, .invokevirtual 221, 3, 150, 0, 926, .null), (245, .iload_n 2, 1, 0, 0, 0, .null), (246, .ireturn, 1, 0, 0, 0, .null)])]
noncomputable def M_Mo_commit : zM := (y_Mo_commit, prog_10_method_53_code, 7, (Option.some FieldType.int), 1, (0, 0, 0, 8), 1, k_Mo_commit)
set_option maxRecDepth 100000 in
theorem x_Mo_commit : (k_Mo_commit.all fun g => g.2.all (zxo R_Mo prog_10_method_53_code 7 false)) = true := by decide +kernel
set_option maxRecDepth 100000 in
theorem o_Mo_commit : zMo 144 M_Mo_commit := ⟨rfl, zmm (k := 905) rfl rfl, zmm (k := 66) (by decide +kernel) rfl, by decide +kernel, by decide +kernel, fun h => (by cases h), fun _ => ⟨zmm (k := 903) (by decide +kernel) rfl, zmm (k := 904) (by decide +kernel) rfl, (R_Mo, T_Mo, 26), rfl, rfl⟩, fun h => (by cases h), zall x_Mo_commit⟩
end
section
noncomputable def k_Mo_changed : List (Nat × List zE) := [(13, [(0, .iconst 4, 1, 0, 0, 0, .null), (1, .iload_n 1, 1, 0, 0, 0, .null), (2, .imul, 1, 0, 0, 0, .null), (3, .istore_n 2, 1, 0, 0, 0, .null), (4, .iload_n 2, 1, 0, 0, 0, .null), (5, .iconst 4, 1, 0, 0, 0, .null), (6, .iload_n 1, 1, 0, 0, 0, .null), (7, .imul, 1, 0, 0, 0, .null), (8, .iconst 4, 1, 0, 0, 0, .null), (9, .iadd, 1, 0, 0, 0, .null), (10, .if_icmp .ge 23, 3, 0, 0, 0, .null), (13, .aload_n 0, 1, 0, 0, 0, .null)]),
  (34, [(14, .iload_n 2, 1, 0, 0, 0, .null), (15, .iload_n 2, 1, 0, 0, 0, .null), (16, .bipush 32, 2, 0, 0, 0, .null), (18, .iadd, 1, 0, 0, 0, .null), (19, .invokevirtual 206, 3, 146, 0, 910, .null), (22, .ifCond .ne 5, 3, 0, 0, 0, .null), (25, .iconst 1, 1, 0, 0, 0, .null), (26, .ireturn, 1, 0, 0, 0, .null), (27, .iinc 2 1, 3, 0, 0, 0, .null), (30, .goto (-26), 3, 0, 0, 0, .null), (33, .iconst 0, 1, 0, 0, 0, .null), (34, .ireturn, 1, 0, 0, 0, .null)])]
noncomputable def M_Mo_changed : zM := (y_Mo_changed, prog_10_method_49_code, 3, (Option.some FieldType.boolean), 1, (0, 0, 0, 8), 1, k_Mo_changed)
set_option maxRecDepth 100000 in
theorem x_Mo_changed : (k_Mo_changed.all fun g => g.2.all (zxo R_Mo prog_10_method_49_code 3 false)) = true := by decide +kernel
set_option maxRecDepth 100000 in
theorem o_Mo_changed : zMo 145 M_Mo_changed := ⟨rfl, zmm (k := 909) rfl rfl, zmm (k := 66) (by decide +kernel) rfl, by decide +kernel, by decide +kernel, fun h => (by cases h), fun _ => ⟨zmm (k := 908) (by decide +kernel) rfl, zmm (k := 52) (by decide +kernel) rfl, (R_Mo, T_Mo, 26), rfl, rfl⟩, fun h => (by cases h), zall x_Mo_changed⟩
noncomputable def k_Mo_sameRow : List (Nat × List zE) := [(17, [(0, .aload_n 0, 1, 0, 0, 0, .null), (1, .getfield 7, 3, 8, 0, 641, .null), (4, .iload_n 1, 1, 0, 0, 0, .null), (5, .baload, 1, 0, 0, 0, .null), (6, .aload_n 0, 1, 0, 0, 0, .null), (7, .getfield 7, 3, 8, 0, 641, .null), (10, .iload_n 2, 1, 0, 0, 0, .null), (11, .baload, 1, 0, 0, 0, .null), (12, .if_icmp .eq 5, 3, 0, 0, 0, .null), (15, .iconst 0, 1, 0, 0, 0, .null), (16, .ireturn, 1, 0, 0, 0, .null), (17, .aload_n 0, 1, 0, 0, 0, .null)]),
  (35, [(18, .getfield 7, 3, 8, 0, 641, .null), (21, .iload_n 1, 1, 0, 0, 0, .null), (22, .baload, 1, 0, 0, 0, .null), (23, .ifCond .ne 5, 3, 0, 0, 0, .null), (26, .iconst 1, 1, 0, 0, 0, .null), (27, .ireturn, 1, 0, 0, 0, .null), (28, .aload_n 0, 1, 0, 0, 0, .null), (29, .getfield 13, 3, 8, 1, 642, .null), (32, .iload_n 1, 1, 0, 0, 0, .null), (33, .iaload, 1, 0, 0, 0, .null), (34, .aload_n 0, 1, 0, 0, 0, .null), (35, .getfield 13, 3, 8, 1, 642, .null)]),
  (55, [(38, .iload_n 2, 1, 0, 0, 0, .null), (39, .iaload, 1, 0, 0, 0, .null), (40, .if_icmp .ne 37, 3, 0, 0, 0, .null), (43, .aload_n 0, 1, 0, 0, 0, .null), (44, .getfield 17, 3, 8, 2, 643, .null), (47, .iload_n 1, 1, 0, 0, 0, .null), (48, .iaload, 1, 0, 0, 0, .null), (49, .aload_n 0, 1, 0, 0, 0, .null), (50, .getfield 17, 3, 8, 2, 643, .null), (53, .iload_n 2, 1, 0, 0, 0, .null), (54, .iaload, 1, 0, 0, 0, .null), (55, .if_icmp .ne 22, 3, 0, 0, 0, .null)]),
  (77, [(58, .aload_n 0, 1, 0, 0, 0, .null), (59, .getfield 20, 3, 8, 3, 644, .null), (62, .iload_n 1, 1, 0, 0, 0, .null), (63, .iaload, 1, 0, 0, 0, .null), (64, .aload_n 0, 1, 0, 0, 0, .null), (65, .getfield 20, 3, 8, 3, 644, .null), (68, .iload_n 2, 1, 0, 0, 0, .null), (69, .iaload, 1, 0, 0, 0, .null), (70, .if_icmp .ne 7, 3, 0, 0, 0, .null), (73, .iconst 1, 1, 0, 0, 0, .null), (74, .goto 4, 3, 0, 0, 0, .null), (77, .iconst 0, 1, 0, 0, 0, .null)]),
  (97, [(78, .istore_n 3, 1, 0, 0, 0, .null), (79, .iconst 0, 1, 0, 0, 0, .null), (80, .istore 4, 2, 0, 0, 0, .null), (82, .iload 4, 2, 0, 0, 0, .null), (84, .aload_n 0, 1, 0, 0, 0, .null), (85, .getfield 20, 3, 8, 3, 644, .null), (88, .iload_n 1, 1, 0, 0, 0, .null), (89, .iaload, 1, 0, 0, 0, .null), (90, .if_icmp .ge 73, 3, 0, 0, 0, .null), (93, .iload_n 3, 1, 0, 0, 0, .null), (94, .ifCond .eq 69, 3, 0, 0, 0, .null), (97, .aload_n 0, 1, 0, 0, 0, .null)]),
  (116, [(98, .getfield 23, 3, 8, 4, 645, .null), (101, .bipush 6, 2, 0, 0, 0, .null), (103, .iload_n 1, 1, 0, 0, 0, .null), (104, .imul, 1, 0, 0, 0, .null), (105, .iload 4, 2, 0, 0, 0, .null), (107, .iadd, 1, 0, 0, 0, .null), (108, .iaload, 1, 0, 0, 0, .null), (109, .aload_n 0, 1, 0, 0, 0, .null), (110, .getfield 23, 3, 8, 4, 645, .null), (113, .bipush 6, 2, 0, 0, 0, .null), (115, .iload_n 2, 1, 0, 0, 0, .null), (116, .imul, 1, 0, 0, 0, .null)]),
  (135, [(117, .iload 4, 2, 0, 0, 0, .null), (119, .iadd, 1, 0, 0, 0, .null), (120, .iaload, 1, 0, 0, 0, .null), (121, .if_icmp .ne 34, 3, 0, 0, 0, .null), (124, .aload_n 0, 1, 0, 0, 0, .null), (125, .getfield 26, 3, 8, 5, 646, .null), (128, .bipush 6, 2, 0, 0, 0, .null), (130, .iload_n 1, 1, 0, 0, 0, .null), (131, .imul, 1, 0, 0, 0, .null), (132, .iload 4, 2, 0, 0, 0, .null), (134, .iadd, 1, 0, 0, 0, .null), (135, .iaload, 1, 0, 0, 0, .null)]),
  (155, [(136, .aload_n 0, 1, 0, 0, 0, .null), (137, .getfield 26, 3, 8, 5, 646, .null), (140, .bipush 6, 2, 0, 0, 0, .null), (142, .iload_n 2, 1, 0, 0, 0, .null), (143, .imul, 1, 0, 0, 0, .null), (144, .iload 4, 2, 0, 0, 0, .null), (146, .iadd, 1, 0, 0, 0, .null), (147, .iaload, 1, 0, 0, 0, .null), (148, .if_icmp .ne 7, 3, 0, 0, 0, .null), (151, .iconst 1, 1, 0, 0, 0, .null), (152, .goto 4, 3, 0, 0, 0, .null), (155, .iconst 0, 1, 0, 0, 0, .null)]),
  (164, [(156, .istore_n 3, 1, 0, 0, 0, .null), (157, .iinc 4 1, 3, 0, 0, 0, .null), (160, .goto (-78), 3, 0, 0, 0, .null), (163, .iload_n 3, 1, 0, 0, 0, .null), (164, .ireturn, 1, 0, 0, 0, .null)])]
noncomputable def M_Mo_sameRow : zM := (y_Mo_sameRow, prog_10_method_48_code, 5, (Option.some FieldType.boolean), 2, (0, 0, 0, 8), 1, k_Mo_sameRow)
set_option maxRecDepth 100000 in
theorem x_Mo_sameRow : (k_Mo_sameRow.all fun g => g.2.all (zxo R_Mo prog_10_method_48_code 5 false)) = true := by decide +kernel
set_option maxRecDepth 100000 in
theorem o_Mo_sameRow : zMo 146 M_Mo_sameRow := ⟨rfl, zmm (k := 913) rfl rfl, zmm (k := 66) (by decide +kernel) rfl, by decide +kernel, by decide +kernel, fun h => (by cases h), fun _ => ⟨zmm (k := 912) (by decide +kernel) rfl, zmm (k := 53) (by decide +kernel) rfl, (R_Mo, T_Mo, 26), rfl, rfl⟩, fun h => (by cases h), zall x_Mo_sameRow⟩
noncomputable def k_Mo_filled : List (Nat × List zE) := [(17, [(0, .aload_n 0, 1, 0, 0, 0, .null), (1, .getfield 7, 3, 8, 0, 641, .null), (4, .iconst 4, 1, 0, 0, 0, .null), (5, .iload_n 1, 1, 0, 0, 0, .null), (6, .imul, 1, 0, 0, 0, .null), (7, .baload, 1, 0, 0, 0, .null), (8, .ifCond .ne 42, 3, 0, 0, 0, .null), (11, .aload_n 0, 1, 0, 0, 0, .null), (12, .getfield 7, 3, 8, 0, 641, .null), (15, .iconst 4, 1, 0, 0, 0, .null), (16, .iload_n 1, 1, 0, 0, 0, .null), (17, .imul, 1, 0, 0, 0, .null)]),
  (33, [(18, .iconst 1, 1, 0, 0, 0, .null), (19, .iadd, 1, 0, 0, 0, .null), (20, .baload, 1, 0, 0, 0, .null), (21, .ifCond .ne 29, 3, 0, 0, 0, .null), (24, .aload_n 0, 1, 0, 0, 0, .null), (25, .getfield 7, 3, 8, 0, 641, .null), (28, .iconst 4, 1, 0, 0, 0, .null), (29, .iload_n 1, 1, 0, 0, 0, .null), (30, .imul, 1, 0, 0, 0, .null), (31, .iconst 2, 1, 0, 0, 0, .null), (32, .iadd, 1, 0, 0, 0, .null), (33, .baload, 1, 0, 0, 0, .null)]),
  (51, [(34, .ifCond .ne 16, 3, 0, 0, 0, .null), (37, .aload_n 0, 1, 0, 0, 0, .null), (38, .getfield 7, 3, 8, 0, 641, .null), (41, .iconst 4, 1, 0, 0, 0, .null), (42, .iload_n 1, 1, 0, 0, 0, .null), (43, .imul, 1, 0, 0, 0, .null), (44, .iconst 3, 1, 0, 0, 0, .null), (45, .iadd, 1, 0, 0, 0, .null), (46, .baload, 1, 0, 0, 0, .null), (47, .ifCond .eq 7, 3, 0, 0, 0, .null), (50, .iconst 1, 1, 0, 0, 0, .null), (51, .goto 4, 3, 0, 0, 0, .null)]),
  (55, [(54, .iconst 0, 1, 0, 0, 0, .null), (55, .ireturn, 1, 0, 0, 0, .null)])]
noncomputable def M_Mo_filled : zM := (y_Mo_filled, prog_10_method_50_code, 2, (Option.some FieldType.boolean), 1, (0, 0, 0, 8), 1, k_Mo_filled)
set_option maxRecDepth 100000 in
theorem x_Mo_filled : (k_Mo_filled.all fun g => g.2.all (zxo R_Mo prog_10_method_50_code 2 false)) = true := by decide +kernel
set_option maxRecDepth 100000 in
theorem o_Mo_filled : zMo 147 M_Mo_filled := ⟨rfl, zmm (k := 917) rfl rfl, zmm (k := 66) (by decide +kernel) rfl, by decide +kernel, by decide +kernel, fun h => (by cases h), fun _ => ⟨zmm (k := 916) (by decide +kernel) rfl, zmm (k := 54) (by decide +kernel) rfl, (R_Mo, T_Mo, 26), rfl, rfl⟩, fun h => (by cases h), zall x_Mo_filled⟩
noncomputable def k_Mo_write : List (Nat × List zE) := [(22, [(0, .iconst 0, 1, 0, 0, 0, .null), (1, .istore_n 2, 1, 0, 0, 0, .null), (2, .iload_n 2, 1, 0, 0, 0, .null), (3, .bipush 16, 2, 0, 0, 0, .null), (5, .if_icmp .ge 17, 3, 0, 0, 0, .null), (8, .aload_n 0, 1, 0, 0, 0, .null), (9, .iload_n 2, 1, 0, 0, 0, .null), (10, .invokevirtual 209, 3, 149, 0, 922, .null), (13, .ifCond .ne 9, 3, 0, 0, 0, .null), (16, .iinc 2 1, 3, 0, 0, 0, .null), (19, .goto (-17), 3, 0, 0, 0, .null), (22, .aload_n 0, 1, 0, 0, 0, .null)]),
  (40, [(23, .getfield 60, 3, 8, 25, 666, .null), (26, .iload_n 1, 1, 0, 0, 0, .null), (27, .iload_n 2, 1, 0, 0, 0, .null), (28, .iastore, 1, 0, 0, 0, .null), (29, .iload_n 2, 1, 0, 0, 0, .null), (30, .bipush 16, 2, 0, 0, 0, .null), (32, .if_icmp .ge 7, 3, 0, 0, 0, .null), (35, .iconst 1, 1, 0, 0, 0, .null), (36, .goto 4, 3, 0, 0, 0, .null), (39, .iconst 0, 1, 0, 0, 0, .null), (40, .ireturn, 1, 0, 0, 0, .null)])]
noncomputable def M_Mo_write : zM := (y_Mo_write, prog_10_method_52_code, 3, (Option.some FieldType.boolean), 1, (0, 0, 0, 8), 1, k_Mo_write)
set_option maxRecDepth 100000 in
theorem x_Mo_write : (k_Mo_write.all fun g => g.2.all (zxo R_Mo prog_10_method_52_code 3 false)) = true := by decide +kernel
set_option maxRecDepth 100000 in
theorem o_Mo_write : zMo 148 M_Mo_write := ⟨rfl, zmm (k := 921) rfl rfl, zmm (k := 66) (by decide +kernel) rfl, by decide +kernel, by decide +kernel, fun h => (by cases h), fun _ => ⟨zmm (k := 920) (by decide +kernel) rfl, zmm (k := 55) (by decide +kernel) rfl, (R_Mo, T_Mo, 26), rfl, rfl⟩, fun h => (by cases h), zall x_Mo_write⟩
noncomputable def k_Mo_isFree : List (Nat × List zE) := [(18, [(0, .iconst 0, 1, 0, 0, 0, .null), (1, .istore_n 2, 1, 0, 0, 0, .null), (2, .iload_n 2, 1, 0, 0, 0, .null), (3, .bipush 9, 2, 0, 0, 0, .null), (5, .if_icmp .ge 31, 3, 0, 0, 0, .null), (8, .aload_n 0, 1, 0, 0, 0, .null), (9, .getfield 57, 3, 8, 24, 665, .null), (12, .iload_n 2, 1, 0, 0, 0, .null), (13, .iaload, 1, 0, 0, 0, .null), (14, .iload_n 1, 1, 0, 0, 0, .null), (15, .if_icmp .eq 13, 3, 0, 0, 0, .null), (18, .aload_n 0, 1, 0, 0, 0, .null)]),
  (37, [(19, .getfield 60, 3, 8, 25, 666, .null), (22, .iload_n 2, 1, 0, 0, 0, .null), (23, .iaload, 1, 0, 0, 0, .null), (24, .iload_n 1, 1, 0, 0, 0, .null), (25, .if_icmp .ne 5, 3, 0, 0, 0, .null), (28, .iconst 0, 1, 0, 0, 0, .null), (29, .ireturn, 1, 0, 0, 0, .null), (30, .iinc 2 1, 3, 0, 0, 0, .null), (33, .goto (-31), 3, 0, 0, 0, .null), (36, .iconst 1, 1, 0, 0, 0, .null), (37, .ireturn, 1, 0, 0, 0, .null)])]
noncomputable def M_Mo_isFree : zM := (y_Mo_isFree, prog_10_method_51_code, 3, (Option.some FieldType.boolean), 1, (0, 0, 0, 8), 1, k_Mo_isFree)
set_option maxRecDepth 100000 in
theorem x_Mo_isFree : (k_Mo_isFree.all fun g => g.2.all (zxo R_Mo prog_10_method_51_code 3 false)) = true := by decide +kernel
set_option maxRecDepth 100000 in
theorem o_Mo_isFree : zMo 149 M_Mo_isFree := ⟨rfl, zmm (k := 925) rfl rfl, zmm (k := 66) (by decide +kernel) rfl, by decide +kernel, by decide +kernel, fun h => (by cases h), fun _ => ⟨zmm (k := 924) (by decide +kernel) rfl, zmm (k := 56) (by decide +kernel) rfl, (R_Mo, T_Mo, 26), rfl, rfl⟩, fun h => (by cases h), zall x_Mo_isFree⟩
noncomputable def k_Mo_crash : List (Nat × List zE) := [(19, [(0, .aload_n 0, 1, 0, 0, 0, .null), (1, .invokevirtual 227, 3, 151, 0, 930, .null), (4, .aload_n 0, 1, 0, 0, 0, .null), (5, .iconst 0, 1, 0, 0, 0, .null), (6, .putfield 63, 3, 8, 10, 651, .null), (9, .aload_n 0, 1, 0, 0, 0, .null), (10, .iconst 0, 1, 0, 0, 0, .null), (11, .putfield 191, 3, 8, 21, 662, .null), (14, .aload_n 0, 1, 0, 0, 0, .null), (15, .iconst 0, 1, 0, 0, 0, .null), (16, .putfield 200, 3, 8, 22, 663, .null), (19, .aload_n 0, 1, 0, 0, 0, .null)]),
  (27, [(20, .getfield 7, 3, 8, 0, 641, .null), (23, .bipush 64, 2, 0, 0, 0, .null), (25, .iconst 0, 1, 0, 0, 0, .null), (26, .bastore, 1, 0, 0, 0, .null), (27, .return_, 1, 0, 0, 0, .null)])]
noncomputable def M_Mo_crash : zM := (y_Mo_crash, prog_10_method_56_code, 1, (Option.none : Option FieldType), 0, (0, 0, 0, 8), 1, k_Mo_crash)
set_option maxRecDepth 100000 in
theorem x_Mo_crash : (k_Mo_crash.all fun g => g.2.all (zxo R_Mo prog_10_method_56_code 1 false)) = true := by decide +kernel
set_option maxRecDepth 100000 in
theorem o_Mo_crash : zMo 150 M_Mo_crash := ⟨rfl, zmm (k := 929) rfl rfl, zmm (k := 66) (by decide +kernel) rfl, by decide +kernel, by decide +kernel, fun h => (by cases h), fun _ => ⟨zmm (k := 927) (by decide +kernel) rfl, zmm (k := 928) (by decide +kernel) rfl, (R_Mo, T_Mo, 26), rfl, rfl⟩, fun h => (by cases h), zall x_Mo_crash⟩
noncomputable def k_Mo_rollback : List (Nat × List zE) := [(17, [(0, .iconst 0, 1, 0, 0, 0, .null), (1, .istore_n 1, 1, 0, 0, 0, .null), (2, .iload_n 1, 1, 0, 0, 0, .null), (3, .bipush 32, 2, 0, 0, 0, .null), (5, .if_icmp .ge 18, 3, 0, 0, 0, .null), (8, .aload_n 0, 1, 0, 0, 0, .null), (9, .iload_n 1, 1, 0, 0, 0, .null), (10, .bipush 32, 2, 0, 0, 0, .null), (12, .iadd, 1, 0, 0, 0, .null), (13, .iload_n 1, 1, 0, 0, 0, .null), (14, .invokevirtual 224, 3, 152, 0, 934, .null), (17, .iinc 1 1, 3, 0, 0, 0, .null)]),
  (23, [(20, .goto (-18), 3, 0, 0, 0, .null), (23, .return_, 1, 0, 0, 0, .null)])]
noncomputable def M_Mo_rollback : zM := (y_Mo_rollback, prog_10_method_55_code, 2, (Option.none : Option FieldType), 0, (0, 0, 0, 8), 1, k_Mo_rollback)
set_option maxRecDepth 100000 in
theorem x_Mo_rollback : (k_Mo_rollback.all fun g => g.2.all (zxo R_Mo prog_10_method_55_code 2 false)) = true := by decide +kernel
set_option maxRecDepth 100000 in
theorem o_Mo_rollback : zMo 151 M_Mo_rollback := ⟨rfl, zmm (k := 933) rfl rfl, zmm (k := 66) (by decide +kernel) rfl, by decide +kernel, by decide +kernel, fun h => (by cases h), fun _ => ⟨zmm (k := 931) (by decide +kernel) rfl, zmm (k := 932) (by decide +kernel) rfl, (R_Mo, T_Mo, 26), rfl, rfl⟩, fun h => (by cases h), zall x_Mo_rollback⟩
noncomputable def k_Mo_copyRow : List (Nat × List zE) := [(17, [(0, .aload_n 0, 1, 0, 0, 0, .null), (1, .getfield 7, 3, 8, 0, 641, .null), (4, .iload_n 2, 1, 0, 0, 0, .null), (5, .aload_n 0, 1, 0, 0, 0, .null), (6, .getfield 7, 3, 8, 0, 641, .null), (9, .iload_n 1, 1, 0, 0, 0, .null), (10, .baload, 1, 0, 0, 0, .null), (11, .bastore, 1, 0, 0, 0, .null), (12, .aload_n 0, 1, 0, 0, 0, .null), (13, .getfield 13, 3, 8, 1, 642, .null), (16, .iload_n 2, 1, 0, 0, 0, .null), (17, .aload_n 0, 1, 0, 0, 0, .null)]),
  (30, [(18, .getfield 13, 3, 8, 1, 642, .null), (21, .iload_n 1, 1, 0, 0, 0, .null), (22, .iaload, 1, 0, 0, 0, .null), (23, .iastore, 1, 0, 0, 0, .null), (24, .aload_n 0, 1, 0, 0, 0, .null), (25, .iload_n 1, 1, 0, 0, 0, .null), (26, .iload_n 2, 1, 0, 0, 0, .null), (27, .invokevirtual 177, 3, 111, 0, 770, .null), (30, .return_, 1, 0, 0, 0, .null)])]
noncomputable def M_Mo_copyRow : zM := (y_Mo_copyRow, prog_10_method_54_code, 3, (Option.none : Option FieldType), 2, (0, 0, 0, 8), 1, k_Mo_copyRow)
set_option maxRecDepth 100000 in
theorem x_Mo_copyRow : (k_Mo_copyRow.all fun g => g.2.all (zxo R_Mo prog_10_method_54_code 3 false)) = true := by decide +kernel
set_option maxRecDepth 100000 in
theorem o_Mo_copyRow : zMo 152 M_Mo_copyRow := ⟨rfl, zmm (k := 937) rfl rfl, zmm (k := 66) (by decide +kernel) rfl, by decide +kernel, by decide +kernel, fun h => (by cases h), fun _ => ⟨zmm (k := 936) (by decide +kernel) rfl, zmm (k := 57) (by decide +kernel) rfl, (R_Mo, T_Mo, 26), rfl, rfl⟩, fun h => (by cases h), zall x_Mo_copyRow⟩
noncomputable def k_Mo_frame : List (Nat × List zE) := [(20, [(0, .iload_n 1, 1, 0, 0, 0, .null), (1, .ifCond .lt 18, 3, 0, 0, 0, .null), (4, .iload_n 1, 1, 0, 0, 0, .null), (5, .bipush 8, 2, 0, 0, 0, .null), (7, .if_icmp .gt 12, 3, 0, 0, 0, .null), (10, .aload_n 0, 1, 0, 0, 0, .null), (11, .getfield 57, 3, 8, 24, 665, .null), (14, .iload_n 1, 1, 0, 0, 0, .null), (15, .iaload, 1, 0, 0, 0, .null), (16, .goto 4, 3, 0, 0, 0, .null), (19, .iconst (-1), 1, 0, 0, 0, .null), (20, .ireturn, 1, 0, 0, 0, .null)])]
noncomputable def M_Mo_frame : zM := (y_Mo_frame, prog_10_method_57_code, 2, (Option.some FieldType.int), 1, (0, 0, 0, 8), 1, k_Mo_frame)
set_option maxRecDepth 100000 in
theorem x_Mo_frame : (k_Mo_frame.all fun g => g.2.all (zxo R_Mo prog_10_method_57_code 2 false)) = true := by decide +kernel
set_option maxRecDepth 100000 in
theorem o_Mo_frame : zMo 153 M_Mo_frame := ⟨rfl, zmm (k := 943) rfl rfl, zmm (k := 66) (by decide +kernel) rfl, by decide +kernel, by decide +kernel, fun h => (by cases h), fun _ => ⟨zmm (k := 941) (by decide +kernel) rfl, zmm (k := 942) (by decide +kernel) rfl, (R_Mo, T_Mo, 26), rfl, rfl⟩, fun h => (by cases h), zall x_Mo_frame⟩
noncomputable def k_law : List (Nat × List zE) := [(19, [(0, .new 7, 3, 0, 0, 72, .null), (3, .dup, 1, 0, 0, 0, .null), (4, .invokespecial 9, 3, 0, 0, 74, .null), (7, .astore_n 1, 1, 0, 0, 0, .null), (8, .new 10, 3, 8, 0, 635, .null), (11, .dup, 1, 0, 0, 0, .null), (12, .invokespecial 12, 3, 97, 0, 637, .null), (15, .astore_n 2, 1, 0, 0, 0, .null), (16, .iconst 0, 1, 0, 0, 0, .null), (17, .istore_n 3, 1, 0, 0, 0, .null), (18, .iload_n 3, 1, 0, 0, 0, .null), (19, .aload_n 0, 1, 0, 0, 0, .null)]),
  (121, [(20, .arraylength, 1, 0, 0, 0, .null), (21, .iconst 5, 1, 0, 0, 0, .null), (22, .isub, 1, 0, 0, 0, .null), (23, .if_icmp .gt 619, 3, 0, 0, 0, .null), (26, .aload_n 0, 1, 0, 0, 0, .null), (27, .iload_n 3, 1, 0, 0, 0, .null), (28, .iaload, 1, 0, 0, 0, .null), (29, .bipush 31, 2, 0, 0, 0, .null), (31, .iand, 1, 0, 0, 0, .null), (32, .tableswitch 604 0 17 #[88, 121, 144, 177, 210, 279, 332, 365, 388, 411, 424, 457, 490, 513, 536, 559, 570, 581], 88, 0, 0, 0, .null), (120, .aload_n 1, 1, 0, 0, 0, .null), (121, .aload_n 0, 1, 0, 0, 0, .null)]),
  (135, [(122, .iload_n 3, 1, 0, 0, 0, .null), (123, .iconst 1, 1, 0, 0, 0, .null), (124, .iadd, 1, 0, 0, 0, .null), (125, .iaload, 1, 0, 0, 0, .null), (126, .aload_n 0, 1, 0, 0, 0, .null), (127, .iload_n 3, 1, 0, 0, 0, .null), (128, .iconst 2, 1, 0, 0, 0, .null), (129, .iadd, 1, 0, 0, 0, .null), (130, .iaload, 1, 0, 0, 0, .null), (131, .invokevirtual 13, 3, 7, 0, 206, .null), (134, .aload_n 2, 1, 0, 0, 0, .null), (135, .aload_n 0, 1, 0, 0, 0, .null)]),
  (151, [(136, .iload_n 3, 1, 0, 0, 0, .null), (137, .iconst 1, 1, 0, 0, 0, .null), (138, .iadd, 1, 0, 0, 0, .null), (139, .iaload, 1, 0, 0, 0, .null), (140, .aload_n 0, 1, 0, 0, 0, .null), (141, .iload_n 3, 1, 0, 0, 0, .null), (142, .iconst 2, 1, 0, 0, 0, .null), (143, .iadd, 1, 0, 0, 0, .null), (144, .iaload, 1, 0, 0, 0, .null), (145, .invokevirtual 17, 3, 98, 0, 722, .null), (148, .if_icmp .eq 488, 3, 0, 0, 0, .null), (151, .iconst 0, 1, 0, 0, 0, .null)]),
  (165, [(152, .ireturn, 1, 0, 0, 0, .null), (153, .aload_n 1, 1, 0, 0, 0, .null), (154, .aload_n 0, 1, 0, 0, 0, .null), (155, .iload_n 3, 1, 0, 0, 0, .null), (156, .iconst 1, 1, 0, 0, 0, .null), (157, .iadd, 1, 0, 0, 0, .null), (158, .iaload, 1, 0, 0, 0, .null), (159, .invokevirtual 18, 3, 10, 0, 217, .null), (162, .aload_n 2, 1, 0, 0, 0, .null), (163, .aload_n 0, 1, 0, 0, 0, .null), (164, .iload_n 3, 1, 0, 0, 0, .null), (165, .iconst 1, 1, 0, 0, 0, .null)]),
  (181, [(166, .iadd, 1, 0, 0, 0, .null), (167, .iaload, 1, 0, 0, 0, .null), (168, .invokevirtual 22, 3, 99, 0, 726, .null), (171, .if_icmp .eq 465, 3, 0, 0, 0, .null), (174, .iconst 0, 1, 0, 0, 0, .null), (175, .ireturn, 1, 0, 0, 0, .null), (176, .aload_n 1, 1, 0, 0, 0, .null), (177, .aload_n 0, 1, 0, 0, 0, .null), (178, .iload_n 3, 1, 0, 0, 0, .null), (179, .iconst 1, 1, 0, 0, 0, .null), (180, .iadd, 1, 0, 0, 0, .null), (181, .iaload, 1, 0, 0, 0, .null)]),
  (195, [(182, .aload_n 0, 1, 0, 0, 0, .null), (183, .iload_n 3, 1, 0, 0, 0, .null), (184, .iconst 2, 1, 0, 0, 0, .null), (185, .iadd, 1, 0, 0, 0, .null), (186, .iaload, 1, 0, 0, 0, .null), (187, .invokevirtual 23, 3, 29, 0, 348, .null), (190, .aload_n 2, 1, 0, 0, 0, .null), (191, .aload_n 0, 1, 0, 0, 0, .null), (192, .iload_n 3, 1, 0, 0, 0, .null), (193, .iconst 1, 1, 0, 0, 0, .null), (194, .iadd, 1, 0, 0, 0, .null), (195, .iaload, 1, 0, 0, 0, .null)]),
  (211, [(196, .aload_n 0, 1, 0, 0, 0, .null), (197, .iload_n 3, 1, 0, 0, 0, .null), (198, .iconst 2, 1, 0, 0, 0, .null), (199, .iadd, 1, 0, 0, 0, .null), (200, .iaload, 1, 0, 0, 0, .null), (201, .invokevirtual 26, 3, 108, 0, 759, .null), (204, .if_icmp .eq 432, 3, 0, 0, 0, .null), (207, .iconst 0, 1, 0, 0, 0, .null), (208, .ireturn, 1, 0, 0, 0, .null), (209, .aload_n 1, 1, 0, 0, 0, .null), (210, .aload_n 0, 1, 0, 0, 0, .null), (211, .iload_n 3, 1, 0, 0, 0, .null)]),
  (225, [(212, .iconst 1, 1, 0, 0, 0, .null), (213, .iadd, 1, 0, 0, 0, .null), (214, .iaload, 1, 0, 0, 0, .null), (215, .aload_n 0, 1, 0, 0, 0, .null), (216, .iload_n 3, 1, 0, 0, 0, .null), (217, .iconst 2, 1, 0, 0, 0, .null), (218, .iadd, 1, 0, 0, 0, .null), (219, .iaload, 1, 0, 0, 0, .null), (220, .invokevirtual 27, 3, 39, 0, 389, .null), (223, .aload_n 2, 1, 0, 0, 0, .null), (224, .aload_n 0, 1, 0, 0, 0, .null), (225, .iload_n 3, 1, 0, 0, 0, .null)]),
  (241, [(226, .iconst 1, 1, 0, 0, 0, .null), (227, .iadd, 1, 0, 0, 0, .null), (228, .iaload, 1, 0, 0, 0, .null), (229, .aload_n 0, 1, 0, 0, 0, .null), (230, .iload_n 3, 1, 0, 0, 0, .null), (231, .iconst 2, 1, 0, 0, 0, .null), (232, .iadd, 1, 0, 0, 0, .null), (233, .iaload, 1, 0, 0, 0, .null), (234, .invokevirtual 31, 3, 112, 0, 774, .null), (237, .if_icmp .eq 399, 3, 0, 0, 0, .null), (240, .iconst 0, 1, 0, 0, 0, .null), (241, .ireturn, 1, 0, 0, 0, .null)]),
  (253, [(242, .aload_n 1, 1, 0, 0, 0, .null), (243, .aload_n 0, 1, 0, 0, 0, .null), (244, .iload_n 3, 1, 0, 0, 0, .null), (245, .iconst 1, 1, 0, 0, 0, .null), (246, .iadd, 1, 0, 0, 0, .null), (247, .iaload, 1, 0, 0, 0, .null), (248, .aload_n 0, 1, 0, 0, 0, .null), (249, .iload_n 3, 1, 0, 0, 0, .null), (250, .iconst 2, 1, 0, 0, 0, .null), (251, .iadd, 1, 0, 0, 0, .null), (252, .iaload, 1, 0, 0, 0, .null), (253, .aload_n 0, 1, 0, 0, 0, .null)]),
  (267, [(254, .iload_n 3, 1, 0, 0, 0, .null), (255, .iconst 3, 1, 0, 0, 0, .null), (256, .iadd, 1, 0, 0, 0, .null), (257, .iaload, 1, 0, 0, 0, .null), (258, .aload_n 0, 1, 0, 0, 0, .null), (259, .iload_n 3, 1, 0, 0, 0, .null), (260, .iconst 4, 1, 0, 0, 0, .null), (261, .iadd, 1, 0, 0, 0, .null), (262, .iaload, 1, 0, 0, 0, .null), (263, .ifCond .eq 7, 3, 0, 0, 0, .null), (266, .iconst 1, 1, 0, 0, 0, .null), (267, .goto 4, 3, 0, 0, 0, .null)]),
  (283, [(270, .iconst 0, 1, 0, 0, 0, .null), (271, .invokevirtual 32, 3, 43, 0, 407, .null), (274, .aload_n 2, 1, 0, 0, 0, .null), (275, .aload_n 0, 1, 0, 0, 0, .null), (276, .iload_n 3, 1, 0, 0, 0, .null), (277, .iconst 1, 1, 0, 0, 0, .null), (278, .iadd, 1, 0, 0, 0, .null), (279, .iaload, 1, 0, 0, 0, .null), (280, .aload_n 0, 1, 0, 0, 0, .null), (281, .iload_n 3, 1, 0, 0, 0, .null), (282, .iconst 2, 1, 0, 0, 0, .null), (283, .iadd, 1, 0, 0, 0, .null)]),
  (295, [(284, .iaload, 1, 0, 0, 0, .null), (285, .aload_n 0, 1, 0, 0, 0, .null), (286, .iload_n 3, 1, 0, 0, 0, .null), (287, .iconst 3, 1, 0, 0, 0, .null), (288, .iadd, 1, 0, 0, 0, .null), (289, .iaload, 1, 0, 0, 0, .null), (290, .aload_n 0, 1, 0, 0, 0, .null), (291, .iload_n 3, 1, 0, 0, 0, .null), (292, .iconst 4, 1, 0, 0, 0, .null), (293, .iadd, 1, 0, 0, 0, .null), (294, .iaload, 1, 0, 0, 0, .null), (295, .ifCond .eq 7, 3, 0, 0, 0, .null)]),
  (315, [(298, .iconst 1, 1, 0, 0, 0, .null), (299, .goto 4, 3, 0, 0, 0, .null), (302, .iconst 0, 1, 0, 0, 0, .null), (303, .invokevirtual 36, 3, 114, 0, 782, .null), (306, .if_icmp .eq 330, 3, 0, 0, 0, .null), (309, .iconst 0, 1, 0, 0, 0, .null), (310, .ireturn, 1, 0, 0, 0, .null), (311, .aload_n 1, 1, 0, 0, 0, .null), (312, .aload_n 0, 1, 0, 0, 0, .null), (313, .iload_n 3, 1, 0, 0, 0, .null), (314, .iconst 1, 1, 0, 0, 0, .null), (315, .iadd, 1, 0, 0, 0, .null)]),
  (327, [(316, .iaload, 1, 0, 0, 0, .null), (317, .aload_n 0, 1, 0, 0, 0, .null), (318, .iload_n 3, 1, 0, 0, 0, .null), (319, .iconst 2, 1, 0, 0, 0, .null), (320, .iadd, 1, 0, 0, 0, .null), (321, .iaload, 1, 0, 0, 0, .null), (322, .aload_n 0, 1, 0, 0, 0, .null), (323, .iload_n 3, 1, 0, 0, 0, .null), (324, .iconst 3, 1, 0, 0, 0, .null), (325, .iadd, 1, 0, 0, 0, .null), (326, .iaload, 1, 0, 0, 0, .null), (327, .aload_n 0, 1, 0, 0, 0, .null)]),
  (341, [(328, .iload_n 3, 1, 0, 0, 0, .null), (329, .iconst 4, 1, 0, 0, 0, .null), (330, .iadd, 1, 0, 0, 0, .null), (331, .iaload, 1, 0, 0, 0, .null), (332, .invokevirtual 37, 3, 44, 0, 411, .null), (335, .aload_n 2, 1, 0, 0, 0, .null), (336, .aload_n 0, 1, 0, 0, 0, .null), (337, .iload_n 3, 1, 0, 0, 0, .null), (338, .iconst 1, 1, 0, 0, 0, .null), (339, .iadd, 1, 0, 0, 0, .null), (340, .iaload, 1, 0, 0, 0, .null), (341, .aload_n 0, 1, 0, 0, 0, .null)]),
  (353, [(342, .iload_n 3, 1, 0, 0, 0, .null), (343, .iconst 2, 1, 0, 0, 0, .null), (344, .iadd, 1, 0, 0, 0, .null), (345, .iaload, 1, 0, 0, 0, .null), (346, .aload_n 0, 1, 0, 0, 0, .null), (347, .iload_n 3, 1, 0, 0, 0, .null), (348, .iconst 3, 1, 0, 0, 0, .null), (349, .iadd, 1, 0, 0, 0, .null), (350, .iaload, 1, 0, 0, 0, .null), (351, .aload_n 0, 1, 0, 0, 0, .null), (352, .iload_n 3, 1, 0, 0, 0, .null), (353, .iconst 4, 1, 0, 0, 0, .null)]),
  (369, [(354, .iadd, 1, 0, 0, 0, .null), (355, .iaload, 1, 0, 0, 0, .null), (356, .invokevirtual 41, 3, 115, 0, 786, .null), (359, .if_icmp .eq 277, 3, 0, 0, 0, .null), (362, .iconst 0, 1, 0, 0, 0, .null), (363, .ireturn, 1, 0, 0, 0, .null), (364, .aload_n 1, 1, 0, 0, 0, .null), (365, .aload_n 0, 1, 0, 0, 0, .null), (366, .iload_n 3, 1, 0, 0, 0, .null), (367, .iconst 1, 1, 0, 0, 0, .null), (368, .iadd, 1, 0, 0, 0, .null), (369, .iaload, 1, 0, 0, 0, .null)]),
  (383, [(370, .aload_n 0, 1, 0, 0, 0, .null), (371, .iload_n 3, 1, 0, 0, 0, .null), (372, .iconst 2, 1, 0, 0, 0, .null), (373, .iadd, 1, 0, 0, 0, .null), (374, .iaload, 1, 0, 0, 0, .null), (375, .invokevirtual 42, 3, 67, 0, 511, .null), (378, .aload_n 2, 1, 0, 0, 0, .null), (379, .aload_n 0, 1, 0, 0, 0, .null), (380, .iload_n 3, 1, 0, 0, 0, .null), (381, .iconst 1, 1, 0, 0, 0, .null), (382, .iadd, 1, 0, 0, 0, .null), (383, .iaload, 1, 0, 0, 0, .null)]),
  (399, [(384, .aload_n 0, 1, 0, 0, 0, .null), (385, .iload_n 3, 1, 0, 0, 0, .null), (386, .iconst 2, 1, 0, 0, 0, .null), (387, .iadd, 1, 0, 0, 0, .null), (388, .iaload, 1, 0, 0, 0, .null), (389, .invokevirtual 45, 3, 135, 0, 866, .null), (392, .if_icmp .eq 244, 3, 0, 0, 0, .null), (395, .iconst 0, 1, 0, 0, 0, .null), (396, .ireturn, 1, 0, 0, 0, .null), (397, .aload_n 1, 1, 0, 0, 0, .null), (398, .aload_n 0, 1, 0, 0, 0, .null), (399, .iload_n 3, 1, 0, 0, 0, .null)]),
  (415, [(400, .iconst 1, 1, 0, 0, 0, .null), (401, .iadd, 1, 0, 0, 0, .null), (402, .iaload, 1, 0, 0, 0, .null), (403, .invokevirtual 46, 3, 72, 0, 531, .null), (406, .aload_n 2, 1, 0, 0, 0, .null), (407, .aload_n 0, 1, 0, 0, 0, .null), (408, .iload_n 3, 1, 0, 0, 0, .null), (409, .iconst 1, 1, 0, 0, 0, .null), (410, .iadd, 1, 0, 0, 0, .null), (411, .iaload, 1, 0, 0, 0, .null), (412, .invokevirtual 49, 3, 137, 0, 874, .null), (415, .if_icmp .eq 221, 3, 0, 0, 0, .null)]),
  (431, [(418, .iconst 0, 1, 0, 0, 0, .null), (419, .ireturn, 1, 0, 0, 0, .null), (420, .aload_n 1, 1, 0, 0, 0, .null), (421, .aload_n 0, 1, 0, 0, 0, .null), (422, .iload_n 3, 1, 0, 0, 0, .null), (423, .iconst 1, 1, 0, 0, 0, .null), (424, .iadd, 1, 0, 0, 0, .null), (425, .iaload, 1, 0, 0, 0, .null), (426, .invokevirtual 50, 3, 74, 0, 539, .null), (429, .aload_n 2, 1, 0, 0, 0, .null), (430, .aload_n 0, 1, 0, 0, 0, .null), (431, .iload_n 3, 1, 0, 0, 0, .null)]),
  (451, [(432, .iconst 1, 1, 0, 0, 0, .null), (433, .iadd, 1, 0, 0, 0, .null), (434, .iaload, 1, 0, 0, 0, .null), (435, .invokevirtual 53, 3, 138, 0, 878, .null), (438, .if_icmp .eq 198, 3, 0, 0, 0, .null), (441, .iconst 0, 1, 0, 0, 0, .null), (442, .ireturn, 1, 0, 0, 0, .null), (443, .aload_n 1, 1, 0, 0, 0, .null), (444, .invokevirtual 54, 3, 75, 0, 543, .null), (447, .aload_n 2, 1, 0, 0, 0, .null), (448, .invokevirtual 58, 3, 139, 0, 882, .null), (451, .if_icmp .eq 185, 3, 0, 0, 0, .null)]),
  (465, [(454, .iconst 0, 1, 0, 0, 0, .null), (455, .ireturn, 1, 0, 0, 0, .null), (456, .aload_n 1, 1, 0, 0, 0, .null), (457, .aload_n 0, 1, 0, 0, 0, .null), (458, .iload_n 3, 1, 0, 0, 0, .null), (459, .iconst 1, 1, 0, 0, 0, .null), (460, .iadd, 1, 0, 0, 0, .null), (461, .iaload, 1, 0, 0, 0, .null), (462, .aload_n 0, 1, 0, 0, 0, .null), (463, .iload_n 3, 1, 0, 0, 0, .null), (464, .iconst 2, 1, 0, 0, 0, .null), (465, .iadd, 1, 0, 0, 0, .null)]),
  (479, [(466, .iaload, 1, 0, 0, 0, .null), (467, .invokevirtual 59, 3, 76, 0, 547, .null), (470, .aload_n 2, 1, 0, 0, 0, .null), (471, .aload_n 0, 1, 0, 0, 0, .null), (472, .iload_n 3, 1, 0, 0, 0, .null), (473, .iconst 1, 1, 0, 0, 0, .null), (474, .iadd, 1, 0, 0, 0, .null), (475, .iaload, 1, 0, 0, 0, .null), (476, .aload_n 0, 1, 0, 0, 0, .null), (477, .iload_n 3, 1, 0, 0, 0, .null), (478, .iconst 2, 1, 0, 0, 0, .null), (479, .iadd, 1, 0, 0, 0, .null)]),
  (495, [(480, .iaload, 1, 0, 0, 0, .null), (481, .invokevirtual 62, 3, 140, 0, 886, .null), (484, .if_icmp .eq 152, 3, 0, 0, 0, .null), (487, .iconst 0, 1, 0, 0, 0, .null), (488, .ireturn, 1, 0, 0, 0, .null), (489, .aload_n 1, 1, 0, 0, 0, .null), (490, .aload_n 0, 1, 0, 0, 0, .null), (491, .iload_n 3, 1, 0, 0, 0, .null), (492, .iconst 1, 1, 0, 0, 0, .null), (493, .iadd, 1, 0, 0, 0, .null), (494, .iaload, 1, 0, 0, 0, .null), (495, .aload_n 0, 1, 0, 0, 0, .null)]),
  (509, [(496, .iload_n 3, 1, 0, 0, 0, .null), (497, .iconst 2, 1, 0, 0, 0, .null), (498, .iadd, 1, 0, 0, 0, .null), (499, .iaload, 1, 0, 0, 0, .null), (500, .invokevirtual 63, 3, 78, 0, 555, .null), (503, .aload_n 2, 1, 0, 0, 0, .null), (504, .aload_n 0, 1, 0, 0, 0, .null), (505, .iload_n 3, 1, 0, 0, 0, .null), (506, .iconst 1, 1, 0, 0, 0, .null), (507, .iadd, 1, 0, 0, 0, .null), (508, .iaload, 1, 0, 0, 0, .null), (509, .aload_n 0, 1, 0, 0, 0, .null)]),
  (525, [(510, .iload_n 3, 1, 0, 0, 0, .null), (511, .iconst 2, 1, 0, 0, 0, .null), (512, .iadd, 1, 0, 0, 0, .null), (513, .iaload, 1, 0, 0, 0, .null), (514, .invokevirtual 66, 3, 141, 0, 890, .null), (517, .if_icmp .eq 119, 3, 0, 0, 0, .null), (520, .iconst 0, 1, 0, 0, 0, .null), (521, .ireturn, 1, 0, 0, 0, .null), (522, .aload_n 1, 1, 0, 0, 0, .null), (523, .aload_n 0, 1, 0, 0, 0, .null), (524, .iload_n 3, 1, 0, 0, 0, .null), (525, .iconst 1, 1, 0, 0, 0, .null)]),
  (543, [(526, .iadd, 1, 0, 0, 0, .null), (527, .iaload, 1, 0, 0, 0, .null), (528, .invokevirtual 67, 3, 79, 0, 559, .null), (531, .aload_n 2, 1, 0, 0, 0, .null), (532, .aload_n 0, 1, 0, 0, 0, .null), (533, .iload_n 3, 1, 0, 0, 0, .null), (534, .iconst 1, 1, 0, 0, 0, .null), (535, .iadd, 1, 0, 0, 0, .null), (536, .iaload, 1, 0, 0, 0, .null), (537, .invokevirtual 70, 3, 142, 0, 894, .null), (540, .if_icmp .eq 96, 3, 0, 0, 0, .null), (543, .iconst 0, 1, 0, 0, 0, .null)]),
  (557, [(544, .ireturn, 1, 0, 0, 0, .null), (545, .aload_n 1, 1, 0, 0, 0, .null), (546, .aload_n 0, 1, 0, 0, 0, .null), (547, .iload_n 3, 1, 0, 0, 0, .null), (548, .iconst 1, 1, 0, 0, 0, .null), (549, .iadd, 1, 0, 0, 0, .null), (550, .iaload, 1, 0, 0, 0, .null), (551, .invokevirtual 71, 3, 80, 0, 563, .null), (554, .aload_n 2, 1, 0, 0, 0, .null), (555, .aload_n 0, 1, 0, 0, 0, .null), (556, .iload_n 3, 1, 0, 0, 0, .null), (557, .iconst 1, 1, 0, 0, 0, .null)]),
  (573, [(558, .iadd, 1, 0, 0, 0, .null), (559, .iaload, 1, 0, 0, 0, .null), (560, .invokevirtual 74, 3, 143, 0, 898, .null), (563, .if_icmp .eq 73, 3, 0, 0, 0, .null), (566, .iconst 0, 1, 0, 0, 0, .null), (567, .ireturn, 1, 0, 0, 0, .null), (568, .aload_n 1, 1, 0, 0, 0, .null), (569, .aload_n 0, 1, 0, 0, 0, .null), (570, .iload_n 3, 1, 0, 0, 0, .null), (571, .iconst 1, 1, 0, 0, 0, .null), (572, .iadd, 1, 0, 0, 0, .null), (573, .iaload, 1, 0, 0, 0, .null)]),
  (591, [(574, .invokevirtual 75, 3, 81, 0, 567, .null), (577, .aload_n 2, 1, 0, 0, 0, .null), (578, .aload_n 0, 1, 0, 0, 0, .null), (579, .iload_n 3, 1, 0, 0, 0, .null), (580, .iconst 1, 1, 0, 0, 0, .null), (581, .iadd, 1, 0, 0, 0, .null), (582, .iaload, 1, 0, 0, 0, .null), (583, .invokevirtual 78, 3, 144, 0, 902, .null), (586, .if_icmp .eq 50, 3, 0, 0, 0, .null), (589, .iconst 0, 1, 0, 0, 0, .null), (590, .ireturn, 1, 0, 0, 0, .null), (591, .aload_n 1, 1, 0, 0, 0, .null)]),
  (615, [(592, .invokevirtual 79, 3, 94, 0, 625, .null), (595, .aload_n 2, 1, 0, 0, 0, .null), (596, .invokevirtual 82, 3, 151, 0, 938, .null), (599, .goto 37, 3, 0, 0, 0, .null), (602, .aload_n 1, 1, 0, 0, 0, .null), (603, .invokevirtual 83, 3, 93, 0, 626, .null), (606, .aload_n 2, 1, 0, 0, 0, .null), (607, .invokevirtual 86, 3, 150, 0, 939, .null), (610, .goto 26, 3, 0, 0, 0, .null), (613, .aload_n 1, 1, 0, 0, 0, .null), (614, .aload_n 0, 1, 0, 0, 0, .null), (615, .iload_n 3, 1, 0, 0, 0, .null)]),
  (631, [(616, .iconst 1, 1, 0, 0, 0, .null), (617, .iadd, 1, 0, 0, 0, .null), (618, .iaload, 1, 0, 0, 0, .null), (619, .invokevirtual 87, 3, 95, 0, 627, .null), (622, .aload_n 2, 1, 0, 0, 0, .null), (623, .aload_n 0, 1, 0, 0, 0, .null), (624, .iload_n 3, 1, 0, 0, 0, .null), (625, .iconst 1, 1, 0, 0, 0, .null), (626, .iadd, 1, 0, 0, 0, .null), (627, .iaload, 1, 0, 0, 0, .null), (628, .invokevirtual 90, 3, 153, 0, 940, .null), (631, .if_icmp .eq 5, 3, 0, 0, 0, .null)]),
  (643, [(634, .iconst 0, 1, 0, 0, 0, .null), (635, .ireturn, 1, 0, 0, 0, .null), (636, .iinc 3 5, 3, 0, 0, 0, .null), (639, .goto (-621), 3, 0, 0, 0, .null), (642, .iconst 1, 1, 0, 0, 0, .null), (643, .ireturn, 1, 0, 0, 0, .null)])]
set_option maxRecDepth 100000 in
theorem x_law : (k_law.all fun g => g.2.all (zxo R_La code 4 false)) = true := by decide +kernel
end
section
noncomputable def zmt : List zM := [M_ST_init, M_Fr_init, M_Ar_fill, M_Dr_init, M_Di_init, M_Ta_init, M_In_init, M_ST_vertex, M_Dr_append, M_Dr_isCoordinate, M_ST_shape, M_Dr_hasCountFor, M_Dr_clear, M_Dr_drawn, M_Ar_copyOf, M_Ge_init, M_Bo_init, M_Ge_fault, M_Ge_hasEqualNeighbours, M_Ge_sides, M_Ge_end, M_Ge_touchesItself, M_Ge_mayNotMeetAsTheyDo, M_Ge_foldsBack, M_Ge_sideMeets, M_Ge_turn, M_Ge_areOpposite, M_Ge_isBeside, M_Ge_isBetween, M_ST_insert, M_ST_isTable, M_Ta_leastFreeRow, M_Ta_put, M_In_add, M_In_newNode, M_In_stretch, M_Bo_homeLevel, M_Bo_quarter, M_In_partOf, M_ST_delete, M_ST_placeOf, M_Ta_placeAt, M_In_rebuild, M_ST_update, M_ST_select, M_ST_clearAnswers, M_ST_searchReads, M_Ta_rowBits, M_Ig_bitCount, M_Di_become, M_ST_readsWithin, M_In_countWithin, M_Bo_gapToRectangle, M_Bo_apart, M_Di_isAtLeast, M_Ta_countWithin, M_Bo_gapTo, M_ST_rowsFound, M_Di_between, M_Ge_encloses, M_Di_lessenBySides, M_Di_lessenByEnd, M_Di_lessen, M_Di_isAtMost, M_Ta_amountOf, M_ST_hasBit, M_ST_addAnswer, M_ST_nearest, M_ST_orderByDistance, M_ST_putInOrder, M_Di_isBelow, M_In_size, M_ST_join, M_ST_addPairs, M_ST_result, M_ST_reads, M_ST_measure, M_Di_wholePart, M_ST_value, M_ST_rows, M_ST_nodes, M_ST_commit, M_ST_changedPages, M_Ta_hasSameRow, M_Ge_isSameAs, M_ST_pageBit, M_ST_pagesWithRows, M_Fr_countFree, M_Fr_takenFrames, M_Fr_switchTo, M_Fr_leastFree, M_ST_keepPresentTables, M_Ta_copy, M_ST_crash, M_ST_rollback, M_ST_frame, M_Fr_frameOf, M_Mo_init, M_Mo_vertex, M_Mo_shape, M_Mo_fault, M_Mo_clash, M_Mo_stuck, M_Mo_cross, M_Mo_on, M_Mo_between, M_Mo_apart, M_Mo_bind, M_Mo_insert, M_Mo_isTable, M_Mo_size, M_Mo_copyShape, M_Mo_delete, M_Mo_slot, M_Mo_update, M_Mo_select, M_Mo_finds, M_Mo_measureOut, M_Mo_meet, M_Mo_sides, M_Mo_corner, M_Mo_touching, M_Mo_lies, M_Mo_turn, M_Mo_within, M_Mo_reach, M_Mo_searchReads, M_Mo_readBy, M_Mo_around, M_Mo_close, M_Mo_gap, M_Mo_home, M_Mo_foremost, M_Mo_shares, M_Mo_nodeBound, M_Mo_nearest, M_Mo_nearer, M_Mo_join, M_Mo_result, M_Mo_reads, M_Mo_measure, M_Mo_value, M_Mo_rows, M_Mo_nodes, M_Mo_commit, M_Mo_changed, M_Mo_sameRow, M_Mo_filled, M_Mo_write, M_Mo_isFree, M_Mo_crash, M_Mo_rollback, M_Mo_copyRow, M_Mo_frame]
def zTo (i : Nat) (t : List zM) : Prop := match t with
  | [] => True
  | M :: r => zMo i M ∧ zTo (i + 1) r
theorem zTo_get {M : zM} : ∀ {t : List zM} {i a : Nat}, zTo i t → t[a]? = some M → zMo (i + a) M
  | [], i, a, _, h => by simp at h
  | N :: r, i, 0, ho, h => by
    obtain rfl := Option.some.inj (h : some N = some M)
    exact ho.1
  | N :: r, i, a + 1, ho, h => by
    have h2 := zTo_get ho.2 (h : r[a]? = some M)
    rw [show i + (a + 1) = i + 1 + a by omega]
    exact h2
set_option maxRecDepth 100000 in
theorem zmt_o : zTo 0 zmt := ⟨o_ST_init, o_Fr_init, o_Ar_fill, o_Dr_init, o_Di_init, o_Ta_init, o_In_init, o_ST_vertex, o_Dr_append, o_Dr_isCoordinate, o_ST_shape, o_Dr_hasCountFor, o_Dr_clear, o_Dr_drawn, o_Ar_copyOf, o_Ge_init, o_Bo_init, o_Ge_fault, o_Ge_hasEqualNeighbours, o_Ge_sides, o_Ge_end, o_Ge_touchesItself, o_Ge_mayNotMeetAsTheyDo, o_Ge_foldsBack, o_Ge_sideMeets, o_Ge_turn, o_Ge_areOpposite, o_Ge_isBeside, o_Ge_isBetween, o_ST_insert, o_ST_isTable, o_Ta_leastFreeRow, o_Ta_put, o_In_add, o_In_newNode, o_In_stretch, o_Bo_homeLevel, o_Bo_quarter, o_In_partOf, o_ST_delete, o_ST_placeOf, o_Ta_placeAt, o_In_rebuild, o_ST_update, o_ST_select, o_ST_clearAnswers, o_ST_searchReads, o_Ta_rowBits, o_Ig_bitCount, o_Di_become, o_ST_readsWithin, o_In_countWithin, o_Bo_gapToRectangle, o_Bo_apart, o_Di_isAtLeast, o_Ta_countWithin, o_Bo_gapTo, o_ST_rowsFound, o_Di_between, o_Ge_encloses, o_Di_lessenBySides, o_Di_lessenByEnd, o_Di_lessen, o_Di_isAtMost, o_Ta_amountOf, o_ST_hasBit, o_ST_addAnswer, o_ST_nearest, o_ST_orderByDistance, o_ST_putInOrder, o_Di_isBelow, o_In_size, o_ST_join, o_ST_addPairs, o_ST_result, o_ST_reads, o_ST_measure, o_Di_wholePart, o_ST_value, o_ST_rows, o_ST_nodes, o_ST_commit, o_ST_changedPages, o_Ta_hasSameRow, o_Ge_isSameAs, o_ST_pageBit, o_ST_pagesWithRows, o_Fr_countFree, o_Fr_takenFrames, o_Fr_switchTo, o_Fr_leastFree, o_ST_keepPresentTables, o_Ta_copy, o_ST_crash, o_ST_rollback, o_ST_frame, o_Fr_frameOf, o_Mo_init, o_Mo_vertex, o_Mo_shape, o_Mo_fault, o_Mo_clash, o_Mo_stuck, o_Mo_cross, o_Mo_on, o_Mo_between, o_Mo_apart, o_Mo_bind, o_Mo_insert, o_Mo_isTable, o_Mo_size, o_Mo_copyShape, o_Mo_delete, o_Mo_slot, o_Mo_update, o_Mo_select, o_Mo_finds, o_Mo_measureOut, o_Mo_meet, o_Mo_sides, o_Mo_corner, o_Mo_touching, o_Mo_lies, o_Mo_turn, o_Mo_within, o_Mo_reach, o_Mo_searchReads, o_Mo_readBy, o_Mo_around, o_Mo_close, o_Mo_gap, o_Mo_home, o_Mo_foremost, o_Mo_shares, o_Mo_nodeBound, o_Mo_nearest, o_Mo_nearer, o_Mo_join, o_Mo_result, o_Mo_reads, o_Mo_measure, o_Mo_value, o_Mo_rows, o_Mo_nodes, o_Mo_commit, o_Mo_changed, o_Mo_sameRow, o_Mo_filled, o_Mo_write, o_Mo_isFree, o_Mo_crash, o_Mo_rollback, o_Mo_copyRow, o_Mo_frame, trivial⟩
theorem zmt_ok : zT zmt := fun a M h => by have h2 := zTo_get zmt_o h; rw [Nat.zero_add] at h2; exact h2
theorem zgood_ok : zgood := fun w hw => Bool.or_eq_true_iff.mp (List.all_eq_true.mp (by decide +kernel : (zlw.all fun w => goodWord w || zbad w) = true) w hw)
theorem zlib_ok : zlib := ⟨⟨zmm (k := 78) (by decide +kernel) rfl, zmm (k := 79) (by decide +kernel) rfl⟩, zmm (k := 68) (by decide +kernel) rfl, ⟨zmm (k := 246) (by decide +kernel) rfl, zmm (k := 247) (by decide +kernel) rfl⟩, ⟨zmm (k := 263) (by decide +kernel) rfl, zmm (k := 264) (by decide +kernel) rfl⟩, ⟨zmm (k := 250) (by decide +kernel) rfl, zmm (k := 249) (by decide +kernel) rfl, zmm (k := 69) (by decide +kernel) rfl⟩, ⟨zmm (k := 239) (by decide +kernel) rfl, zmm (k := 240) (by decide +kernel) rfl, zmm (k := 241) (by decide +kernel) rfl, zmm (k := 242) (by decide +kernel) rfl, zmm (k := 243) (by decide +kernel) rfl⟩⟩
end
section
-- ===== end of PART A; then your names; then what follows =====
/-! THE CLAIM OUT OF ONE WALK OF THE LAW'S BODY. Your part is whole_start (and what it stands on); all else here is the same for every law, but numbers. -/
def R_law : String := "SpatialTablesLaw"
def lw_P (b : Addr) (xs : List Int32) (args : Array Value) (s : State) : Prop := args = #[.ref b] ∧ s.IntsAt b xs ∧ xs.length ≤ 2560 ∧ (Jvm.Cond.and given_1 narrow_1).before args s = true
def lw_Q (_ : Array Value) (s : State) (o : Outcome) (t : State) : Prop := o = .returned (some (.int 1)) ∧ Framed s o t [] 600000 7302250
def lw_Z (below : List Frame) (a : Array Value) (s : State) : State → Prop := fun t => ∃ o, t.status = .running ∧ Ended t below o ∧ lw_Q a s o t
/-- the law's own end, with 1 on the stack, nothing written that was there before, its room as the claim has it -/
theorem lw_ret {p : Program} {l : Launch} {e : Env} {s : State} {m : MethodId} {below : List Frame} {meth : Method} {c : Code} {b : Nat} (hx : p.tables.exec = Jvm.exec) (hb : c.code = code) (hr : meth.sig.returnType = ret) (hlocks : meth.locks = false) {pc : Nat} {H : Heap} {ls : Array Slot} (hdg : decode code pc = .ok (.ireturn, 1)) : W p l e room_1 s m #[Value.ref b] below meth c H [] 600000 7302250 (lw_Z below #[Value.ref b] s) (F0 m pc ls [.int 1]) := by
  intro T hT X
  obtain ⟨fs, hret, hrun, hended, hW, hframe⟩ := X.leave (v := some (.int 1)) (hlocks := hlocks) (fun h => by rw [hr] at h; cases h)
  have hmeth' : T.vm.method? m = some meth := X.method'
  refine ⟨T.setFrames fs, ?_, .returned (some (.int 1)), hrun, hended, rfl, ⟨_, rfl⟩, hW, hframe⟩
  jvm_step X.here [X.here.top, hx, hb, hdg, hmeth', hr, ret, narrow_b1]
  (try refine ⟨rfl, ?_⟩); (try refine ⟨rfl, ?_⟩)
  first | (intro acts; rw [hret _ acts rfl rfl rfl]) | rw [hret _ _ rfl rfl rfl]
  exact Steps.refl _
/-- what holds at the law's entry: the machine, the code, the tables' words (any of lw_tbl by 'hts w (by decide +kernel)'), the script of L ints xs at the cell b, what the Statement gives of the start (any of its parts by flat_of_before) -/
def lw_At (p : Program) (s : State) (m : MethodId) (meth : Method) (c : Code) (b L : Nat) (xs : Nat → Int32) : Prop :=
  p.tables.exec = Jvm.exec ∧ c.code = code ∧ meth.sig.returnType = ret ∧ c.maxLocals = 4 ∧ s.vm.findClass R_law = some m.cls ∧ (∀ w ∈ lw_tbl, w.before #[Value.ref b] s = true) ∧ va_X b L xs s s.heap ∧ b < s.heap.size ∧ meth.locks = false ∧ (Jvm.Cond.and given_1 narrow_1).before #[Value.ref b] s = true
end
section
-- from a run of the abstract machine to the law's walk
def zcal (mt : List zM) (f fr lo : Nat) : Nat → List Value → zH → Option (Option Value × zH) := fun a' as' h' => match mt[a']? with
  | none => none
  | some M' => match Nat.ble (19 + mL M') lo with
    | true => zcall mt f fr (lo - (19 + mL M')) a' as' h'
    | false => none
theorem zcal_s {l : Launch} {sa b : Nat} {D : va_G} {tc : Nat → ClassId} {mt : List zM} {f fr lo : Nat} (hmt : zT mt) (hg : zgood) (hobj : zlib) : zCal l mt (zcal mt f fr lo) (fr + 1) lo D tc sa b := fun a' as' h' r' M' hM' hc => by
  unfold zcal at hc
  rw [hM'] at hc
  dsimp only at hc
  split at hc
  · next hle =>
    have hle2 : 19 + mL M' ≤ lo := Nat.le_of_ble_eq_true hle
    exact ⟨_, rfl, rfl, Nat.le_refl _, by show 8 + (mL M' + 11) + (lo - (19 + mL M')) ≤ lo; omega, zcall_s hmt hg hobj fr (lo - (19 + mL M')) a' as' h' r' M' hM' hc⟩
  · cases hc
theorem zknow {s : State} {args : Array Value} (hts : ∀ w ∈ zlw, w.before args s = true) : ∃ (D : va_G) (tc : Nat → ClassId), va_K D zcl (ztys tc) s := by
  have h1 : ∀ c : Nat, ∃ v : ClassId × (Nat → Nat), ∀ q : vw_C, zcl[c]? = some q → u_Kn s q.1 q.2.1 q.2.2 v.1 v.2 := fun c => by
    cases hc : zcl[c]? with
    | none => exact ⟨(0, fun _ => 0), fun q hq => by cases hq⟩
    | some C =>
      obtain ⟨ok1, -, -, ok4, -⟩ := zcl_ok c hc
      obtain ⟨cC, iS, hk⟩ := u_known hts ok1 (hts _ ok4)
      exact ⟨(cC, iS), fun q hq => by rw [← Option.some.inj hq]; exact hk⟩
  have h2 : ∀ t : Nat, ∃ cA : ClassId, ∀ ty : FieldType, (ztys (fun _ => cA))[t]? = some (cA, ty) → ArrOfT s cA ty ∧ va_RA s cA ty := fun t => by
    have prim : ∀ ty : FieldType, Cond.arrayClass ty ∈ zlw → ∃ cA : ClassId, ArrOfT s cA ty ∧ s.vm.findClass ("[" ++ ty.toString) = some cA := fun ty hw => by
      obtain ⟨cA, kA, comp, hf, hk, hkind⟩ := Cond.arrayClass_spec (hts _ hw)
      exact ⟨cA, fun n z => ⟨fun k h => (by cases h), kA, hk, comp, hkind⟩, hf⟩
    cases hz : zte t with
    | some c =>
      obtain ⟨C, hC, hao, hty⟩ := zte_ok hz
      obtain ⟨comp, cA, k, g1, g2, g3, g4, g5⟩ := Cond.arrayOver_spec (va_AO.of (hts _ hao))
      refine ⟨cA, fun ty h => ?_⟩
      have e : ty = .object C.1 := (congrArg Prod.snd (Option.some.inj ((hty (fun _ => cA)).symm.trans h))).symm
      rw [e]
      exact ⟨fun N z => ⟨(fun k h => by cases h), k, g3, comp, g4⟩, k, comp, g3, g4, g1, g5⟩
    | none =>
      match t, hz with
      | 0, _ =>
        obtain ⟨cA, p1, p2⟩ := prim .int zw_aci
        exact ⟨cA, fun ty h => by
          have e : FieldType.int = ty := congrArg Prod.snd (Option.some.inj (show some (cA, FieldType.int) = some (cA, ty) from h))
          rw [← e]
          exact ⟨p1, p2⟩⟩
      | 1, _ =>
        obtain ⟨cA, p1, p2⟩ := prim .boolean zw_acz
        exact ⟨cA, fun ty h => by
          have e : FieldType.boolean = ty := congrArg Prod.snd (Option.some.inj (show some (cA, FieldType.boolean) = some (cA, ty) from h))
          rw [← e]
          exact ⟨p1, p2⟩⟩
      | 2, _ =>
        obtain ⟨cA, p1, p2⟩ := prim .long zw_acj
        exact ⟨cA, fun ty h => by
          have e : FieldType.long = ty := congrArg Prod.snd (Option.some.inj (show some (cA, FieldType.long) = some (cA, ty) from h))
          rw [← e]
          exact ⟨p1, p2⟩⟩
      | 3, hz => cases hz
      | 4, hz => cases hz
      | 5, hz => cases hz
      | 6, hz => cases hz
      | n + 7, _ => exact ⟨0, fun ty h => by cases h⟩
  refine ⟨(fun c => (Classical.choose (h1 c)).1, fun c => (Classical.choose (h1 c)).2), fun t => Classical.choose (h2 t), fun c q hq => Classical.choose_spec (h1 c) q hq, fun k q hk => ?_⟩
  have hs := Classical.choose_spec (h2 k)
  have e : ∀ tc : Nat → ClassId, (ztys tc)[k]? = some q → q.1 = tc k ∧ (ztys (fun _ => tc k))[k]? = some (tc k, q.2) := fun tc h => by
    match k, h with
    | 0, h => rw [← Option.some.inj h]; exact ⟨rfl, rfl⟩
    | 1, h => rw [← Option.some.inj h]; exact ⟨rfl, rfl⟩
    | 2, h => rw [← Option.some.inj h]; exact ⟨rfl, rfl⟩
    | 3, h => rw [← Option.some.inj h]; exact ⟨rfl, rfl⟩
    | 4, h => rw [← Option.some.inj h]; exact ⟨rfl, rfl⟩
    | 5, h => rw [← Option.some.inj h]; exact ⟨rfl, rfl⟩
    | 6, h => rw [← Option.some.inj h]; exact ⟨rfl, rfl⟩
    | n + 7, h => cases h
  obtain ⟨e1, e2⟩ := e _ hk
  rw [e1]
  exact hs q.2 e2
theorem zre_one {st : List Value} {i : Jvm.ClassFile.Instr} (h : zre (some .boolean) i st = some (some (.int 1))) : i = .ireturn ∧ st = [.int 1] := by
  cases i with
  | ireturn =>
    rcases st with _ | ⟨a, _ | ⟨a2, r⟩⟩
    · cases h
    · cases a with
      | int v =>
        have h : (match zfit .boolean (.int v) with | true => some (some (Value.int v)) | false => none) = some (some (Value.int 1)) := h
        split at h
        · injection h with h
          injection h with h
          injection h with h
          rw [h]
          exact ⟨rfl, rfl⟩
        · cases h
      | _ => cases h
    · cases a <;> cases h
  | return_ => rcases st with _ | ⟨a, r⟩ <;> cases h
  | lreturn => rcases st with _ | ⟨a, _ | ⟨a2, r⟩⟩ <;> first | cases h | (cases a <;> cases h)
  | areturn => rcases st with _ | ⟨a, _ | ⟨a2, r⟩⟩ <;> first | cases h | (cases a <;> cases h)
  | _ => exact znq h
noncomputable def M_law : zM := (⟨R_La, "law", "([I)Z"⟩, code, 4, some .boolean, 1, (0, 0, 0, 0), 0, k_law)
theorem zwhole {p : Program} {e : Env} {s : State} {m : MethodId} {below : List Frame} {meth : Method} {c : Code} (l : Launch) {b L f g : Nat} {xs : Nat → Int32} {h : zH} (C0 : lw_At p s m meth c b L xs)
    (hz : zloop zmt (zcal zmt f 9 420) 10 420 (some (L, xs)) M_law g (0, [(0, .retAddr 0)], []) ([], 0) = some (some (.int 1), h)) (hc : h.1.length ≤ 600000) (hs : h.2 ≤ 7302250) :
    W p l e room_1 s m #[Value.ref b] below meth c s.heap [] 0 0 (lw_Z below #[Value.ref b] s) (entryFrame m ([Value.ref b] : List Value).toArray 4) := by
  obtain ⟨hx, hb, hr, hml, hown, hts0, hX, hbl, hlocks, -⟩ := C0
  have hts : ∀ w ∈ zlw, w.before #[Value.ref b] s = true := fun w hw => hts0 w (List.mem_filter.mp hw).1
  obtain ⟨D, tc, hK⟩ := zknow hts
  have hl := lv_entry ([Value.ref b] : List Value) (n := 4) (Nat.le_of_ble_eq_true rfl)
  rw [lg_entry_eq]
  generalize (lg_sl ([Value.ref b] : List Value) ++ List.replicate (4 - (lg_sl ([Value.ref b] : List Value)).length) Slot.unset).toArray = ls at hl ⊢
  have hl : lv_has ls 4 (([(0, Value.retAddr 0)] : List (Nat × Value)).map (ztl b s.heap.size)) := hl
  refine zloop_s (M := M_law) (H0 := s.heap) (own := R_La) (ini := false) (sa := b) (b := s.heap.size) (r := (some (.int 1), h)) (Cf := h.1.length) (Sf := h.2) hx hb hml hown hts (fun h => by cases h) hK (fun _ _ => hbl) zmt_ok zgood_ok zlib_ok (zcal_s zmt_ok zgood_ok zlib_ok) (Nat.le_refl _) (Nat.le_refl _) (zall x_law) hc hs
    (fun pc st ls H locs i n h1 h2 h3 h4 h5 => ?_) g (0, [(0, .retAddr 0)], []) ([], 0) ls s.heap [] 0 0 hz hl ⟨rfl, fun k x hk => by simp at hk⟩ (fun x hx => by rw [← Option.some.inj hx]; exact hX) (fun _ _ => rfl) (fun x hx => by cases hx) (by show 0 + (h.1.length - 0) = h.1.length; omega) (by show 0 + (h.2 - 0) = h.2; omega)
  refine va_forget h5 (W.widen (k := 600000) (n := 7302250) hc hs ?_)
  obtain ⟨rfl, rfl⟩ := zre_one (show zre (some .boolean) i st = some (some (.int 1)) from h2)
  exact lw_ret hx hb hr hlocks h1
end
section
-- equality of results that the kernel can decide
def zceq (a b : zC) : Bool := match a with
  | .inl p => match b with
    | .inl q => Nat.beq p.1 q.1 && decide (p.2 = q.2)
    | .inr _ => false
  | .inr p => match b with
    | .inl _ => false
    | .inr q => Nat.beq p.1 q.1 && decide (p.2 = q.2)
theorem zceq_ok {a b : zC} (h : zceq a b = true) : a = b := by
  rcases a with ⟨t, l⟩ | ⟨t, l⟩ <;> rcases b with ⟨t2, l2⟩ | ⟨t2, l2⟩
  · have h2 := Bool.and_eq_true_iff.mp (show (Nat.beq t t2 && decide (l = l2)) = true from h)
    rw [Nat.eq_of_beq_eq_true h2.1, of_decide_eq_true h2.2]
  · cases h
  · cases h
  · have h2 := Bool.and_eq_true_iff.mp (show (Nat.beq t t2 && decide (l = l2)) = true from h)
    rw [Nat.eq_of_beq_eq_true h2.1, of_decide_eq_true h2.2]
def zhl (h k : List zC) : Bool := match h with
  | [] => match k with
    | [] => true
    | _ :: _ => false
  | a :: r => match k with
    | [] => false
    | b :: r2 => zceq a b && zhl r r2
theorem zhl_ok : ∀ {h k : List zC}, zhl h k = true → h = k
  | [], [], _ => rfl
  | [], _ :: _, h => by cases h
  | _ :: _, [], h => by cases h
  | a :: r, b :: r2, h => by
    have h2 := Bool.and_eq_true_iff.mp (show (zceq a b && zhl r r2) = true from h)
    rw [zceq_ok h2.1, zhl_ok h2.2]
def zreq (r : Option (Option Value × zH)) (v : Option Value) (k : zH) : Bool := match r with
  | some q => decide (q.1 = v) && (Nat.beq q.2.2 k.2 && zhl q.2.1 k.1)
  | none => false
theorem zreq_ok {r : Option (Option Value × zH)} {v : Option Value} {k : zH} (h : zreq r v k = true) : r = some (v, k) := by
  cases r with
  | none => cases h
  | some q =>
    obtain ⟨w, hh, n⟩ := q
    obtain ⟨k1, k2⟩ := k
    have h2 := Bool.and_eq_true_iff.mp (show (decide (w = v) && (Nat.beq n k2 && zhl hh k1)) = true from h)
    have h3 := Bool.and_eq_true_iff.mp h2.2
    rw [of_decide_eq_true h2.1, Nat.eq_of_beq_eq_true h3.1, zhl_ok h3.2]
end
section
-- steps as equations
theorem zq1 {mt : List zM} {call : Nat → List Value → zH → Option (Option Value × zH)} {fr lo : Nat} {xs : zX} {M : zM} {f : Nat} {s : zS} {h : zH} {x : zE} {q : zS × zH} (hx : zlk2 (mT M) s.1 = some x) (hr : zre (mR M) (xI x) s.2.2 = none) (hs : zstep mt call fr lo xs x s h = some q) :
    zloop mt call fr lo xs M (f + 1) s h = zloop mt call fr lo xs M f q.1 q.2 := by
  rw [zloop]
  simp only [hx, hr, hs]
theorem zqr {mt : List zM} {call : Nat → List Value → zH → Option (Option Value × zH)} {fr lo : Nat} {xs : zX} {M : zM} {f : Nat} {s : zS} {h : zH} {x : zE} {r : Option Value} (hx : zlk2 (mT M) s.1 = some x) (hr : zre (mR M) (xI x) s.2.2 = some r) :
    zloop mt call fr lo xs M (f + 1) s h = some (r, h) := by
  rw [zloop]
  simp only [hx, hr]
/-- a branch whose condition is known -/
theorem zqb {mt : List zM} {call : Nat → List Value → zH → Option (Option Value × zH)} {fr lo : Nat} {xs : zX} {M : zM} {f : Nat} {s q : zS} {h : zH} {x : zE} {cB v : Bool} {off : Int} {lv : List (Nat × Value)} {r : List Value} (hx : zlk2 (mT M) s.1 = some x) (hr : zre (mR M) (xI x) s.2.2 = none) (hs : zp (xI x) (xV x) s.1 s.2.1 s.2.2 = zbr cB s.1 off lv r) (hc : cB = v) (hq : zbr v s.1 off lv r = some q) :
    zloop mt call fr lo xs M (f + 1) s h = zloop mt call fr lo xs M f q h := by
  refine zq1 (q := (q, h)) hx hr ?_
  unfold zstep
  rw [hs, hc, hq]
theorem zcall_len {mt : List zM} {f fr lo a : Nat} {as : List Value} {h : zH} {r : Option Value × zH} (hz : zcall mt f fr lo a as h = some r) : h.1.length ≤ r.2.1.length ∧ h.2 ≤ r.2.2 := by
  have key : ∀ {call : Nat → List Value → zH → Option (Option Value × zH)} {fr : Nat}, zbody mt call fr lo none f a as h = some r → h.1.length ≤ r.2.1.length ∧ h.2 ≤ r.2.2 := fun hb => by
    unfold zbody at hb
    split at hb
    · cases hb
    · split at hb
      · exact zloop_len hb
      · cases hb
  cases fr with
  | zero => exact key (show zbody mt (fun _ _ _ => none) 0 lo none f a as h = some r from hz)
  | succ fr => exact key (fr := fr + 1) hz
theorem zcal_len {mt : List zM} {f fr lo a : Nat} {as : List Value} {h : zH} {r : Option Value × zH} (hz : zcal mt f fr lo a as h = some r) : h.1.length ≤ r.2.1.length ∧ h.2 ≤ r.2.2 := by
  unfold zcal at hz
  split at hz
  · cases hz
  · split at hz
    · exact zcall_len hz
    · cases hz
/-- a call whose result is known -/
theorem zqc {mt : List zM} {g fr0 lo0 : Nat} {fr lo : Nat} {xs : zX} {M : zM} {f : Nat} {s s' : zS} {h : zH} {x : zE} {M' : zM} {qq : List Value × List Value} {r : Option Value × zH} (kind : Nat) (hx : zlk2 (mT M) s.1 = some x) (hr : zre (mR M) (xI x) s.2.2 = none)
    (hs : zstep mt (zcal mt g fr0 lo0) fr lo xs x s h = zcm mt (zcal mt g fr0 lo0) kind (xA x) h (s.1 + 3) s.2.1 s.2.2) (hM : mt[xA x]? = some M') (hp : zpop (zco kind (mN M')) s.2.2 = some qq) (hk : (Nat.beq (mK M') kind && (zrc kind (mW M').2.2.2 qq.1 h.1 && Nat.ble (zcat qq.2) 8)) = true)
    (hc : zcal mt g fr0 lo0 (xA x) qq.1 h = some r) (hs' : (s.1 + 3, s.2.1, r.1.toList ++ qq.2) = s') :
    zloop mt (zcal mt g fr0 lo0) fr lo xs M (f + 1) s h = zloop mt (zcal mt g fr0 lo0) fr lo xs M f s' r.2 := by
  refine zq1 (q := (s', r.2)) hx hr ?_
  have hl := zcal_len hc
  rw [hs]
  unfold zcm
  rw [hM]
  dsimp only
  rw [hp]
  dsimp only
  rw [hk]
  dsimp only
  rw [hc]
  dsimp only
  have h1 : Nat.ble h.1.length r.2.1.length = true := Nat.ble_eq_true_of_le hl.1
  have h2 : Nat.ble h.2 r.2.2 = true := Nat.ble_eq_true_of_le hl.2
  rw [h1, h2, ← hs']
  rfl
theorem zcal_go {mt : List zM} {f fr lo a : Nat} {as : List Value} {h : zH} {M : zM} (hM : mt[a]? = some M) (h1 : Nat.ble (19 + mL M) lo = true) (h2 : Nat.ble (zcat as) (mL M) = true) :
    zcal mt f (fr + 1) lo a as h = zloop mt (zcal mt f fr (lo - (19 + mL M))) (fr + 1) (lo - (19 + mL M)) none M f (0, lv_args 0 as, []) h := by
  have e : zcal mt f (fr + 1) lo a as h = zbody mt (zcal mt f fr (lo - (19 + mL M))) (fr + 1) (lo - (19 + mL M)) none f a as h := by
    conv => lhs; unfold zcal
    rw [hM]
    dsimp only
    rw [h1]
    rfl
  rw [e]
  unfold zbody
  rw [hM]
  dsimp only
  rw [h2]
theorem zcb (c : Jvm.ClassFile.Cond) {x y : Int32} {k : Int} {v : Bool} (hk : y.toInt = k) (h : (match c with | .eq => decide (x.toInt = k) | .ne => decide (¬ x.toInt = k) | .lt => decide (x.toInt < k) | .ge => decide (k ≤ x.toInt) | .gt => decide (k < x.toInt) | .le => decide (x.toInt ≤ k)) = v) : zc c x y = v := by
  subst hk
  rw [← h]
  cases c with
  | eq => exact decide_eq_decide.mpr ⟨fun e => by rw [e], fun e => Int32.toInt_inj.mp e⟩
  | ne => exact decide_eq_decide.mpr ⟨fun e e2 => e (Int32.toInt_inj.mp e2), fun e e2 => e (by rw [e2])⟩
  | lt => exact decide_eq_decide.mpr Int32.lt_iff_toInt_lt
  | ge => exact decide_eq_decide.mpr Int32.le_iff_toInt_le
  | gt => exact decide_eq_decide.mpr Int32.lt_iff_toInt_lt
  | le => exact decide_eq_decide.mpr Int32.le_iff_toInt_le
end
section
-- runs without counting fuel
theorem zcm_mono {mt : List zM} {c1 c2 : Nat → List Value → zH → Option (Option Value × zH)} (hc : ∀ a as h r, c1 a as h = some r → c2 a as h = some r) {kind a pc : Nat} {h : zH} {lv : List (Nat × Value)} {st : List Value} {q : zS × zH} (hz : zcm mt c1 kind a h pc lv st = some q) : zcm mt c2 kind a h pc lv st = some q := by
  unfold zcm at hz ⊢
  split at hz
  · cases hz
  · next M hM =>
    split at hz
    · cases hz
    · next qq hq =>
      split at hz
      · cases hz
      · next hb =>
        split at hz
        · cases hz
        · next r hr =>
          rw [hc _ _ _ _ hr]
          exact hz
theorem zk_mono {mt : List zM} {c1 c2 : Nat → List Value → zH → Option (Option Value × zH)} (hc : ∀ a as h r, c1 a as h = some r → c2 a as h = some r) {fr lo : Nat} {i : Jvm.ClassFile.Instr} {a b pc : Nat} {h : zH} {lv : List (Nat × Value)} {st : List Value} {q : zS × zH} (hz : zk mt c1 fr lo i a b h pc lv st = some q) : zk mt c2 fr lo i a b h pc lv st = some q := by
  cases i with
  | invokestatic k =>
    rcases b with _ | _ | _ | _ | _ | _ | b
    · exact zcm_mono hc (show zcm mt c1 0 a h (pc + 3) lv st = some q from hz)
    all_goals exact hz
  | invokevirtual k =>
    rcases b with _ | _ | b
    · exact zcm_mono hc (show zcm mt c1 1 a h (pc + 3) lv st = some q from hz)
    all_goals exact hz
  | invokespecial k =>
    rcases b with _ | _ | _ | b
    · exact zcm_mono hc (show zcm mt c1 2 a h (pc + 3) lv st = some q from hz)
    · exact zcm_mono hc (show zcm mt c1 2 a h (pc + 3) lv st = some q from hz)
    all_goals exact hz
  | _ => exact znq hz
theorem zstep_mono {mt : List zM} {c1 c2 : Nat → List Value → zH → Option (Option Value × zH)} (hc : ∀ a as h r, c1 a as h = some r → c2 a as h = some r) {fr lo : Nat} {xs : zX} {x : zE} {s : zS} {h : zH} {q : zS × zH} (hz : zstep mt c1 fr lo xs x s h = some q) : zstep mt c2 fr lo xs x s h = some q := by
  unfold zstep at hz ⊢
  split at hz
  · exact hz
  · split at hz
    · exact hz
    · split at hz
      · exact hz
      · split at hz
        · exact hz
        · exact zk_mono hc hz
theorem zloop_mono {mt : List zM} {c1 c2 : Nat → List Value → zH → Option (Option Value × zH)} (hc : ∀ a as h r, c1 a as h = some r → c2 a as h = some r) {fr lo : Nat} {xs : zX} {M : zM} {r : Option Value × zH} (d : Nat) : ∀ {f : Nat} {s : zS} {h : zH}, zloop mt c1 fr lo xs M f s h = some r → zloop mt c2 fr lo xs M (f + d) s h = some r
  | 0, s, h, hz => by cases hz
  | f + 1, s, h, hz => by
    rw [show f + 1 + d = (f + d) + 1 by omega]
    rw [zloop] at hz ⊢
    split at hz
    · cases hz
    · split at hz
      · exact hz
      · split at hz
        · cases hz
        · next q hq =>
          rw [zstep_mono hc hq]
          exact zloop_mono hc d hz
theorem zbody_mono {mt : List zM} {c1 c2 : Nat → List Value → zH → Option (Option Value × zH)} (hc : ∀ a as h r, c1 a as h = some r → c2 a as h = some r) {fr lo : Nat} {xs : zX} {f a : Nat} {as : List Value} {h : zH} {r : Option Value × zH} (d : Nat) (hz : zbody mt c1 fr lo xs f a as h = some r) : zbody mt c2 fr lo xs (f + d) a as h = some r := by
  unfold zbody at hz ⊢
  split at hz
  · cases hz
  · split at hz
    · exact zloop_mono hc d hz
    · cases hz
theorem zcall_mono {mt : List zM} {f : Nat} (d : Nat) : ∀ (fr : Nat) {lo a : Nat} {as : List Value} {h : zH} {r : Option Value × zH}, zcall mt f fr lo a as h = some r → zcall mt (f + d) fr lo a as h = some r := by
  intro fr
  induction fr with
  | zero =>
    intro lo a as h r hz
    exact zbody_mono (fun _ _ _ _ h => h) d (show zbody mt (fun _ _ _ => none) 0 lo none f a as h = some r from hz)
  | succ fr ih =>
    intro lo a as h r hz
    refine zbody_mono (c1 := zcal mt f fr lo) (c2 := zcal mt (f + d) fr lo) (fun a as h r hc => ?_) d hz
    unfold zcal at hc ⊢
    split at hc
    · cases hc
    · split at hc
      · exact ih hc
      · cases hc
theorem zcal_mono {mt : List zM} {f fr lo a : Nat} {as : List Value} {h : zH} {r : Option Value × zH} (d : Nat) (hz : zcal mt f fr lo a as h = some r) : zcal mt (f + d) fr lo a as h = some r := by
  unfold zcal at hz ⊢
  split at hz
  · cases hz
  · split at hz
    · exact zcall_mono d fr hz
    · cases hz
/-- a method's run from a frame, with room for fr frames below and lo words, comes to r -/
def zRun (fr lo : Nat) (xs : zX) (M : zM) (s : zS) (h : zH) (r : Option Value × zH) : Prop := ∃ F, zloop zmt (zcal zmt F fr lo) (fr + 1) lo xs M F s h = some r
/-- a call, with room for fr frames below the called one and lo words for it and them, comes to r -/
def zAns (fr lo a : Nat) (as : List Value) (h : zH) (r : Option Value × zH) : Prop := ∃ F, zcal zmt F fr lo a as h = some r
section ZE
variable {fr lo : Nat} {xs : zX} {M : zM} {h : zH} {r : Option Value × zH} {pc : Nat} {lv : List (Nat × Value)} {st : List Value} {x : zE}
/-- a step that makes no call -/
theorem ze1 {s : zS} {q : zS × zH} (hx : zlk2 (mT M) s.1 = some x) (hr : zre (mR M) (xI x) s.2.2 = none) (hs : ∀ call, zstep zmt call (fr + 1) lo xs x s h = some q) (k : zRun fr lo xs M q.1 q.2 r) : zRun fr lo xs M s h r := by
  obtain ⟨F, hF⟩ := k
  have h1 := zloop_mono (c2 := zcal zmt (F + 1) fr lo) (fun _ _ _ _ h => zcal_mono 1 h) 0 hF
  refine ⟨F + 1, ?_⟩
  rw [zloop]
  simp only [hx, hr, hs]
  exact h1
theorem zer {s : zS} {v : Option Value} (hx : zlk2 (mT M) s.1 = some x) (hr : zre (mR M) (xI x) s.2.2 = some v) : zRun fr lo xs M s h (v, h) := by
  refine ⟨1, ?_⟩
  rw [zloop]
  simp only [hx, hr]
/-- a call -/
theorem zec {s s' : zS} {M' : zM} {qq : List Value × List Value} {ra : Option Value × zH} (kind : Nat) (hx : zlk2 (mT M) s.1 = some x) (hr : zre (mR M) (xI x) s.2.2 = none)
    (hs : ∀ call, zstep zmt call (fr + 1) lo xs x s h = zcm zmt call kind (xA x) h (s.1 + 3) s.2.1 s.2.2) (hM : zmt[xA x]? = some M') (hp : zpop (zco kind (mN M')) s.2.2 = some qq) (hk : (Nat.beq (mK M') kind && (zrc kind (mW M').2.2.2 qq.1 h.1 && Nat.ble (zcat qq.2) 8)) = true)
    (hc : zAns fr lo (xA x) qq.1 h ra) (hs' : (s.1 + 3, s.2.1, ra.1.toList ++ qq.2) = s') (k : zRun fr lo xs M s' ra.2 r) : zRun fr lo xs M s h r := by
  obtain ⟨F, hF⟩ := k
  obtain ⟨G, hG⟩ := hc
  have h1 := zloop_mono (c2 := zcal zmt (F + G + 1) fr lo) (fun _ _ _ _ h => by have e := zcal_mono (G + 1) h; rw [show F + (G + 1) = F + G + 1 by omega] at e; exact e) G hF
  have h2 := zcal_mono (F + 1) hG
  rw [show G + (F + 1) = F + G + 1 by omega] at h2
  refine ⟨F + G + 1, ?_⟩
  rw [zqc kind hx hr (hs _) hM hp hk h2 hs']
  exact h1
/-- a method's body -/
theorem zeb {a : Nat} {as : List Value} (hM : zmt[a]? = some M) (h1 : 19 + mL M ≤ lo) (h2 : Nat.ble (zcat as) (mL M) = true) (k : zRun fr (lo - (19 + mL M)) none M (0, lv_args 0 as, []) h r) : zAns (fr + 1) lo a as h r := by
  obtain ⟨F, hF⟩ := k
  refine ⟨F, ?_⟩
  rw [zcal_go hM (Nat.ble_eq_true_of_le h1) h2]
  exact hF
/-- a branch -/
theorem zeb2 {s q : zS} {cB v : Bool} {off : Int} {lv : List (Nat × Value)} {st : List Value} (hx : zlk2 (mT M) s.1 = some x) (hr : zre (mR M) (xI x) s.2.2 = none) (hs : zp (xI x) (xV x) s.1 s.2.1 s.2.2 = zbr cB s.1 off lv st) (hc : cB = v) (hq : zbr v s.1 off lv st = some q) (k : zRun fr lo xs M q h r) : zRun fr lo xs M s h r := by
  refine ze1 (q := (q, h)) hx hr (fun call => ?_) k
  unfold zstep
  rw [hs, hc, hq]
end ZE
end
section
-- rules: several steps at once; reading and writing where the cell is known
noncomputable def znx (fr lo : Nat) (xs : zX) (M : zM) : Nat → zS → zH → Option (zS × zH)
  | 0, s, h => some (s, h)
  | n + 1, s, h => match zlk2 (mT M) s.1 with
    | none => none
    | some x => match zre (mR M) (xI x) s.2.2 with
      | some _ => none
      | none => match zstep zmt (fun _ _ _ => none) fr lo xs x s h with
        | none => none
        | some q => znx fr lo xs M n q.1 q.2
section ZRU
variable {fr lo : Nat} {xs : zX} {M : zM} {h : zH} {r : Option Value × zH} {pc : Nat} {lv : List (Nat × Value)} {rest : List Value} {x : zE}
theorem zeN : ∀ (n : Nat) {s : zS} {h : zH} {q : zS × zH}, znx (fr + 1) lo xs M n s h = some q → zRun fr lo xs M q.1 q.2 r → zRun fr lo xs M s h r
  | 0, s, h, q, hs, k => by
    obtain rfl := Option.some.inj hs
    exact k
  | n + 1, s, h, q, hs, k => by
    rw [znx] at hs
    split at hs
    · cases hs
    · next x hx =>
      split at hs
      · cases hs
      · next hr =>
        split at hs
        · cases hs
        · next q1 h1 => exact ze1 hx hr (fun call => zstep_mono (fun _ _ _ _ h => by cases h) h1) (zeN n hs k)
theorem zsR {i : Jvm.ClassFile.Instr} {s' : zS} {call : Nat → List Value → zH → Option (Option Value × zH)} {st : List Value} (hi : xI x = i) (h0 : ∀ kv, zp i kv pc lv st = none) (h1 : zr i (xA x) (xB x) xs h.1 pc lv st = some s') : zstep zmt call fr lo xs x (pc, lv, st) h = some (s', h) := by
  unfold zstep
  simp only [hi, h0, h1]
theorem zsW {i : Jvm.ClassFile.Instr} {q : zS × List zC} {call : Nat → List Value → zH → Option (Option Value × zH)} {st : List Value} (hi : xI x = i) (h0 : ∀ kv, zp i kv pc lv st = none) (h1 : zr i (xA x) (xB x) xs h.1 pc lv st = none) (h2 : zw i (xA x) (xB x) h.1 pc lv st = some q) : zstep zmt call fr lo xs x (pc, lv, st) h = some (q.1, (q.2, h.2)) := by
  unfold zstep
  simp only [hi, h0, h1, h2]
theorem zegf {a b u i : Nat} {fs : List Value} {v : Value} (hx : zlk2 (mT M) pc = some x) (hi : xI x = .getfield i) (ha : xA x = a) (hb : xB x = b) (hu : h.1[u]? = some (.inr (a, fs))) (hv : fs[b]? = some v) (k : zRun fr lo xs M (pc + 3, lv, v :: rest) h r) : zRun fr lo xs M (pc, lv, .ref u :: rest) h r := by
  refine ze1 (q := ((pc + 3, lv, v :: rest), h)) hx (by rw [hi]; rfl) (fun call => zsR hi (fun _ => rfl) ?_) k
  rw [ha, hb]
  show zgf a b h.1 (pc + 3) lv (.ref u :: rest) = _
  simp [zgf, hu, hv, Nat.beq_refl]
theorem zin_ok {j : Int32} {k n : Nat} (hj : j.toInt = (k : Int)) (hk : k < n) : zin j n = true ∧ j.toNatClampNeg = k := by
  have e : j.toNatClampNeg = k := by
    show j.toInt.toNat = k
    rw [hj]
    rfl
  refine ⟨decide_eq_true (fun hh => ?_), e⟩
  rcases hh with h1 | h1
  · have h2 := Int32.lt_iff_toInt_lt.mp h1
    rw [hj] at h2
    have h3 : (k : Int) < 0 := h2
    omega
  · omega
theorem zal_eq {t0 : Nat → Bool} {hp : List zC} {j : Int32} {u k t : Nat} {l : List Value} {v : Value} (hu : hp[u]? = some (.inl (t, l))) (ht : t0 t = true) (hj : j.toInt = (k : Int)) (hv : l[k]? = some v) : zal t0 xs hp pc lv (.int j :: .ref u :: rest) = some (pc, lv, v :: rest) := by
  obtain ⟨h1, h2⟩ := zin_ok hj (List.getElem?_eq_some_iff.mp hv).1
  simp [zal, hu, ht, h1, h2, hv]
theorem zeia {u k : Nat} {j : Int32} {l : List Value} {v : Value} (hx : zlk2 (mT M) pc = some x) (hi : xI x = .iaload) (hu : h.1[u]? = some (.inl (0, l))) (hj : j.toInt = (k : Int)) (hv : l[k]? = some v) (kk : zRun fr lo xs M (pc + 1, lv, v :: rest) h r) : zRun fr lo xs M (pc, lv, .int j :: .ref u :: rest) h r :=
  ze1 (q := ((pc + 1, lv, v :: rest), h)) hx (by rw [hi]; rfl) (fun call => zsR hi (fun _ => rfl) (zal_eq (xs := xs) (t0 := fun t => Nat.beq t 0) hu rfl hj hv)) kk
theorem zeba {u k : Nat} {j : Int32} {l : List Value} {v : Value} (hx : zlk2 (mT M) pc = some x) (hi : xI x = .baload) (hu : h.1[u]? = some (.inl (1, l))) (hj : j.toInt = (k : Int)) (hv : l[k]? = some v) (kk : zRun fr lo xs M (pc + 1, lv, v :: rest) h r) : zRun fr lo xs M (pc, lv, .int j :: .ref u :: rest) h r :=
  ze1 (q := ((pc + 1, lv, v :: rest), h)) hx (by rw [hi]; rfl) (fun call => zsR hi (fun _ => rfl) (zal_eq (xs := xs) (t0 := fun t => Nat.beq t 1) hu rfl hj hv)) kk
theorem zela {u k : Nat} {j : Int32} {l : List Value} {v : Value} (hx : zlk2 (mT M) pc = some x) (hi : xI x = .laload) (hu : h.1[u]? = some (.inl (2, l))) (hj : j.toInt = (k : Int)) (hv : l[k]? = some v) (kk : zRun fr lo xs M (pc + 1, lv, v :: rest) h r) : zRun fr lo xs M (pc, lv, .int j :: .ref u :: rest) h r :=
  ze1 (q := ((pc + 1, lv, v :: rest), h)) hx (by rw [hi]; rfl) (fun call => zsR hi (fun _ => rfl) (zal_eq (xs := xs) (t0 := fun t => Nat.beq t 2) hu rfl hj hv)) kk
theorem zeaa {u k t : Nat} {j : Int32} {l : List Value} {v : Value} (hx : zlk2 (mT M) pc = some x) (hi : xI x = .aaload) (hu : h.1[u]? = some (.inl (t, l))) (ht : zrt t = true) (hj : j.toInt = (k : Int)) (hv : l[k]? = some v) (kk : zRun fr lo xs M (pc + 1, lv, v :: rest) h r) : zRun fr lo xs M (pc, lv, .int j :: .ref u :: rest) h r :=
  ze1 (q := ((pc + 1, lv, v :: rest), h)) hx (by rw [hi]; rfl) (fun call => zsR hi (fun _ => rfl) (zal_eq (xs := xs) (t0 := zrt) hu ht hj hv)) kk
theorem zeln {u t : Nat} {l : List Value} (hx : zlk2 (mT M) pc = some x) (hi : xI x = .arraylength) (hu : h.1[u]? = some (.inl (t, l))) (ht : Nat.blt t zNT = true) (kk : zRun fr lo xs M (pc + 1, lv, .int (Int32.ofNat l.length) :: rest) h r) : zRun fr lo xs M (pc, lv, .ref u :: rest) h r := by
  refine ze1 (q := ((pc + 1, lv, .int (Int32.ofNat l.length) :: rest), h)) hx (by rw [hi]; rfl) (fun call => zsR hi (fun _ => rfl) ?_) kk
  show zle xs h.1 (pc + 1) lv (.ref u :: rest) = _
  simp [zle, hu, ht]
theorem zepf {a b u i : Nat} {fs : List Value} {v : Value} (hx : zlk2 (mT M) pc = some x) (hi : xI x = .putfield i) (ha : xA x = a) (hb : xB x = b) (hu : h.1[u]? = some (.inr (a, fs))) (hl : b < fs.length) (hf : zfit (zty a b) v = true) (k : zRun fr lo xs M (pc + 3, lv, rest) (h.1.set u (.inr (a, fs.set b v)), h.2) r) : zRun fr lo xs M (pc, lv, v :: .ref u :: rest) h r := by
  refine ze1 (q := ((pc + 3, lv, rest), (h.1.set u (.inr (a, fs.set b v)), h.2))) hx (by rw [hi]; rfl) (fun call => zsW (q := ((pc + 3, lv, rest), h.1.set u (.inr (a, fs.set b v)))) hi (fun _ => rfl) rfl ?_) k
  rw [ha, hb]
  show zpf a b h.1 (pc + 3) lv (v :: .ref u :: rest) = _
  have h1 : Nat.blt b fs.length = true := Nat.ble_eq_true_of_le hl
  simp [zpf, hu, Nat.beq_refl, h1, hf]
theorem zeis {u k : Nat} {j z : Int32} {l : List Value} (hx : zlk2 (mT M) pc = some x) (hi : xI x = .iastore) (hu : h.1[u]? = some (.inl (0, l))) (hj : j.toInt = (k : Int)) (hk : k < l.length) (kk : zRun fr lo xs M (pc + 1, lv, rest) (h.1.set u (.inl (0, l.set k (.int z))), h.2) r) : zRun fr lo xs M (pc, lv, .int z :: .int j :: .ref u :: rest) h r := by
  obtain ⟨h1, h2⟩ := zin_ok hj hk
  refine ze1 (q := ((pc + 1, lv, rest), (h.1.set u (.inl (0, l.set k (.int z))), h.2))) hx (by rw [hi]; rfl) (fun call => zsW (q := ((pc + 1, lv, rest), h.1.set u (.inl (0, l.set k (.int z))))) hi (fun _ => rfl) rfl ?_) kk
  show zis h.1 (pc + 1) lv (.int z :: .int j :: .ref u :: rest) = _
  simp [zis, hu, h1, h2]
theorem zebs {u k : Nat} {j z : Int32} {l : List Value} (hx : zlk2 (mT M) pc = some x) (hi : xI x = .bastore) (hu : h.1[u]? = some (.inl (1, l))) (hj : j.toInt = (k : Int)) (hk : k < l.length) (kk : zRun fr lo xs M (pc + 1, lv, rest) (h.1.set u (.inl (1, l.set k (.int (z &&& 1)))), h.2) r) : zRun fr lo xs M (pc, lv, .int z :: .int j :: .ref u :: rest) h r := by
  obtain ⟨h1, h2⟩ := zin_ok hj hk
  refine ze1 (q := ((pc + 1, lv, rest), (h.1.set u (.inl (1, l.set k (.int (z &&& 1)))), h.2))) hx (by rw [hi]; rfl) (fun call => zsW (q := ((pc + 1, lv, rest), h.1.set u (.inl (1, l.set k (.int (z &&& 1)))))) hi (fun _ => rfl) rfl ?_) kk
  show zbs h.1 (pc + 1) lv (.int z :: .int j :: .ref u :: rest) = _
  simp [zbs, hu, h1, h2]
theorem zels {u k : Nat} {j : Int32} {z : Int64} {l : List Value} (hx : zlk2 (mT M) pc = some x) (hi : xI x = .lastore) (hu : h.1[u]? = some (.inl (2, l))) (hj : j.toInt = (k : Int)) (hk : k < l.length) (kk : zRun fr lo xs M (pc + 1, lv, rest) (h.1.set u (.inl (2, l.set k (.long z))), h.2) r) : zRun fr lo xs M (pc, lv, .long z :: .int j :: .ref u :: rest) h r := by
  obtain ⟨h1, h2⟩ := zin_ok hj hk
  refine ze1 (q := ((pc + 1, lv, rest), (h.1.set u (.inl (2, l.set k (.long z))), h.2))) hx (by rw [hi]; rfl) (fun call => zsW (q := ((pc + 1, lv, rest), h.1.set u (.inl (2, l.set k (.long z))))) hi (fun _ => rfl) rfl ?_) kk
  show zls h.1 (pc + 1) lv (.long z :: .int j :: .ref u :: rest) = _
  simp [zls, hu, h1, h2]
theorem zeas {u k t : Nat} {j : Int32} {v : Value} {l : List Value} (hx : zlk2 (mT M) pc = some x) (hi : xI x = .aastore) (hu : h.1[u]? = some (.inl (t, l))) (hv : zes h.1 t v = true) (hj : j.toInt = (k : Int)) (hk : k < l.length) (kk : zRun fr lo xs M (pc + 1, lv, rest) (h.1.set u (.inl (t, l.set k v)), h.2) r) : zRun fr lo xs M (pc, lv, v :: .int j :: .ref u :: rest) h r := by
  obtain ⟨h1, h2⟩ := zin_ok hj hk
  refine ze1 (q := ((pc + 1, lv, rest), (h.1.set u (.inl (t, l.set k v)), h.2))) hx (by rw [hi]; rfl) (fun call => zsW (q := ((pc + 1, lv, rest), h.1.set u (.inl (t, l.set k v)))) hi (fun _ => rfl) rfl ?_) kk
  show zas h.1 (pc + 1) lv (v :: .int j :: .ref u :: rest) = _
  simp [zas, hu, hv, h1, h2]
/-- a branch both ways -/
theorem zbc {s q1 q2 : zS} {cB : Bool} {off : Int} {lv : List (Nat × Value)} {st : List Value} (hx : zlk2 (mT M) s.1 = some x) (hr : zre (mR M) (xI x) s.2.2 = none) (hs : zp (xI x) (xV x) s.1 s.2.1 s.2.2 = zbr cB s.1 off lv st) (hq1 : zbr true s.1 off lv st = some q1) (hq2 : zbr false s.1 off lv st = some q2) (k1 : cB = true → zRun fr lo xs M q1 h r) (k2 : cB = false → zRun fr lo xs M q2 h r) : zRun fr lo xs M s h r := by
  cases hc : cB with
  | true => exact zeb2 hx hr hs hc hq1 (k1 hc)
  | false => exact zeb2 hx hr hs hc hq2 (k2 hc)
end ZRU
end
section
-- calls, indices, small arithmetic
theorem zrc_ok {c u : Nat} {fs as : List Value} {h : List zC} (hu : h[u]? = some (.inr (c, fs))) : zrc 1 c (.ref u :: as) h = true := by simp [zrc, hu, Nat.beq_refl]
theorem zhk {a b c : Bool} (ha : a = true) (hb : b = true) (hc : c = true) : (a && (b && c)) = true := by rw [ha, hb, hc]; rfl
section ZMA
variable {fr lo : Nat} {xs : zX} {M : zM} {h : zH} {r : Option Value × zH} {pc i : Nat} {lv : List (Nat × Value)} {rest : List Value} {x : zE} {a b : Int32}
theorem zemn (hx : zlk2 (mT M) pc = some x) (hi : xI x = .invokestatic i) (hb : xB x = 3) (hr : zcat rest + 13 ≤ lo) (k : zRun fr lo xs M (pc + 3, lv, .int (if b < a then b else a) :: rest) h r) : zRun fr lo xs M (pc, lv, .int b :: .int a :: rest) h r := by
  refine ze1 (q := ((pc + 3, lv, .int (if b < a then b else a) :: rest), h)) hx (by rw [hi]; rfl) (fun call => ?_) k
  unfold zstep
  rw [hi, hb]
  show zmx (fun x y => if y < x then y else x) (fr + 1) lo h (pc + 3) lv (.int b :: .int a :: rest) = _
  have h1 : Nat.ble (zcat rest + 13) lo = true := Nat.ble_eq_true_of_le hr
  have h2 : Nat.ble 1 (fr + 1) = true := Nat.ble_eq_true_of_le (by omega)
  simp [zmx, h1, h2]
theorem zemx (hx : zlk2 (mT M) pc = some x) (hi : xI x = .invokestatic i) (hb : xB x = 4) (hr : zcat rest + 13 ≤ lo) (k : zRun fr lo xs M (pc + 3, lv, .int (if a < b then b else a) :: rest) h r) : zRun fr lo xs M (pc, lv, .int b :: .int a :: rest) h r := by
  refine ze1 (q := ((pc + 3, lv, .int (if a < b then b else a) :: rest), h)) hx (by rw [hi]; rfl) (fun call => ?_) k
  unfold zstep
  rw [hi, hb]
  show zmx (fun x y => if x < y then y else x) (fr + 1) lo h (pc + 3) lv (.int b :: .int a :: rest) = _
  have h1 : Nat.ble (zcat rest + 13) lo = true := Nat.ble_eq_true_of_le hr
  have h2 : Nat.ble 1 (fr + 1) = true := Nat.ble_eq_true_of_le (by omega)
  simp [zmx, h1, h2]
end ZMA
/-- a truth value made by a branch -/
theorem zdia {fr lo : Nat} {xs : zX} {M : zM} {h : zH} {r : Option Value × zH} {s q1 q2 : zS} {x : zE} {cB : Bool} {off : Int} {lv lv2 : List (Nat × Value)} {st st2 : List Value} {J : Nat} {vA vB : Int32} (n1 n2 : Nat) (hx : zlk2 (mT M) s.1 = some x) (hr : zre (mR M) (xI x) s.2.2 = none) (hs : zp (xI x) (xV x) s.1 s.2.1 s.2.2 = zbr cB s.1 off lv st) (hq1 : zbr true s.1 off lv st = some q1) (hq2 : zbr false s.1 off lv st = some q2)
    (h1 : znx (fr + 1) lo xs M n1 q1 h = some ((J, lv2, .int vA :: st2), h)) (h2 : znx (fr + 1) lo xs M n2 q2 h = some ((J, lv2, .int vB :: st2), h)) (k : zRun fr lo xs M (J, lv2, .int (bif cB then vA else vB) :: st2) h r) : zRun fr lo xs M s h r := by
  cases hc : cB with
  | true => rw [hc] at k; exact zeb2 hx hr hs hc hq1 (zeN n1 h1 k)
  | false => rw [hc] at k; exact zeb2 hx hr hs hc hq2 (zeN n2 h2 k)
/-- an index within, and what an int array holds there -/
def zIx (j : Int32) (n : Nat) : Prop := 0 ≤ j.toInt ∧ j.toInt < (n : Int)
def gI (X : List Int32) (j : Int32) : Int32 := X.getD j.toNatClampNeg 0
theorem zIx_a {j : Int32} {n : Nat} (h : zIx j n) : j.toInt = (j.toNatClampNeg : Int) := by
  show j.toInt = ((j.toInt.toNat : Nat) : Int)
  have := h.1
  omega
theorem zIx_b {j : Int32} {X : List Int32} (h : zIx j X.length) : (X.map Value.int)[j.toNatClampNeg]? = some (.int (gI X j)) := by
  have h1 := zIx_a h
  have h2 : j.toNatClampNeg < X.length := by have := h.2; omega
  simp [gI, List.getD_eq_getElem?_getD, h2]
theorem zIx_s {j : Int32} {m n : Nat} (h : zIx j m) (e : n = m) : zIx j n := e ▸ h
theorem z_add {a b : Int32} (h1 : -2147483648 ≤ a.toInt + b.toInt) (h2 : a.toInt + b.toInt < 2147483648) : (a + b).toInt = a.toInt + b.toInt := by
  rw [Int32.toInt_add, Int.bmod_def]
  omega
theorem z_sub {a b : Int32} (h1 : -2147483648 ≤ a.toInt - b.toInt) (h2 : a.toInt - b.toInt < 2147483648) : (a - b).toInt = a.toInt - b.toInt := by
  rw [Int32.toInt_sub, Int.bmod_def]
  omega
theorem z_mul {a b : Int32} (h1 : -2147483648 ≤ a.toInt * b.toInt) (h2 : a.toInt * b.toInt < 2147483648) : (a * b).toInt = a.toInt * b.toInt := by
  rw [Int32.toInt_mul, Int.bmod_def]
  omega
theorem z_nat {n : Nat} (h : n < 2147483648) : (Int32.ofNat n).toInt = (n : Int) := nI_toInt h
def zB (v : Int32) : Prop := v = 0 ∨ v = 1
theorem zreb {v : Int32} (h : zB v) : zre (some .boolean) .ireturn [.int v] = some (some (.int v)) := by
  rcases h with rfl | rfl <;> rfl
theorem zbb (c : Bool) : zB (bif c then 0 else 1) := by cases c <;> first | exact Or.inl rfl | exact Or.inr rfl
theorem zbb2 (c : Bool) : zB (bif c then 1 else 0) := by cases c <;> first | exact Or.inl rfl | exact Or.inr rfl
theorem zbi {c : Bool} {a b : Int32} (ha : zB a) (hb : zB b) : zB (bif c then a else b) := by cases c <;> assumption
theorem zB0 : zB 0 := Or.inl rfl
theorem zB1 : zB 1 := Or.inr rfl
section ZDV
variable {fr lo : Nat} {xs : zX} {M : zM} {h : zH} {r : Option Value × zH} {pc : Nat} {lv : List (Nat × Value)} {rest : List Value} {x : zE} {a b : Int32} {p q : Int64}
theorem zerm (hx : zlk2 (mT M) pc = some x) (hi : xI x = .irem) (hne : ¬ b = 0) (k : zRun fr lo xs M (pc + 1, lv, .int (a - a / b * b) :: rest) h r) : zRun fr lo xs M (pc, lv, .int b :: .int a :: rest) h r := by
  refine ze1 (q := ((pc + 1, lv, .int (a - a / b * b) :: rest), h)) hx (by rw [hi]; rfl) (fun call => ?_) k
  unfold zstep
  rw [hi]
  simp [zp, zdv, hne]
theorem zedi (hx : zlk2 (mT M) pc = some x) (hi : xI x = .idiv) (hne : ¬ b = 0) (k : zRun fr lo xs M (pc + 1, lv, .int (a / b) :: rest) h r) : zRun fr lo xs M (pc, lv, .int b :: .int a :: rest) h r := by
  refine ze1 (q := ((pc + 1, lv, .int (a / b) :: rest), h)) hx (by rw [hi]; rfl) (fun call => ?_) k
  unfold zstep
  rw [hi]
  simp [zp, zdv, hne]
theorem zedl (hx : zlk2 (mT M) pc = some x) (hi : xI x = .ldiv) (hne : ¬ q = 0) (k : zRun fr lo xs M (pc + 1, lv, .long (p / q) :: rest) h r) : zRun fr lo xs M (pc, lv, .long q :: .long p :: rest) h r := by
  refine ze1 (q := ((pc + 1, lv, .long (p / q) :: rest), h)) hx (by rw [hi]; rfl) (fun call => ?_) k
  unfold zstep
  rw [hi]
  simp [zp, zdvl, hne]
end ZDV
end
section
-- locals that are not needed may be forgotten
def znd (lv : List (Nat × Value)) : Prop := lv.Pairwise (fun p q => p.1 ≠ q.1)
def zsub (l1 l2 : List (Nat × Value)) : Prop := (∀ q ∈ l1, q ∈ l2) ∧ znd l2
theorem zgl_of {i : Nat} {v : Value} : ∀ {lv : List (Nat × Value)}, znd lv → (i, v) ∈ lv → zgl lv i = some v
  | [], _, h => by cases h
  | q :: r, hn, h => by
    have hp := List.pairwise_cons.mp hn
    unfold zgl
    rcases List.mem_cons.mp h with e | e
    · rw [← e]
      simp [Nat.beq_refl]
    · have hne : q.1 ≠ i := hp.1 _ e
      have hb : Nat.beq q.1 i = false := by
        cases hc : Nat.beq q.1 i with
        | false => rfl
        | true => exact absurd (Nat.eq_of_beq_eq_true hc) hne
      rw [hb]
      exact zgl_of hp.2 e
theorem zsub_get {l1 l2 : List (Nat × Value)} {i : Nat} {v : Value} (h : zsub l1 l2) (hg : zgl l1 i = some v) : zgl l2 i = some v := zgl_of h.2 (h.1 _ (zgl_mem hg))
theorem zsub_cons {l1 l2 : List (Nat × Value)} {i : Nat} {v : Value} {p : Nat × Value → Bool} (h : zsub l1 l2) (hp : ∀ q, p q = true → q.1 ≠ i) : zsub ((i, v) :: l1.filter p) ((i, v) :: l2.filter p) := by
  refine ⟨fun q hq => ?_, ?_⟩
  · rcases List.mem_cons.mp hq with e | e
    · rw [e]; exact List.mem_cons_self
    · have h1 := List.mem_filter.mp e
      exact List.mem_cons_of_mem _ (List.mem_filter.mpr ⟨h.1 _ h1.1, h1.2⟩)
  · refine List.pairwise_cons.mpr ⟨fun q hq => ?_, List.Pairwise.filter p h.2⟩
    exact fun e => hp q (List.mem_filter.mp hq).2 e.symm
theorem zsub_st {l1 l2 : List (Nat × Value)} {i : Nat} {v : Value} (h : zsub l1 l2) : zsub (zst l1 i v) (zst l2 i v) := zsub_cons h (fun q hq e => by simp [e] at hq)
theorem zsub_st2 {l1 l2 : List (Nat × Value)} {i : Nat} {v : Value} (h : zsub l1 l2) : zsub (zst2 l1 i v) (zst2 l2 i v) := zsub_cons h (fun q hq e => by simp [e] at hq)
theorem zbr_sub {c : Bool} {pc : Nat} {off : Int} {l1 l2 : List (Nat × Value)} {r : List Value} {q : zS} (hs : zsub l1 l2) (h : zbr c pc off l1 r = some q) : ∃ l2', zbr c pc off l2 r = some (q.1, l2', q.2.2) ∧ zsub q.2.1 l2' := by
  unfold zbr at h ⊢
  split at h
  · cases h
  · split at h
    · obtain rfl := Option.some.inj h; exact ⟨l2, rfl, hs⟩
    · obtain rfl := Option.some.inj h; exact ⟨l2, rfl, hs⟩
theorem zgo_sub {pc : Nat} {off : Int} {l1 l2 : List (Nat × Value)} {r : List Value} {q : zS} (hs : zsub l1 l2) (h : zgo pc off l1 r = some q) : ∃ l2', zgo pc off l2 r = some (q.1, l2', q.2.2) ∧ zsub q.2.1 l2' := by
  unfold zgo at h ⊢
  split at h
  · cases h
  · obtain rfl := Option.some.inj h; exact ⟨l2, rfl, hs⟩
/-- the same step with more locals -/
theorem zp_sub {i : Jvm.ClassFile.Instr} {kv : Value} {pc : Nat} {l1 l2 : List (Nat × Value)} {st : List Value} {q : zS} (hs : zsub l1 l2) (h : zp i kv pc l1 st = some q) : ∃ l2', zp i kv pc l2 st = some (q.1, l2', q.2.2) ∧ zsub q.2.1 l2' := by
  cases i with
  | iconst k => obtain rfl := Option.some.inj h; exact ⟨l2, rfl, hs⟩
  | bipush k => obtain rfl := Option.some.inj h; exact ⟨l2, rfl, hs⟩
  | sipush k => obtain rfl := Option.some.inj h; exact ⟨l2, rfl, hs⟩
  | lconst k => obtain rfl := Option.some.inj h; exact ⟨l2, rfl, hs⟩
  | aconst_null => obtain rfl := Option.some.inj h; exact ⟨l2, rfl, hs⟩
  | ldc k => obtain ⟨x, rfl, rfl⟩ := zki_inv h; exact ⟨l2, rfl, hs⟩
  | ldc_w k => obtain ⟨x, rfl, rfl⟩ := zki_inv h; exact ⟨l2, rfl, hs⟩
  | ldc2_w k => obtain ⟨x, rfl, rfl⟩ := zkl_inv h; exact ⟨l2, rfl, hs⟩
  | iload k => obtain ⟨x, hg, rfl⟩ := zld0_inv h; exact ⟨l2, by show zld 0 (pc + 2) l2 st k = _; simp [zld, zsub_get hs hg], hs⟩
  | iload_n k => obtain ⟨x, hg, rfl⟩ := zld0_inv h; exact ⟨l2, by show zld 0 (pc + 1) l2 st k.val = _; simp [zld, zsub_get hs hg], hs⟩
  | lload k => obtain ⟨x, hg, rfl⟩ := zld1_inv h; exact ⟨l2, by show zld 1 (pc + 2) l2 st k = _; simp [zld, zsub_get hs hg], hs⟩
  | lload_n k => obtain ⟨x, hg, rfl⟩ := zld1_inv h; exact ⟨l2, by show zld 1 (pc + 1) l2 st k.val = _; simp [zld, zsub_get hs hg], hs⟩
  | aload k =>
    obtain ⟨v, hg, rfl, hv⟩ := zld2_inv h
    refine ⟨l2, ?_, hs⟩
    show zld 2 (pc + 2) l2 st k = _
    rcases hv with ⟨x, rfl⟩ | rfl | ⟨x, rfl⟩ <;> simp [zld, zsub_get hs hg]
  | aload_n k =>
    obtain ⟨v, hg, rfl, hv⟩ := zld2_inv h
    refine ⟨l2, ?_, hs⟩
    show zld 2 (pc + 1) l2 st k.val = _
    rcases hv with ⟨x, rfl⟩ | rfl | ⟨x, rfl⟩ <;> simp [zld, zsub_get hs hg]
  | istore k => obtain ⟨x, r, rfl, rfl⟩ := zsi_inv h; exact ⟨_, rfl, zsub_st hs⟩
  | istore_n k => obtain ⟨x, r, rfl, rfl⟩ := zsi_inv h; exact ⟨_, rfl, zsub_st hs⟩
  | lstore k => obtain ⟨x, r, rfl, rfl⟩ := zsl_inv h; exact ⟨_, rfl, zsub_st2 hs⟩
  | lstore_n k => obtain ⟨x, r, rfl, rfl⟩ := zsl_inv h; exact ⟨_, rfl, zsub_st2 hs⟩
  | astore k =>
    obtain ⟨r, hq⟩ := zsa_inv h
    rcases hq with ⟨x, rfl, rfl⟩ | ⟨rfl, rfl⟩ <;> exact ⟨_, rfl, zsub_st hs⟩
  | astore_n k =>
    obtain ⟨r, hq⟩ := zsa_inv h
    rcases hq with ⟨x, rfl, rfl⟩ | ⟨rfl, rfl⟩ <;> exact ⟨_, rfl, zsub_st hs⟩
  | iinc k d => obtain ⟨x, hg, rfl⟩ := zinc_inv h; exact ⟨_, by show zinc (pc + 3) l2 st k d = _; simp [zinc, zsub_get hs hg], zsub_st hs⟩
  | iadd => obtain ⟨x, y, r, rfl, rfl⟩ := zi2_inv h; exact ⟨l2, rfl, hs⟩
  | isub => obtain ⟨x, y, r, rfl, rfl⟩ := zi2_inv h; exact ⟨l2, rfl, hs⟩
  | imul => obtain ⟨x, y, r, rfl, rfl⟩ := zi2_inv h; exact ⟨l2, rfl, hs⟩
  | iand => obtain ⟨x, y, r, rfl, rfl⟩ := zi2_inv h; exact ⟨l2, rfl, hs⟩
  | ior => obtain ⟨x, y, r, rfl, rfl⟩ := zi2_inv h; exact ⟨l2, rfl, hs⟩
  | ixor => obtain ⟨x, y, r, rfl, rfl⟩ := zi2_inv h; exact ⟨l2, rfl, hs⟩
  | ishl => obtain ⟨x, y, r, rfl, rfl⟩ := zi2_inv h; exact ⟨l2, rfl, hs⟩
  | ishr => obtain ⟨x, y, r, rfl, rfl⟩ := zi2_inv h; exact ⟨l2, rfl, hs⟩
  | iushr => obtain ⟨x, y, r, rfl, rfl⟩ := zi2_inv h; exact ⟨l2, rfl, hs⟩
  | ladd => obtain ⟨x, y, r, rfl, rfl⟩ := zl2_inv h; exact ⟨l2, rfl, hs⟩
  | lsub => obtain ⟨x, y, r, rfl, rfl⟩ := zl2_inv h; exact ⟨l2, rfl, hs⟩
  | lmul => obtain ⟨x, y, r, rfl, rfl⟩ := zl2_inv h; exact ⟨l2, rfl, hs⟩
  | land => obtain ⟨x, y, r, rfl, rfl⟩ := zl2_inv h; exact ⟨l2, rfl, hs⟩
  | lor => obtain ⟨x, y, r, rfl, rfl⟩ := zl2_inv h; exact ⟨l2, rfl, hs⟩
  | lcmp => obtain ⟨x, y, r, rfl, rfl⟩ := zl2_inv h; exact ⟨l2, rfl, hs⟩
  | idiv => obtain ⟨x, y, r, rfl, hne, rfl⟩ := zdv_inv h; exact ⟨l2, by simp [zp, zdv, hne], hs⟩
  | irem => obtain ⟨x, y, r, rfl, hne, rfl⟩ := zdv_inv h; exact ⟨l2, by simp [zp, zdv, hne], hs⟩
  | ldiv => obtain ⟨x, y, r, rfl, hne, rfl⟩ := zdvl_inv h; exact ⟨l2, by simp [zp, zdvl, hne], hs⟩
  | lrem => obtain ⟨x, y, r, rfl, hne, rfl⟩ := zdvl_inv h; exact ⟨l2, by simp [zp, zdvl, hne], hs⟩
  | ineg => obtain ⟨x, r, rfl, rfl⟩ := zi1_inv h; exact ⟨l2, rfl, hs⟩
  | i2l => obtain ⟨x, r, rfl, rfl⟩ := zi1_inv h; exact ⟨l2, rfl, hs⟩
  | i2b => obtain ⟨x, r, rfl, rfl⟩ := zi1_inv h; exact ⟨l2, rfl, hs⟩
  | lneg => obtain ⟨x, r, rfl, rfl⟩ := zl1_inv h; exact ⟨l2, rfl, hs⟩
  | l2i => obtain ⟨x, r, rfl, rfl⟩ := zl1_inv h; exact ⟨l2, rfl, hs⟩
  | dup => obtain ⟨v, r, rfl, hv, rfl⟩ := zd0_inv h; exact ⟨l2, by simp [zp, zd0, hv], hs⟩
  | dup_x1 => obtain ⟨v, w, r, rfl, hv, hw, rfl⟩ := zdx1_inv h; exact ⟨l2, by simp [zp, zdx1, hv, hw], hs⟩
  | dup_x2 => obtain ⟨v, w, u, r, rfl, hv, hw, hu, rfl⟩ := zdx2_inv h; exact ⟨l2, by simp [zp, zdx2, hv, hw, hu], hs⟩
  | dup2 => obtain ⟨v, w, r, rfl, hv, hw, rfl⟩ := zd2_inv h; exact ⟨l2, by simp [zp, zd2, hv, hw], hs⟩
  | pop => obtain ⟨v, r, rfl, hv, rfl⟩ := zpo_inv h; exact ⟨l2, by simp [zp, zpo, hv], hs⟩
  | goto off => exact zgo_sub hs (show zgo pc off l1 st = some q from h)
  | ifCond c off =>
    obtain ⟨x, r, rfl, hz⟩ := zb1_inv h
    exact zbr_sub hs hz
  | if_icmp c off =>
    obtain ⟨x, y, r, rfl, hz⟩ := zb2_inv h
    exact zbr_sub hs hz
  | ifnull off =>
    obtain ⟨r, hq⟩ := zbn_inv h
    rcases hq with ⟨rfl, hz⟩ | ⟨k, rfl, hz⟩ <;> exact zbr_sub hs hz
  | ifnonnull off =>
    obtain ⟨r, hq⟩ := zbn_inv h
    rcases hq with ⟨rfl, hz⟩ | ⟨k, rfl, hz⟩ <;> exact zbr_sub hs hz
  | tableswitch d lo hi offs =>
    obtain ⟨x, r, rfl, hq⟩ := ztsw_inv h
    rcases hq with ⟨ho, hg⟩ | ⟨h1, h2, off, ho, hg⟩
    · obtain ⟨l2', e, e2⟩ := zgo_sub hs hg
      refine ⟨l2', ?_, e2⟩
      show ztsw pc d lo hi offs l2 (.int x :: r) = _
      rw [← e]
      rcases ho with ho | ho <;> simp [ztsw, ho]
    · obtain ⟨l2', e, e2⟩ := zgo_sub hs hg
      refine ⟨l2', ?_, e2⟩
      show ztsw pc d lo hi offs l2 (.int x :: r) = _
      rw [← e]
      simp [ztsw, h1, h2, ho]
  | _ => exact znq h
theorem zr_sub {i : Jvm.ClassFile.Instr} {a b pc : Nat} {xs : zX} {hp : List zC} {l1 l2 : List (Nat × Value)} {st : List Value} {q : zS} (hs : zsub l1 l2) (h : zr i a b xs hp pc l1 st = some q) : ∃ l2', zr i a b xs hp pc l2 st = some (q.1, l2', q.2.2) ∧ zsub q.2.1 l2' := by
  have al : ∀ t0, zal t0 xs hp (pc + 1) l1 st = some q → ∃ l2', zal t0 xs hp (pc + 1) l2 st = some (q.1, l2', q.2.2) ∧ zsub q.2.1 l2' := fun t0 hz => by
    rcases zal_inv hz with ⟨j, u, r, t, l, v, rfl, hu, ht, hin, hv, rfl⟩ | ⟨j, u, r, x, rfl, hxs, ht, hin, rfl⟩
    · exact ⟨l2, by have h1 : zin j l.length = true := decide_eq_true hin; simp [zal, hu, ht, h1, hv], hs⟩
    · exact ⟨l2, by have h1 : zin j x.1 = true := decide_eq_true hin; simp [zal, hxs, ht, h1], hs⟩
  cases i with
  | getfield k => obtain ⟨u, r, fs, v, rfl, hu, hv, rfl⟩ := zgf_inv (show zgf a b hp (pc + 3) l1 st = some q from h); exact ⟨l2, by simp [zr, zgf, hu, hv, Nat.beq_refl], hs⟩
  | iaload => exact al (fun t => Nat.beq t 0) h
  | baload => exact al (fun t => Nat.beq t 1) h
  | laload => exact al (fun t => Nat.beq t 2) h
  | aaload => exact al zrt h
  | arraylength =>
    rcases zle_inv (show zle xs hp (pc + 1) l1 st = some q from h) with ⟨u, r, t, l, rfl, hu, ht, rfl⟩ | ⟨u, r, x, rfl, hxs, rfl⟩
    · exact ⟨l2, by have h1 : Nat.blt t zNT = true := Nat.ble_eq_true_of_le ht; simp [zr, zle, hu, h1], hs⟩
    · exact ⟨l2, by simp [zr, zle, hxs], hs⟩
  | checkcast k => obtain ⟨u, r, l, rfl, hu, rfl⟩ := zcc_inv (show zcc hp (pc + 3) l1 st = some q from h); exact ⟨l2, by simp [zr, zcc, hu], hs⟩
  | _ => exact znq h
theorem zw_lv {i : Jvm.ClassFile.Instr} {a b pc : Nat} {hp : List zC} {l1 l2 : List (Nat × Value)} {st : List Value} {q : zS × List zC} (h : zw i a b hp pc l1 st = some q) : q.1.2.1 = l1 ∧ zw i a b hp pc l2 st = some ((q.1.1, l2, q.1.2.2), q.2) := by
  cases i with
  | putfield k =>
    obtain ⟨v, u, r, fs, rfl, hu, hbl, hf, rfl⟩ := zpf_inv (show zpf a b hp (pc + 3) l1 st = some q from h)
    refine ⟨rfl, ?_⟩
    have h1 : Nat.blt b fs.length = true := Nat.ble_eq_true_of_le hbl
    simp [zw, zpf, hu, Nat.beq_refl, h1, hf]
  | iastore =>
    obtain ⟨x, j, u, r, l, rfl, hu, hin, rfl⟩ := zis_inv (show zis hp (pc + 1) l1 st = some q from h)
    have h1 : zin j l.length = true := decide_eq_true hin
    exact ⟨rfl, by simp [zw, zis, hu, h1]⟩
  | bastore =>
    obtain ⟨x, j, u, r, l, rfl, hu, hin, rfl⟩ := zbs_inv (show zbs hp (pc + 1) l1 st = some q from h)
    have h1 : zin j l.length = true := decide_eq_true hin
    exact ⟨rfl, by simp [zw, zbs, hu, h1]⟩
  | lastore =>
    obtain ⟨x, j, u, r, l, rfl, hu, hin, rfl⟩ := zls_inv (show zls hp (pc + 1) l1 st = some q from h)
    have h1 : zin j l.length = true := decide_eq_true hin
    exact ⟨rfl, by simp [zw, zls, hu, h1]⟩
  | aastore =>
    obtain ⟨v, j, u, r, t, l, rfl, hu, hes, hin, rfl⟩ := zas_inv (show zas hp (pc + 1) l1 st = some q from h)
    have h1 : zin j l.length = true := decide_eq_true hin
    exact ⟨rfl, by simp [zw, zas, hu, hes, h1]⟩
  | _ => exact znq h
theorem zn_lv {i : Jvm.ClassFile.Instr} {a pc : Nat} {h : zH} {l1 l2 : List (Nat × Value)} {st : List Value} {q : zS × zH} (hz : zn i a h pc l1 st = some q) : q.1.2.1 = l1 ∧ zn i a h pc l2 st = some ((q.1.1, l2, q.1.2.2), q.2) := by
  have key : ∀ {d : Value} {pc' : Nat}, zna a d h pc' l1 st = some q → q.1.2.1 = l1 ∧ zna a d h pc' l2 st = some ((q.1.1, l2, q.1.2.2), q.2) := fun {d pc'} hz => by
    obtain ⟨n, r, rfl, hn, hb8, rfl⟩ := zna_inv hz
    have h1 : Nat.ble (n.toNatClampNeg * 8) 536870912 = true := Nat.ble_eq_true_of_le hb8
    have h2 : decide (¬ n < 0) = true := decide_eq_true hn
    refine ⟨rfl, ?_⟩
    unfold zna
    dsimp only
    rw [h1, h2]
    rfl
  cases i with
  | new k => obtain rfl := Option.some.inj hz; exact ⟨rfl, rfl⟩
  | newarray t =>
    cases t with
    | int => exact key (show zna a (.int 0) h (pc + 2) l1 st = some q from hz)
    | boolean => exact key (show zna a (.int 0) h (pc + 2) l1 st = some q from hz)
    | long => exact key (show zna a (.long 0) h (pc + 2) l1 st = some q from hz)
    | _ => exact znq hz
  | anewarray k => exact key (show zna a .null h (pc + 3) l1 st = some q from hz)
  | _ => exact znq hz
theorem zk_lv {mt : List zM} {call : Nat → List Value → zH → Option (Option Value × zH)} {fr lo : Nat} {i : Jvm.ClassFile.Instr} {a b pc : Nat} {h : zH} {l1 l2 : List (Nat × Value)} {st : List Value} {q : zS × zH} (hz : zk mt call fr lo i a b h pc l1 st = some q) : q.1.2.1 = l1 ∧ zk mt call fr lo i a b h pc l2 st = some ((q.1.1, l2, q.1.2.2), q.2) := by
  have key : ∀ {kind : Nat}, zcm mt call kind a h (pc + 3) l1 st = some q → q.1.2.1 = l1 ∧ zcm mt call kind a h (pc + 3) l2 st = some ((q.1.1, l2, q.1.2.2), q.2) := fun {kind} hz => by
    unfold zcm at hz ⊢
    split at hz
    · cases hz
    · split at hz
      · cases hz
      · split at hz
        · cases hz
        · split at hz
          · cases hz
          · split at hz
            · cases hz
            · obtain rfl := Option.some.inj hz
              exact ⟨rfl, rfl⟩
  have mx : ∀ f, zmx f fr lo h (pc + 3) l1 st = some q → q.1.2.1 = l1 ∧ zmx f fr lo h (pc + 3) l2 st = some ((q.1.1, l2, q.1.2.2), q.2) := fun f hz => by
    unfold zmx at hz ⊢
    split at hz
    · split at hz
      · obtain rfl := Option.some.inj hz
        exact ⟨rfl, rfl⟩
      · cases hz
    · cases hz
  cases i with
  | invokestatic k =>
    rcases b with _ | _ | _ | _ | _ | _ | b
    · exact key (show zcm mt call 0 a h (pc + 3) l1 st = some q from hz)
    · exact znq hz
    · exact znq hz
    · exact mx _ hz
    · exact mx _ hz
    · have hz : zac fr lo h (pc + 3) l1 st = some q := hz
      show q.1.2.1 = l1 ∧ zac fr lo h (pc + 3) l2 st = _
      unfold zac at hz ⊢
      split at hz
      · split at hz
        · split at hz
          · split at hz
            · obtain rfl := Option.some.inj hz
              exact ⟨rfl, rfl⟩
            · cases hz
          · cases hz
        · cases hz
      · cases hz
    · exact znq hz
  | invokevirtual k =>
    rcases b with _ | _ | b
    · exact key (show zcm mt call 1 a h (pc + 3) l1 st = some q from hz)
    · have hz : zcn fr lo h (pc + 3) l1 st = some q := hz
      show q.1.2.1 = l1 ∧ zcn fr lo h (pc + 3) l2 st = _
      unfold zcn at hz ⊢
      split at hz
      · split at hz
        · split at hz
          · obtain rfl := Option.some.inj hz
            exact ⟨rfl, rfl⟩
          · cases hz
        · cases hz
      · cases hz
    · exact znq hz
  | invokespecial k =>
    rcases b with _ | _ | _ | b
    · exact key (show zcm mt call 2 a h (pc + 3) l1 st = some q from hz)
    · exact key (show zcm mt call 2 a h (pc + 3) l1 st = some q from hz)
    · have hz : zoi fr lo h (pc + 3) l1 st = some q := hz
      show q.1.2.1 = l1 ∧ zoi fr lo h (pc + 3) l2 st = _
      unfold zoi at hz ⊢
      split at hz
      · split at hz
        · obtain rfl := Option.some.inj hz
          exact ⟨rfl, rfl⟩
        · cases hz
      · cases hz
    · exact znq hz
  | _ => exact znq hz
theorem zp_n {i : Jvm.ClassFile.Instr} {a b pc : Nat} {xs : zX} {hp : List zC} {l1 l2 : List (Nat × Value)} {st : List Value} {kv : Value} (hr : ∃ q, zr i a b xs hp pc l1 st = some q) : zp i kv pc l2 st = none := by
  obtain ⟨q, hr⟩ := hr
  cases i <;> first | rfl | exact znq hr
theorem zp_nw {i : Jvm.ClassFile.Instr} {a b pc : Nat} {xs : zX} {hp : List zC} {l1 l2 : List (Nat × Value)} {st : List Value} {kv : Value} (hr : ∃ q, zw i a b hp pc l1 st = some q) : zp i kv pc l2 st = none ∧ zr i a b xs hp pc l2 st = none := by
  obtain ⟨q, hr⟩ := hr
  cases i <;> first | exact ⟨rfl, rfl⟩ | exact znq hr
theorem zp_nn {i : Jvm.ClassFile.Instr} {a b pc : Nat} {xs : zX} {h : zH} {l1 l2 : List (Nat × Value)} {st : List Value} {kv : Value} (hr : ∃ q, zn i a h pc l1 st = some q) : zp i kv pc l2 st = none ∧ zr i a b xs h.1 pc l2 st = none ∧ zw i a b h.1 pc l2 st = none := by
  obtain ⟨q, hr⟩ := hr
  cases i <;> first | exact ⟨rfl, rfl, rfl⟩ | exact znq hr
theorem zp_nk {mt : List zM} {call : Nat → List Value → zH → Option (Option Value × zH)} {fr lo : Nat} {i : Jvm.ClassFile.Instr} {a b pc : Nat} {xs : zX} {h : zH} {l1 l2 : List (Nat × Value)} {st : List Value} {kv : Value} (hr : ∃ q, zk mt call fr lo i a b h pc l1 st = some q) : zp i kv pc l2 st = none ∧ zr i a b xs h.1 pc l2 st = none ∧ zw i a b h.1 pc l2 st = none ∧ zn i a h pc l2 st = none := by
  obtain ⟨q, hr⟩ := hr
  cases i <;> first | exact ⟨rfl, rfl, rfl, rfl⟩ | exact znq hr
theorem zstep_sub {mt : List zM} {call : Nat → List Value → zH → Option (Option Value × zH)} {fr lo : Nat} {xs : zX} {x : zE} {pc : Nat} {l1 l2 : List (Nat × Value)} {st : List Value} {h : zH} {q : zS × zH} (hs : zsub l1 l2) (hz : zstep mt call fr lo xs x (pc, l1, st) h = some q) : ∃ l2', zstep mt call fr lo xs x (pc, l2, st) h = some ((q.1.1, l2', q.1.2.2), q.2) ∧ zsub q.1.2.1 l2' := by
  rcases zstep_inv hz with ⟨s', h1, rfl⟩ | ⟨s', h1, rfl⟩ | ⟨y, h1, rfl⟩ | h1 | h1
  · obtain ⟨l2', e, e2⟩ := zp_sub hs h1
    exact ⟨l2', by unfold zstep; simp only [e], e2⟩
  · obtain ⟨l2', e, e2⟩ := zr_sub hs h1
    have e0 := zp_n (l2 := l2) (kv := xV x) ⟨_, h1⟩
    exact ⟨l2', by unfold zstep; simp only [e0, e], e2⟩
  · obtain ⟨e, e2⟩ := zw_lv (l2 := l2) h1
    obtain ⟨e0, e1⟩ := zp_nw (l2 := l2) (kv := xV x) (xs := xs) ⟨_, h1⟩
    exact ⟨l2, by unfold zstep; simp only [e0, e1, e2], by rw [show y.1.2.1 = l1 from e]; exact hs⟩
  · obtain ⟨e, e2⟩ := zn_lv (l2 := l2) h1
    obtain ⟨e0, e1, e3⟩ := zp_nn (b := xB x) (l2 := l2) (kv := xV x) (xs := xs) ⟨_, h1⟩
    exact ⟨l2, by unfold zstep; simp only [e0, e1, e3, e2], by rw [e]; exact hs⟩
  · obtain ⟨e, e2⟩ := zk_lv (l2 := l2) h1
    obtain ⟨e0, e1, e3, e4⟩ := zp_nk (l2 := l2) (kv := xV x) (xs := xs) ⟨_, h1⟩
    exact ⟨l2, by unfold zstep; simp only [e0, e1, e3, e4, e2], by rw [e]; exact hs⟩
theorem zloop_sub {mt : List zM} {call : Nat → List Value → zH → Option (Option Value × zH)} {fr lo : Nat} {xs : zX} {M : zM} {r : Option Value × zH} : ∀ {f pc : Nat} {l1 l2 : List (Nat × Value)} {st : List Value} {h : zH}, zsub l1 l2 → zloop mt call fr lo xs M f (pc, l1, st) h = some r → zloop mt call fr lo xs M f (pc, l2, st) h = some r
  | 0, pc, l1, l2, st, h, hs, hz => by cases hz
  | f + 1, pc, l1, l2, st, h, hs, hz => by
    rw [zloop] at hz ⊢
    dsimp only at hz ⊢
    split at hz
    · cases hz
    · split at hz
      · exact hz
      · split at hz
        · cases hz
        · next q hq =>
          obtain ⟨l2', e, e2⟩ := zstep_sub hs hq
          rw [e]
          exact zloop_sub e2 hz
/-- fewer locals are enough -/
theorem zeS {fr lo : Nat} {xs : zX} {M : zM} {h : zH} {r : Option Value × zH} {pc : Nat} {l2 : List (Nat × Value)} {st : List Value} (l1 : List (Nat × Value)) (hs : zsub l1 l2) (k : zRun fr lo xs M (pc, l1, st) h r) : zRun fr lo xs M (pc, l2, st) h r := by
  obtain ⟨F, hF⟩ := k
  exact ⟨F, zloop_sub hs hF⟩
def zndB (l : List Nat) : Bool := match l with
  | [] => true
  | k :: r => r.all (fun j => !Nat.beq k j) && zndB r
theorem zndB_ok : ∀ {l : List (Nat × Value)}, zndB (l.map Prod.fst) = true → znd l
  | [], _ => List.Pairwise.nil
  | q :: r, h => by
    have h1 := Bool.and_eq_true_iff.mp (show ((r.map Prod.fst).all (fun j => !Nat.beq q.1 j) && zndB (r.map Prod.fst)) = true from h)
    refine List.pairwise_cons.mpr ⟨fun p hp e => ?_, zndB_ok h1.2⟩
    have h2 := List.all_eq_true.mp h1.1 p.1 (List.mem_map.mpr ⟨p, hp, rfl⟩)
    rw [e, Nat.beq_refl] at h2
    cases h2
theorem zsub_pick {l1 l2 : List (Nat × Value)} (ks : List Nat) (h : ks.filterMap (fun k => l2[k]?) = l1) (hn : zndB (l2.map Prod.fst) = true) : zsub l1 l2 := by
  refine ⟨fun q hq => ?_, zndB_ok hn⟩
  rw [← h] at hq
  obtain ⟨k, -, hk⟩ := List.mem_filterMap.mp hq
  exact List.mem_of_getElem? hk
end
section
def f_Mo_cross (ax ay bx bz cx cy : Int32) : Int64 := (((bx - ax).toInt64) * ((cy - ay).toInt64)) - (((bz - ay).toInt64) * ((cx - ax).toInt64))
theorem s_Mo_cross {fr lo : Nat} {h : zH} (ax ay bx bz cx cy : Int32)  (hlo : 25 ≤ lo) : zAns (fr + 1) lo 103 [.int ax, .int ay, .int bx, .int bz, .int cx, .int cy] h (some (.long (f_Mo_cross ax ay bx bz cx cy)), h) := by
  unfold f_Mo_cross
  refine zeb (fr := fr + 0) (M := M_Mo_cross) rfl (Nat.le_trans (by decide) hlo) rfl ?_
  have e0 : mL M_Mo_cross = 6 := rfl
  refine zeN (q := ((21, [(0, .int ax), (1, .int ay), (2, .int bx), (3, .int bz), (4, .int cx), (5, .int cy)], [.long ((((bx - ax).toInt64) * ((cy - ay).toInt64)) - (((bz - ay).toInt64) * ((cx - ax).toInt64)))]), h)) 19 rfl ?_
  exact zer rfl rfl
def f_Mo_between_24 (a v b : Int32) : Int32 := 0
theorem b_Mo_between_24 (a v b : Int32) : zB (f_Mo_between_24 a v b) := by unfold f_Mo_between_24; exact (zB0)
theorem s_Mo_between_24 {fr lo : Nat} {h : zH} (a v b : Int32)  (hlo : 0 ≤ lo) : zRun (fr + 0) lo none M_Mo_between (24, [(0, .int a), (1, .int v), (2, .int b)], []) h (some (.int (f_Mo_between_24 a v b)), h) := by
  unfold f_Mo_between_24
  refine zeN (q := ((25, [(0, .int a), (1, .int v), (2, .int b)], [.int 0]), h)) 1 rfl ?_
  exact zer rfl rfl
def f_Mo_between_10 (a v b : Int32) : Int32 := (bif zc .gt b v then (f_Mo_between_24 a v b) else bif zc .gt v a then 0 else 1)
theorem b_Mo_between_10 (a v b : Int32) : zB (f_Mo_between_10 a v b) := by unfold f_Mo_between_10; exact (zbi (b_Mo_between_24 a v b) (zbb _))
theorem s_Mo_between_10 {fr lo : Nat} {h : zH} (a v b : Int32)  (hlo : 0 ≤ lo) : zRun (fr + 0) lo none M_Mo_between (10, [(0, .int a), (1, .int v), (2, .int b)], []) h (some (.int (f_Mo_between_10 a v b)), h) := by
  unfold f_Mo_between_10
  refine zeN (q := ((12, [(0, .int a), (1, .int v), (2, .int b)], [.int v, .int b]), h)) 2 rfl ?_
  refine zbc (q1 := (24, [(0, .int a), (1, .int v), (2, .int b)], [])) (q2 := (15, [(0, .int a), (1, .int v), (2, .int b)], [])) (cB := zc .gt b v) (off := 12) (lv := [(0, .int a), (1, .int v), (2, .int b)]) (st := []) rfl rfl rfl rfl rfl (fun c12 => ?_) (fun c12 => ?_)
  · rw [c12]
    exact s_Mo_between_24 a v b  (by omega)
  · rw [c12]
    refine zeN (q := ((17, [(0, .int a), (1, .int v), (2, .int b)], [.int a, .int v]), h)) 2 rfl ?_
    refine zdia (q1 := (24, [(0, .int a), (1, .int v), (2, .int b)], [])) (q2 := (20, [(0, .int a), (1, .int v), (2, .int b)], [])) (cB := zc .gt v a) (off := 7) (lv := [(0, .int a), (1, .int v), (2, .int b)]) (st := []) (lv2 := [(0, .int a), (1, .int v), (2, .int b)]) (st2 := []) (J := 25) (vA := 0) (vB := 1) 1 2 rfl rfl rfl rfl rfl rfl rfl ?_
    exact zer rfl (zreb (zbb _))
def f_Mo_between_20 (a v b : Int32) : Int32 := 1
theorem b_Mo_between_20 (a v b : Int32) : zB (f_Mo_between_20 a v b) := by unfold f_Mo_between_20; exact (zB1)
theorem s_Mo_between_20 {fr lo : Nat} {h : zH} (a v b : Int32)  (hlo : 0 ≤ lo) : zRun (fr + 0) lo none M_Mo_between (20, [(0, .int a), (1, .int v), (2, .int b)], []) h (some (.int (f_Mo_between_20 a v b)), h) := by
  unfold f_Mo_between_20
  refine zeN (q := ((25, [(0, .int a), (1, .int v), (2, .int b)], [.int 1]), h)) 2 rfl ?_
  exact zer rfl rfl
def f_Mo_between (a v b : Int32) : Int32 := (bif zc .gt a v then (f_Mo_between_10 a v b) else (bif zc .le v b then (f_Mo_between_20 a v b) else (f_Mo_between_10 a v b)))
theorem b_Mo_between (a v b : Int32) : zB (f_Mo_between a v b) := by unfold f_Mo_between; exact (zbi (b_Mo_between_10 a v b) (zbi (b_Mo_between_20 a v b) (b_Mo_between_10 a v b)))
theorem s_Mo_between {fr lo : Nat} {h : zH} (a v b : Int32)  (hlo : 22 ≤ lo) : zAns (fr + 1) lo 105 [.int a, .int v, .int b] h (some (.int (f_Mo_between a v b)), h) := by
  unfold f_Mo_between
  refine zeb (fr := fr + 0) (M := M_Mo_between) rfl (Nat.le_trans (by decide) hlo) rfl ?_
  have e0 : mL M_Mo_between = 3 := rfl
  refine zeN (q := ((2, [(0, .int a), (1, .int v), (2, .int b)], [.int v, .int a]), h)) 2 rfl ?_
  refine zbc (q1 := (10, [(0, .int a), (1, .int v), (2, .int b)], [])) (q2 := (5, [(0, .int a), (1, .int v), (2, .int b)], [])) (cB := zc .gt a v) (off := 8) (lv := [(0, .int a), (1, .int v), (2, .int b)]) (st := []) rfl rfl rfl rfl rfl (fun c2 => ?_) (fun c2 => ?_)
  · rw [c2]
    exact s_Mo_between_10 a v b  (by omega)
  · rw [c2]
    refine zeN (q := ((7, [(0, .int a), (1, .int v), (2, .int b)], [.int b, .int v]), h)) 2 rfl ?_
    refine zbc (q1 := (20, [(0, .int a), (1, .int v), (2, .int b)], [])) (q2 := (10, [(0, .int a), (1, .int v), (2, .int b)], [])) (cB := zc .le v b) (off := 13) (lv := [(0, .int a), (1, .int v), (2, .int b)]) (st := []) rfl rfl rfl rfl rfl (fun c7 => ?_) (fun c7 => ?_)
    · rw [c7]
      exact s_Mo_between_20 a v b  (by omega)
    · rw [c7]
      exact s_Mo_between_10 a v b  (by omega)
def f_Mo_on_40 (ax ay bx bz cx cy : Int32) : Int32 := 0
theorem b_Mo_on_40 (ax ay bx bz cx cy : Int32) : zB (f_Mo_on_40 ax ay bx bz cx cy) := by unfold f_Mo_on_40; exact (zB0)
theorem s_Mo_on_40 {fr lo : Nat} {h : zH} (ax ay bx bz cx cy : Int32)  (hlo : 25 ≤ lo) : zRun (fr + 1) lo none M_Mo_on (40, [(0, .int ax), (1, .int ay), (2, .int bx), (3, .int bz), (4, .int cx), (5, .int cy)], []) h (some (.int (f_Mo_on_40 ax ay bx bz cx cy)), h) := by
  unfold f_Mo_on_40
  refine zeN (q := ((41, [(0, .int ax), (1, .int ay), (2, .int bx), (3, .int bz), (4, .int cx), (5, .int cy)], [.int 0]), h)) 1 rfl ?_
  exact zer rfl rfl
def f_Mo_on (ax ay bx bz cx cy : Int32) : Int32 := (bif zc .ne (lg_cmp (f_Mo_cross ax ay bx bz cx cy) 0) 0 then (f_Mo_on_40 ax ay bx bz cx cy) else (bif zc .eq (f_Mo_between ax cx bx) 0 then (f_Mo_on_40 ax ay bx bz cx cy) else bif zc .eq (f_Mo_between ay cy bz) 0 then 0 else 1))
theorem b_Mo_on (ax ay bx bz cx cy : Int32) : zB (f_Mo_on ax ay bx bz cx cy) := by unfold f_Mo_on; exact (zbi (b_Mo_on_40 ax ay bx bz cx cy) (zbi (b_Mo_on_40 ax ay bx bz cx cy) (zbb _)))
theorem s_Mo_on {fr lo : Nat} {h : zH} (ax ay bx bz cx cy : Int32)  (hlo : 50 ≤ lo) : zAns (fr + 2) lo 104 [.int ax, .int ay, .int bx, .int bz, .int cx, .int cy] h (some (.int (f_Mo_on ax ay bx bz cx cy)), h) := by
  unfold f_Mo_on
  refine zeb (fr := fr + 1) (M := M_Mo_on) rfl (Nat.le_trans (by decide) hlo) rfl ?_
  have e0 : mL M_Mo_on = 6 := rfl
  refine zeN (q := ((8, [(0, .int ax), (1, .int ay), (2, .int bx), (3, .int bz), (4, .int cx), (5, .int cy)], [.int cy, .int cx, .int bz, .int bx, .int ay, .int ax]), h)) 6 rfl ?_
  refine zec 0 (M' := M_Mo_cross) (qq := ([.int ax, .int ay, .int bx, .int bz, .int cx, .int cy], [])) (s' := (11, [(0, .int ax), (1, .int ay), (2, .int bx), (3, .int bz), (4, .int cx), (5, .int cy)], [.long (f_Mo_cross ax ay bx bz cx cy)])) rfl rfl (fun _ => rfl) rfl rfl rfl (s_Mo_cross ax ay bx bz cx cy  (by omega)) rfl ?_
  refine zeN (q := ((13, [(0, .int ax), (1, .int ay), (2, .int bx), (3, .int bz), (4, .int cx), (5, .int cy)], [.int (lg_cmp (f_Mo_cross ax ay bx bz cx cy) 0)]), h)) 2 rfl ?_
  refine zbc (q1 := (40, [(0, .int ax), (1, .int ay), (2, .int bx), (3, .int bz), (4, .int cx), (5, .int cy)], [])) (q2 := (16, [(0, .int ax), (1, .int ay), (2, .int bx), (3, .int bz), (4, .int cx), (5, .int cy)], [])) (cB := zc .ne (lg_cmp (f_Mo_cross ax ay bx bz cx cy) 0) 0) (off := 27) (lv := [(0, .int ax), (1, .int ay), (2, .int bx), (3, .int bz), (4, .int cx), (5, .int cy)]) (st := []) rfl rfl rfl rfl rfl (fun c13 => ?_) (fun c13 => ?_)
  · rw [c13]
    exact s_Mo_on_40 ax ay bx bz cx cy  (by omega)
  · rw [c13]
    refine zeN (q := ((20, [(0, .int ax), (1, .int ay), (2, .int bx), (3, .int bz), (4, .int cx), (5, .int cy)], [.int bx, .int cx, .int ax]), h)) 3 rfl ?_
    refine zec 0 (M' := M_Mo_between) (qq := ([.int ax, .int cx, .int bx], [])) (s' := (23, [(0, .int ax), (1, .int ay), (2, .int bx), (3, .int bz), (4, .int cx), (5, .int cy)], [.int (f_Mo_between ax cx bx)])) rfl rfl (fun _ => rfl) rfl rfl rfl (s_Mo_between ax cx bx  (by omega)) rfl ?_
    refine zbc (q1 := (40, [(0, .int ax), (1, .int ay), (2, .int bx), (3, .int bz), (4, .int cx), (5, .int cy)], [])) (q2 := (26, [(0, .int ax), (1, .int ay), (2, .int bx), (3, .int bz), (4, .int cx), (5, .int cy)], [])) (cB := zc .eq (f_Mo_between ax cx bx) 0) (off := 17) (lv := [(0, .int ax), (1, .int ay), (2, .int bx), (3, .int bz), (4, .int cx), (5, .int cy)]) (st := []) rfl rfl rfl rfl rfl (fun c23 => ?_) (fun c23 => ?_)
    · rw [c23]
      exact s_Mo_on_40 ax ay bx bz cx cy  (by omega)
    · rw [c23]
      refine zeN (q := ((30, [(0, .int ax), (1, .int ay), (2, .int bx), (3, .int bz), (4, .int cx), (5, .int cy)], [.int bz, .int cy, .int ay]), h)) 3 rfl ?_
      refine zec 0 (M' := M_Mo_between) (qq := ([.int ay, .int cy, .int bz], [])) (s' := (33, [(0, .int ax), (1, .int ay), (2, .int bx), (3, .int bz), (4, .int cx), (5, .int cy)], [.int (f_Mo_between ay cy bz)])) rfl rfl (fun _ => rfl) rfl rfl rfl (s_Mo_between ay cy bz  (by omega)) rfl ?_
      refine zdia (q1 := (40, [(0, .int ax), (1, .int ay), (2, .int bx), (3, .int bz), (4, .int cx), (5, .int cy)], [])) (q2 := (36, [(0, .int ax), (1, .int ay), (2, .int bx), (3, .int bz), (4, .int cx), (5, .int cy)], [])) (cB := zc .eq (f_Mo_between ay cy bz) 0) (off := 7) (lv := [(0, .int ax), (1, .int ay), (2, .int bx), (3, .int bz), (4, .int cx), (5, .int cy)]) (st := []) (lv2 := [(0, .int ax), (1, .int ay), (2, .int bx), (3, .int bz), (4, .int cx), (5, .int cy)]) (st2 := []) (J := 41) (vA := 0) (vB := 1) 1 2 rfl rfl rfl rfl rfl rfl rfl ?_
      exact zer rfl (zreb (zbb _))
def f_Ge_areOpposite_20 (a b : Int32) : Int32 := 0
theorem b_Ge_areOpposite_20 (a b : Int32) : zB (f_Ge_areOpposite_20 a b) := by unfold f_Ge_areOpposite_20; exact (zB0)
theorem s_Ge_areOpposite_20 {fr lo : Nat} {h : zH} (a b : Int32)  (hlo : 0 ≤ lo) : zRun (fr + 0) lo none M_Ge_areOpposite (20, [(0, .int a), (1, .int b)], []) h (some (.int (f_Ge_areOpposite_20 a b)), h) := by
  unfold f_Ge_areOpposite_20
  refine zeN (q := ((21, [(0, .int a), (1, .int b)], [.int 0]), h)) 1 rfl ?_
  exact zer rfl rfl
def f_Ge_areOpposite_8 (a b : Int32) : Int32 := (bif zc .le a 0 then (f_Ge_areOpposite_20 a b) else bif zc .ge b 0 then 0 else 1)
theorem b_Ge_areOpposite_8 (a b : Int32) : zB (f_Ge_areOpposite_8 a b) := by unfold f_Ge_areOpposite_8; exact (zbi (b_Ge_areOpposite_20 a b) (zbb _))
theorem s_Ge_areOpposite_8 {fr lo : Nat} {h : zH} (a b : Int32)  (hlo : 0 ≤ lo) : zRun (fr + 0) lo none M_Ge_areOpposite (8, [(0, .int a), (1, .int b)], []) h (some (.int (f_Ge_areOpposite_8 a b)), h) := by
  unfold f_Ge_areOpposite_8
  refine zeN (q := ((9, [(0, .int a), (1, .int b)], [.int a]), h)) 1 rfl ?_
  refine zbc (q1 := (20, [(0, .int a), (1, .int b)], [])) (q2 := (12, [(0, .int a), (1, .int b)], [])) (cB := zc .le a 0) (off := 11) (lv := [(0, .int a), (1, .int b)]) (st := []) rfl rfl rfl rfl rfl (fun c9 => ?_) (fun c9 => ?_)
  · rw [c9]
    exact s_Ge_areOpposite_20 a b  (by omega)
  · rw [c9]
    refine zeN (q := ((13, [(0, .int a), (1, .int b)], [.int b]), h)) 1 rfl ?_
    refine zdia (q1 := (20, [(0, .int a), (1, .int b)], [])) (q2 := (16, [(0, .int a), (1, .int b)], [])) (cB := zc .ge b 0) (off := 7) (lv := [(0, .int a), (1, .int b)]) (st := []) (lv2 := [(0, .int a), (1, .int b)]) (st2 := []) (J := 21) (vA := 0) (vB := 1) 1 2 rfl rfl rfl rfl rfl rfl rfl ?_
    exact zer rfl (zreb (zbb _))
def f_Ge_areOpposite_16 (a b : Int32) : Int32 := 1
theorem b_Ge_areOpposite_16 (a b : Int32) : zB (f_Ge_areOpposite_16 a b) := by unfold f_Ge_areOpposite_16; exact (zB1)
theorem s_Ge_areOpposite_16 {fr lo : Nat} {h : zH} (a b : Int32)  (hlo : 0 ≤ lo) : zRun (fr + 0) lo none M_Ge_areOpposite (16, [(0, .int a), (1, .int b)], []) h (some (.int (f_Ge_areOpposite_16 a b)), h) := by
  unfold f_Ge_areOpposite_16
  refine zeN (q := ((21, [(0, .int a), (1, .int b)], [.int 1]), h)) 2 rfl ?_
  exact zer rfl rfl
def f_Ge_areOpposite (a b : Int32) : Int32 := (bif zc .ge a 0 then (f_Ge_areOpposite_8 a b) else (bif zc .gt b 0 then (f_Ge_areOpposite_16 a b) else (f_Ge_areOpposite_8 a b)))
theorem b_Ge_areOpposite (a b : Int32) : zB (f_Ge_areOpposite a b) := by unfold f_Ge_areOpposite; exact (zbi (b_Ge_areOpposite_8 a b) (zbi (b_Ge_areOpposite_16 a b) (b_Ge_areOpposite_8 a b)))
theorem s_Ge_areOpposite {fr lo : Nat} {h : zH} (a b : Int32)  (hlo : 21 ≤ lo) : zAns (fr + 1) lo 26 [.int a, .int b] h (some (.int (f_Ge_areOpposite a b)), h) := by
  unfold f_Ge_areOpposite
  refine zeb (fr := fr + 0) (M := M_Ge_areOpposite) rfl (Nat.le_trans (by decide) hlo) rfl ?_
  have e0 : mL M_Ge_areOpposite = 2 := rfl
  refine zeN (q := ((1, [(0, .int a), (1, .int b)], [.int a]), h)) 1 rfl ?_
  refine zbc (q1 := (8, [(0, .int a), (1, .int b)], [])) (q2 := (4, [(0, .int a), (1, .int b)], [])) (cB := zc .ge a 0) (off := 7) (lv := [(0, .int a), (1, .int b)]) (st := []) rfl rfl rfl rfl rfl (fun c1 => ?_) (fun c1 => ?_)
  · rw [c1]
    exact s_Ge_areOpposite_8 a b  (by omega)
  · rw [c1]
    refine zeN (q := ((5, [(0, .int a), (1, .int b)], [.int b]), h)) 1 rfl ?_
    refine zbc (q1 := (16, [(0, .int a), (1, .int b)], [])) (q2 := (8, [(0, .int a), (1, .int b)], [])) (cB := zc .gt b 0) (off := 11) (lv := [(0, .int a), (1, .int b)]) (st := []) rfl rfl rfl rfl rfl (fun c5 => ?_) (fun c5 => ?_)
    · rw [c5]
      exact s_Ge_areOpposite_16 a b  (by omega)
    · rw [c5]
      exact s_Ge_areOpposite_8 a b  (by omega)
def f_Ge_isBetween_22 (c a b : Int32) : Int32 := 0
theorem b_Ge_isBetween_22 (c a b : Int32) : zB (f_Ge_isBetween_22 c a b) := by unfold f_Ge_isBetween_22; exact (zB0)
theorem s_Ge_isBetween_22 {fr lo : Nat} {h : zH} (c a b : Int32)  (hlo : 38 ≤ lo) : zRun (fr + 0) lo none M_Ge_isBetween (22, [(0, .int c), (1, .int a), (2, .int b)], []) h (some (.int (f_Ge_isBetween_22 c a b)), h) := by
  unfold f_Ge_isBetween_22
  refine zeN (q := ((23, [(0, .int c), (1, .int a), (2, .int b)], [.int 0]), h)) 1 rfl ?_
  exact zer rfl rfl
def f_Ge_isBetween (c a b : Int32) : Int32 := (bif zc .gt (if b < a then b else a) c then (f_Ge_isBetween_22 c a b) else bif zc .gt c (if a < b then b else a) then 0 else 1)
theorem b_Ge_isBetween (c a b : Int32) : zB (f_Ge_isBetween c a b) := by unfold f_Ge_isBetween; exact (zbi (b_Ge_isBetween_22 c a b) (zbb _))
theorem s_Ge_isBetween {fr lo : Nat} {h : zH} (c a b : Int32)  (hlo : 60 ≤ lo) : zAns (fr + 1) lo 28 [.int c, .int a, .int b] h (some (.int (f_Ge_isBetween c a b)), h) := by
  unfold f_Ge_isBetween
  refine zeb (fr := fr + 0) (M := M_Ge_isBetween) rfl (Nat.le_trans (by decide) hlo) rfl ?_
  have e0 : mL M_Ge_isBetween = 3 := rfl
  refine zeN (q := ((2, [(0, .int c), (1, .int a), (2, .int b)], [.int b, .int a]), h)) 2 rfl ?_
  refine zemn rfl rfl rfl (Nat.le_trans (Nat.le_of_eq (rfl : _ = 13)) (by omega)) ?_
  refine zeN (q := ((6, [(0, .int c), (1, .int a), (2, .int b)], [.int c, .int (if b < a then b else a)]), h)) 1 rfl ?_
  refine zbc (q1 := (22, [(0, .int c), (1, .int a), (2, .int b)], [])) (q2 := (9, [(0, .int c), (1, .int a), (2, .int b)], [])) (cB := zc .gt (if b < a then b else a) c) (off := 16) (lv := [(0, .int c), (1, .int a), (2, .int b)]) (st := []) rfl rfl rfl rfl rfl (fun c6 => ?_) (fun c6 => ?_)
  · rw [c6]
    exact s_Ge_isBetween_22 c a b  (by omega)
  · rw [c6]
    refine zeN (q := ((12, [(0, .int c), (1, .int a), (2, .int b)], [.int b, .int a, .int c]), h)) 3 rfl ?_
    refine zemx rfl rfl rfl (Nat.le_trans (Nat.le_of_eq (rfl : _ = 14)) (by omega)) ?_
    refine zdia (q1 := (22, [(0, .int c), (1, .int a), (2, .int b)], [])) (q2 := (18, [(0, .int c), (1, .int a), (2, .int b)], [])) (cB := zc .gt c (if a < b then b else a)) (off := 7) (lv := [(0, .int c), (1, .int a), (2, .int b)]) (st := []) (lv2 := [(0, .int c), (1, .int a), (2, .int b)]) (st2 := []) (J := 23) (vA := 0) (vB := 1) 1 2 rfl rfl rfl rfl rfl rfl rfl ?_
    exact zer rfl (zreb (zbb _))
def f_Ge_end (X : List Int32) (j : Int32) : Int32 := (bif zc .ge (j + 1) (Int32.ofNat (X.map Value.int).length) then 0 else j + 1)
theorem s_Ge_end {fr lo : Nat} {h : zH} (X : List Int32) (j : Int32) (g px py pb : Nat) (kd : Int32) (hg : h.1[g]? = some (.inr (6, [.int kd, .ref px, .ref py, .ref pb]))) (hX : h.1[px]? = some (.inl (0, X.map Value.int))) (hlo : 21 ≤ lo) : zAns (fr + 1) lo 20 [.ref g, .int j] h (some (.int (f_Ge_end X j)), h) := by
  unfold f_Ge_end
  refine zeb (fr := fr + 0) (M := M_Ge_end) rfl (Nat.le_trans (by decide) hlo) rfl ?_
  have e0 : mL M_Ge_end = 2 := rfl
  refine zeN (q := ((4, [(0, .ref g), (1, .int j)], [.ref g, .int (j + 1)]), h)) 4 rfl ?_
  refine zegf (fs := [.int kd, .ref px, .ref py, .ref pb]) (v := .ref px) rfl rfl rfl rfl hg rfl ?_
  refine zeln (l := X.map Value.int) rfl rfl hX rfl ?_
  refine zbc (q1 := (17, [(0, .ref g), (1, .int j)], [])) (q2 := (11, [(0, .ref g), (1, .int j)], [])) (cB := zc .ge (j + 1) (Int32.ofNat (X.map Value.int).length)) (off := 9) (lv := [(0, .ref g), (1, .int j)]) (st := []) rfl rfl rfl rfl rfl (fun c8 => ?_) (fun c8 => ?_)
  · rw [c8]
    refine zeN (q := ((18, [(0, .ref g), (1, .int j)], [.int 0]), h)) 1 rfl ?_
    exact zer rfl rfl
  · rw [c8]
    refine zeN (q := ((18, [(0, .ref g), (1, .int j)], [.int (j + 1)]), h)) 4 rfl ?_
    exact zer rfl rfl
theorem zIx_end {X : List Int32} {j : Int32} (hn : X.length ≤ 1000) (h : zIx j X.length) : zIx (f_Ge_end X j) X.length := by
  have e1 : (j + 1).toInt = j.toInt + 1 := z_add (by have := h.1; show _ ≤ j.toInt + 1; omega) (by have := h.2; show j.toInt + 1 < _; omega)
  have e2 : (Int32.ofNat (X.map Value.int).length).toInt = (X.length : Int) := by rw [List.length_map]; exact z_nat (by omega)
  unfold f_Ge_end
  have h1 := h.1
  have h2 := h.2
  cases hc : zc .ge (j + 1) (Int32.ofNat (X.map Value.int).length) with
  | true => exact ⟨Int.le_refl _, by show (0 : Int) < _; omega⟩
  | false =>
    have h3 : ¬ Int32.ofNat (X.map Value.int).length ≤ j + 1 := of_decide_eq_false hc
    rw [Int32.le_iff_toInt_le, e1, e2] at h3
    show 0 ≤ (j + 1).toInt ∧ (j + 1).toInt < _
    rw [e1]
    omega
def f_Ge_turn (X Y : List Int32) (j x y : Int32) : Int32 := (((gI X ((f_Ge_end X j))) - (gI X j)) * (y - (gI Y j))) - (((gI Y ((f_Ge_end X j))) - (gI Y j)) * (x - (gI X j)))
theorem s_Ge_turn {fr lo : Nat} {h : zH} (X Y : List Int32) (j x y : Int32) (g px py pb : Nat) (kd : Int32) (hg : h.1[g]? = some (.inr (6, [.int kd, .ref px, .ref py, .ref pb]))) (hX : h.1[px]? = some (.inl (0, X.map Value.int))) (hY : h.1[py]? = some (.inl (0, Y.map Value.int))) (hXY : Y.length = X.length) (hn : X.length ≤ 1000) (hj : zIx j X.length) (hlo : 46 ≤ lo) : zAns (fr + 2) lo 25 [.ref g, .int j, .int x, .int y] h (some (.int (f_Ge_turn X Y j x y)), h) := by
  unfold f_Ge_turn
  refine zeb (fr := fr + 1) (M := M_Ge_turn) rfl (Nat.le_trans (by decide) hlo) rfl ?_
  have e0 : mL M_Ge_turn = 6 := rfl
  refine zeN (q := ((1, [(0, .ref g), (1, .int j), (2, .int x), (3, .int y)], [.ref g]), h)) 1 rfl ?_
  refine zegf (fs := [.int kd, .ref px, .ref py, .ref pb]) (v := .ref px) rfl rfl rfl rfl hg rfl ?_
  refine zeN (q := ((6, [(0, .ref g), (1, .int j), (2, .int x), (3, .int y)], [.int j, .ref g, .ref px]), h)) 2 rfl ?_
  refine zec 1 (M' := M_Ge_end) (qq := ([.ref g, .int j], [.ref px])) (s' := (9, [(0, .ref g), (1, .int j), (2, .int x), (3, .int y)], [.int (f_Ge_end X j), .ref px])) rfl rfl (fun _ => rfl) rfl rfl (zhk rfl (zrc_ok hg) rfl) (s_Ge_end X j g px py pb kd hg hX (by omega)) rfl ?_
  refine zeia (l := X.map Value.int) (k := (f_Ge_end X j).toNatClampNeg) (v := .int (gI X ((f_Ge_end X j)))) rfl rfl hX (zIx_a (zIx_end hn hj)) (zIx_b (zIx_end hn hj)) ?_
  refine zeN (q := ((11, [(0, .ref g), (1, .int j), (2, .int x), (3, .int y)], [.ref g, .int (gI X ((f_Ge_end X j)))]), h)) 1 rfl ?_
  refine zegf (fs := [.int kd, .ref px, .ref py, .ref pb]) (v := .ref px) rfl rfl rfl rfl hg rfl ?_
  refine zeN (q := ((15, [(0, .ref g), (1, .int j), (2, .int x), (3, .int y)], [.int j, .ref px, .int (gI X ((f_Ge_end X j)))]), h)) 1 rfl ?_
  refine zeia (l := X.map Value.int) (k := j.toNatClampNeg) (v := .int (gI X j)) rfl rfl hX (zIx_a hj) (zIx_b hj) ?_
  refine zeN (q := ((20, [(4, .int ((gI X ((f_Ge_end X j))) - (gI X j))), (0, .ref g), (1, .int j), (2, .int x), (3, .int y)], [.ref g]), h)) 3 rfl ?_
  refine zegf (fs := [.int kd, .ref px, .ref py, .ref pb]) (v := .ref py) rfl rfl rfl rfl hg rfl ?_
  refine zeN (q := ((25, [(4, .int ((gI X ((f_Ge_end X j))) - (gI X j))), (0, .ref g), (1, .int j), (2, .int x), (3, .int y)], [.int j, .ref g, .ref py]), h)) 2 rfl ?_
  refine zec 1 (M' := M_Ge_end) (qq := ([.ref g, .int j], [.ref py])) (s' := (28, [(4, .int ((gI X ((f_Ge_end X j))) - (gI X j))), (0, .ref g), (1, .int j), (2, .int x), (3, .int y)], [.int (f_Ge_end X j), .ref py])) rfl rfl (fun _ => rfl) rfl rfl (zhk rfl (zrc_ok hg) rfl) (s_Ge_end X j g px py pb kd hg hX (by omega)) rfl ?_
  refine zeia (l := Y.map Value.int) (k := (f_Ge_end X j).toNatClampNeg) (v := .int (gI Y ((f_Ge_end X j)))) rfl rfl hY (zIx_a (zIx_s (zIx_end hn hj) hXY)) (zIx_b (zIx_s (zIx_end hn hj) hXY)) ?_
  refine zeN (q := ((30, [(4, .int ((gI X ((f_Ge_end X j))) - (gI X j))), (0, .ref g), (1, .int j), (2, .int x), (3, .int y)], [.ref g, .int (gI Y ((f_Ge_end X j)))]), h)) 1 rfl ?_
  refine zegf (fs := [.int kd, .ref px, .ref py, .ref pb]) (v := .ref py) rfl rfl rfl rfl hg rfl ?_
  refine zeN (q := ((34, [(4, .int ((gI X ((f_Ge_end X j))) - (gI X j))), (0, .ref g), (1, .int j), (2, .int x), (3, .int y)], [.int j, .ref py, .int (gI Y ((f_Ge_end X j)))]), h)) 1 rfl ?_
  refine zeia (l := Y.map Value.int) (k := j.toNatClampNeg) (v := .int (gI Y j)) rfl rfl hY (zIx_a (zIx_s hj hXY)) (zIx_b (zIx_s hj hXY)) ?_
  refine zeN (q := ((42, [(5, .int ((gI Y ((f_Ge_end X j))) - (gI Y j))), (4, .int ((gI X ((f_Ge_end X j))) - (gI X j))), (0, .ref g), (1, .int j), (2, .int x), (3, .int y)], [.ref g, .int y, .int ((gI X ((f_Ge_end X j))) - (gI X j))]), h)) 5 rfl ?_
  refine zegf (fs := [.int kd, .ref px, .ref py, .ref pb]) (v := .ref py) rfl rfl rfl rfl hg rfl ?_
  refine zeN (q := ((46, [(5, .int ((gI Y ((f_Ge_end X j))) - (gI Y j))), (4, .int ((gI X ((f_Ge_end X j))) - (gI X j))), (0, .ref g), (1, .int j), (2, .int x), (3, .int y)], [.int j, .ref py, .int y, .int ((gI X ((f_Ge_end X j))) - (gI X j))]), h)) 1 rfl ?_
  refine zeia (l := Y.map Value.int) (k := j.toNatClampNeg) (v := .int (gI Y j)) rfl rfl hY (zIx_a (zIx_s hj hXY)) (zIx_b (zIx_s hj hXY)) ?_
  refine zeN (q := ((53, [(5, .int ((gI Y ((f_Ge_end X j))) - (gI Y j))), (4, .int ((gI X ((f_Ge_end X j))) - (gI X j))), (0, .ref g), (1, .int j), (2, .int x), (3, .int y)], [.ref g, .int x, .int ((gI Y ((f_Ge_end X j))) - (gI Y j)), .int (((gI X ((f_Ge_end X j))) - (gI X j)) * (y - (gI Y j)))]), h)) 5 rfl ?_
  refine zegf (fs := [.int kd, .ref px, .ref py, .ref pb]) (v := .ref px) rfl rfl rfl rfl hg rfl ?_
  refine zeN (q := ((57, [(5, .int ((gI Y ((f_Ge_end X j))) - (gI Y j))), (4, .int ((gI X ((f_Ge_end X j))) - (gI X j))), (0, .ref g), (1, .int j), (2, .int x), (3, .int y)], [.int j, .ref px, .int x, .int ((gI Y ((f_Ge_end X j))) - (gI Y j)), .int (((gI X ((f_Ge_end X j))) - (gI X j)) * (y - (gI Y j)))]), h)) 1 rfl ?_
  refine zeia (l := X.map Value.int) (k := j.toNatClampNeg) (v := .int (gI X j)) rfl rfl hX (zIx_a hj) (zIx_b hj) ?_
  refine zeN (q := ((61, [(5, .int ((gI Y ((f_Ge_end X j))) - (gI Y j))), (4, .int ((gI X ((f_Ge_end X j))) - (gI X j))), (0, .ref g), (1, .int j), (2, .int x), (3, .int y)], [.int ((((gI X ((f_Ge_end X j))) - (gI X j)) * (y - (gI Y j))) - (((gI Y ((f_Ge_end X j))) - (gI Y j)) * (x - (gI X j))))]), h)) 3 rfl ?_
  exact zer rfl rfl
def f_Ge_isBeside_60 (X Y X2 Y2 : List Int32) (j c : Int32) : Int32 := 0
theorem b_Ge_isBeside_60 (X Y X2 Y2 : List Int32) (j c : Int32) : zB (f_Ge_isBeside_60 X Y X2 Y2 j c) := by unfold f_Ge_isBeside_60; exact (zB0)
theorem s_Ge_isBeside_60 {fr lo : Nat} {h : zH} (X Y X2 Y2 : List Int32) (j c : Int32) (g px py pb : Nat) (kd : Int32) (hg : h.1[g]? = some (.inr (6, [.int kd, .ref px, .ref py, .ref pb]))) (hX : h.1[px]? = some (.inl (0, X.map Value.int))) (hY : h.1[py]? = some (.inl (0, Y.map Value.int))) (hXY : Y.length = X.length) (hn : X.length ≤ 1000) (g2 px2 py2 pb2 : Nat) (kd2 : Int32) (hg2 : h.1[g2]? = some (.inr (6, [.int kd2, .ref px2, .ref py2, .ref pb2]))) (hX2 : h.1[px2]? = some (.inl (0, X2.map Value.int))) (hY2 : h.1[py2]? = some (.inl (0, Y2.map Value.int))) (hXY2 : Y2.length = X2.length) (hn2 : X2.length ≤ 1000) (hj : zIx j X.length) (hc : zIx c X2.length) (hlo : 60 ≤ lo) : zRun (fr + 1) lo none M_Ge_isBeside (60, [(0, .ref g), (1, .int j), (2, .ref g2), (3, .int c)], []) h (some (.int (f_Ge_isBeside_60 X Y X2 Y2 j c)), h) := by
  unfold f_Ge_isBeside_60
  refine zeN (q := ((61, [(0, .ref g), (1, .int j), (2, .ref g2), (3, .int c)], [.int 0]), h)) 1 rfl ?_
  exact zer rfl rfl
def f_Ge_isBeside (X Y X2 Y2 : List Int32) (j c : Int32) : Int32 := (bif zc .eq (f_Ge_isBetween (gI X2 c) (gI X j) (gI X (f_Ge_end X j))) 0 then (f_Ge_isBeside_60 X Y X2 Y2 j c) else bif zc .eq (f_Ge_isBetween (gI Y2 c) (gI Y j) (gI Y (f_Ge_end X j))) 0 then 0 else 1)
theorem b_Ge_isBeside (X Y X2 Y2 : List Int32) (j c : Int32) : zB (f_Ge_isBeside X Y X2 Y2 j c) := by unfold f_Ge_isBeside; exact (zbi (b_Ge_isBeside_60 X Y X2 Y2 j c) (zbb _))
theorem s_Ge_isBeside {fr lo : Nat} {h : zH} (X Y X2 Y2 : List Int32) (j c : Int32) (g px py pb : Nat) (kd : Int32) (hg : h.1[g]? = some (.inr (6, [.int kd, .ref px, .ref py, .ref pb]))) (hX : h.1[px]? = some (.inl (0, X.map Value.int))) (hY : h.1[py]? = some (.inl (0, Y.map Value.int))) (hXY : Y.length = X.length) (hn : X.length ≤ 1000) (g2 px2 py2 pb2 : Nat) (kd2 : Int32) (hg2 : h.1[g2]? = some (.inr (6, [.int kd2, .ref px2, .ref py2, .ref pb2]))) (hX2 : h.1[px2]? = some (.inl (0, X2.map Value.int))) (hY2 : h.1[py2]? = some (.inl (0, Y2.map Value.int))) (hXY2 : Y2.length = X2.length) (hn2 : X2.length ≤ 1000) (hj : zIx j X.length) (hc : zIx c X2.length) (hlo : 83 ≤ lo) : zAns (fr + 2) lo 27 [.ref g, .int j, .ref g2, .int c] h (some (.int (f_Ge_isBeside X Y X2 Y2 j c)), h) := by
  unfold f_Ge_isBeside
  refine zeb (fr := fr + 1) (M := M_Ge_isBeside) rfl (Nat.le_trans (by decide) hlo) rfl ?_
  have e0 : mL M_Ge_isBeside = 4 := rfl
  refine zeN (q := ((1, [(0, .ref g), (1, .int j), (2, .ref g2), (3, .int c)], [.ref g2]), h)) 1 rfl ?_
  refine zegf (fs := [.int kd2, .ref px2, .ref py2, .ref pb2]) (v := .ref px2) rfl rfl rfl rfl hg2 rfl ?_
  refine zeN (q := ((5, [(0, .ref g), (1, .int j), (2, .ref g2), (3, .int c)], [.int c, .ref px2]), h)) 1 rfl ?_
  refine zeia (l := X2.map Value.int) (k := c.toNatClampNeg) (v := .int (gI X2 c)) rfl rfl hX2 (zIx_a hc) (zIx_b hc) ?_
  refine zeN (q := ((7, [(0, .ref g), (1, .int j), (2, .ref g2), (3, .int c)], [.ref g, .int (gI X2 c)]), h)) 1 rfl ?_
  refine zegf (fs := [.int kd, .ref px, .ref py, .ref pb]) (v := .ref px) rfl rfl rfl rfl hg rfl ?_
  refine zeN (q := ((11, [(0, .ref g), (1, .int j), (2, .ref g2), (3, .int c)], [.int j, .ref px, .int (gI X2 c)]), h)) 1 rfl ?_
  refine zeia (l := X.map Value.int) (k := j.toNatClampNeg) (v := .int (gI X j)) rfl rfl hX (zIx_a hj) (zIx_b hj) ?_
  refine zeN (q := ((13, [(0, .ref g), (1, .int j), (2, .ref g2), (3, .int c)], [.ref g, .int (gI X j), .int (gI X2 c)]), h)) 1 rfl ?_
  refine zegf (fs := [.int kd, .ref px, .ref py, .ref pb]) (v := .ref px) rfl rfl rfl rfl hg rfl ?_
  refine zeN (q := ((18, [(0, .ref g), (1, .int j), (2, .ref g2), (3, .int c)], [.int j, .ref g, .ref px, .int (gI X j), .int (gI X2 c)]), h)) 2 rfl ?_
  refine zec 1 (M' := M_Ge_end) (qq := ([.ref g, .int j], [.ref px, .int (gI X j), .int (gI X2 c)])) (s' := (21, [(0, .ref g), (1, .int j), (2, .ref g2), (3, .int c)], [.int (f_Ge_end X j), .ref px, .int (gI X j), .int (gI X2 c)])) rfl rfl (fun _ => rfl) rfl rfl (zhk rfl (zrc_ok hg) rfl) (s_Ge_end X j g px py pb kd hg hX  (by omega)) rfl ?_
  refine zeia (l := X.map Value.int) (k := (f_Ge_end X j).toNatClampNeg) (v := .int (gI X (f_Ge_end X j))) rfl rfl hX (zIx_a (zIx_end hn hj)) (zIx_b (zIx_end hn hj)) ?_
  refine zec 0 (M' := M_Ge_isBetween) (qq := ([.int (gI X2 c), .int (gI X j), .int (gI X (f_Ge_end X j))], [])) (s' := (25, [(0, .ref g), (1, .int j), (2, .ref g2), (3, .int c)], [.int (f_Ge_isBetween (gI X2 c) (gI X j) (gI X (f_Ge_end X j)))])) rfl rfl (fun _ => rfl) rfl rfl rfl (s_Ge_isBetween (gI X2 c) (gI X j) (gI X (f_Ge_end X j))  (by omega)) rfl ?_
  refine zbc (q1 := (60, [(0, .ref g), (1, .int j), (2, .ref g2), (3, .int c)], [])) (q2 := (28, [(0, .ref g), (1, .int j), (2, .ref g2), (3, .int c)], [])) (cB := zc .eq (f_Ge_isBetween (gI X2 c) (gI X j) (gI X (f_Ge_end X j))) 0) (off := 35) (lv := [(0, .ref g), (1, .int j), (2, .ref g2), (3, .int c)]) (st := []) rfl rfl rfl rfl rfl (fun c25 => ?_) (fun c25 => ?_)
  · rw [c25]
    exact s_Ge_isBeside_60 X Y X2 Y2 j c g px py pb kd hg hX hY hXY hn g2 px2 py2 pb2 kd2 hg2 hX2 hY2 hXY2 hn2 hj hc (by omega)
  · rw [c25]
    refine zeN (q := ((29, [(0, .ref g), (1, .int j), (2, .ref g2), (3, .int c)], [.ref g2]), h)) 1 rfl ?_
    refine zegf (fs := [.int kd2, .ref px2, .ref py2, .ref pb2]) (v := .ref py2) rfl rfl rfl rfl hg2 rfl ?_
    refine zeN (q := ((33, [(0, .ref g), (1, .int j), (2, .ref g2), (3, .int c)], [.int c, .ref py2]), h)) 1 rfl ?_
    refine zeia (l := Y2.map Value.int) (k := c.toNatClampNeg) (v := .int (gI Y2 c)) rfl rfl hY2 (zIx_a (zIx_s hc hXY2)) (zIx_b (zIx_s hc hXY2)) ?_
    refine zeN (q := ((35, [(0, .ref g), (1, .int j), (2, .ref g2), (3, .int c)], [.ref g, .int (gI Y2 c)]), h)) 1 rfl ?_
    refine zegf (fs := [.int kd, .ref px, .ref py, .ref pb]) (v := .ref py) rfl rfl rfl rfl hg rfl ?_
    refine zeN (q := ((39, [(0, .ref g), (1, .int j), (2, .ref g2), (3, .int c)], [.int j, .ref py, .int (gI Y2 c)]), h)) 1 rfl ?_
    refine zeia (l := Y.map Value.int) (k := j.toNatClampNeg) (v := .int (gI Y j)) rfl rfl hY (zIx_a (zIx_s hj hXY)) (zIx_b (zIx_s hj hXY)) ?_
    refine zeN (q := ((41, [(0, .ref g), (1, .int j), (2, .ref g2), (3, .int c)], [.ref g, .int (gI Y j), .int (gI Y2 c)]), h)) 1 rfl ?_
    refine zegf (fs := [.int kd, .ref px, .ref py, .ref pb]) (v := .ref py) rfl rfl rfl rfl hg rfl ?_
    refine zeN (q := ((46, [(0, .ref g), (1, .int j), (2, .ref g2), (3, .int c)], [.int j, .ref g, .ref py, .int (gI Y j), .int (gI Y2 c)]), h)) 2 rfl ?_
    refine zec 1 (M' := M_Ge_end) (qq := ([.ref g, .int j], [.ref py, .int (gI Y j), .int (gI Y2 c)])) (s' := (49, [(0, .ref g), (1, .int j), (2, .ref g2), (3, .int c)], [.int (f_Ge_end X j), .ref py, .int (gI Y j), .int (gI Y2 c)])) rfl rfl (fun _ => rfl) rfl rfl (zhk rfl (zrc_ok hg) rfl) (s_Ge_end X j g px py pb kd hg hX  (by omega)) rfl ?_
    refine zeia (l := Y.map Value.int) (k := (f_Ge_end X j).toNatClampNeg) (v := .int (gI Y (f_Ge_end X j))) rfl rfl hY (zIx_a (zIx_s (zIx_end hn hj) hXY)) (zIx_b (zIx_s (zIx_end hn hj) hXY)) ?_
    refine zec 0 (M' := M_Ge_isBetween) (qq := ([.int (gI Y2 c), .int (gI Y j), .int (gI Y (f_Ge_end X j))], [])) (s' := (53, [(0, .ref g), (1, .int j), (2, .ref g2), (3, .int c)], [.int (f_Ge_isBetween (gI Y2 c) (gI Y j) (gI Y (f_Ge_end X j)))])) rfl rfl (fun _ => rfl) rfl rfl rfl (s_Ge_isBetween (gI Y2 c) (gI Y j) (gI Y (f_Ge_end X j))  (by omega)) rfl ?_
    refine zdia (q1 := (60, [(0, .ref g), (1, .int j), (2, .ref g2), (3, .int c)], [])) (q2 := (56, [(0, .ref g), (1, .int j), (2, .ref g2), (3, .int c)], [])) (cB := zc .eq (f_Ge_isBetween (gI Y2 c) (gI Y j) (gI Y (f_Ge_end X j))) 0) (off := 7) (lv := [(0, .ref g), (1, .int j), (2, .ref g2), (3, .int c)]) (st := []) (lv2 := [(0, .ref g), (1, .int j), (2, .ref g2), (3, .int c)]) (st2 := []) (J := 61) (vA := 0) (vB := 1) 1 2 rfl rfl rfl rfl rfl rfl rfl ?_
    exact zer rfl (zreb (zbb _))
def f_Ge_foldsBack_96 (X Y : List Int32) (j k : Int32) : Int32 := 0
theorem b_Ge_foldsBack_96 (X Y : List Int32) (j k : Int32) : zB (f_Ge_foldsBack_96 X Y j k) := by unfold f_Ge_foldsBack_96; exact (zB0)
theorem s_Ge_foldsBack_96 {fr lo : Nat} {h : zH} (X Y : List Int32) (j k : Int32) (g px py pb : Nat) (kd : Int32) (hg : h.1[g]? = some (.inr (6, [.int kd, .ref px, .ref py, .ref pb]))) (hX : h.1[px]? = some (.inl (0, X.map Value.int))) (hY : h.1[py]? = some (.inl (0, Y.map Value.int))) (hXY : Y.length = X.length) (hn : X.length ≤ 1000) (hj : zIx j X.length) (hk : zIx k X.length) (hlo : 21 ≤ lo) : zRun (fr + 1) lo none M_Ge_foldsBack (96, [(6, .int ((gI Y (f_Ge_end X k)) - (gI Y k))), (5, .int ((gI X (f_Ge_end X k)) - (gI X k))), (4, .int ((gI Y k) - (gI Y j))), (3, .int ((gI X k) - (gI X j))), (0, .ref g), (1, .int j), (2, .int k)], []) h (some (.int (f_Ge_foldsBack_96 X Y j k)), h) := by
  unfold f_Ge_foldsBack_96
  refine zeN (q := ((97, [(6, .int ((gI Y (f_Ge_end X k)) - (gI Y k))), (5, .int ((gI X (f_Ge_end X k)) - (gI X k))), (4, .int ((gI Y k) - (gI Y j))), (3, .int ((gI X k) - (gI X j))), (0, .ref g), (1, .int j), (2, .int k)], [.int 0]), h)) 1 rfl ?_
  exact zer rfl rfl
def f_Ge_foldsBack (X Y : List Int32) (j k : Int32) : Int32 := (bif zc .ne (((gI X k) - (gI X j)) * ((gI Y (f_Ge_end X k)) - (gI Y k))) (((gI Y k) - (gI Y j)) * ((gI X (f_Ge_end X k)) - (gI X k))) then (f_Ge_foldsBack_96 X Y j k) else bif zc .ge ((((gI X k) - (gI X j)) * ((gI X (f_Ge_end X k)) - (gI X k))) + (((gI Y k) - (gI Y j)) * ((gI Y (f_Ge_end X k)) - (gI Y k)))) 0 then 0 else 1)
theorem b_Ge_foldsBack (X Y : List Int32) (j k : Int32) : zB (f_Ge_foldsBack X Y j k) := by unfold f_Ge_foldsBack; exact (zbi (b_Ge_foldsBack_96 X Y j k) (zbb _))
theorem s_Ge_foldsBack {fr lo : Nat} {h : zH} (X Y : List Int32) (j k : Int32) (g px py pb : Nat) (kd : Int32) (hg : h.1[g]? = some (.inr (6, [.int kd, .ref px, .ref py, .ref pb]))) (hX : h.1[px]? = some (.inl (0, X.map Value.int))) (hY : h.1[py]? = some (.inl (0, Y.map Value.int))) (hXY : Y.length = X.length) (hn : X.length ≤ 1000) (hj : zIx j X.length) (hk : zIx k X.length) (hlo : 47 ≤ lo) : zAns (fr + 2) lo 23 [.ref g, .int j, .int k] h (some (.int (f_Ge_foldsBack X Y j k)), h) := by
  unfold f_Ge_foldsBack
  refine zeb (fr := fr + 1) (M := M_Ge_foldsBack) rfl (Nat.le_trans (by decide) hlo) rfl ?_
  have e0 : mL M_Ge_foldsBack = 7 := rfl
  refine zeN (q := ((1, [(0, .ref g), (1, .int j), (2, .int k)], [.ref g]), h)) 1 rfl ?_
  refine zegf (fs := [.int kd, .ref px, .ref py, .ref pb]) (v := .ref px) rfl rfl rfl rfl hg rfl ?_
  refine zeN (q := ((5, [(0, .ref g), (1, .int j), (2, .int k)], [.int k, .ref px]), h)) 1 rfl ?_
  refine zeia (l := X.map Value.int) (k := k.toNatClampNeg) (v := .int (gI X k)) rfl rfl hX (zIx_a hk) (zIx_b hk) ?_
  refine zeN (q := ((7, [(0, .ref g), (1, .int j), (2, .int k)], [.ref g, .int (gI X k)]), h)) 1 rfl ?_
  refine zegf (fs := [.int kd, .ref px, .ref py, .ref pb]) (v := .ref px) rfl rfl rfl rfl hg rfl ?_
  refine zeN (q := ((11, [(0, .ref g), (1, .int j), (2, .int k)], [.int j, .ref px, .int (gI X k)]), h)) 1 rfl ?_
  refine zeia (l := X.map Value.int) (k := j.toNatClampNeg) (v := .int (gI X j)) rfl rfl hX (zIx_a hj) (zIx_b hj) ?_
  refine zeN (q := ((15, [(3, .int ((gI X k) - (gI X j))), (0, .ref g), (1, .int j), (2, .int k)], [.ref g]), h)) 3 rfl ?_
  refine zegf (fs := [.int kd, .ref px, .ref py, .ref pb]) (v := .ref py) rfl rfl rfl rfl hg rfl ?_
  refine zeN (q := ((19, [(3, .int ((gI X k) - (gI X j))), (0, .ref g), (1, .int j), (2, .int k)], [.int k, .ref py]), h)) 1 rfl ?_
  refine zeia (l := Y.map Value.int) (k := k.toNatClampNeg) (v := .int (gI Y k)) rfl rfl hY (zIx_a (zIx_s hk hXY)) (zIx_b (zIx_s hk hXY)) ?_
  refine zeN (q := ((21, [(3, .int ((gI X k) - (gI X j))), (0, .ref g), (1, .int j), (2, .int k)], [.ref g, .int (gI Y k)]), h)) 1 rfl ?_
  refine zegf (fs := [.int kd, .ref px, .ref py, .ref pb]) (v := .ref py) rfl rfl rfl rfl hg rfl ?_
  refine zeN (q := ((25, [(3, .int ((gI X k) - (gI X j))), (0, .ref g), (1, .int j), (2, .int k)], [.int j, .ref py, .int (gI Y k)]), h)) 1 rfl ?_
  refine zeia (l := Y.map Value.int) (k := j.toNatClampNeg) (v := .int (gI Y j)) rfl rfl hY (zIx_a (zIx_s hj hXY)) (zIx_b (zIx_s hj hXY)) ?_
  refine zeN (q := ((30, [(4, .int ((gI Y k) - (gI Y j))), (3, .int ((gI X k) - (gI X j))), (0, .ref g), (1, .int j), (2, .int k)], [.ref g]), h)) 3 rfl ?_
  refine zegf (fs := [.int kd, .ref px, .ref py, .ref pb]) (v := .ref px) rfl rfl rfl rfl hg rfl ?_
  refine zeN (q := ((35, [(4, .int ((gI Y k) - (gI Y j))), (3, .int ((gI X k) - (gI X j))), (0, .ref g), (1, .int j), (2, .int k)], [.int k, .ref g, .ref px]), h)) 2 rfl ?_
  refine zec 1 (M' := M_Ge_end) (qq := ([.ref g, .int k], [.ref px])) (s' := (38, [(4, .int ((gI Y k) - (gI Y j))), (3, .int ((gI X k) - (gI X j))), (0, .ref g), (1, .int j), (2, .int k)], [.int (f_Ge_end X k), .ref px])) rfl rfl (fun _ => rfl) rfl rfl (zhk rfl (zrc_ok hg) rfl) (s_Ge_end X k g px py pb kd hg hX  (by omega)) rfl ?_
  refine zeia (l := X.map Value.int) (k := (f_Ge_end X k).toNatClampNeg) (v := .int (gI X (f_Ge_end X k))) rfl rfl hX (zIx_a (zIx_end hn hk)) (zIx_b (zIx_end hn hk)) ?_
  refine zeN (q := ((40, [(4, .int ((gI Y k) - (gI Y j))), (3, .int ((gI X k) - (gI X j))), (0, .ref g), (1, .int j), (2, .int k)], [.ref g, .int (gI X (f_Ge_end X k))]), h)) 1 rfl ?_
  refine zegf (fs := [.int kd, .ref px, .ref py, .ref pb]) (v := .ref px) rfl rfl rfl rfl hg rfl ?_
  refine zeN (q := ((44, [(4, .int ((gI Y k) - (gI Y j))), (3, .int ((gI X k) - (gI X j))), (0, .ref g), (1, .int j), (2, .int k)], [.int k, .ref px, .int (gI X (f_Ge_end X k))]), h)) 1 rfl ?_
  refine zeia (l := X.map Value.int) (k := k.toNatClampNeg) (v := .int (gI X k)) rfl rfl hX (zIx_a hk) (zIx_b hk) ?_
  refine zeN (q := ((49, [(5, .int ((gI X (f_Ge_end X k)) - (gI X k))), (4, .int ((gI Y k) - (gI Y j))), (3, .int ((gI X k) - (gI X j))), (0, .ref g), (1, .int j), (2, .int k)], [.ref g]), h)) 3 rfl ?_
  refine zegf (fs := [.int kd, .ref px, .ref py, .ref pb]) (v := .ref py) rfl rfl rfl rfl hg rfl ?_
  refine zeN (q := ((54, [(5, .int ((gI X (f_Ge_end X k)) - (gI X k))), (4, .int ((gI Y k) - (gI Y j))), (3, .int ((gI X k) - (gI X j))), (0, .ref g), (1, .int j), (2, .int k)], [.int k, .ref g, .ref py]), h)) 2 rfl ?_
  refine zec 1 (M' := M_Ge_end) (qq := ([.ref g, .int k], [.ref py])) (s' := (57, [(5, .int ((gI X (f_Ge_end X k)) - (gI X k))), (4, .int ((gI Y k) - (gI Y j))), (3, .int ((gI X k) - (gI X j))), (0, .ref g), (1, .int j), (2, .int k)], [.int (f_Ge_end X k), .ref py])) rfl rfl (fun _ => rfl) rfl rfl (zhk rfl (zrc_ok hg) rfl) (s_Ge_end X k g px py pb kd hg hX  (by omega)) rfl ?_
  refine zeia (l := Y.map Value.int) (k := (f_Ge_end X k).toNatClampNeg) (v := .int (gI Y (f_Ge_end X k))) rfl rfl hY (zIx_a (zIx_s (zIx_end hn hk) hXY)) (zIx_b (zIx_s (zIx_end hn hk) hXY)) ?_
  refine zeN (q := ((59, [(5, .int ((gI X (f_Ge_end X k)) - (gI X k))), (4, .int ((gI Y k) - (gI Y j))), (3, .int ((gI X k) - (gI X j))), (0, .ref g), (1, .int j), (2, .int k)], [.ref g, .int (gI Y (f_Ge_end X k))]), h)) 1 rfl ?_
  refine zegf (fs := [.int kd, .ref px, .ref py, .ref pb]) (v := .ref py) rfl rfl rfl rfl hg rfl ?_
  refine zeN (q := ((63, [(5, .int ((gI X (f_Ge_end X k)) - (gI X k))), (4, .int ((gI Y k) - (gI Y j))), (3, .int ((gI X k) - (gI X j))), (0, .ref g), (1, .int j), (2, .int k)], [.int k, .ref py, .int (gI Y (f_Ge_end X k))]), h)) 1 rfl ?_
  refine zeia (l := Y.map Value.int) (k := k.toNatClampNeg) (v := .int (gI Y k)) rfl rfl hY (zIx_a (zIx_s hk hXY)) (zIx_b (zIx_s hk hXY)) ?_
  refine zeN (q := ((76, [(6, .int ((gI Y (f_Ge_end X k)) - (gI Y k))), (5, .int ((gI X (f_Ge_end X k)) - (gI X k))), (4, .int ((gI Y k) - (gI Y j))), (3, .int ((gI X k) - (gI X j))), (0, .ref g), (1, .int j), (2, .int k)], [.int (((gI Y k) - (gI Y j)) * ((gI X (f_Ge_end X k)) - (gI X k))), .int (((gI X k) - (gI X j)) * ((gI Y (f_Ge_end X k)) - (gI Y k)))]), h)) 8 rfl ?_
  refine zbc (q1 := (96, [(6, .int ((gI Y (f_Ge_end X k)) - (gI Y k))), (5, .int ((gI X (f_Ge_end X k)) - (gI X k))), (4, .int ((gI Y k) - (gI Y j))), (3, .int ((gI X k) - (gI X j))), (0, .ref g), (1, .int j), (2, .int k)], [])) (q2 := (79, [(6, .int ((gI Y (f_Ge_end X k)) - (gI Y k))), (5, .int ((gI X (f_Ge_end X k)) - (gI X k))), (4, .int ((gI Y k) - (gI Y j))), (3, .int ((gI X k) - (gI X j))), (0, .ref g), (1, .int j), (2, .int k)], [])) (cB := zc .ne (((gI X k) - (gI X j)) * ((gI Y (f_Ge_end X k)) - (gI Y k))) (((gI Y k) - (gI Y j)) * ((gI X (f_Ge_end X k)) - (gI X k)))) (off := 20) (lv := [(6, .int ((gI Y (f_Ge_end X k)) - (gI Y k))), (5, .int ((gI X (f_Ge_end X k)) - (gI X k))), (4, .int ((gI Y k) - (gI Y j))), (3, .int ((gI X k) - (gI X j))), (0, .ref g), (1, .int j), (2, .int k)]) (st := []) rfl rfl rfl rfl rfl (fun c76 => ?_) (fun c76 => ?_)
  · rw [c76]
    exact s_Ge_foldsBack_96 X Y j k g px py pb kd hg hX hY hXY hn hj hk (by omega)
  · rw [c76]
    refine zeN (q := ((89, [(6, .int ((gI Y (f_Ge_end X k)) - (gI Y k))), (5, .int ((gI X (f_Ge_end X k)) - (gI X k))), (4, .int ((gI Y k) - (gI Y j))), (3, .int ((gI X k) - (gI X j))), (0, .ref g), (1, .int j), (2, .int k)], [.int ((((gI X k) - (gI X j)) * ((gI X (f_Ge_end X k)) - (gI X k))) + (((gI Y k) - (gI Y j)) * ((gI Y (f_Ge_end X k)) - (gI Y k))))]), h)) 7 rfl ?_
    refine zdia (q1 := (96, [(6, .int ((gI Y (f_Ge_end X k)) - (gI Y k))), (5, .int ((gI X (f_Ge_end X k)) - (gI X k))), (4, .int ((gI Y k) - (gI Y j))), (3, .int ((gI X k) - (gI X j))), (0, .ref g), (1, .int j), (2, .int k)], [])) (q2 := (92, [(6, .int ((gI Y (f_Ge_end X k)) - (gI Y k))), (5, .int ((gI X (f_Ge_end X k)) - (gI X k))), (4, .int ((gI Y k) - (gI Y j))), (3, .int ((gI X k) - (gI X j))), (0, .ref g), (1, .int j), (2, .int k)], [])) (cB := zc .ge ((((gI X k) - (gI X j)) * ((gI X (f_Ge_end X k)) - (gI X k))) + (((gI Y k) - (gI Y j)) * ((gI Y (f_Ge_end X k)) - (gI Y k)))) 0) (off := 7) (lv := [(6, .int ((gI Y (f_Ge_end X k)) - (gI Y k))), (5, .int ((gI X (f_Ge_end X k)) - (gI X k))), (4, .int ((gI Y k) - (gI Y j))), (3, .int ((gI X k) - (gI X j))), (0, .ref g), (1, .int j), (2, .int k)]) (st := []) (lv2 := [(6, .int ((gI Y (f_Ge_end X k)) - (gI Y k))), (5, .int ((gI X (f_Ge_end X k)) - (gI X k))), (4, .int ((gI Y k) - (gI Y j))), (3, .int ((gI X k) - (gI X j))), (0, .ref g), (1, .int j), (2, .int k)]) (st2 := []) (J := 97) (vA := 0) (vB := 1) 1 2 rfl rfl rfl rfl rfl rfl rfl ?_
    exact zer rfl (zreb (zbb _))
def f_Ge_sides (X : List Int32) (kd : Int32) : Int32 := (bif zc .ne kd 1 then Int32.ofNat (X.map Value.int).length else (Int32.ofNat (X.map Value.int).length) - 1)
theorem s_Ge_sides {fr lo : Nat} {h : zH} (X : List Int32) (kd : Int32) (g px py pb : Nat) (hg : h.1[g]? = some (.inr (6, [.int kd, .ref px, .ref py, .ref pb]))) (hX : h.1[px]? = some (.inl (0, X.map Value.int))) (hlo : 20 ≤ lo) : zAns (fr + 1) lo 19 [.ref g] h (some (.int (f_Ge_sides X kd)), h) := by
  unfold f_Ge_sides
  refine zeb (fr := fr + 0) (M := M_Ge_sides) rfl (Nat.le_trans (by decide) hlo) rfl ?_
  have e0 : mL M_Ge_sides = 1 := rfl
  refine zeN (q := ((1, [(0, .ref g)], [.ref g]), h)) 1 rfl ?_
  refine zegf (fs := [.int kd, .ref px, .ref py, .ref pb]) (v := .int kd) rfl rfl rfl rfl hg rfl ?_
  refine zeN (q := ((5, [(0, .ref g)], [.int 1, .int kd]), h)) 1 rfl ?_
  refine zbc (q1 := (18, [(0, .ref g)], [])) (q2 := (8, [(0, .ref g)], [])) (cB := zc .ne kd 1) (off := 13) (lv := [(0, .ref g)]) (st := []) rfl rfl rfl rfl rfl (fun c5 => ?_) (fun c5 => ?_)
  · rw [c5]
    refine zeN (q := ((19, [(0, .ref g)], [.ref g]), h)) 1 rfl ?_
    refine zegf (fs := [.int kd, .ref px, .ref py, .ref pb]) (v := .ref px) rfl rfl rfl rfl hg rfl ?_
    refine zeln (l := X.map Value.int) rfl rfl hX rfl ?_
    exact zer rfl rfl
  · rw [c5]
    refine zeN (q := ((9, [(0, .ref g)], [.ref g]), h)) 1 rfl ?_
    refine zegf (fs := [.int kd, .ref px, .ref py, .ref pb]) (v := .ref px) rfl rfl rfl rfl hg rfl ?_
    refine zeln (l := X.map Value.int) rfl rfl hX rfl ?_
    refine zeN (q := ((23, [(0, .ref g)], [.int ((Int32.ofNat (X.map Value.int).length) - 1)]), h)) 3 rfl ?_
    exact zer rfl rfl
def f_Ge_sideMeets_180 (X Y X2 Y2 : List Int32) (j k : Int32) : Int32 := 0
theorem b_Ge_sideMeets_180 (X Y X2 Y2 : List Int32) (j k : Int32) : zB (f_Ge_sideMeets_180 X Y X2 Y2 j k) := by unfold f_Ge_sideMeets_180; exact (zB0)
theorem s_Ge_sideMeets_180 {fr lo : Nat} {h : zH} (X Y X2 Y2 : List Int32) (j k : Int32) (g px py pb : Nat) (kd : Int32) (hg : h.1[g]? = some (.inr (6, [.int kd, .ref px, .ref py, .ref pb]))) (hX : h.1[px]? = some (.inl (0, X.map Value.int))) (hY : h.1[py]? = some (.inl (0, Y.map Value.int))) (hXY : Y.length = X.length) (hn : X.length ≤ 1000) (g2 px2 py2 pb2 : Nat) (kd2 : Int32) (hg2 : h.1[g2]? = some (.inr (6, [.int kd2, .ref px2, .ref py2, .ref pb2]))) (hX2 : h.1[px2]? = some (.inl (0, X2.map Value.int))) (hY2 : h.1[py2]? = some (.inl (0, Y2.map Value.int))) (hXY2 : Y2.length = X2.length) (hn2 : X2.length ≤ 1000) (hj : zIx j X.length) (hk : zIx k X2.length) (hlo : 83 ≤ lo) : zRun (fr + 2) lo none M_Ge_sideMeets (180, [(9, .int (f_Ge_turn X2 Y2 k (gI X (f_Ge_end X j)) (gI Y (f_Ge_end X j)))), (8, .int (f_Ge_turn X2 Y2 k (gI X j) (gI Y j))), (7, .int (f_Ge_turn X Y j (gI X2 (f_Ge_end X2 k)) (gI Y2 (f_Ge_end X2 k)))), (6, .int (f_Ge_turn X Y j (gI X2 k) (gI Y2 k))), (5, .int (f_Ge_end X2 k)), (4, .int (f_Ge_end X j)), (0, .ref g), (1, .int j), (2, .ref g2), (3, .int k)], []) h (some (.int (f_Ge_sideMeets_180 X Y X2 Y2 j k)), h) := by
  unfold f_Ge_sideMeets_180
  refine zeN (q := ((181, [(9, .int (f_Ge_turn X2 Y2 k (gI X (f_Ge_end X j)) (gI Y (f_Ge_end X j)))), (8, .int (f_Ge_turn X2 Y2 k (gI X j) (gI Y j))), (7, .int (f_Ge_turn X Y j (gI X2 (f_Ge_end X2 k)) (gI Y2 (f_Ge_end X2 k)))), (6, .int (f_Ge_turn X Y j (gI X2 k) (gI Y2 k))), (5, .int (f_Ge_end X2 k)), (4, .int (f_Ge_end X j)), (0, .ref g), (1, .int j), (2, .ref g2), (3, .int k)], [.int 0]), h)) 1 rfl ?_
  exact zer rfl rfl
def f_Ge_sideMeets_160 (X Y X2 Y2 : List Int32) (j k : Int32) : Int32 := (bif zc .ne (f_Ge_turn X2 Y2 k (gI X (f_Ge_end X j)) (gI Y (f_Ge_end X j))) 0 then (f_Ge_sideMeets_180 X Y X2 Y2 j k) else bif zc .eq (f_Ge_isBeside X2 Y2 X Y k (f_Ge_end X j)) 0 then 0 else 1)
theorem b_Ge_sideMeets_160 (X Y X2 Y2 : List Int32) (j k : Int32) : zB (f_Ge_sideMeets_160 X Y X2 Y2 j k) := by unfold f_Ge_sideMeets_160; exact (zbi (b_Ge_sideMeets_180 X Y X2 Y2 j k) (zbb _))
theorem s_Ge_sideMeets_160 {fr lo : Nat} {h : zH} (X Y X2 Y2 : List Int32) (j k : Int32) (g px py pb : Nat) (kd : Int32) (hg : h.1[g]? = some (.inr (6, [.int kd, .ref px, .ref py, .ref pb]))) (hX : h.1[px]? = some (.inl (0, X.map Value.int))) (hY : h.1[py]? = some (.inl (0, Y.map Value.int))) (hXY : Y.length = X.length) (hn : X.length ≤ 1000) (g2 px2 py2 pb2 : Nat) (kd2 : Int32) (hg2 : h.1[g2]? = some (.inr (6, [.int kd2, .ref px2, .ref py2, .ref pb2]))) (hX2 : h.1[px2]? = some (.inl (0, X2.map Value.int))) (hY2 : h.1[py2]? = some (.inl (0, Y2.map Value.int))) (hXY2 : Y2.length = X2.length) (hn2 : X2.length ≤ 1000) (hj : zIx j X.length) (hk : zIx k X2.length) (hlo : 83 ≤ lo) : zRun (fr + 2) lo none M_Ge_sideMeets (160, [(9, .int (f_Ge_turn X2 Y2 k (gI X (f_Ge_end X j)) (gI Y (f_Ge_end X j)))), (8, .int (f_Ge_turn X2 Y2 k (gI X j) (gI Y j))), (7, .int (f_Ge_turn X Y j (gI X2 (f_Ge_end X2 k)) (gI Y2 (f_Ge_end X2 k)))), (6, .int (f_Ge_turn X Y j (gI X2 k) (gI Y2 k))), (5, .int (f_Ge_end X2 k)), (4, .int (f_Ge_end X j)), (0, .ref g), (1, .int j), (2, .ref g2), (3, .int k)], []) h (some (.int (f_Ge_sideMeets_160 X Y X2 Y2 j k)), h) := by
  unfold f_Ge_sideMeets_160
  refine zeN (q := ((162, [(9, .int (f_Ge_turn X2 Y2 k (gI X (f_Ge_end X j)) (gI Y (f_Ge_end X j)))), (8, .int (f_Ge_turn X2 Y2 k (gI X j) (gI Y j))), (7, .int (f_Ge_turn X Y j (gI X2 (f_Ge_end X2 k)) (gI Y2 (f_Ge_end X2 k)))), (6, .int (f_Ge_turn X Y j (gI X2 k) (gI Y2 k))), (5, .int (f_Ge_end X2 k)), (4, .int (f_Ge_end X j)), (0, .ref g), (1, .int j), (2, .ref g2), (3, .int k)], [.int (f_Ge_turn X2 Y2 k (gI X (f_Ge_end X j)) (gI Y (f_Ge_end X j)))]), h)) 1 rfl ?_
  refine zbc (q1 := (180, [(9, .int (f_Ge_turn X2 Y2 k (gI X (f_Ge_end X j)) (gI Y (f_Ge_end X j)))), (8, .int (f_Ge_turn X2 Y2 k (gI X j) (gI Y j))), (7, .int (f_Ge_turn X Y j (gI X2 (f_Ge_end X2 k)) (gI Y2 (f_Ge_end X2 k)))), (6, .int (f_Ge_turn X Y j (gI X2 k) (gI Y2 k))), (5, .int (f_Ge_end X2 k)), (4, .int (f_Ge_end X j)), (0, .ref g), (1, .int j), (2, .ref g2), (3, .int k)], [])) (q2 := (165, [(9, .int (f_Ge_turn X2 Y2 k (gI X (f_Ge_end X j)) (gI Y (f_Ge_end X j)))), (8, .int (f_Ge_turn X2 Y2 k (gI X j) (gI Y j))), (7, .int (f_Ge_turn X Y j (gI X2 (f_Ge_end X2 k)) (gI Y2 (f_Ge_end X2 k)))), (6, .int (f_Ge_turn X Y j (gI X2 k) (gI Y2 k))), (5, .int (f_Ge_end X2 k)), (4, .int (f_Ge_end X j)), (0, .ref g), (1, .int j), (2, .ref g2), (3, .int k)], [])) (cB := zc .ne (f_Ge_turn X2 Y2 k (gI X (f_Ge_end X j)) (gI Y (f_Ge_end X j))) 0) (off := 18) (lv := [(9, .int (f_Ge_turn X2 Y2 k (gI X (f_Ge_end X j)) (gI Y (f_Ge_end X j)))), (8, .int (f_Ge_turn X2 Y2 k (gI X j) (gI Y j))), (7, .int (f_Ge_turn X Y j (gI X2 (f_Ge_end X2 k)) (gI Y2 (f_Ge_end X2 k)))), (6, .int (f_Ge_turn X Y j (gI X2 k) (gI Y2 k))), (5, .int (f_Ge_end X2 k)), (4, .int (f_Ge_end X j)), (0, .ref g), (1, .int j), (2, .ref g2), (3, .int k)]) (st := []) rfl rfl rfl rfl rfl (fun c162 => ?_) (fun c162 => ?_)
  · rw [c162]
    exact s_Ge_sideMeets_180 X Y X2 Y2 j k g px py pb kd hg hX hY hXY hn g2 px2 py2 pb2 kd2 hg2 hX2 hY2 hXY2 hn2 hj hk (by omega)
  · rw [c162]
    refine zeN (q := ((170, [(9, .int (f_Ge_turn X2 Y2 k (gI X (f_Ge_end X j)) (gI Y (f_Ge_end X j)))), (8, .int (f_Ge_turn X2 Y2 k (gI X j) (gI Y j))), (7, .int (f_Ge_turn X Y j (gI X2 (f_Ge_end X2 k)) (gI Y2 (f_Ge_end X2 k)))), (6, .int (f_Ge_turn X Y j (gI X2 k) (gI Y2 k))), (5, .int (f_Ge_end X2 k)), (4, .int (f_Ge_end X j)), (0, .ref g), (1, .int j), (2, .ref g2), (3, .int k)], [.int (f_Ge_end X j), .ref g, .int k, .ref g2]), h)) 4 rfl ?_
    refine zec 1 (M' := M_Ge_isBeside) (qq := ([.ref g2, .int k, .ref g, .int (f_Ge_end X j)], [])) (s' := (173, [(9, .int (f_Ge_turn X2 Y2 k (gI X (f_Ge_end X j)) (gI Y (f_Ge_end X j)))), (8, .int (f_Ge_turn X2 Y2 k (gI X j) (gI Y j))), (7, .int (f_Ge_turn X Y j (gI X2 (f_Ge_end X2 k)) (gI Y2 (f_Ge_end X2 k)))), (6, .int (f_Ge_turn X Y j (gI X2 k) (gI Y2 k))), (5, .int (f_Ge_end X2 k)), (4, .int (f_Ge_end X j)), (0, .ref g), (1, .int j), (2, .ref g2), (3, .int k)], [.int (f_Ge_isBeside X2 Y2 X Y k (f_Ge_end X j))])) rfl rfl (fun _ => rfl) rfl rfl (zhk rfl (zrc_ok hg2) rfl) (s_Ge_isBeside X2 Y2 X Y k (f_Ge_end X j) g2 px2 py2 pb2 kd2 hg2 hX2 hY2 hXY2 hn2 g px py pb kd hg hX hY hXY hn hk (zIx_end hn hj) (by omega)) rfl ?_
    refine zdia (q1 := (180, [(9, .int (f_Ge_turn X2 Y2 k (gI X (f_Ge_end X j)) (gI Y (f_Ge_end X j)))), (8, .int (f_Ge_turn X2 Y2 k (gI X j) (gI Y j))), (7, .int (f_Ge_turn X Y j (gI X2 (f_Ge_end X2 k)) (gI Y2 (f_Ge_end X2 k)))), (6, .int (f_Ge_turn X Y j (gI X2 k) (gI Y2 k))), (5, .int (f_Ge_end X2 k)), (4, .int (f_Ge_end X j)), (0, .ref g), (1, .int j), (2, .ref g2), (3, .int k)], [])) (q2 := (176, [(9, .int (f_Ge_turn X2 Y2 k (gI X (f_Ge_end X j)) (gI Y (f_Ge_end X j)))), (8, .int (f_Ge_turn X2 Y2 k (gI X j) (gI Y j))), (7, .int (f_Ge_turn X Y j (gI X2 (f_Ge_end X2 k)) (gI Y2 (f_Ge_end X2 k)))), (6, .int (f_Ge_turn X Y j (gI X2 k) (gI Y2 k))), (5, .int (f_Ge_end X2 k)), (4, .int (f_Ge_end X j)), (0, .ref g), (1, .int j), (2, .ref g2), (3, .int k)], [])) (cB := zc .eq (f_Ge_isBeside X2 Y2 X Y k (f_Ge_end X j)) 0) (off := 7) (lv := [(9, .int (f_Ge_turn X2 Y2 k (gI X (f_Ge_end X j)) (gI Y (f_Ge_end X j)))), (8, .int (f_Ge_turn X2 Y2 k (gI X j) (gI Y j))), (7, .int (f_Ge_turn X Y j (gI X2 (f_Ge_end X2 k)) (gI Y2 (f_Ge_end X2 k)))), (6, .int (f_Ge_turn X Y j (gI X2 k) (gI Y2 k))), (5, .int (f_Ge_end X2 k)), (4, .int (f_Ge_end X j)), (0, .ref g), (1, .int j), (2, .ref g2), (3, .int k)]) (st := []) (lv2 := [(9, .int (f_Ge_turn X2 Y2 k (gI X (f_Ge_end X j)) (gI Y (f_Ge_end X j)))), (8, .int (f_Ge_turn X2 Y2 k (gI X j) (gI Y j))), (7, .int (f_Ge_turn X Y j (gI X2 (f_Ge_end X2 k)) (gI Y2 (f_Ge_end X2 k)))), (6, .int (f_Ge_turn X Y j (gI X2 k) (gI Y2 k))), (5, .int (f_Ge_end X2 k)), (4, .int (f_Ge_end X j)), (0, .ref g), (1, .int j), (2, .ref g2), (3, .int k)]) (st2 := []) (J := 181) (vA := 0) (vB := 1) 1 2 rfl rfl rfl rfl rfl rfl rfl ?_
    exact zer rfl (zreb (zbb _))
def f_Ge_sideMeets_176 (X Y X2 Y2 : List Int32) (j k : Int32) : Int32 := 1
theorem b_Ge_sideMeets_176 (X Y X2 Y2 : List Int32) (j k : Int32) : zB (f_Ge_sideMeets_176 X Y X2 Y2 j k) := by unfold f_Ge_sideMeets_176; exact (zB1)
theorem s_Ge_sideMeets_176 {fr lo : Nat} {h : zH} (X Y X2 Y2 : List Int32) (j k : Int32) (g px py pb : Nat) (kd : Int32) (hg : h.1[g]? = some (.inr (6, [.int kd, .ref px, .ref py, .ref pb]))) (hX : h.1[px]? = some (.inl (0, X.map Value.int))) (hY : h.1[py]? = some (.inl (0, Y.map Value.int))) (hXY : Y.length = X.length) (hn : X.length ≤ 1000) (g2 px2 py2 pb2 : Nat) (kd2 : Int32) (hg2 : h.1[g2]? = some (.inr (6, [.int kd2, .ref px2, .ref py2, .ref pb2]))) (hX2 : h.1[px2]? = some (.inl (0, X2.map Value.int))) (hY2 : h.1[py2]? = some (.inl (0, Y2.map Value.int))) (hXY2 : Y2.length = X2.length) (hn2 : X2.length ≤ 1000) (hj : zIx j X.length) (hk : zIx k X2.length) (hlo : 83 ≤ lo) : zRun (fr + 2) lo none M_Ge_sideMeets (176, [(9, .int (f_Ge_turn X2 Y2 k (gI X (f_Ge_end X j)) (gI Y (f_Ge_end X j)))), (8, .int (f_Ge_turn X2 Y2 k (gI X j) (gI Y j))), (7, .int (f_Ge_turn X Y j (gI X2 (f_Ge_end X2 k)) (gI Y2 (f_Ge_end X2 k)))), (6, .int (f_Ge_turn X Y j (gI X2 k) (gI Y2 k))), (5, .int (f_Ge_end X2 k)), (4, .int (f_Ge_end X j)), (0, .ref g), (1, .int j), (2, .ref g2), (3, .int k)], []) h (some (.int (f_Ge_sideMeets_176 X Y X2 Y2 j k)), h) := by
  unfold f_Ge_sideMeets_176
  refine zeN (q := ((181, [(9, .int (f_Ge_turn X2 Y2 k (gI X (f_Ge_end X j)) (gI Y (f_Ge_end X j)))), (8, .int (f_Ge_turn X2 Y2 k (gI X j) (gI Y j))), (7, .int (f_Ge_turn X Y j (gI X2 (f_Ge_end X2 k)) (gI Y2 (f_Ge_end X2 k)))), (6, .int (f_Ge_turn X Y j (gI X2 k) (gI Y2 k))), (5, .int (f_Ge_end X2 k)), (4, .int (f_Ge_end X j)), (0, .ref g), (1, .int j), (2, .ref g2), (3, .int k)], [.int 1]), h)) 2 rfl ?_
  exact zer rfl rfl
def f_Ge_sideMeets_145 (X Y X2 Y2 : List Int32) (j k : Int32) : Int32 := (bif zc .ne (f_Ge_turn X2 Y2 k (gI X j) (gI Y j)) 0 then (f_Ge_sideMeets_160 X Y X2 Y2 j k) else (bif zc .ne (f_Ge_isBeside X2 Y2 X Y k j) 0 then (f_Ge_sideMeets_176 X Y X2 Y2 j k) else (f_Ge_sideMeets_160 X Y X2 Y2 j k)))
theorem b_Ge_sideMeets_145 (X Y X2 Y2 : List Int32) (j k : Int32) : zB (f_Ge_sideMeets_145 X Y X2 Y2 j k) := by unfold f_Ge_sideMeets_145; exact (zbi (b_Ge_sideMeets_160 X Y X2 Y2 j k) (zbi (b_Ge_sideMeets_176 X Y X2 Y2 j k) (b_Ge_sideMeets_160 X Y X2 Y2 j k)))
theorem s_Ge_sideMeets_145 {fr lo : Nat} {h : zH} (X Y X2 Y2 : List Int32) (j k : Int32) (g px py pb : Nat) (kd : Int32) (hg : h.1[g]? = some (.inr (6, [.int kd, .ref px, .ref py, .ref pb]))) (hX : h.1[px]? = some (.inl (0, X.map Value.int))) (hY : h.1[py]? = some (.inl (0, Y.map Value.int))) (hXY : Y.length = X.length) (hn : X.length ≤ 1000) (g2 px2 py2 pb2 : Nat) (kd2 : Int32) (hg2 : h.1[g2]? = some (.inr (6, [.int kd2, .ref px2, .ref py2, .ref pb2]))) (hX2 : h.1[px2]? = some (.inl (0, X2.map Value.int))) (hY2 : h.1[py2]? = some (.inl (0, Y2.map Value.int))) (hXY2 : Y2.length = X2.length) (hn2 : X2.length ≤ 1000) (hj : zIx j X.length) (hk : zIx k X2.length) (hlo : 83 ≤ lo) : zRun (fr + 2) lo none M_Ge_sideMeets (145, [(9, .int (f_Ge_turn X2 Y2 k (gI X (f_Ge_end X j)) (gI Y (f_Ge_end X j)))), (8, .int (f_Ge_turn X2 Y2 k (gI X j) (gI Y j))), (7, .int (f_Ge_turn X Y j (gI X2 (f_Ge_end X2 k)) (gI Y2 (f_Ge_end X2 k)))), (6, .int (f_Ge_turn X Y j (gI X2 k) (gI Y2 k))), (5, .int (f_Ge_end X2 k)), (4, .int (f_Ge_end X j)), (0, .ref g), (1, .int j), (2, .ref g2), (3, .int k)], []) h (some (.int (f_Ge_sideMeets_145 X Y X2 Y2 j k)), h) := by
  unfold f_Ge_sideMeets_145
  refine zeN (q := ((147, [(9, .int (f_Ge_turn X2 Y2 k (gI X (f_Ge_end X j)) (gI Y (f_Ge_end X j)))), (8, .int (f_Ge_turn X2 Y2 k (gI X j) (gI Y j))), (7, .int (f_Ge_turn X Y j (gI X2 (f_Ge_end X2 k)) (gI Y2 (f_Ge_end X2 k)))), (6, .int (f_Ge_turn X Y j (gI X2 k) (gI Y2 k))), (5, .int (f_Ge_end X2 k)), (4, .int (f_Ge_end X j)), (0, .ref g), (1, .int j), (2, .ref g2), (3, .int k)], [.int (f_Ge_turn X2 Y2 k (gI X j) (gI Y j))]), h)) 1 rfl ?_
  refine zbc (q1 := (160, [(9, .int (f_Ge_turn X2 Y2 k (gI X (f_Ge_end X j)) (gI Y (f_Ge_end X j)))), (8, .int (f_Ge_turn X2 Y2 k (gI X j) (gI Y j))), (7, .int (f_Ge_turn X Y j (gI X2 (f_Ge_end X2 k)) (gI Y2 (f_Ge_end X2 k)))), (6, .int (f_Ge_turn X Y j (gI X2 k) (gI Y2 k))), (5, .int (f_Ge_end X2 k)), (4, .int (f_Ge_end X j)), (0, .ref g), (1, .int j), (2, .ref g2), (3, .int k)], [])) (q2 := (150, [(9, .int (f_Ge_turn X2 Y2 k (gI X (f_Ge_end X j)) (gI Y (f_Ge_end X j)))), (8, .int (f_Ge_turn X2 Y2 k (gI X j) (gI Y j))), (7, .int (f_Ge_turn X Y j (gI X2 (f_Ge_end X2 k)) (gI Y2 (f_Ge_end X2 k)))), (6, .int (f_Ge_turn X Y j (gI X2 k) (gI Y2 k))), (5, .int (f_Ge_end X2 k)), (4, .int (f_Ge_end X j)), (0, .ref g), (1, .int j), (2, .ref g2), (3, .int k)], [])) (cB := zc .ne (f_Ge_turn X2 Y2 k (gI X j) (gI Y j)) 0) (off := 13) (lv := [(9, .int (f_Ge_turn X2 Y2 k (gI X (f_Ge_end X j)) (gI Y (f_Ge_end X j)))), (8, .int (f_Ge_turn X2 Y2 k (gI X j) (gI Y j))), (7, .int (f_Ge_turn X Y j (gI X2 (f_Ge_end X2 k)) (gI Y2 (f_Ge_end X2 k)))), (6, .int (f_Ge_turn X Y j (gI X2 k) (gI Y2 k))), (5, .int (f_Ge_end X2 k)), (4, .int (f_Ge_end X j)), (0, .ref g), (1, .int j), (2, .ref g2), (3, .int k)]) (st := []) rfl rfl rfl rfl rfl (fun c147 => ?_) (fun c147 => ?_)
  · rw [c147]
    exact s_Ge_sideMeets_160 X Y X2 Y2 j k g px py pb kd hg hX hY hXY hn g2 px2 py2 pb2 kd2 hg2 hX2 hY2 hXY2 hn2 hj hk (by omega)
  · rw [c147]
    refine zeN (q := ((154, [(9, .int (f_Ge_turn X2 Y2 k (gI X (f_Ge_end X j)) (gI Y (f_Ge_end X j)))), (8, .int (f_Ge_turn X2 Y2 k (gI X j) (gI Y j))), (7, .int (f_Ge_turn X Y j (gI X2 (f_Ge_end X2 k)) (gI Y2 (f_Ge_end X2 k)))), (6, .int (f_Ge_turn X Y j (gI X2 k) (gI Y2 k))), (5, .int (f_Ge_end X2 k)), (4, .int (f_Ge_end X j)), (0, .ref g), (1, .int j), (2, .ref g2), (3, .int k)], [.int j, .ref g, .int k, .ref g2]), h)) 4 rfl ?_
    refine zec 1 (M' := M_Ge_isBeside) (qq := ([.ref g2, .int k, .ref g, .int j], [])) (s' := (157, [(9, .int (f_Ge_turn X2 Y2 k (gI X (f_Ge_end X j)) (gI Y (f_Ge_end X j)))), (8, .int (f_Ge_turn X2 Y2 k (gI X j) (gI Y j))), (7, .int (f_Ge_turn X Y j (gI X2 (f_Ge_end X2 k)) (gI Y2 (f_Ge_end X2 k)))), (6, .int (f_Ge_turn X Y j (gI X2 k) (gI Y2 k))), (5, .int (f_Ge_end X2 k)), (4, .int (f_Ge_end X j)), (0, .ref g), (1, .int j), (2, .ref g2), (3, .int k)], [.int (f_Ge_isBeside X2 Y2 X Y k j)])) rfl rfl (fun _ => rfl) rfl rfl (zhk rfl (zrc_ok hg2) rfl) (s_Ge_isBeside X2 Y2 X Y k j g2 px2 py2 pb2 kd2 hg2 hX2 hY2 hXY2 hn2 g px py pb kd hg hX hY hXY hn hk hj (by omega)) rfl ?_
    refine zbc (q1 := (176, [(9, .int (f_Ge_turn X2 Y2 k (gI X (f_Ge_end X j)) (gI Y (f_Ge_end X j)))), (8, .int (f_Ge_turn X2 Y2 k (gI X j) (gI Y j))), (7, .int (f_Ge_turn X Y j (gI X2 (f_Ge_end X2 k)) (gI Y2 (f_Ge_end X2 k)))), (6, .int (f_Ge_turn X Y j (gI X2 k) (gI Y2 k))), (5, .int (f_Ge_end X2 k)), (4, .int (f_Ge_end X j)), (0, .ref g), (1, .int j), (2, .ref g2), (3, .int k)], [])) (q2 := (160, [(9, .int (f_Ge_turn X2 Y2 k (gI X (f_Ge_end X j)) (gI Y (f_Ge_end X j)))), (8, .int (f_Ge_turn X2 Y2 k (gI X j) (gI Y j))), (7, .int (f_Ge_turn X Y j (gI X2 (f_Ge_end X2 k)) (gI Y2 (f_Ge_end X2 k)))), (6, .int (f_Ge_turn X Y j (gI X2 k) (gI Y2 k))), (5, .int (f_Ge_end X2 k)), (4, .int (f_Ge_end X j)), (0, .ref g), (1, .int j), (2, .ref g2), (3, .int k)], [])) (cB := zc .ne (f_Ge_isBeside X2 Y2 X Y k j) 0) (off := 19) (lv := [(9, .int (f_Ge_turn X2 Y2 k (gI X (f_Ge_end X j)) (gI Y (f_Ge_end X j)))), (8, .int (f_Ge_turn X2 Y2 k (gI X j) (gI Y j))), (7, .int (f_Ge_turn X Y j (gI X2 (f_Ge_end X2 k)) (gI Y2 (f_Ge_end X2 k)))), (6, .int (f_Ge_turn X Y j (gI X2 k) (gI Y2 k))), (5, .int (f_Ge_end X2 k)), (4, .int (f_Ge_end X j)), (0, .ref g), (1, .int j), (2, .ref g2), (3, .int k)]) (st := []) rfl rfl rfl rfl rfl (fun c157 => ?_) (fun c157 => ?_)
    · rw [c157]
      exact s_Ge_sideMeets_176 X Y X2 Y2 j k g px py pb kd hg hX hY hXY hn g2 px2 py2 pb2 kd2 hg2 hX2 hY2 hXY2 hn2 hj hk (by omega)
    · rw [c157]
      exact s_Ge_sideMeets_160 X Y X2 Y2 j k g px py pb kd hg hX hY hXY hn g2 px2 py2 pb2 kd2 hg2 hX2 hY2 hXY2 hn2 hj hk (by omega)
def f_Ge_sideMeets_129 (X Y X2 Y2 : List Int32) (j k : Int32) : Int32 := (bif zc .ne (f_Ge_turn X Y j (gI X2 (f_Ge_end X2 k)) (gI Y2 (f_Ge_end X2 k))) 0 then (f_Ge_sideMeets_145 X Y X2 Y2 j k) else (bif zc .ne (f_Ge_isBeside X Y X2 Y2 j (f_Ge_end X2 k)) 0 then (f_Ge_sideMeets_176 X Y X2 Y2 j k) else (f_Ge_sideMeets_145 X Y X2 Y2 j k)))
theorem b_Ge_sideMeets_129 (X Y X2 Y2 : List Int32) (j k : Int32) : zB (f_Ge_sideMeets_129 X Y X2 Y2 j k) := by unfold f_Ge_sideMeets_129; exact (zbi (b_Ge_sideMeets_145 X Y X2 Y2 j k) (zbi (b_Ge_sideMeets_176 X Y X2 Y2 j k) (b_Ge_sideMeets_145 X Y X2 Y2 j k)))
theorem s_Ge_sideMeets_129 {fr lo : Nat} {h : zH} (X Y X2 Y2 : List Int32) (j k : Int32) (g px py pb : Nat) (kd : Int32) (hg : h.1[g]? = some (.inr (6, [.int kd, .ref px, .ref py, .ref pb]))) (hX : h.1[px]? = some (.inl (0, X.map Value.int))) (hY : h.1[py]? = some (.inl (0, Y.map Value.int))) (hXY : Y.length = X.length) (hn : X.length ≤ 1000) (g2 px2 py2 pb2 : Nat) (kd2 : Int32) (hg2 : h.1[g2]? = some (.inr (6, [.int kd2, .ref px2, .ref py2, .ref pb2]))) (hX2 : h.1[px2]? = some (.inl (0, X2.map Value.int))) (hY2 : h.1[py2]? = some (.inl (0, Y2.map Value.int))) (hXY2 : Y2.length = X2.length) (hn2 : X2.length ≤ 1000) (hj : zIx j X.length) (hk : zIx k X2.length) (hlo : 83 ≤ lo) : zRun (fr + 2) lo none M_Ge_sideMeets (129, [(9, .int (f_Ge_turn X2 Y2 k (gI X (f_Ge_end X j)) (gI Y (f_Ge_end X j)))), (8, .int (f_Ge_turn X2 Y2 k (gI X j) (gI Y j))), (7, .int (f_Ge_turn X Y j (gI X2 (f_Ge_end X2 k)) (gI Y2 (f_Ge_end X2 k)))), (6, .int (f_Ge_turn X Y j (gI X2 k) (gI Y2 k))), (5, .int (f_Ge_end X2 k)), (4, .int (f_Ge_end X j)), (0, .ref g), (1, .int j), (2, .ref g2), (3, .int k)], []) h (some (.int (f_Ge_sideMeets_129 X Y X2 Y2 j k)), h) := by
  unfold f_Ge_sideMeets_129
  refine zeN (q := ((131, [(9, .int (f_Ge_turn X2 Y2 k (gI X (f_Ge_end X j)) (gI Y (f_Ge_end X j)))), (8, .int (f_Ge_turn X2 Y2 k (gI X j) (gI Y j))), (7, .int (f_Ge_turn X Y j (gI X2 (f_Ge_end X2 k)) (gI Y2 (f_Ge_end X2 k)))), (6, .int (f_Ge_turn X Y j (gI X2 k) (gI Y2 k))), (5, .int (f_Ge_end X2 k)), (4, .int (f_Ge_end X j)), (0, .ref g), (1, .int j), (2, .ref g2), (3, .int k)], [.int (f_Ge_turn X Y j (gI X2 (f_Ge_end X2 k)) (gI Y2 (f_Ge_end X2 k)))]), h)) 1 rfl ?_
  refine zbc (q1 := (145, [(9, .int (f_Ge_turn X2 Y2 k (gI X (f_Ge_end X j)) (gI Y (f_Ge_end X j)))), (8, .int (f_Ge_turn X2 Y2 k (gI X j) (gI Y j))), (7, .int (f_Ge_turn X Y j (gI X2 (f_Ge_end X2 k)) (gI Y2 (f_Ge_end X2 k)))), (6, .int (f_Ge_turn X Y j (gI X2 k) (gI Y2 k))), (5, .int (f_Ge_end X2 k)), (4, .int (f_Ge_end X j)), (0, .ref g), (1, .int j), (2, .ref g2), (3, .int k)], [])) (q2 := (134, [(9, .int (f_Ge_turn X2 Y2 k (gI X (f_Ge_end X j)) (gI Y (f_Ge_end X j)))), (8, .int (f_Ge_turn X2 Y2 k (gI X j) (gI Y j))), (7, .int (f_Ge_turn X Y j (gI X2 (f_Ge_end X2 k)) (gI Y2 (f_Ge_end X2 k)))), (6, .int (f_Ge_turn X Y j (gI X2 k) (gI Y2 k))), (5, .int (f_Ge_end X2 k)), (4, .int (f_Ge_end X j)), (0, .ref g), (1, .int j), (2, .ref g2), (3, .int k)], [])) (cB := zc .ne (f_Ge_turn X Y j (gI X2 (f_Ge_end X2 k)) (gI Y2 (f_Ge_end X2 k))) 0) (off := 14) (lv := [(9, .int (f_Ge_turn X2 Y2 k (gI X (f_Ge_end X j)) (gI Y (f_Ge_end X j)))), (8, .int (f_Ge_turn X2 Y2 k (gI X j) (gI Y j))), (7, .int (f_Ge_turn X Y j (gI X2 (f_Ge_end X2 k)) (gI Y2 (f_Ge_end X2 k)))), (6, .int (f_Ge_turn X Y j (gI X2 k) (gI Y2 k))), (5, .int (f_Ge_end X2 k)), (4, .int (f_Ge_end X j)), (0, .ref g), (1, .int j), (2, .ref g2), (3, .int k)]) (st := []) rfl rfl rfl rfl rfl (fun c131 => ?_) (fun c131 => ?_)
  · rw [c131]
    exact s_Ge_sideMeets_145 X Y X2 Y2 j k g px py pb kd hg hX hY hXY hn g2 px2 py2 pb2 kd2 hg2 hX2 hY2 hXY2 hn2 hj hk (by omega)
  · rw [c131]
    refine zeN (q := ((139, [(9, .int (f_Ge_turn X2 Y2 k (gI X (f_Ge_end X j)) (gI Y (f_Ge_end X j)))), (8, .int (f_Ge_turn X2 Y2 k (gI X j) (gI Y j))), (7, .int (f_Ge_turn X Y j (gI X2 (f_Ge_end X2 k)) (gI Y2 (f_Ge_end X2 k)))), (6, .int (f_Ge_turn X Y j (gI X2 k) (gI Y2 k))), (5, .int (f_Ge_end X2 k)), (4, .int (f_Ge_end X j)), (0, .ref g), (1, .int j), (2, .ref g2), (3, .int k)], [.int (f_Ge_end X2 k), .ref g2, .int j, .ref g]), h)) 4 rfl ?_
    refine zec 1 (M' := M_Ge_isBeside) (qq := ([.ref g, .int j, .ref g2, .int (f_Ge_end X2 k)], [])) (s' := (142, [(9, .int (f_Ge_turn X2 Y2 k (gI X (f_Ge_end X j)) (gI Y (f_Ge_end X j)))), (8, .int (f_Ge_turn X2 Y2 k (gI X j) (gI Y j))), (7, .int (f_Ge_turn X Y j (gI X2 (f_Ge_end X2 k)) (gI Y2 (f_Ge_end X2 k)))), (6, .int (f_Ge_turn X Y j (gI X2 k) (gI Y2 k))), (5, .int (f_Ge_end X2 k)), (4, .int (f_Ge_end X j)), (0, .ref g), (1, .int j), (2, .ref g2), (3, .int k)], [.int (f_Ge_isBeside X Y X2 Y2 j (f_Ge_end X2 k))])) rfl rfl (fun _ => rfl) rfl rfl (zhk rfl (zrc_ok hg) rfl) (s_Ge_isBeside X Y X2 Y2 j (f_Ge_end X2 k) g px py pb kd hg hX hY hXY hn g2 px2 py2 pb2 kd2 hg2 hX2 hY2 hXY2 hn2 hj (zIx_end hn2 hk) (by omega)) rfl ?_
    refine zbc (q1 := (176, [(9, .int (f_Ge_turn X2 Y2 k (gI X (f_Ge_end X j)) (gI Y (f_Ge_end X j)))), (8, .int (f_Ge_turn X2 Y2 k (gI X j) (gI Y j))), (7, .int (f_Ge_turn X Y j (gI X2 (f_Ge_end X2 k)) (gI Y2 (f_Ge_end X2 k)))), (6, .int (f_Ge_turn X Y j (gI X2 k) (gI Y2 k))), (5, .int (f_Ge_end X2 k)), (4, .int (f_Ge_end X j)), (0, .ref g), (1, .int j), (2, .ref g2), (3, .int k)], [])) (q2 := (145, [(9, .int (f_Ge_turn X2 Y2 k (gI X (f_Ge_end X j)) (gI Y (f_Ge_end X j)))), (8, .int (f_Ge_turn X2 Y2 k (gI X j) (gI Y j))), (7, .int (f_Ge_turn X Y j (gI X2 (f_Ge_end X2 k)) (gI Y2 (f_Ge_end X2 k)))), (6, .int (f_Ge_turn X Y j (gI X2 k) (gI Y2 k))), (5, .int (f_Ge_end X2 k)), (4, .int (f_Ge_end X j)), (0, .ref g), (1, .int j), (2, .ref g2), (3, .int k)], [])) (cB := zc .ne (f_Ge_isBeside X Y X2 Y2 j (f_Ge_end X2 k)) 0) (off := 34) (lv := [(9, .int (f_Ge_turn X2 Y2 k (gI X (f_Ge_end X j)) (gI Y (f_Ge_end X j)))), (8, .int (f_Ge_turn X2 Y2 k (gI X j) (gI Y j))), (7, .int (f_Ge_turn X Y j (gI X2 (f_Ge_end X2 k)) (gI Y2 (f_Ge_end X2 k)))), (6, .int (f_Ge_turn X Y j (gI X2 k) (gI Y2 k))), (5, .int (f_Ge_end X2 k)), (4, .int (f_Ge_end X j)), (0, .ref g), (1, .int j), (2, .ref g2), (3, .int k)]) (st := []) rfl rfl rfl rfl rfl (fun c142 => ?_) (fun c142 => ?_)
    · rw [c142]
      exact s_Ge_sideMeets_176 X Y X2 Y2 j k g px py pb kd hg hX hY hXY hn g2 px2 py2 pb2 kd2 hg2 hX2 hY2 hXY2 hn2 hj hk (by omega)
    · rw [c142]
      exact s_Ge_sideMeets_145 X Y X2 Y2 j k g px py pb kd hg hX hY hXY hn g2 px2 py2 pb2 kd2 hg2 hX2 hY2 hXY2 hn2 hj hk (by omega)
def f_Ge_sideMeets_114 (X Y X2 Y2 : List Int32) (j k : Int32) : Int32 := (bif zc .ne (f_Ge_turn X Y j (gI X2 k) (gI Y2 k)) 0 then (f_Ge_sideMeets_129 X Y X2 Y2 j k) else (bif zc .ne (f_Ge_isBeside X Y X2 Y2 j k) 0 then (f_Ge_sideMeets_176 X Y X2 Y2 j k) else (f_Ge_sideMeets_129 X Y X2 Y2 j k)))
theorem b_Ge_sideMeets_114 (X Y X2 Y2 : List Int32) (j k : Int32) : zB (f_Ge_sideMeets_114 X Y X2 Y2 j k) := by unfold f_Ge_sideMeets_114; exact (zbi (b_Ge_sideMeets_129 X Y X2 Y2 j k) (zbi (b_Ge_sideMeets_176 X Y X2 Y2 j k) (b_Ge_sideMeets_129 X Y X2 Y2 j k)))
theorem s_Ge_sideMeets_114 {fr lo : Nat} {h : zH} (X Y X2 Y2 : List Int32) (j k : Int32) (g px py pb : Nat) (kd : Int32) (hg : h.1[g]? = some (.inr (6, [.int kd, .ref px, .ref py, .ref pb]))) (hX : h.1[px]? = some (.inl (0, X.map Value.int))) (hY : h.1[py]? = some (.inl (0, Y.map Value.int))) (hXY : Y.length = X.length) (hn : X.length ≤ 1000) (g2 px2 py2 pb2 : Nat) (kd2 : Int32) (hg2 : h.1[g2]? = some (.inr (6, [.int kd2, .ref px2, .ref py2, .ref pb2]))) (hX2 : h.1[px2]? = some (.inl (0, X2.map Value.int))) (hY2 : h.1[py2]? = some (.inl (0, Y2.map Value.int))) (hXY2 : Y2.length = X2.length) (hn2 : X2.length ≤ 1000) (hj : zIx j X.length) (hk : zIx k X2.length) (hlo : 83 ≤ lo) : zRun (fr + 2) lo none M_Ge_sideMeets (114, [(9, .int (f_Ge_turn X2 Y2 k (gI X (f_Ge_end X j)) (gI Y (f_Ge_end X j)))), (8, .int (f_Ge_turn X2 Y2 k (gI X j) (gI Y j))), (7, .int (f_Ge_turn X Y j (gI X2 (f_Ge_end X2 k)) (gI Y2 (f_Ge_end X2 k)))), (6, .int (f_Ge_turn X Y j (gI X2 k) (gI Y2 k))), (5, .int (f_Ge_end X2 k)), (4, .int (f_Ge_end X j)), (0, .ref g), (1, .int j), (2, .ref g2), (3, .int k)], []) h (some (.int (f_Ge_sideMeets_114 X Y X2 Y2 j k)), h) := by
  unfold f_Ge_sideMeets_114
  refine zeN (q := ((116, [(9, .int (f_Ge_turn X2 Y2 k (gI X (f_Ge_end X j)) (gI Y (f_Ge_end X j)))), (8, .int (f_Ge_turn X2 Y2 k (gI X j) (gI Y j))), (7, .int (f_Ge_turn X Y j (gI X2 (f_Ge_end X2 k)) (gI Y2 (f_Ge_end X2 k)))), (6, .int (f_Ge_turn X Y j (gI X2 k) (gI Y2 k))), (5, .int (f_Ge_end X2 k)), (4, .int (f_Ge_end X j)), (0, .ref g), (1, .int j), (2, .ref g2), (3, .int k)], [.int (f_Ge_turn X Y j (gI X2 k) (gI Y2 k))]), h)) 1 rfl ?_
  refine zbc (q1 := (129, [(9, .int (f_Ge_turn X2 Y2 k (gI X (f_Ge_end X j)) (gI Y (f_Ge_end X j)))), (8, .int (f_Ge_turn X2 Y2 k (gI X j) (gI Y j))), (7, .int (f_Ge_turn X Y j (gI X2 (f_Ge_end X2 k)) (gI Y2 (f_Ge_end X2 k)))), (6, .int (f_Ge_turn X Y j (gI X2 k) (gI Y2 k))), (5, .int (f_Ge_end X2 k)), (4, .int (f_Ge_end X j)), (0, .ref g), (1, .int j), (2, .ref g2), (3, .int k)], [])) (q2 := (119, [(9, .int (f_Ge_turn X2 Y2 k (gI X (f_Ge_end X j)) (gI Y (f_Ge_end X j)))), (8, .int (f_Ge_turn X2 Y2 k (gI X j) (gI Y j))), (7, .int (f_Ge_turn X Y j (gI X2 (f_Ge_end X2 k)) (gI Y2 (f_Ge_end X2 k)))), (6, .int (f_Ge_turn X Y j (gI X2 k) (gI Y2 k))), (5, .int (f_Ge_end X2 k)), (4, .int (f_Ge_end X j)), (0, .ref g), (1, .int j), (2, .ref g2), (3, .int k)], [])) (cB := zc .ne (f_Ge_turn X Y j (gI X2 k) (gI Y2 k)) 0) (off := 13) (lv := [(9, .int (f_Ge_turn X2 Y2 k (gI X (f_Ge_end X j)) (gI Y (f_Ge_end X j)))), (8, .int (f_Ge_turn X2 Y2 k (gI X j) (gI Y j))), (7, .int (f_Ge_turn X Y j (gI X2 (f_Ge_end X2 k)) (gI Y2 (f_Ge_end X2 k)))), (6, .int (f_Ge_turn X Y j (gI X2 k) (gI Y2 k))), (5, .int (f_Ge_end X2 k)), (4, .int (f_Ge_end X j)), (0, .ref g), (1, .int j), (2, .ref g2), (3, .int k)]) (st := []) rfl rfl rfl rfl rfl (fun c116 => ?_) (fun c116 => ?_)
  · rw [c116]
    exact s_Ge_sideMeets_129 X Y X2 Y2 j k g px py pb kd hg hX hY hXY hn g2 px2 py2 pb2 kd2 hg2 hX2 hY2 hXY2 hn2 hj hk (by omega)
  · rw [c116]
    refine zeN (q := ((123, [(9, .int (f_Ge_turn X2 Y2 k (gI X (f_Ge_end X j)) (gI Y (f_Ge_end X j)))), (8, .int (f_Ge_turn X2 Y2 k (gI X j) (gI Y j))), (7, .int (f_Ge_turn X Y j (gI X2 (f_Ge_end X2 k)) (gI Y2 (f_Ge_end X2 k)))), (6, .int (f_Ge_turn X Y j (gI X2 k) (gI Y2 k))), (5, .int (f_Ge_end X2 k)), (4, .int (f_Ge_end X j)), (0, .ref g), (1, .int j), (2, .ref g2), (3, .int k)], [.int k, .ref g2, .int j, .ref g]), h)) 4 rfl ?_
    refine zec 1 (M' := M_Ge_isBeside) (qq := ([.ref g, .int j, .ref g2, .int k], [])) (s' := (126, [(9, .int (f_Ge_turn X2 Y2 k (gI X (f_Ge_end X j)) (gI Y (f_Ge_end X j)))), (8, .int (f_Ge_turn X2 Y2 k (gI X j) (gI Y j))), (7, .int (f_Ge_turn X Y j (gI X2 (f_Ge_end X2 k)) (gI Y2 (f_Ge_end X2 k)))), (6, .int (f_Ge_turn X Y j (gI X2 k) (gI Y2 k))), (5, .int (f_Ge_end X2 k)), (4, .int (f_Ge_end X j)), (0, .ref g), (1, .int j), (2, .ref g2), (3, .int k)], [.int (f_Ge_isBeside X Y X2 Y2 j k)])) rfl rfl (fun _ => rfl) rfl rfl (zhk rfl (zrc_ok hg) rfl) (s_Ge_isBeside X Y X2 Y2 j k g px py pb kd hg hX hY hXY hn g2 px2 py2 pb2 kd2 hg2 hX2 hY2 hXY2 hn2 hj hk (by omega)) rfl ?_
    refine zbc (q1 := (176, [(9, .int (f_Ge_turn X2 Y2 k (gI X (f_Ge_end X j)) (gI Y (f_Ge_end X j)))), (8, .int (f_Ge_turn X2 Y2 k (gI X j) (gI Y j))), (7, .int (f_Ge_turn X Y j (gI X2 (f_Ge_end X2 k)) (gI Y2 (f_Ge_end X2 k)))), (6, .int (f_Ge_turn X Y j (gI X2 k) (gI Y2 k))), (5, .int (f_Ge_end X2 k)), (4, .int (f_Ge_end X j)), (0, .ref g), (1, .int j), (2, .ref g2), (3, .int k)], [])) (q2 := (129, [(9, .int (f_Ge_turn X2 Y2 k (gI X (f_Ge_end X j)) (gI Y (f_Ge_end X j)))), (8, .int (f_Ge_turn X2 Y2 k (gI X j) (gI Y j))), (7, .int (f_Ge_turn X Y j (gI X2 (f_Ge_end X2 k)) (gI Y2 (f_Ge_end X2 k)))), (6, .int (f_Ge_turn X Y j (gI X2 k) (gI Y2 k))), (5, .int (f_Ge_end X2 k)), (4, .int (f_Ge_end X j)), (0, .ref g), (1, .int j), (2, .ref g2), (3, .int k)], [])) (cB := zc .ne (f_Ge_isBeside X Y X2 Y2 j k) 0) (off := 50) (lv := [(9, .int (f_Ge_turn X2 Y2 k (gI X (f_Ge_end X j)) (gI Y (f_Ge_end X j)))), (8, .int (f_Ge_turn X2 Y2 k (gI X j) (gI Y j))), (7, .int (f_Ge_turn X Y j (gI X2 (f_Ge_end X2 k)) (gI Y2 (f_Ge_end X2 k)))), (6, .int (f_Ge_turn X Y j (gI X2 k) (gI Y2 k))), (5, .int (f_Ge_end X2 k)), (4, .int (f_Ge_end X j)), (0, .ref g), (1, .int j), (2, .ref g2), (3, .int k)]) (st := []) rfl rfl rfl rfl rfl (fun c126 => ?_) (fun c126 => ?_)
    · rw [c126]
      exact s_Ge_sideMeets_176 X Y X2 Y2 j k g px py pb kd hg hX hY hXY hn g2 px2 py2 pb2 kd2 hg2 hX2 hY2 hXY2 hn2 hj hk (by omega)
    · rw [c126]
      exact s_Ge_sideMeets_129 X Y X2 Y2 j k g px py pb kd hg hX hY hXY hn g2 px2 py2 pb2 kd2 hg2 hX2 hY2 hXY2 hn2 hj hk (by omega)
def f_Ge_sideMeets (X Y X2 Y2 : List Int32) (j k : Int32) : Int32 := (bif zc .eq (f_Ge_areOpposite (f_Ge_turn X Y j (gI X2 k) (gI Y2 k)) (f_Ge_turn X Y j (gI X2 (f_Ge_end X2 k)) (gI Y2 (f_Ge_end X2 k)))) 0 then (f_Ge_sideMeets_114 X Y X2 Y2 j k) else (bif zc .ne (f_Ge_areOpposite (f_Ge_turn X2 Y2 k (gI X j) (gI Y j)) (f_Ge_turn X2 Y2 k (gI X (f_Ge_end X j)) (gI Y (f_Ge_end X j)))) 0 then (f_Ge_sideMeets_176 X Y X2 Y2 j k) else (f_Ge_sideMeets_114 X Y X2 Y2 j k)))
theorem b_Ge_sideMeets (X Y X2 Y2 : List Int32) (j k : Int32) : zB (f_Ge_sideMeets X Y X2 Y2 j k) := by unfold f_Ge_sideMeets; exact (zbi (b_Ge_sideMeets_114 X Y X2 Y2 j k) (zbi (b_Ge_sideMeets_176 X Y X2 Y2 j k) (b_Ge_sideMeets_114 X Y X2 Y2 j k)))
theorem s_Ge_sideMeets {fr lo : Nat} {h : zH} (X Y X2 Y2 : List Int32) (j k : Int32) (g px py pb : Nat) (kd : Int32) (hg : h.1[g]? = some (.inr (6, [.int kd, .ref px, .ref py, .ref pb]))) (hX : h.1[px]? = some (.inl (0, X.map Value.int))) (hY : h.1[py]? = some (.inl (0, Y.map Value.int))) (hXY : Y.length = X.length) (hn : X.length ≤ 1000) (g2 px2 py2 pb2 : Nat) (kd2 : Int32) (hg2 : h.1[g2]? = some (.inr (6, [.int kd2, .ref px2, .ref py2, .ref pb2]))) (hX2 : h.1[px2]? = some (.inl (0, X2.map Value.int))) (hY2 : h.1[py2]? = some (.inl (0, Y2.map Value.int))) (hXY2 : Y2.length = X2.length) (hn2 : X2.length ≤ 1000) (hj : zIx j X.length) (hk : zIx k X2.length) (hlo : 112 ≤ lo) : zAns (fr + 3) lo 24 [.ref g, .int j, .ref g2, .int k] h (some (.int (f_Ge_sideMeets X Y X2 Y2 j k)), h) := by
  unfold f_Ge_sideMeets
  refine zeb (fr := fr + 2) (M := M_Ge_sideMeets) rfl (Nat.le_trans (by decide) hlo) rfl ?_
  have e0 : mL M_Ge_sideMeets = 10 := rfl
  refine zeN (q := ((2, [(0, .ref g), (1, .int j), (2, .ref g2), (3, .int k)], [.int j, .ref g]), h)) 2 rfl ?_
  refine zec 1 (M' := M_Ge_end) (qq := ([.ref g, .int j], [])) (s' := (5, [(0, .ref g), (1, .int j), (2, .ref g2), (3, .int k)], [.int (f_Ge_end X j)])) rfl rfl (fun _ => rfl) rfl rfl (zhk rfl (zrc_ok hg) rfl) (s_Ge_end X j g px py pb kd hg hX  (by omega)) rfl ?_
  refine zeN (q := ((9, [(4, .int (f_Ge_end X j)), (0, .ref g), (1, .int j), (2, .ref g2), (3, .int k)], [.int k, .ref g2]), h)) 3 rfl ?_
  refine zec 1 (M' := M_Ge_end) (qq := ([.ref g2, .int k], [])) (s' := (12, [(4, .int (f_Ge_end X j)), (0, .ref g), (1, .int j), (2, .ref g2), (3, .int k)], [.int (f_Ge_end X2 k)])) rfl rfl (fun _ => rfl) rfl rfl (zhk rfl (zrc_ok hg2) rfl) (s_Ge_end X2 k g2 px2 py2 pb2 kd2 hg2 hX2  (by omega)) rfl ?_
  refine zeN (q := ((17, [(5, .int (f_Ge_end X2 k)), (4, .int (f_Ge_end X j)), (0, .ref g), (1, .int j), (2, .ref g2), (3, .int k)], [.ref g2, .int j, .ref g]), h)) 4 rfl ?_
  refine zegf (fs := [.int kd2, .ref px2, .ref py2, .ref pb2]) (v := .ref px2) rfl rfl rfl rfl hg2 rfl ?_
  refine zeN (q := ((21, [(5, .int (f_Ge_end X2 k)), (4, .int (f_Ge_end X j)), (0, .ref g), (1, .int j), (2, .ref g2), (3, .int k)], [.int k, .ref px2, .int j, .ref g]), h)) 1 rfl ?_
  refine zeia (l := X2.map Value.int) (k := k.toNatClampNeg) (v := .int (gI X2 k)) rfl rfl hX2 (zIx_a hk) (zIx_b hk) ?_
  refine zeN (q := ((23, [(5, .int (f_Ge_end X2 k)), (4, .int (f_Ge_end X j)), (0, .ref g), (1, .int j), (2, .ref g2), (3, .int k)], [.ref g2, .int (gI X2 k), .int j, .ref g]), h)) 1 rfl ?_
  refine zegf (fs := [.int kd2, .ref px2, .ref py2, .ref pb2]) (v := .ref py2) rfl rfl rfl rfl hg2 rfl ?_
  refine zeN (q := ((27, [(5, .int (f_Ge_end X2 k)), (4, .int (f_Ge_end X j)), (0, .ref g), (1, .int j), (2, .ref g2), (3, .int k)], [.int k, .ref py2, .int (gI X2 k), .int j, .ref g]), h)) 1 rfl ?_
  refine zeia (l := Y2.map Value.int) (k := k.toNatClampNeg) (v := .int (gI Y2 k)) rfl rfl hY2 (zIx_a (zIx_s hk hXY2)) (zIx_b (zIx_s hk hXY2)) ?_
  refine zec 1 (M' := M_Ge_turn) (qq := ([.ref g, .int j, .int (gI X2 k), .int (gI Y2 k)], [])) (s' := (31, [(5, .int (f_Ge_end X2 k)), (4, .int (f_Ge_end X j)), (0, .ref g), (1, .int j), (2, .ref g2), (3, .int k)], [.int (f_Ge_turn X Y j (gI X2 k) (gI Y2 k))])) rfl rfl (fun _ => rfl) rfl rfl (zhk rfl (zrc_ok hg) rfl) (s_Ge_turn X Y j (gI X2 k) (gI Y2 k) g px py pb kd hg hX hY hXY hn hj (by omega)) rfl ?_
  refine zeN (q := ((36, [(6, .int (f_Ge_turn X Y j (gI X2 k) (gI Y2 k))), (5, .int (f_Ge_end X2 k)), (4, .int (f_Ge_end X j)), (0, .ref g), (1, .int j), (2, .ref g2), (3, .int k)], [.ref g2, .int j, .ref g]), h)) 4 rfl ?_
  refine zegf (fs := [.int kd2, .ref px2, .ref py2, .ref pb2]) (v := .ref px2) rfl rfl rfl rfl hg2 rfl ?_
  refine zeN (q := ((41, [(6, .int (f_Ge_turn X Y j (gI X2 k) (gI Y2 k))), (5, .int (f_Ge_end X2 k)), (4, .int (f_Ge_end X j)), (0, .ref g), (1, .int j), (2, .ref g2), (3, .int k)], [.int (f_Ge_end X2 k), .ref px2, .int j, .ref g]), h)) 1 rfl ?_
  refine zeia (l := X2.map Value.int) (k := (f_Ge_end X2 k).toNatClampNeg) (v := .int (gI X2 (f_Ge_end X2 k))) rfl rfl hX2 (zIx_a (zIx_end hn2 hk)) (zIx_b (zIx_end hn2 hk)) ?_
  refine zeN (q := ((43, [(6, .int (f_Ge_turn X Y j (gI X2 k) (gI Y2 k))), (5, .int (f_Ge_end X2 k)), (4, .int (f_Ge_end X j)), (0, .ref g), (1, .int j), (2, .ref g2), (3, .int k)], [.ref g2, .int (gI X2 (f_Ge_end X2 k)), .int j, .ref g]), h)) 1 rfl ?_
  refine zegf (fs := [.int kd2, .ref px2, .ref py2, .ref pb2]) (v := .ref py2) rfl rfl rfl rfl hg2 rfl ?_
  refine zeN (q := ((48, [(6, .int (f_Ge_turn X Y j (gI X2 k) (gI Y2 k))), (5, .int (f_Ge_end X2 k)), (4, .int (f_Ge_end X j)), (0, .ref g), (1, .int j), (2, .ref g2), (3, .int k)], [.int (f_Ge_end X2 k), .ref py2, .int (gI X2 (f_Ge_end X2 k)), .int j, .ref g]), h)) 1 rfl ?_
  refine zeia (l := Y2.map Value.int) (k := (f_Ge_end X2 k).toNatClampNeg) (v := .int (gI Y2 (f_Ge_end X2 k))) rfl rfl hY2 (zIx_a (zIx_s (zIx_end hn2 hk) hXY2)) (zIx_b (zIx_s (zIx_end hn2 hk) hXY2)) ?_
  refine zec 1 (M' := M_Ge_turn) (qq := ([.ref g, .int j, .int (gI X2 (f_Ge_end X2 k)), .int (gI Y2 (f_Ge_end X2 k))], [])) (s' := (52, [(6, .int (f_Ge_turn X Y j (gI X2 k) (gI Y2 k))), (5, .int (f_Ge_end X2 k)), (4, .int (f_Ge_end X j)), (0, .ref g), (1, .int j), (2, .ref g2), (3, .int k)], [.int (f_Ge_turn X Y j (gI X2 (f_Ge_end X2 k)) (gI Y2 (f_Ge_end X2 k)))])) rfl rfl (fun _ => rfl) rfl rfl (zhk rfl (zrc_ok hg) rfl) (s_Ge_turn X Y j (gI X2 (f_Ge_end X2 k)) (gI Y2 (f_Ge_end X2 k)) g px py pb kd hg hX hY hXY hn hj (by omega)) rfl ?_
  refine zeN (q := ((57, [(7, .int (f_Ge_turn X Y j (gI X2 (f_Ge_end X2 k)) (gI Y2 (f_Ge_end X2 k)))), (6, .int (f_Ge_turn X Y j (gI X2 k) (gI Y2 k))), (5, .int (f_Ge_end X2 k)), (4, .int (f_Ge_end X j)), (0, .ref g), (1, .int j), (2, .ref g2), (3, .int k)], [.ref g, .int k, .ref g2]), h)) 4 rfl ?_
  refine zegf (fs := [.int kd, .ref px, .ref py, .ref pb]) (v := .ref px) rfl rfl rfl rfl hg rfl ?_
  refine zeN (q := ((61, [(7, .int (f_Ge_turn X Y j (gI X2 (f_Ge_end X2 k)) (gI Y2 (f_Ge_end X2 k)))), (6, .int (f_Ge_turn X Y j (gI X2 k) (gI Y2 k))), (5, .int (f_Ge_end X2 k)), (4, .int (f_Ge_end X j)), (0, .ref g), (1, .int j), (2, .ref g2), (3, .int k)], [.int j, .ref px, .int k, .ref g2]), h)) 1 rfl ?_
  refine zeia (l := X.map Value.int) (k := j.toNatClampNeg) (v := .int (gI X j)) rfl rfl hX (zIx_a hj) (zIx_b hj) ?_
  refine zeN (q := ((63, [(7, .int (f_Ge_turn X Y j (gI X2 (f_Ge_end X2 k)) (gI Y2 (f_Ge_end X2 k)))), (6, .int (f_Ge_turn X Y j (gI X2 k) (gI Y2 k))), (5, .int (f_Ge_end X2 k)), (4, .int (f_Ge_end X j)), (0, .ref g), (1, .int j), (2, .ref g2), (3, .int k)], [.ref g, .int (gI X j), .int k, .ref g2]), h)) 1 rfl ?_
  refine zegf (fs := [.int kd, .ref px, .ref py, .ref pb]) (v := .ref py) rfl rfl rfl rfl hg rfl ?_
  refine zeN (q := ((67, [(7, .int (f_Ge_turn X Y j (gI X2 (f_Ge_end X2 k)) (gI Y2 (f_Ge_end X2 k)))), (6, .int (f_Ge_turn X Y j (gI X2 k) (gI Y2 k))), (5, .int (f_Ge_end X2 k)), (4, .int (f_Ge_end X j)), (0, .ref g), (1, .int j), (2, .ref g2), (3, .int k)], [.int j, .ref py, .int (gI X j), .int k, .ref g2]), h)) 1 rfl ?_
  refine zeia (l := Y.map Value.int) (k := j.toNatClampNeg) (v := .int (gI Y j)) rfl rfl hY (zIx_a (zIx_s hj hXY)) (zIx_b (zIx_s hj hXY)) ?_
  refine zec 1 (M' := M_Ge_turn) (qq := ([.ref g2, .int k, .int (gI X j), .int (gI Y j)], [])) (s' := (71, [(7, .int (f_Ge_turn X Y j (gI X2 (f_Ge_end X2 k)) (gI Y2 (f_Ge_end X2 k)))), (6, .int (f_Ge_turn X Y j (gI X2 k) (gI Y2 k))), (5, .int (f_Ge_end X2 k)), (4, .int (f_Ge_end X j)), (0, .ref g), (1, .int j), (2, .ref g2), (3, .int k)], [.int (f_Ge_turn X2 Y2 k (gI X j) (gI Y j))])) rfl rfl (fun _ => rfl) rfl rfl (zhk rfl (zrc_ok hg2) rfl) (s_Ge_turn X2 Y2 k (gI X j) (gI Y j) g2 px2 py2 pb2 kd2 hg2 hX2 hY2 hXY2 hn2 hk (by omega)) rfl ?_
  refine zeN (q := ((76, [(8, .int (f_Ge_turn X2 Y2 k (gI X j) (gI Y j))), (7, .int (f_Ge_turn X Y j (gI X2 (f_Ge_end X2 k)) (gI Y2 (f_Ge_end X2 k)))), (6, .int (f_Ge_turn X Y j (gI X2 k) (gI Y2 k))), (5, .int (f_Ge_end X2 k)), (4, .int (f_Ge_end X j)), (0, .ref g), (1, .int j), (2, .ref g2), (3, .int k)], [.ref g, .int k, .ref g2]), h)) 4 rfl ?_
  refine zegf (fs := [.int kd, .ref px, .ref py, .ref pb]) (v := .ref px) rfl rfl rfl rfl hg rfl ?_
  refine zeN (q := ((81, [(8, .int (f_Ge_turn X2 Y2 k (gI X j) (gI Y j))), (7, .int (f_Ge_turn X Y j (gI X2 (f_Ge_end X2 k)) (gI Y2 (f_Ge_end X2 k)))), (6, .int (f_Ge_turn X Y j (gI X2 k) (gI Y2 k))), (5, .int (f_Ge_end X2 k)), (4, .int (f_Ge_end X j)), (0, .ref g), (1, .int j), (2, .ref g2), (3, .int k)], [.int (f_Ge_end X j), .ref px, .int k, .ref g2]), h)) 1 rfl ?_
  refine zeia (l := X.map Value.int) (k := (f_Ge_end X j).toNatClampNeg) (v := .int (gI X (f_Ge_end X j))) rfl rfl hX (zIx_a (zIx_end hn hj)) (zIx_b (zIx_end hn hj)) ?_
  refine zeN (q := ((83, [(8, .int (f_Ge_turn X2 Y2 k (gI X j) (gI Y j))), (7, .int (f_Ge_turn X Y j (gI X2 (f_Ge_end X2 k)) (gI Y2 (f_Ge_end X2 k)))), (6, .int (f_Ge_turn X Y j (gI X2 k) (gI Y2 k))), (5, .int (f_Ge_end X2 k)), (4, .int (f_Ge_end X j)), (0, .ref g), (1, .int j), (2, .ref g2), (3, .int k)], [.ref g, .int (gI X (f_Ge_end X j)), .int k, .ref g2]), h)) 1 rfl ?_
  refine zegf (fs := [.int kd, .ref px, .ref py, .ref pb]) (v := .ref py) rfl rfl rfl rfl hg rfl ?_
  refine zeN (q := ((88, [(8, .int (f_Ge_turn X2 Y2 k (gI X j) (gI Y j))), (7, .int (f_Ge_turn X Y j (gI X2 (f_Ge_end X2 k)) (gI Y2 (f_Ge_end X2 k)))), (6, .int (f_Ge_turn X Y j (gI X2 k) (gI Y2 k))), (5, .int (f_Ge_end X2 k)), (4, .int (f_Ge_end X j)), (0, .ref g), (1, .int j), (2, .ref g2), (3, .int k)], [.int (f_Ge_end X j), .ref py, .int (gI X (f_Ge_end X j)), .int k, .ref g2]), h)) 1 rfl ?_
  refine zeia (l := Y.map Value.int) (k := (f_Ge_end X j).toNatClampNeg) (v := .int (gI Y (f_Ge_end X j))) rfl rfl hY (zIx_a (zIx_s (zIx_end hn hj) hXY)) (zIx_b (zIx_s (zIx_end hn hj) hXY)) ?_
  refine zec 1 (M' := M_Ge_turn) (qq := ([.ref g2, .int k, .int (gI X (f_Ge_end X j)), .int (gI Y (f_Ge_end X j))], [])) (s' := (92, [(8, .int (f_Ge_turn X2 Y2 k (gI X j) (gI Y j))), (7, .int (f_Ge_turn X Y j (gI X2 (f_Ge_end X2 k)) (gI Y2 (f_Ge_end X2 k)))), (6, .int (f_Ge_turn X Y j (gI X2 k) (gI Y2 k))), (5, .int (f_Ge_end X2 k)), (4, .int (f_Ge_end X j)), (0, .ref g), (1, .int j), (2, .ref g2), (3, .int k)], [.int (f_Ge_turn X2 Y2 k (gI X (f_Ge_end X j)) (gI Y (f_Ge_end X j)))])) rfl rfl (fun _ => rfl) rfl rfl (zhk rfl (zrc_ok hg2) rfl) (s_Ge_turn X2 Y2 k (gI X (f_Ge_end X j)) (gI Y (f_Ge_end X j)) g2 px2 py2 pb2 kd2 hg2 hX2 hY2 hXY2 hn2 hk (by omega)) rfl ?_
  refine zeN (q := ((98, [(9, .int (f_Ge_turn X2 Y2 k (gI X (f_Ge_end X j)) (gI Y (f_Ge_end X j)))), (8, .int (f_Ge_turn X2 Y2 k (gI X j) (gI Y j))), (7, .int (f_Ge_turn X Y j (gI X2 (f_Ge_end X2 k)) (gI Y2 (f_Ge_end X2 k)))), (6, .int (f_Ge_turn X Y j (gI X2 k) (gI Y2 k))), (5, .int (f_Ge_end X2 k)), (4, .int (f_Ge_end X j)), (0, .ref g), (1, .int j), (2, .ref g2), (3, .int k)], [.int (f_Ge_turn X Y j (gI X2 (f_Ge_end X2 k)) (gI Y2 (f_Ge_end X2 k))), .int (f_Ge_turn X Y j (gI X2 k) (gI Y2 k))]), h)) 3 rfl ?_
  refine zec 0 (M' := M_Ge_areOpposite) (qq := ([.int (f_Ge_turn X Y j (gI X2 k) (gI Y2 k)), .int (f_Ge_turn X Y j (gI X2 (f_Ge_end X2 k)) (gI Y2 (f_Ge_end X2 k)))], [])) (s' := (101, [(9, .int (f_Ge_turn X2 Y2 k (gI X (f_Ge_end X j)) (gI Y (f_Ge_end X j)))), (8, .int (f_Ge_turn X2 Y2 k (gI X j) (gI Y j))), (7, .int (f_Ge_turn X Y j (gI X2 (f_Ge_end X2 k)) (gI Y2 (f_Ge_end X2 k)))), (6, .int (f_Ge_turn X Y j (gI X2 k) (gI Y2 k))), (5, .int (f_Ge_end X2 k)), (4, .int (f_Ge_end X j)), (0, .ref g), (1, .int j), (2, .ref g2), (3, .int k)], [.int (f_Ge_areOpposite (f_Ge_turn X Y j (gI X2 k) (gI Y2 k)) (f_Ge_turn X Y j (gI X2 (f_Ge_end X2 k)) (gI Y2 (f_Ge_end X2 k))))])) rfl rfl (fun _ => rfl) rfl rfl rfl (s_Ge_areOpposite (f_Ge_turn X Y j (gI X2 k) (gI Y2 k)) (f_Ge_turn X Y j (gI X2 (f_Ge_end X2 k)) (gI Y2 (f_Ge_end X2 k)))  (by omega)) rfl ?_
  refine zbc (q1 := (114, [(9, .int (f_Ge_turn X2 Y2 k (gI X (f_Ge_end X j)) (gI Y (f_Ge_end X j)))), (8, .int (f_Ge_turn X2 Y2 k (gI X j) (gI Y j))), (7, .int (f_Ge_turn X Y j (gI X2 (f_Ge_end X2 k)) (gI Y2 (f_Ge_end X2 k)))), (6, .int (f_Ge_turn X Y j (gI X2 k) (gI Y2 k))), (5, .int (f_Ge_end X2 k)), (4, .int (f_Ge_end X j)), (0, .ref g), (1, .int j), (2, .ref g2), (3, .int k)], [])) (q2 := (104, [(9, .int (f_Ge_turn X2 Y2 k (gI X (f_Ge_end X j)) (gI Y (f_Ge_end X j)))), (8, .int (f_Ge_turn X2 Y2 k (gI X j) (gI Y j))), (7, .int (f_Ge_turn X Y j (gI X2 (f_Ge_end X2 k)) (gI Y2 (f_Ge_end X2 k)))), (6, .int (f_Ge_turn X Y j (gI X2 k) (gI Y2 k))), (5, .int (f_Ge_end X2 k)), (4, .int (f_Ge_end X j)), (0, .ref g), (1, .int j), (2, .ref g2), (3, .int k)], [])) (cB := zc .eq (f_Ge_areOpposite (f_Ge_turn X Y j (gI X2 k) (gI Y2 k)) (f_Ge_turn X Y j (gI X2 (f_Ge_end X2 k)) (gI Y2 (f_Ge_end X2 k)))) 0) (off := 13) (lv := [(9, .int (f_Ge_turn X2 Y2 k (gI X (f_Ge_end X j)) (gI Y (f_Ge_end X j)))), (8, .int (f_Ge_turn X2 Y2 k (gI X j) (gI Y j))), (7, .int (f_Ge_turn X Y j (gI X2 (f_Ge_end X2 k)) (gI Y2 (f_Ge_end X2 k)))), (6, .int (f_Ge_turn X Y j (gI X2 k) (gI Y2 k))), (5, .int (f_Ge_end X2 k)), (4, .int (f_Ge_end X j)), (0, .ref g), (1, .int j), (2, .ref g2), (3, .int k)]) (st := []) rfl rfl rfl rfl rfl (fun c101 => ?_) (fun c101 => ?_)
  · rw [c101]
    exact s_Ge_sideMeets_114 X Y X2 Y2 j k g px py pb kd hg hX hY hXY hn g2 px2 py2 pb2 kd2 hg2 hX2 hY2 hXY2 hn2 hj hk (by omega)
  · rw [c101]
    refine zeN (q := ((108, [(9, .int (f_Ge_turn X2 Y2 k (gI X (f_Ge_end X j)) (gI Y (f_Ge_end X j)))), (8, .int (f_Ge_turn X2 Y2 k (gI X j) (gI Y j))), (7, .int (f_Ge_turn X Y j (gI X2 (f_Ge_end X2 k)) (gI Y2 (f_Ge_end X2 k)))), (6, .int (f_Ge_turn X Y j (gI X2 k) (gI Y2 k))), (5, .int (f_Ge_end X2 k)), (4, .int (f_Ge_end X j)), (0, .ref g), (1, .int j), (2, .ref g2), (3, .int k)], [.int (f_Ge_turn X2 Y2 k (gI X (f_Ge_end X j)) (gI Y (f_Ge_end X j))), .int (f_Ge_turn X2 Y2 k (gI X j) (gI Y j))]), h)) 2 rfl ?_
    refine zec 0 (M' := M_Ge_areOpposite) (qq := ([.int (f_Ge_turn X2 Y2 k (gI X j) (gI Y j)), .int (f_Ge_turn X2 Y2 k (gI X (f_Ge_end X j)) (gI Y (f_Ge_end X j)))], [])) (s' := (111, [(9, .int (f_Ge_turn X2 Y2 k (gI X (f_Ge_end X j)) (gI Y (f_Ge_end X j)))), (8, .int (f_Ge_turn X2 Y2 k (gI X j) (gI Y j))), (7, .int (f_Ge_turn X Y j (gI X2 (f_Ge_end X2 k)) (gI Y2 (f_Ge_end X2 k)))), (6, .int (f_Ge_turn X Y j (gI X2 k) (gI Y2 k))), (5, .int (f_Ge_end X2 k)), (4, .int (f_Ge_end X j)), (0, .ref g), (1, .int j), (2, .ref g2), (3, .int k)], [.int (f_Ge_areOpposite (f_Ge_turn X2 Y2 k (gI X j) (gI Y j)) (f_Ge_turn X2 Y2 k (gI X (f_Ge_end X j)) (gI Y (f_Ge_end X j))))])) rfl rfl (fun _ => rfl) rfl rfl rfl (s_Ge_areOpposite (f_Ge_turn X2 Y2 k (gI X j) (gI Y j)) (f_Ge_turn X2 Y2 k (gI X (f_Ge_end X j)) (gI Y (f_Ge_end X j)))  (by omega)) rfl ?_
    refine zbc (q1 := (176, [(9, .int (f_Ge_turn X2 Y2 k (gI X (f_Ge_end X j)) (gI Y (f_Ge_end X j)))), (8, .int (f_Ge_turn X2 Y2 k (gI X j) (gI Y j))), (7, .int (f_Ge_turn X Y j (gI X2 (f_Ge_end X2 k)) (gI Y2 (f_Ge_end X2 k)))), (6, .int (f_Ge_turn X Y j (gI X2 k) (gI Y2 k))), (5, .int (f_Ge_end X2 k)), (4, .int (f_Ge_end X j)), (0, .ref g), (1, .int j), (2, .ref g2), (3, .int k)], [])) (q2 := (114, [(9, .int (f_Ge_turn X2 Y2 k (gI X (f_Ge_end X j)) (gI Y (f_Ge_end X j)))), (8, .int (f_Ge_turn X2 Y2 k (gI X j) (gI Y j))), (7, .int (f_Ge_turn X Y j (gI X2 (f_Ge_end X2 k)) (gI Y2 (f_Ge_end X2 k)))), (6, .int (f_Ge_turn X Y j (gI X2 k) (gI Y2 k))), (5, .int (f_Ge_end X2 k)), (4, .int (f_Ge_end X j)), (0, .ref g), (1, .int j), (2, .ref g2), (3, .int k)], [])) (cB := zc .ne (f_Ge_areOpposite (f_Ge_turn X2 Y2 k (gI X j) (gI Y j)) (f_Ge_turn X2 Y2 k (gI X (f_Ge_end X j)) (gI Y (f_Ge_end X j)))) 0) (off := 65) (lv := [(9, .int (f_Ge_turn X2 Y2 k (gI X (f_Ge_end X j)) (gI Y (f_Ge_end X j)))), (8, .int (f_Ge_turn X2 Y2 k (gI X j) (gI Y j))), (7, .int (f_Ge_turn X Y j (gI X2 (f_Ge_end X2 k)) (gI Y2 (f_Ge_end X2 k)))), (6, .int (f_Ge_turn X Y j (gI X2 k) (gI Y2 k))), (5, .int (f_Ge_end X2 k)), (4, .int (f_Ge_end X j)), (0, .ref g), (1, .int j), (2, .ref g2), (3, .int k)]) (st := []) rfl rfl rfl rfl rfl (fun c111 => ?_) (fun c111 => ?_)
    · rw [c111]
      exact s_Ge_sideMeets_176 X Y X2 Y2 j k g px py pb kd hg hX hY hXY hn g2 px2 py2 pb2 kd2 hg2 hX2 hY2 hXY2 hn2 hj hk (by omega)
    · rw [c111]
      exact s_Ge_sideMeets_114 X Y X2 Y2 j k g px py pb kd hg hX hY hXY hn g2 px2 py2 pb2 kd2 hg2 hX2 hY2 hXY2 hn2 hj hk (by omega)
def f_Bo_apart (a b c d : Int32) : Int32 := if 0 < (if (c - b) < (a - d) then (a - d) else (c - b)) then (if (c - b) < (a - d) then (a - d) else (c - b)) else 0
theorem s_Bo_apart {fr lo : Nat} {h : zH} (a b c d : Int32)  (hlo : 60 ≤ lo) : zAns (fr + 1) lo 53 [.int a, .int b, .int c, .int d] h (some (.int (f_Bo_apart a b c d)), h) := by
  unfold f_Bo_apart
  refine zeb (fr := fr + 0) (M := M_Bo_apart) rfl (Nat.le_trans (by decide) hlo) rfl ?_
  have e0 : mL M_Bo_apart = 4 := rfl
  refine zeN (q := ((7, [(0, .int a), (1, .int b), (2, .int c), (3, .int d)], [.int (a - d), .int (c - b), .int 0]), h)) 7 rfl ?_
  refine zemx rfl rfl rfl (Nat.le_trans (Nat.le_of_eq (rfl : _ = 14)) (by omega)) ?_
  refine zemx rfl rfl rfl (Nat.le_trans (Nat.le_of_eq (rfl : _ = 13)) (by omega)) ?_
  exact zer rfl rfl
end
section
theorem z_sides {X : List Int32} {kd : Int32} (hn : X.length ≤ 1000) (h1 : 1 ≤ X.length) : (f_Ge_sides X kd).toInt ≤ (X.length : Int) ∧ 0 ≤ (f_Ge_sides X kd).toInt := by
  have e2 : (Int32.ofNat (X.map Value.int).length).toInt = (X.length : Int) := by rw [List.length_map]; exact z_nat (by omega)
  unfold f_Ge_sides
  cases hc : zc .ne kd 1 with
  | true => show (Int32.ofNat (X.map Value.int).length).toInt ≤ _ ∧ 0 ≤ (Int32.ofNat (X.map Value.int).length).toInt; rw [e2]; omega
  | false =>
    have e3 : (Int32.ofNat (X.map Value.int).length - 1).toInt = (X.length : Int) - 1 := by rw [z_sub (by rw [e2]; show _ ≤ _ - (1 : Int); omega) (by rw [e2]; show _ - (1 : Int) < _; omega), e2]; rfl
    show (Int32.ofNat (X.map Value.int).length - 1).toInt ≤ _ ∧ 0 ≤ (Int32.ofNat (X.map Value.int).length - 1).toInt
    rw [e3]
    omega
theorem z_ge {a b : Int32} {v : Bool} (h : zc .ge a b = v) : v = decide (b.toInt ≤ a.toInt) := by
  rw [← h]
  exact decide_eq_decide.mpr Int32.le_iff_toInt_le
theorem z_inc {a : Int32} (h : a.toInt < 2147483647) (h2 : -2147483648 ≤ a.toInt) : (a + Int32.ofInt 1).toInt = a.toInt + 1 := z_add (by show _ ≤ a.toInt + 1; omega) (by show a.toInt + 1 < _; omega)
def f_Ge_hasEqualNeighbours_L2 (X Y : List Int32) (kd : Int32)  : Nat → Int32 → Int32
  | 0, _ => 0
  | n + 1, i => (bif zc .ge i (f_Ge_sides X kd) then 0 else (bif zc .ne (gI X i) (gI X ((f_Ge_end X i))) then (f_Ge_hasEqualNeighbours_L2 X Y kd n (i + Int32.ofInt 1)) else (bif zc .ne (gI Y i) (gI Y ((f_Ge_end X i))) then (f_Ge_hasEqualNeighbours_L2 X Y kd n (i + Int32.ofInt 1)) else 1)))
theorem b_Ge_hasEqualNeighbours_L2 (X Y : List Int32) (kd : Int32)  : ∀ (n : Nat) (i : Int32) , zB (f_Ge_hasEqualNeighbours_L2 X Y kd n i) := by
  intro n
  induction n with
  | zero => intro i; exact zB0
  | succ n ih => intro i; rw [f_Ge_hasEqualNeighbours_L2]; exact (zbi (zB0) (zbi (ih (i + Int32.ofInt 1) ) (zbi (ih (i + Int32.ofInt 1) ) (zB1))))
theorem s_Ge_hasEqualNeighbours_L2 {fr lo : Nat} {h : zH} (X Y : List Int32) (kd : Int32)  (g px py pb : Nat) (hg : h.1[g]? = some (.inr (6, [.int kd, .ref px, .ref py, .ref pb]))) (hX : h.1[px]? = some (.inl (0, X.map Value.int))) (hY : h.1[py]? = some (.inl (0, Y.map Value.int))) (hXY : Y.length = X.length) (hn : X.length ≤ 1000) (hne : 1 ≤ X.length)  (hlo : 21 ≤ lo) : ∀ (n : Nat) (i : Int32) (h0 : 0 ≤ i.toInt) (h1 : i.toInt ≤ X.length) (hm : (X.length : Int) < i.toInt + n), zRun (fr + 1) lo none M_Ge_hasEqualNeighbours (2, [(0, .ref g), (1, .int i)], []) h (some (.int (f_Ge_hasEqualNeighbours_L2 X Y kd n i)), h) := by
  intro n
  induction n with
  | zero => intro i h0 h1 hm; exfalso; omega
  | succ n ih =>
    intro i h0 h1 hm
    rw [f_Ge_hasEqualNeighbours_L2]
    refine zeN (q := ((4, [(0, .ref g), (1, .int i)], [.ref g, .int i]), h)) 2 rfl ?_
    refine zec 1 (M' := M_Ge_sides) (qq := ([.ref g], [.int i])) (s' := (7, [(0, .ref g), (1, .int i)], [.int (f_Ge_sides X kd), .int i])) rfl rfl (fun _ => rfl) rfl rfl (zhk rfl (zrc_ok hg) rfl) (s_Ge_sides X kd g px py pb hg hX (by omega)) rfl ?_
    refine zbc (q1 := (56, [(0, .ref g), (1, .int i)], [])) (q2 := (10, [(0, .ref g), (1, .int i)], [])) (cB := zc .ge i (f_Ge_sides X kd)) (off := 49) (lv := [(0, .ref g), (1, .int i)]) (st := []) rfl rfl rfl rfl rfl (fun c7 => ?_) (fun c7 => ?_)
    · rw [c7]
      refine zeN (q := ((57, [(0, .ref g), (1, .int i)], [.int 0]), h)) 1 rfl ?_
      exact zer rfl rfl
    · rw [c7]
      have hs := z_sides (kd := kd) hn hne
      have hcc := of_decide_eq_false (z_ge c7).symm
      have hi : zIx i X.length := ⟨h0, by omega⟩
      have hi1 := z_inc (a := i) (by omega) (by omega)
      refine zeN (q := ((11, [(0, .ref g), (1, .int i)], [.ref g]), h)) 1 rfl ?_
      refine zegf (fs := [.int kd, .ref px, .ref py, .ref pb]) (v := .ref px) rfl rfl rfl rfl hg rfl ?_
      refine zeN (q := ((15, [(0, .ref g), (1, .int i)], [.int i, .ref px]), h)) 1 rfl ?_
      refine zeia (l := X.map Value.int) (k := i.toNatClampNeg) (v := .int (gI X i)) rfl rfl hX (zIx_a hi) (zIx_b hi) ?_
      refine zeN (q := ((17, [(0, .ref g), (1, .int i)], [.ref g, .int (gI X i)]), h)) 1 rfl ?_
      refine zegf (fs := [.int kd, .ref px, .ref py, .ref pb]) (v := .ref px) rfl rfl rfl rfl hg rfl ?_
      refine zeN (q := ((22, [(0, .ref g), (1, .int i)], [.int i, .ref g, .ref px, .int (gI X i)]), h)) 2 rfl ?_
      refine zec 1 (M' := M_Ge_end) (qq := ([.ref g, .int i], [.ref px, .int (gI X i)])) (s' := (25, [(0, .ref g), (1, .int i)], [.int (f_Ge_end X i), .ref px, .int (gI X i)])) rfl rfl (fun _ => rfl) rfl rfl (zhk rfl (zrc_ok hg) rfl) (s_Ge_end X i g px py pb kd hg hX (by omega)) rfl ?_
      refine zeia (l := X.map Value.int) (k := (f_Ge_end X i).toNatClampNeg) (v := .int (gI X ((f_Ge_end X i)))) rfl rfl hX (zIx_a (zIx_end hn hi)) (zIx_b (zIx_end hn hi)) ?_
      refine zbc (q1 := (50, [(0, .ref g), (1, .int i)], [])) (q2 := (29, [(0, .ref g), (1, .int i)], [])) (cB := zc .ne (gI X i) (gI X ((f_Ge_end X i)))) (off := 24) (lv := [(0, .ref g), (1, .int i)]) (st := []) rfl rfl rfl rfl rfl (fun c26 => ?_) (fun c26 => ?_)
      · rw [c26]
        refine zeN (q := ((2, [(1, .int (i + Int32.ofInt 1)), (0, .ref g)], []), h)) 2 rfl ?_
        refine zeS [(0, .ref g), (1, .int (i + Int32.ofInt 1))] (zsub_pick [1, 0] rfl rfl) ?_
        exact ih (i + Int32.ofInt 1) (by omega) (by omega) (by omega)
      · rw [c26]
        refine zeN (q := ((30, [(0, .ref g), (1, .int i)], [.ref g]), h)) 1 rfl ?_
        refine zegf (fs := [.int kd, .ref px, .ref py, .ref pb]) (v := .ref py) rfl rfl rfl rfl hg rfl ?_
        refine zeN (q := ((34, [(0, .ref g), (1, .int i)], [.int i, .ref py]), h)) 1 rfl ?_
        refine zeia (l := Y.map Value.int) (k := i.toNatClampNeg) (v := .int (gI Y i)) rfl rfl hY (zIx_a (zIx_s hi hXY)) (zIx_b (zIx_s hi hXY)) ?_
        refine zeN (q := ((36, [(0, .ref g), (1, .int i)], [.ref g, .int (gI Y i)]), h)) 1 rfl ?_
        refine zegf (fs := [.int kd, .ref px, .ref py, .ref pb]) (v := .ref py) rfl rfl rfl rfl hg rfl ?_
        refine zeN (q := ((41, [(0, .ref g), (1, .int i)], [.int i, .ref g, .ref py, .int (gI Y i)]), h)) 2 rfl ?_
        refine zec 1 (M' := M_Ge_end) (qq := ([.ref g, .int i], [.ref py, .int (gI Y i)])) (s' := (44, [(0, .ref g), (1, .int i)], [.int (f_Ge_end X i), .ref py, .int (gI Y i)])) rfl rfl (fun _ => rfl) rfl rfl (zhk rfl (zrc_ok hg) rfl) (s_Ge_end X i g px py pb kd hg hX (by omega)) rfl ?_
        refine zeia (l := Y.map Value.int) (k := (f_Ge_end X i).toNatClampNeg) (v := .int (gI Y ((f_Ge_end X i)))) rfl rfl hY (zIx_a (zIx_s (zIx_end hn hi) hXY)) (zIx_b (zIx_s (zIx_end hn hi) hXY)) ?_
        refine zbc (q1 := (50, [(0, .ref g), (1, .int i)], [])) (q2 := (48, [(0, .ref g), (1, .int i)], [])) (cB := zc .ne (gI Y i) (gI Y ((f_Ge_end X i)))) (off := 5) (lv := [(0, .ref g), (1, .int i)]) (st := []) rfl rfl rfl rfl rfl (fun c45 => ?_) (fun c45 => ?_)
        · rw [c45]
          refine zeN (q := ((2, [(1, .int (i + Int32.ofInt 1)), (0, .ref g)], []), h)) 2 rfl ?_
          refine zeS [(0, .ref g), (1, .int (i + Int32.ofInt 1))] (zsub_pick [1, 0] rfl rfl) ?_
          exact ih (i + Int32.ofInt 1) (by omega) (by omega) (by omega)
        · rw [c45]
          refine zeN (q := ((49, [(0, .ref g), (1, .int i)], [.int 1]), h)) 1 rfl ?_
          exact zer rfl rfl
def f_Ge_hasEqualNeighbours (X Y : List Int32) (kd : Int32) : Int32 := (f_Ge_hasEqualNeighbours_L2 X Y kd (X.length + 1) 0)
theorem b_Ge_hasEqualNeighbours (X Y : List Int32) (kd : Int32) : zB (f_Ge_hasEqualNeighbours X Y kd) := by unfold f_Ge_hasEqualNeighbours; exact (b_Ge_hasEqualNeighbours_L2 X Y kd (X.length + 1) 0 )
theorem s_Ge_hasEqualNeighbours {fr lo : Nat} {h : zH} (X Y : List Int32) (kd : Int32) (g px py pb : Nat) (hg : h.1[g]? = some (.inr (6, [.int kd, .ref px, .ref py, .ref pb]))) (hX : h.1[px]? = some (.inl (0, X.map Value.int))) (hY : h.1[py]? = some (.inl (0, Y.map Value.int))) (hXY : Y.length = X.length) (hn : X.length ≤ 1000) (hne : 1 ≤ X.length) (hlo : 42 ≤ lo) : zAns (fr + 2) lo 18 [.ref g] h (some (.int (f_Ge_hasEqualNeighbours X Y kd)), h) := by
  unfold f_Ge_hasEqualNeighbours
  refine zeb (fr := fr + 1) (M := M_Ge_hasEqualNeighbours) rfl (Nat.le_trans (by decide) hlo) rfl ?_
  have e0 : mL M_Ge_hasEqualNeighbours = 2 := rfl
  refine zeN (q := ((2, [(1, .int 0), (0, .ref g)], []), h)) 2 rfl ?_
  refine zeS [(0, .ref g), (1, .int 0)] (zsub_pick [1, 0] rfl rfl) ?_
  exact s_Ge_hasEqualNeighbours_L2 X Y kd g px py pb hg hX hY hXY hn hne (by omega) (X.length + 1) 0 (Int.le_refl _) (by show (0 : Int) ≤ _; omega) (by show (X.length : Int) < 0 + _; omega)
def f_Ge_mayNotMeetAsTheyDo (X Y : List Int32) (j k : Int32) : Int32 := (bif zc .ne (f_Ge_end X j) k then (bif zc .ne (f_Ge_end X k) j then f_Ge_sideMeets X Y X Y j k else f_Ge_foldsBack X Y k j) else f_Ge_foldsBack X Y j k)
theorem b_Ge_mayNotMeetAsTheyDo (X Y : List Int32) (j k : Int32) : zB (f_Ge_mayNotMeetAsTheyDo X Y j k) := by unfold f_Ge_mayNotMeetAsTheyDo; exact (zbi (zbi (b_Ge_sideMeets X Y X Y j k) (b_Ge_foldsBack X Y k j)) (b_Ge_foldsBack X Y j k))
theorem s_Ge_mayNotMeetAsTheyDo {fr lo : Nat} {h : zH} (X Y : List Int32) (j k : Int32) (kd : Int32) (g px py pb : Nat) (hg : h.1[g]? = some (.inr (6, [.int kd, .ref px, .ref py, .ref pb]))) (hX : h.1[px]? = some (.inl (0, X.map Value.int))) (hY : h.1[py]? = some (.inl (0, Y.map Value.int))) (hXY : Y.length = X.length) (hn : X.length ≤ 1000) (hj : zIx j X.length) (hk : zIx k X.length) (hlo : 134 ≤ lo) : zAns (fr + 4) lo 22 [.ref g, .int j, .int k] h (some (.int (f_Ge_mayNotMeetAsTheyDo X Y j k)), h) := by
  unfold f_Ge_mayNotMeetAsTheyDo
  refine zeb (fr := fr + 3) (M := M_Ge_mayNotMeetAsTheyDo) rfl (Nat.le_trans (by decide) hlo) rfl ?_
  have e0 : mL M_Ge_mayNotMeetAsTheyDo = 3 := rfl
  refine zeN (q := ((2, [(0, .ref g), (1, .int j), (2, .int k)], [.int j, .ref g]), h)) 2 rfl ?_
  refine zec 1 (M' := M_Ge_end) (qq := ([.ref g, .int j], [])) (s' := (5, [(0, .ref g), (1, .int j), (2, .int k)], [.int (f_Ge_end X j)])) rfl rfl (fun _ => rfl) rfl rfl (zhk rfl (zrc_ok hg) rfl) (s_Ge_end X j g px py pb kd hg hX (by omega)) rfl ?_
  refine zeN (q := ((6, [(0, .ref g), (1, .int j), (2, .int k)], [.int k, .int (f_Ge_end X j)]), h)) 1 rfl ?_
  refine zbc (q1 := (16, [(0, .ref g), (1, .int j), (2, .int k)], [])) (q2 := (9, [(0, .ref g), (1, .int j), (2, .int k)], [])) (cB := zc .ne (f_Ge_end X j) k) (off := 10) (lv := [(0, .ref g), (1, .int j), (2, .int k)]) (st := []) rfl rfl rfl rfl rfl (fun c6 => ?_) (fun c6 => ?_)
  · rw [c6]
    refine zeN (q := ((18, [(0, .ref g), (1, .int j), (2, .int k)], [.int k, .ref g]), h)) 2 rfl ?_
    refine zec 1 (M' := M_Ge_end) (qq := ([.ref g, .int k], [])) (s' := (21, [(0, .ref g), (1, .int j), (2, .int k)], [.int (f_Ge_end X k)])) rfl rfl (fun _ => rfl) rfl rfl (zhk rfl (zrc_ok hg) rfl) (s_Ge_end X k g px py pb kd hg hX (by omega)) rfl ?_
    refine zeN (q := ((22, [(0, .ref g), (1, .int j), (2, .int k)], [.int j, .int (f_Ge_end X k)]), h)) 1 rfl ?_
    refine zbc (q1 := (32, [(0, .ref g), (1, .int j), (2, .int k)], [])) (q2 := (25, [(0, .ref g), (1, .int j), (2, .int k)], [])) (cB := zc .ne (f_Ge_end X k) j) (off := 10) (lv := [(0, .ref g), (1, .int j), (2, .int k)]) (st := []) rfl rfl rfl rfl rfl (fun c22 => ?_) (fun c22 => ?_)
    · rw [c22]
      refine zeN (q := ((36, [(0, .ref g), (1, .int j), (2, .int k)], [.int k, .ref g, .int j, .ref g]), h)) 4 rfl ?_
      refine zec 1 (M' := M_Ge_sideMeets) (qq := ([.ref g, .int j, .ref g, .int k], [])) (s' := (39, [(0, .ref g), (1, .int j), (2, .int k)], [.int (f_Ge_sideMeets X Y X Y j k)])) rfl rfl (fun _ => rfl) rfl rfl (zhk rfl (zrc_ok hg) rfl) (s_Ge_sideMeets X Y X Y j k g px py pb kd hg hX hY hXY hn g px py pb kd hg hX hY hXY hn hj hk (by omega)) rfl ?_
      exact zer rfl (zreb (b_Ge_sideMeets X Y X Y j k))
    · rw [c22]
      refine zeN (q := ((28, [(0, .ref g), (1, .int j), (2, .int k)], [.int j, .int k, .ref g]), h)) 3 rfl ?_
      refine zec 1 (M' := M_Ge_foldsBack) (qq := ([.ref g, .int k, .int j], [])) (s' := (31, [(0, .ref g), (1, .int j), (2, .int k)], [.int (f_Ge_foldsBack X Y k j)])) rfl rfl (fun _ => rfl) rfl rfl (zhk rfl (zrc_ok hg) rfl) (s_Ge_foldsBack X Y k j g px py pb kd hg hX hY hXY hn hk hj (by omega)) rfl ?_
      exact zer rfl (zreb (b_Ge_foldsBack X Y k j))
  · rw [c6]
    refine zeN (q := ((12, [(0, .ref g), (1, .int j), (2, .int k)], [.int k, .int j, .ref g]), h)) 3 rfl ?_
    refine zec 1 (M' := M_Ge_foldsBack) (qq := ([.ref g, .int j, .int k], [])) (s' := (15, [(0, .ref g), (1, .int j), (2, .int k)], [.int (f_Ge_foldsBack X Y j k)])) rfl rfl (fun _ => rfl) rfl rfl (zhk rfl (zrc_ok hg) rfl) (s_Ge_foldsBack X Y j k g px py pb kd hg hX hY hXY hn hj hk (by omega)) rfl ?_
    exact zer rfl (zreb (b_Ge_foldsBack X Y j k))
def f_Ge_touchesItself_L14 (X Y : List Int32) (kd : Int32) (i : Int32) (K : Int32) : Nat → Int32 → Int32
  | 0, _ => 0
  | n + 1, j => (bif zc .ge j (f_Ge_sides X kd) then (K) else (bif zc .eq (f_Ge_mayNotMeetAsTheyDo X Y i j) 0 then (f_Ge_touchesItself_L14 X Y kd i K n (j + Int32.ofInt 1)) else 1))
theorem b_Ge_touchesItself_L14 (X Y : List Int32) (kd : Int32) (i : Int32) (K : Int32) (hK : zB K) : ∀ (n : Nat) (j : Int32) , zB (f_Ge_touchesItself_L14 X Y kd i K n j) := by
  intro n
  induction n with
  | zero => intro j; exact zB0
  | succ n ih => intro j; rw [f_Ge_touchesItself_L14]; exact (zbi hK (zbi (ih (j + Int32.ofInt 1) ) (zB1)))
theorem s_Ge_touchesItself_L14 {fr lo : Nat} {h : zH} (X Y : List Int32) (kd : Int32) (i : Int32) (g px py pb : Nat) (hg : h.1[g]? = some (.inr (6, [.int kd, .ref px, .ref py, .ref pb]))) (hX : h.1[px]? = some (.inl (0, X.map Value.int))) (hY : h.1[py]? = some (.inl (0, Y.map Value.int))) (hXY : Y.length = X.length) (hn : X.length ≤ 1000) (hne : 1 ≤ X.length) (hi : zIx i X.length) (K : Int32) (hK : zRun (fr + 4) lo none M_Ge_touchesItself (39, [(0, .ref g), (1, .int i)], []) h (some (.int K), h)) (hlo : 134 ≤ lo) : ∀ (n : Nat) (j : Int32) (k0 : 0 ≤ j.toInt) (k1 : j.toInt ≤ X.length) (km : (X.length : Int) < j.toInt + n), zRun (fr + 4) lo none M_Ge_touchesItself (14, [(0, .ref g), (1, .int i), (2, .int j)], []) h (some (.int (f_Ge_touchesItself_L14 X Y kd i K n j)), h) := by
  intro n
  induction n with
  | zero => intro j k0 k1 km; exfalso; omega
  | succ n ih =>
    intro j k0 k1 km
    rw [f_Ge_touchesItself_L14]
    refine zeN (q := ((16, [(0, .ref g), (1, .int i), (2, .int j)], [.ref g, .int j]), h)) 2 rfl ?_
    refine zec 1 (M' := M_Ge_sides) (qq := ([.ref g], [.int j])) (s' := (19, [(0, .ref g), (1, .int i), (2, .int j)], [.int (f_Ge_sides X kd), .int j])) rfl rfl (fun _ => rfl) rfl rfl (zhk rfl (zrc_ok hg) rfl) (s_Ge_sides X kd g px py pb hg hX (by omega)) rfl ?_
    refine zbc (q1 := (39, [(0, .ref g), (1, .int i), (2, .int j)], [])) (q2 := (22, [(0, .ref g), (1, .int i), (2, .int j)], [])) (cB := zc .ge j (f_Ge_sides X kd)) (off := 20) (lv := [(0, .ref g), (1, .int i), (2, .int j)]) (st := []) rfl rfl rfl rfl rfl (fun c19 => ?_) (fun c19 => ?_)
    · rw [c19]
      refine zeS [(0, .ref g), (1, .int i)] (zsub_pick [0, 1] rfl rfl) ?_
      exact hK
    · rw [c19]
      have hs := z_sides (kd := kd) hn hne
      have hcc := of_decide_eq_false (z_ge c19).symm
      have hj : zIx j X.length := ⟨k0, by omega⟩
      have hj1 := z_inc (a := j) (by omega) (by omega)
      refine zeN (q := ((25, [(0, .ref g), (1, .int i), (2, .int j)], [.int j, .int i, .ref g]), h)) 3 rfl ?_
      refine zec 1 (M' := M_Ge_mayNotMeetAsTheyDo) (qq := ([.ref g, .int i, .int j], [])) (s' := (28, [(0, .ref g), (1, .int i), (2, .int j)], [.int (f_Ge_mayNotMeetAsTheyDo X Y i j)])) rfl rfl (fun _ => rfl) rfl rfl (zhk rfl (zrc_ok hg) rfl) (s_Ge_mayNotMeetAsTheyDo X Y i j kd g px py pb hg hX hY hXY hn hi hj (by omega)) rfl ?_
      refine zbc (q1 := (33, [(0, .ref g), (1, .int i), (2, .int j)], [])) (q2 := (31, [(0, .ref g), (1, .int i), (2, .int j)], [])) (cB := zc .eq (f_Ge_mayNotMeetAsTheyDo X Y i j) 0) (off := 5) (lv := [(0, .ref g), (1, .int i), (2, .int j)]) (st := []) rfl rfl rfl rfl rfl (fun c28 => ?_) (fun c28 => ?_)
      · rw [c28]
        refine zeN (q := ((14, [(2, .int (j + Int32.ofInt 1)), (0, .ref g), (1, .int i)], []), h)) 2 rfl ?_
        refine zeS [(0, .ref g), (1, .int i), (2, .int (j + Int32.ofInt 1))] (zsub_pick [1, 2, 0] rfl rfl) ?_
        exact ih (j + Int32.ofInt 1) (by omega) (by omega) (by omega)
      · rw [c28]
        refine zeN (q := ((32, [(0, .ref g), (1, .int i), (2, .int j)], [.int 1]), h)) 1 rfl ?_
        exact zer rfl rfl
def f_Ge_touchesItself_L2 (X Y : List Int32) (kd : Int32)  : Nat → Int32 → Int32
  | 0, _ => 0
  | n + 1, i => (bif zc .ge i (f_Ge_sides X kd) then 0 else (f_Ge_touchesItself_L14 X Y kd i ((f_Ge_touchesItself_L2 X Y kd n (i + Int32.ofInt 1))) (X.length + 1) (i + 1)))
theorem b_Ge_touchesItself_L2 (X Y : List Int32) (kd : Int32)  : ∀ (n : Nat) (i : Int32) , zB (f_Ge_touchesItself_L2 X Y kd n i) := by
  intro n
  induction n with
  | zero => intro i; exact zB0
  | succ n ih => intro i; rw [f_Ge_touchesItself_L2]; exact (zbi (zB0) (b_Ge_touchesItself_L14 X Y kd i ((f_Ge_touchesItself_L2 X Y kd n (i + Int32.ofInt 1))) (ih (i + Int32.ofInt 1) ) (X.length + 1) (i + 1)))
theorem s_Ge_touchesItself_L2 {fr lo : Nat} {h : zH} (X Y : List Int32) (kd : Int32)  (g px py pb : Nat) (hg : h.1[g]? = some (.inr (6, [.int kd, .ref px, .ref py, .ref pb]))) (hX : h.1[px]? = some (.inl (0, X.map Value.int))) (hY : h.1[py]? = some (.inl (0, Y.map Value.int))) (hXY : Y.length = X.length) (hn : X.length ≤ 1000) (hne : 1 ≤ X.length)  (hlo : 134 ≤ lo) : ∀ (n : Nat) (i : Int32) (h0 : 0 ≤ i.toInt) (h1 : i.toInt ≤ X.length) (hm : (X.length : Int) < i.toInt + n), zRun (fr + 4) lo none M_Ge_touchesItself (2, [(0, .ref g), (1, .int i)], []) h (some (.int (f_Ge_touchesItself_L2 X Y kd n i)), h) := by
  intro n
  induction n with
  | zero => intro i h0 h1 hm; exfalso; omega
  | succ n ih =>
    intro i h0 h1 hm
    rw [f_Ge_touchesItself_L2]
    refine zeN (q := ((4, [(0, .ref g), (1, .int i)], [.ref g, .int i]), h)) 2 rfl ?_
    refine zec 1 (M' := M_Ge_sides) (qq := ([.ref g], [.int i])) (s' := (7, [(0, .ref g), (1, .int i)], [.int (f_Ge_sides X kd), .int i])) rfl rfl (fun _ => rfl) rfl rfl (zhk rfl (zrc_ok hg) rfl) (s_Ge_sides X kd g px py pb hg hX (by omega)) rfl ?_
    refine zbc (q1 := (45, [(0, .ref g), (1, .int i)], [])) (q2 := (10, [(0, .ref g), (1, .int i)], [])) (cB := zc .ge i (f_Ge_sides X kd)) (off := 38) (lv := [(0, .ref g), (1, .int i)]) (st := []) rfl rfl rfl rfl rfl (fun c7 => ?_) (fun c7 => ?_)
    · rw [c7]
      refine zeN (q := ((46, [(0, .ref g), (1, .int i)], [.int 0]), h)) 1 rfl ?_
      exact zer rfl rfl
    · rw [c7]
      have hs := z_sides (kd := kd) hn hne
      have hcc := of_decide_eq_false (z_ge c7).symm
      have hi : zIx i X.length := ⟨h0, by omega⟩
      have hi1 := z_inc (a := i) (by omega) (by omega)
      have hi2 : (i + 1).toInt = i.toInt + 1 := hi1
      refine zeN (q := ((14, [(2, .int (i + 1)), (0, .ref g), (1, .int i)], []), h)) 4 rfl ?_
      have hK : zRun (fr + 4) lo none M_Ge_touchesItself (39, [(0, .ref g), (1, .int i)], []) h (some (.int ((f_Ge_touchesItself_L2 X Y kd n (i + Int32.ofInt 1)))), h) := by
        refine zeN (q := ((2, [(1, .int (i + Int32.ofInt 1)), (0, .ref g)], []), h)) 2 rfl ?_
        refine zeS [(0, .ref g), (1, .int (i + Int32.ofInt 1))] (zsub_pick [1, 0] rfl rfl) ?_
        exact ih (i + Int32.ofInt 1) (by omega) (by omega) (by omega)
      refine zeS [(0, .ref g), (1, .int i), (2, .int (i + 1))] (zsub_pick [1, 2, 0] rfl rfl) ?_
      exact s_Ge_touchesItself_L14 X Y kd i g px py pb hg hX hY hXY hn hne hi ((f_Ge_touchesItself_L2 X Y kd n (i + Int32.ofInt 1))) hK (by omega) (X.length + 1) (i + 1) (by omega) (by omega) (by omega)
def f_Ge_touchesItself (X Y : List Int32) (kd : Int32) : Int32 := (f_Ge_touchesItself_L2 X Y kd (X.length + 1) 0)
theorem b_Ge_touchesItself (X Y : List Int32) (kd : Int32) : zB (f_Ge_touchesItself X Y kd) := by unfold f_Ge_touchesItself; exact (b_Ge_touchesItself_L2 X Y kd (X.length + 1) 0 )
theorem s_Ge_touchesItself {fr lo : Nat} {h : zH} (X Y : List Int32) (kd : Int32) (g px py pb : Nat) (hg : h.1[g]? = some (.inr (6, [.int kd, .ref px, .ref py, .ref pb]))) (hX : h.1[px]? = some (.inl (0, X.map Value.int))) (hY : h.1[py]? = some (.inl (0, Y.map Value.int))) (hXY : Y.length = X.length) (hn : X.length ≤ 1000) (hne : 1 ≤ X.length) (hlo : 156 ≤ lo) : zAns (fr + 5) lo 21 [.ref g] h (some (.int (f_Ge_touchesItself X Y kd)), h) := by
  unfold f_Ge_touchesItself
  refine zeb (fr := fr + 4) (M := M_Ge_touchesItself) rfl (Nat.le_trans (by decide) hlo) rfl ?_
  have e0 : mL M_Ge_touchesItself = 3 := rfl
  refine zeN (q := ((2, [(1, .int 0), (0, .ref g)], []), h)) 2 rfl ?_
  refine zeS [(0, .ref g), (1, .int 0)] (zsub_pick [1, 0] rfl rfl) ?_
  exact s_Ge_touchesItself_L2 X Y kd g px py pb hg hX hY hXY hn hne (by omega) (X.length + 1) 0 (Int.le_refl _) (by show (0 : Int) ≤ _; omega) (by show (X.length : Int) < 0 + _; omega)
def f_Ge_encloses_L15 (X Y : List Int32) (kd x y : Int32)  : Nat → Int32 → Int32 → Int32
  | 0, _, _ => 0
  | n + 1, w, i => (bif zc .ge i (f_Ge_sides X kd) then w else (bif zc .eq (bif zc .le (gI Y ((f_Ge_end X i))) y then 0 else 1) (bif zc .le (gI Y i) y then 0 else 1) then (f_Ge_encloses_L15 X Y kd x y n w (i + Int32.ofInt 1)) else (bif zc .ne (bif zc .le (gI Y ((f_Ge_end X i))) y then 0 else 1) (bif zc .le (f_Ge_turn X Y i x y) 0 then 0 else 1) then (f_Ge_encloses_L15 X Y kd x y n w (i + Int32.ofInt 1)) else (f_Ge_encloses_L15 X Y kd x y n (bif zc .ne w 0 then 0 else 1) (i + Int32.ofInt 1)))))
theorem b_Ge_encloses_L15 (X Y : List Int32) (kd x y : Int32)  : ∀ (n : Nat) (w : Int32) (i : Int32) (hb_w : zB w), zB (f_Ge_encloses_L15 X Y kd x y n w i) := by
  intro n
  induction n with
  | zero => intro w i hb_w; exact zB0
  | succ n ih => intro w i hb_w; rw [f_Ge_encloses_L15]; exact (zbi (hb_w) (zbi (ih w (i + Int32.ofInt 1) (hb_w)) (zbi (ih w (i + Int32.ofInt 1) (hb_w)) (ih (bif zc .ne w 0 then 0 else 1) (i + Int32.ofInt 1) (zbb _)))))
theorem s_Ge_encloses_L15 {fr lo : Nat} {h : zH} (X Y : List Int32) (kd x y : Int32)  (g px py pb : Nat) (hg : h.1[g]? = some (.inr (6, [.int kd, .ref px, .ref py, .ref pb]))) (hX : h.1[px]? = some (.inl (0, X.map Value.int))) (hY : h.1[py]? = some (.inl (0, Y.map Value.int))) (hXY : Y.length = X.length) (hn : X.length ≤ 1000) (hne : 1 ≤ X.length)  (hlo : 46 ≤ lo) : ∀ (n : Nat) (w : Int32) (i : Int32) (hb_w : zB w) (h0 : 0 ≤ i.toInt) (h1 : i.toInt ≤ X.length) (hm : (X.length : Int) < i.toInt + n), zRun (fr + 2) lo none M_Ge_encloses (15, [(0, .ref g), (1, .int x), (2, .int y), (3, .int w), (4, .int i)], []) h (some (.int (f_Ge_encloses_L15 X Y kd x y n w i)), h) := by
  intro n
  induction n with
  | zero => intro w i hb_w h0 h1 hm; exfalso; omega
  | succ n ih =>
    intro w i hb_w h0 h1 hm
    rw [f_Ge_encloses_L15]
    refine zeN (q := ((18, [(0, .ref g), (1, .int x), (2, .int y), (3, .int w), (4, .int i)], [.ref g, .int i]), h)) 2 rfl ?_
    refine zec 1 (M' := M_Ge_sides) (qq := ([.ref g], [.int i])) (s' := (21, [(0, .ref g), (1, .int x), (2, .int y), (3, .int w), (4, .int i)], [.int (f_Ge_sides X kd), .int i])) rfl rfl (fun _ => rfl) rfl rfl (zhk rfl (zrc_ok hg) rfl) (s_Ge_sides X kd g px py pb hg hX (by omega)) rfl ?_
    refine zbc (q1 := (104, [(0, .ref g), (1, .int x), (2, .int y), (3, .int w), (4, .int i)], [])) (q2 := (24, [(0, .ref g), (1, .int x), (2, .int y), (3, .int w), (4, .int i)], [])) (cB := zc .ge i (f_Ge_sides X kd)) (off := 83) (lv := [(0, .ref g), (1, .int x), (2, .int y), (3, .int w), (4, .int i)]) (st := []) rfl rfl rfl rfl rfl (fun c21 => ?_) (fun c21 => ?_)
    · rw [c21]
      refine zeN (q := ((105, [(0, .ref g), (1, .int x), (2, .int y), (3, .int w), (4, .int i)], [.int w]), h)) 1 rfl ?_
      exact zer rfl (zreb (hb_w))
    · rw [c21]
      have hs := z_sides (kd := kd) hn hne
      have hcc := of_decide_eq_false (z_ge c21).symm
      have hi : zIx i X.length := ⟨h0, by omega⟩
      have hi1 := z_inc (a := i) (by omega) (by omega)
      refine zeN (q := ((25, [(0, .ref g), (1, .int x), (2, .int y), (3, .int w), (4, .int i)], [.ref g]), h)) 1 rfl ?_
      refine zegf (fs := [.int kd, .ref px, .ref py, .ref pb]) (v := .ref py) rfl rfl rfl rfl hg rfl ?_
      refine zeN (q := ((31, [(0, .ref g), (1, .int x), (2, .int y), (3, .int w), (4, .int i)], [.int i, .ref g, .ref py]), h)) 2 rfl ?_
      refine zec 1 (M' := M_Ge_end) (qq := ([.ref g, .int i], [.ref py])) (s' := (34, [(0, .ref g), (1, .int x), (2, .int y), (3, .int w), (4, .int i)], [.int (f_Ge_end X i), .ref py])) rfl rfl (fun _ => rfl) rfl rfl (zhk rfl (zrc_ok hg) rfl) (s_Ge_end X i g px py pb kd hg hX (by omega)) rfl ?_
      refine zeia (l := Y.map Value.int) (k := (f_Ge_end X i).toNatClampNeg) (v := .int (gI Y ((f_Ge_end X i)))) rfl rfl hY (zIx_a (zIx_s (zIx_end hn hi) hXY)) (zIx_b (zIx_s (zIx_end hn hi) hXY)) ?_
      refine zeN (q := ((36, [(0, .ref g), (1, .int x), (2, .int y), (3, .int w), (4, .int i)], [.int y, .int (gI Y ((f_Ge_end X i)))]), h)) 1 rfl ?_
      refine zdia (q1 := (43, [(0, .ref g), (1, .int x), (2, .int y), (3, .int w), (4, .int i)], [])) (q2 := (39, [(0, .ref g), (1, .int x), (2, .int y), (3, .int w), (4, .int i)], [])) (cB := zc .le (gI Y ((f_Ge_end X i))) y) (off := 7) (lv := [(0, .ref g), (1, .int x), (2, .int y), (3, .int w), (4, .int i)]) (st := []) (lv2 := [(0, .ref g), (1, .int x), (2, .int y), (3, .int w), (4, .int i)]) (st2 := []) (J := 44) (vA := 0) (vB := 1) 1 2 rfl rfl rfl rfl rfl rfl rfl ?_
      refine zeN (q := ((49, [(5, .int (bif zc .le (gI Y ((f_Ge_end X i))) y then 0 else 1)), (0, .ref g), (1, .int x), (2, .int y), (3, .int w), (4, .int i)], [.ref g, .int (bif zc .le (gI Y ((f_Ge_end X i))) y then 0 else 1)]), h)) 3 rfl ?_
      refine zegf (fs := [.int kd, .ref px, .ref py, .ref pb]) (v := .ref py) rfl rfl rfl rfl hg rfl ?_
      refine zeN (q := ((54, [(5, .int (bif zc .le (gI Y ((f_Ge_end X i))) y then 0 else 1)), (0, .ref g), (1, .int x), (2, .int y), (3, .int w), (4, .int i)], [.int i, .ref py, .int (bif zc .le (gI Y ((f_Ge_end X i))) y then 0 else 1)]), h)) 1 rfl ?_
      refine zeia (l := Y.map Value.int) (k := i.toNatClampNeg) (v := .int (gI Y i)) rfl rfl hY (zIx_a (zIx_s hi hXY)) (zIx_b (zIx_s hi hXY)) ?_
      refine zeN (q := ((56, [(5, .int (bif zc .le (gI Y ((f_Ge_end X i))) y then 0 else 1)), (0, .ref g), (1, .int x), (2, .int y), (3, .int w), (4, .int i)], [.int y, .int (gI Y i), .int (bif zc .le (gI Y ((f_Ge_end X i))) y then 0 else 1)]), h)) 1 rfl ?_
      refine zdia (q1 := (63, [(5, .int (bif zc .le (gI Y ((f_Ge_end X i))) y then 0 else 1)), (0, .ref g), (1, .int x), (2, .int y), (3, .int w), (4, .int i)], [.int (bif zc .le (gI Y ((f_Ge_end X i))) y then 0 else 1)])) (q2 := (59, [(5, .int (bif zc .le (gI Y ((f_Ge_end X i))) y then 0 else 1)), (0, .ref g), (1, .int x), (2, .int y), (3, .int w), (4, .int i)], [.int (bif zc .le (gI Y ((f_Ge_end X i))) y then 0 else 1)])) (cB := zc .le (gI Y i) y) (off := 7) (lv := [(5, .int (bif zc .le (gI Y ((f_Ge_end X i))) y then 0 else 1)), (0, .ref g), (1, .int x), (2, .int y), (3, .int w), (4, .int i)]) (st := [.int (bif zc .le (gI Y ((f_Ge_end X i))) y then 0 else 1)]) (lv2 := [(5, .int (bif zc .le (gI Y ((f_Ge_end X i))) y then 0 else 1)), (0, .ref g), (1, .int x), (2, .int y), (3, .int w), (4, .int i)]) (st2 := [.int (bif zc .le (gI Y ((f_Ge_end X i))) y then 0 else 1)]) (J := 64) (vA := 0) (vB := 1) 1 2 rfl rfl rfl rfl rfl rfl rfl ?_
      refine zbc (q1 := (98, [(5, .int (bif zc .le (gI Y ((f_Ge_end X i))) y then 0 else 1)), (0, .ref g), (1, .int x), (2, .int y), (3, .int w), (4, .int i)], [])) (q2 := (67, [(5, .int (bif zc .le (gI Y ((f_Ge_end X i))) y then 0 else 1)), (0, .ref g), (1, .int x), (2, .int y), (3, .int w), (4, .int i)], [])) (cB := zc .eq (bif zc .le (gI Y ((f_Ge_end X i))) y then 0 else 1) (bif zc .le (gI Y i) y then 0 else 1)) (off := 34) (lv := [(5, .int (bif zc .le (gI Y ((f_Ge_end X i))) y then 0 else 1)), (0, .ref g), (1, .int x), (2, .int y), (3, .int w), (4, .int i)]) (st := []) rfl rfl rfl rfl rfl (fun c64 => ?_) (fun c64 => ?_)
      · rw [c64]
        refine zeN (q := ((15, [(4, .int (i + Int32.ofInt 1)), (5, .int (bif zc .le (gI Y ((f_Ge_end X i))) y then 0 else 1)), (0, .ref g), (1, .int x), (2, .int y), (3, .int w)], []), h)) 2 rfl ?_
        refine zeS [(0, .ref g), (1, .int x), (2, .int y), (3, .int w), (4, .int (i + Int32.ofInt 1))] (zsub_pick [2, 3, 4, 5, 0] rfl rfl) ?_
        exact ih w (i + Int32.ofInt 1) (hb_w) (by omega) (by omega) (by omega)
      · rw [c64]
        refine zeN (q := ((74, [(5, .int (bif zc .le (gI Y ((f_Ge_end X i))) y then 0 else 1)), (0, .ref g), (1, .int x), (2, .int y), (3, .int w), (4, .int i)], [.int y, .int x, .int i, .ref g, .int (bif zc .le (gI Y ((f_Ge_end X i))) y then 0 else 1)]), h)) 5 rfl ?_
        refine zec 1 (M' := M_Ge_turn) (qq := ([.ref g, .int i, .int x, .int y], [.int (bif zc .le (gI Y ((f_Ge_end X i))) y then 0 else 1)])) (s' := (77, [(5, .int (bif zc .le (gI Y ((f_Ge_end X i))) y then 0 else 1)), (0, .ref g), (1, .int x), (2, .int y), (3, .int w), (4, .int i)], [.int (f_Ge_turn X Y i x y), .int (bif zc .le (gI Y ((f_Ge_end X i))) y then 0 else 1)])) rfl rfl (fun _ => rfl) rfl rfl (zhk rfl (zrc_ok hg) rfl) (s_Ge_turn X Y i x y g px py pb kd hg hX hY hXY hn hi (by omega)) rfl ?_
        refine zdia (q1 := (84, [(5, .int (bif zc .le (gI Y ((f_Ge_end X i))) y then 0 else 1)), (0, .ref g), (1, .int x), (2, .int y), (3, .int w), (4, .int i)], [.int (bif zc .le (gI Y ((f_Ge_end X i))) y then 0 else 1)])) (q2 := (80, [(5, .int (bif zc .le (gI Y ((f_Ge_end X i))) y then 0 else 1)), (0, .ref g), (1, .int x), (2, .int y), (3, .int w), (4, .int i)], [.int (bif zc .le (gI Y ((f_Ge_end X i))) y then 0 else 1)])) (cB := zc .le (f_Ge_turn X Y i x y) 0) (off := 7) (lv := [(5, .int (bif zc .le (gI Y ((f_Ge_end X i))) y then 0 else 1)), (0, .ref g), (1, .int x), (2, .int y), (3, .int w), (4, .int i)]) (st := [.int (bif zc .le (gI Y ((f_Ge_end X i))) y then 0 else 1)]) (lv2 := [(5, .int (bif zc .le (gI Y ((f_Ge_end X i))) y then 0 else 1)), (0, .ref g), (1, .int x), (2, .int y), (3, .int w), (4, .int i)]) (st2 := [.int (bif zc .le (gI Y ((f_Ge_end X i))) y then 0 else 1)]) (J := 85) (vA := 0) (vB := 1) 1 2 rfl rfl rfl rfl rfl rfl rfl ?_
        refine zbc (q1 := (98, [(5, .int (bif zc .le (gI Y ((f_Ge_end X i))) y then 0 else 1)), (0, .ref g), (1, .int x), (2, .int y), (3, .int w), (4, .int i)], [])) (q2 := (88, [(5, .int (bif zc .le (gI Y ((f_Ge_end X i))) y then 0 else 1)), (0, .ref g), (1, .int x), (2, .int y), (3, .int w), (4, .int i)], [])) (cB := zc .ne (bif zc .le (gI Y ((f_Ge_end X i))) y then 0 else 1) (bif zc .le (f_Ge_turn X Y i x y) 0 then 0 else 1)) (off := 13) (lv := [(5, .int (bif zc .le (gI Y ((f_Ge_end X i))) y then 0 else 1)), (0, .ref g), (1, .int x), (2, .int y), (3, .int w), (4, .int i)]) (st := []) rfl rfl rfl rfl rfl (fun c85 => ?_) (fun c85 => ?_)
        · rw [c85]
          refine zeN (q := ((15, [(4, .int (i + Int32.ofInt 1)), (5, .int (bif zc .le (gI Y ((f_Ge_end X i))) y then 0 else 1)), (0, .ref g), (1, .int x), (2, .int y), (3, .int w)], []), h)) 2 rfl ?_
          refine zeS [(0, .ref g), (1, .int x), (2, .int y), (3, .int w), (4, .int (i + Int32.ofInt 1))] (zsub_pick [2, 3, 4, 5, 0] rfl rfl) ?_
          exact ih w (i + Int32.ofInt 1) (hb_w) (by omega) (by omega) (by omega)
        · rw [c85]
          refine zeN (q := ((89, [(5, .int (bif zc .le (gI Y ((f_Ge_end X i))) y then 0 else 1)), (0, .ref g), (1, .int x), (2, .int y), (3, .int w), (4, .int i)], [.int w]), h)) 1 rfl ?_
          refine zdia (q1 := (96, [(5, .int (bif zc .le (gI Y ((f_Ge_end X i))) y then 0 else 1)), (0, .ref g), (1, .int x), (2, .int y), (3, .int w), (4, .int i)], [])) (q2 := (92, [(5, .int (bif zc .le (gI Y ((f_Ge_end X i))) y then 0 else 1)), (0, .ref g), (1, .int x), (2, .int y), (3, .int w), (4, .int i)], [])) (cB := zc .ne w 0) (off := 7) (lv := [(5, .int (bif zc .le (gI Y ((f_Ge_end X i))) y then 0 else 1)), (0, .ref g), (1, .int x), (2, .int y), (3, .int w), (4, .int i)]) (st := []) (lv2 := [(5, .int (bif zc .le (gI Y ((f_Ge_end X i))) y then 0 else 1)), (0, .ref g), (1, .int x), (2, .int y), (3, .int w), (4, .int i)]) (st2 := []) (J := 97) (vA := 0) (vB := 1) 1 2 rfl rfl rfl rfl rfl rfl rfl ?_
          refine zeN (q := ((15, [(4, .int (i + Int32.ofInt 1)), (3, .int (bif zc .ne w 0 then 0 else 1)), (5, .int (bif zc .le (gI Y ((f_Ge_end X i))) y then 0 else 1)), (0, .ref g), (1, .int x), (2, .int y)], []), h)) 3 rfl ?_
          refine zeS [(0, .ref g), (1, .int x), (2, .int y), (3, .int (bif zc .ne w 0 then 0 else 1)), (4, .int (i + Int32.ofInt 1))] (zsub_pick [3, 4, 5, 1, 0] rfl rfl) ?_
          exact ih (bif zc .ne w 0 then 0 else 1) (i + Int32.ofInt 1) (zbb _) (by omega) (by omega) (by omega)
def f_Ge_encloses (X Y : List Int32) (kd x y : Int32) : Int32 := (bif zc .eq kd 2 then (f_Ge_encloses_L15 X Y kd x y (X.length + 1) 0 0) else 0)
theorem b_Ge_encloses (X Y : List Int32) (kd x y : Int32) : zB (f_Ge_encloses X Y kd x y) := by unfold f_Ge_encloses; exact (zbi (b_Ge_encloses_L15 X Y kd x y (X.length + 1) 0 0 (zB0)) (zB0))
theorem s_Ge_encloses {fr lo : Nat} {h : zH} (X Y : List Int32) (kd x y : Int32) (g px py pb : Nat) (hg : h.1[g]? = some (.inr (6, [.int kd, .ref px, .ref py, .ref pb]))) (hX : h.1[px]? = some (.inl (0, X.map Value.int))) (hY : h.1[py]? = some (.inl (0, Y.map Value.int))) (hXY : Y.length = X.length) (hn : X.length ≤ 1000) (hne : 1 ≤ X.length) (hlo : 71 ≤ lo) : zAns (fr + 3) lo 59 [.ref g, .int x, .int y] h (some (.int (f_Ge_encloses X Y kd x y)), h) := by
  unfold f_Ge_encloses
  refine zeb (fr := fr + 2) (M := M_Ge_encloses) rfl (Nat.le_trans (by decide) hlo) rfl ?_
  have e0 : mL M_Ge_encloses = 6 := rfl
  refine zeN (q := ((3, [(3, .int 0), (0, .ref g), (1, .int x), (2, .int y)], [.ref g]), h)) 3 rfl ?_
  refine zegf (fs := [.int kd, .ref px, .ref py, .ref pb]) (v := .int kd) rfl rfl rfl rfl hg rfl ?_
  refine zeN (q := ((7, [(3, .int 0), (0, .ref g), (1, .int x), (2, .int y)], [.int 2, .int kd]), h)) 1 rfl ?_
  refine zbc (q1 := (12, [(3, .int 0), (0, .ref g), (1, .int x), (2, .int y)], [])) (q2 := (10, [(3, .int 0), (0, .ref g), (1, .int x), (2, .int y)], [])) (cB := zc .eq kd 2) (off := 5) (lv := [(3, .int 0), (0, .ref g), (1, .int x), (2, .int y)]) (st := []) rfl rfl rfl rfl rfl (fun c7 => ?_) (fun c7 => ?_)
  · rw [c7]
    refine zeN (q := ((15, [(4, .int 0), (3, .int 0), (0, .ref g), (1, .int x), (2, .int y)], []), h)) 2 rfl ?_
    refine zeS [(0, .ref g), (1, .int x), (2, .int y), (3, .int 0), (4, .int 0)] (zsub_pick [2, 3, 4, 1, 0] rfl rfl) ?_
    exact s_Ge_encloses_L15 X Y kd x y g px py pb hg hX hY hXY hn hne (by omega) (X.length + 1) 0 0 zB0 (Int.le_refl _) (by show (0 : Int) ≤ _; omega) (by show (X.length : Int) < 0 + _; omega)
  · rw [c7]
    refine zeN (q := ((11, [(3, .int 0), (0, .ref g), (1, .int x), (2, .int y)], [.int 0]), h)) 1 rfl ?_
    exact zer rfl rfl
end
section
theorem z_len {X : List Int32} (hn : X.length ≤ 1000) : (Int32.ofNat (X.map Value.int).length).toInt = (X.length : Int) := by rw [List.length_map]; exact z_nat (by omega)
theorem z_le {a b : Int32} {v : Bool} (h : zc .le a b = v) : v = decide (a.toInt ≤ b.toInt) := by
  rw [← h]
  exact decide_eq_decide.mpr Int32.le_iff_toInt_le
theorem z_eqI {a b : Int32} (h : zc .eq a b = true) : a.toInt = b.toInt := congrArg Int32.toInt (of_decide_eq_true h : a = b)
theorem z_eq {a b : Int32} {v : Bool} (h : zc .eq a b = v) : v = decide (a = b) := h.symm
def f_Ge_fault_35 (X Y : List Int32) (kd : Int32) : Int32 := 0
theorem s_Ge_fault_35 {fr lo : Nat} {h : zH} (X Y : List Int32) (kd : Int32) (g px py pb : Nat) (hg : h.1[g]? = some (.inr (6, [.int kd, .ref px, .ref py, .ref pb]))) (hX : h.1[px]? = some (.inl (0, X.map Value.int))) (hY : h.1[py]? = some (.inl (0, Y.map Value.int))) (hXY : Y.length = X.length) (hn : X.length ≤ 1000) (hne : 1 ≤ X.length) (hlo : 156 ≤ lo) : zRun (fr + 5) lo none M_Ge_fault (35, [(0, .ref g)], []) h (some (.int (f_Ge_fault_35 X Y kd)), h) := by
  unfold f_Ge_fault_35
  refine zeN (q := ((36, [(0, .ref g)], [.int 0]), h)) 1 rfl ?_
  exact zer rfl rfl
def f_Ge_fault_16 (X Y : List Int32) (kd : Int32) : Int32 := (bif zc .ne kd 2 then (f_Ge_fault_35 X Y kd) else bif zc .eq (f_Ge_touchesItself X Y kd) 0 then 0 else 3)
theorem s_Ge_fault_16 {fr lo : Nat} {h : zH} (X Y : List Int32) (kd : Int32) (g px py pb : Nat) (hg : h.1[g]? = some (.inr (6, [.int kd, .ref px, .ref py, .ref pb]))) (hX : h.1[px]? = some (.inl (0, X.map Value.int))) (hY : h.1[py]? = some (.inl (0, Y.map Value.int))) (hXY : Y.length = X.length) (hn : X.length ≤ 1000) (hne : 1 ≤ X.length) (hlo : 156 ≤ lo) : zRun (fr + 5) lo none M_Ge_fault (16, [(0, .ref g)], []) h (some (.int (f_Ge_fault_16 X Y kd)), h) := by
  unfold f_Ge_fault_16
  refine zeN (q := ((17, [(0, .ref g)], [.ref g]), h)) 1 rfl ?_
  refine zegf (fs := [.int kd, .ref px, .ref py, .ref pb]) (v := .int kd) rfl rfl rfl rfl hg rfl ?_
  refine zeN (q := ((21, [(0, .ref g)], [.int 2, .int kd]), h)) 1 rfl ?_
  refine zbc (q1 := (35, [(0, .ref g)], [])) (q2 := (24, [(0, .ref g)], [])) (cB := zc .ne kd 2) (off := 14) (lv := [(0, .ref g)]) (st := []) rfl rfl rfl rfl rfl (fun c21 => ?_) (fun c21 => ?_)
  · rw [c21]
    exact s_Ge_fault_35 X Y kd g px py pb hg hX hY hXY hn hne (by omega)
  · rw [c21]
    refine zeN (q := ((25, [(0, .ref g)], [.ref g]), h)) 1 rfl ?_
    refine zec 1 (M' := M_Ge_touchesItself) (qq := ([.ref g], [])) (s' := (28, [(0, .ref g)], [.int (f_Ge_touchesItself X Y kd)])) rfl rfl (fun _ => rfl) rfl rfl (zhk rfl (zrc_ok hg) rfl) (s_Ge_touchesItself X Y kd g px py pb hg hX hY hXY hn hne (by omega)) rfl ?_
    refine zdia (q1 := (35, [(0, .ref g)], [])) (q2 := (31, [(0, .ref g)], [])) (cB := zc .eq (f_Ge_touchesItself X Y kd) 0) (off := 7) (lv := [(0, .ref g)]) (st := []) (lv2 := [(0, .ref g)]) (st2 := []) (J := 36) (vA := 0) (vB := 3) 1 2 rfl rfl rfl rfl rfl rfl rfl ?_
    exact zer rfl rfl
def f_Ge_fault (X Y : List Int32) (kd : Int32) : Int32 := (bif zc .eq kd 0 then (f_Ge_fault_16 X Y kd) else (bif zc .eq (f_Ge_hasEqualNeighbours X Y kd) 0 then (f_Ge_fault_16 X Y kd) else 2))
theorem s_Ge_fault {fr lo : Nat} {h : zH} (X Y : List Int32) (kd : Int32) (g px py pb : Nat) (hg : h.1[g]? = some (.inr (6, [.int kd, .ref px, .ref py, .ref pb]))) (hX : h.1[px]? = some (.inl (0, X.map Value.int))) (hY : h.1[py]? = some (.inl (0, Y.map Value.int))) (hXY : Y.length = X.length) (hn : X.length ≤ 1000) (hne : 1 ≤ X.length) (hlo : 176 ≤ lo) : zAns (fr + 6) lo 17 [.ref g] h (some (.int (f_Ge_fault X Y kd)), h) := by
  unfold f_Ge_fault
  refine zeb (fr := fr + 5) (M := M_Ge_fault) rfl (Nat.le_trans (by decide) hlo) rfl ?_
  have e0 : mL M_Ge_fault = 1 := rfl
  refine zeN (q := ((1, [(0, .ref g)], [.ref g]), h)) 1 rfl ?_
  refine zegf (fs := [.int kd, .ref px, .ref py, .ref pb]) (v := .int kd) rfl rfl rfl rfl hg rfl ?_
  refine zbc (q1 := (16, [(0, .ref g)], [])) (q2 := (7, [(0, .ref g)], [])) (cB := zc .eq kd 0) (off := 12) (lv := [(0, .ref g)]) (st := []) rfl rfl rfl rfl rfl (fun c4 => ?_) (fun c4 => ?_)
  · rw [c4]
    exact s_Ge_fault_16 X Y kd g px py pb hg hX hY hXY hn hne (by omega)
  · rw [c4]
    refine zeN (q := ((8, [(0, .ref g)], [.ref g]), h)) 1 rfl ?_
    refine zec 1 (M' := M_Ge_hasEqualNeighbours) (qq := ([.ref g], [])) (s' := (11, [(0, .ref g)], [.int (f_Ge_hasEqualNeighbours X Y kd)])) rfl rfl (fun _ => rfl) rfl rfl (zhk rfl (zrc_ok hg) rfl) (s_Ge_hasEqualNeighbours X Y kd g px py pb hg hX hY hXY hn hne (by omega)) rfl ?_
    refine zbc (q1 := (16, [(0, .ref g)], [])) (q2 := (14, [(0, .ref g)], [])) (cB := zc .eq (f_Ge_hasEqualNeighbours X Y kd) 0) (off := 5) (lv := [(0, .ref g)]) (st := []) rfl rfl rfl rfl rfl (fun c11 => ?_) (fun c11 => ?_)
    · rw [c11]
      exact s_Ge_fault_16 X Y kd g px py pb hg hX hY hXY hn hne (by omega)
    · rw [c11]
      refine zeN (q := ((15, [(0, .ref g)], [.int 2]), h)) 1 rfl ?_
      exact zer rfl rfl
def f_Ge_isSameAs_24 (X Y X2 Y2 : List Int32) (kd kd2 : Int32) : Int32 := 0
theorem b_Ge_isSameAs_24 (X Y X2 Y2 : List Int32) (kd kd2 : Int32) : zB (f_Ge_isSameAs_24 X Y X2 Y2 kd kd2) := by unfold f_Ge_isSameAs_24; exact (zB0)
theorem s_Ge_isSameAs_24 {fr lo : Nat} {h : zH} (X Y X2 Y2 : List Int32) (kd kd2 : Int32) (g px py pb : Nat) (hg : h.1[g]? = some (.inr (6, [.int kd, .ref px, .ref py, .ref pb]))) (hX : h.1[px]? = some (.inl (0, X.map Value.int))) (hY : h.1[py]? = some (.inl (0, Y.map Value.int))) (hXY : Y.length = X.length) (hn : X.length ≤ 1000) (g2 px2 py2 pb2 : Nat) (hg2 : h.1[g2]? = some (.inr (6, [.int kd2, .ref px2, .ref py2, .ref pb2]))) (hX2 : h.1[px2]? = some (.inl (0, X2.map Value.int))) (hY2 : h.1[py2]? = some (.inl (0, Y2.map Value.int))) (hXY2 : Y2.length = X2.length) (hn2 : X2.length ≤ 1000) (hlo : 0 ≤ lo) : zRun (fr + 0) lo none M_Ge_isSameAs (24, [(0, .ref g), (1, .ref g2)], []) h (some (.int (f_Ge_isSameAs_24 X Y X2 Y2 kd kd2)), h) := by
  unfold f_Ge_isSameAs_24
  refine zeN (q := ((25, [(0, .ref g), (1, .ref g2)], [.int 0]), h)) 1 rfl ?_
  exact zer rfl rfl
def f_Ge_isSameAs_L28 (X Y X2 Y2 : List Int32) (kd kd2 : Int32)  : Nat → Int32 → Int32
  | 0, _ => 0
  | n + 1, i => (bif zc .ge i (Int32.ofNat (X.map Value.int).length) then 1 else (bif zc .ne (gI X i) (gI X2 i) then 0 else (bif zc .eq (gI Y i) (gI Y2 i) then (f_Ge_isSameAs_L28 X Y X2 Y2 kd kd2 n (i + Int32.ofInt 1)) else 0)))
theorem b_Ge_isSameAs_L28 (X Y X2 Y2 : List Int32) (kd kd2 : Int32)  : ∀ (n : Nat) (i : Int32) , zB (f_Ge_isSameAs_L28 X Y X2 Y2 kd kd2 n i) := by
  intro n
  induction n with
  | zero => intro i; exact zB0
  | succ n ih => intro i; rw [f_Ge_isSameAs_L28]; exact (zbi (zB1) (zbi (zB0) (zbi (ih (i + Int32.ofInt 1) ) (zB0))))
theorem s_Ge_isSameAs_L28 {fr lo : Nat} {h : zH} (X Y X2 Y2 : List Int32) (kd kd2 : Int32)  (g px py pb : Nat) (hg : h.1[g]? = some (.inr (6, [.int kd, .ref px, .ref py, .ref pb]))) (hX : h.1[px]? = some (.inl (0, X.map Value.int))) (hY : h.1[py]? = some (.inl (0, Y.map Value.int))) (hXY : Y.length = X.length) (hn : X.length ≤ 1000) (g2 px2 py2 pb2 : Nat) (hg2 : h.1[g2]? = some (.inr (6, [.int kd2, .ref px2, .ref py2, .ref pb2]))) (hX2 : h.1[px2]? = some (.inl (0, X2.map Value.int))) (hY2 : h.1[py2]? = some (.inl (0, Y2.map Value.int))) (hXY2 : Y2.length = X2.length) (hn2 : X2.length ≤ 1000) (hL : X2.length = X.length) (hlo : 0 ≤ lo) : ∀ (n : Nat) (i : Int32) (h0 : 0 ≤ i.toInt) (h1 : i.toInt ≤ X.length) (hm : (X.length : Int) < i.toInt + n), zRun (fr + 0) lo none M_Ge_isSameAs (28, [(0, .ref g), (1, .ref g2), (2, .int i)], []) h (some (.int (f_Ge_isSameAs_L28 X Y X2 Y2 kd kd2 n i)), h) := by
  intro n
  induction n with
  | zero => intro i h0 h1 hm; exfalso; omega
  | succ n ih =>
    intro i h0 h1 hm
    rw [f_Ge_isSameAs_L28]
    refine zeN (q := ((30, [(0, .ref g), (1, .ref g2), (2, .int i)], [.ref g, .int i]), h)) 2 rfl ?_
    refine zegf (fs := [.int kd, .ref px, .ref py, .ref pb]) (v := .ref px) rfl rfl rfl rfl hg rfl ?_
    refine zeln (l := X.map Value.int) rfl rfl hX rfl ?_
    refine zbc (q1 := (75, [(0, .ref g), (1, .ref g2), (2, .int i)], [])) (q2 := (37, [(0, .ref g), (1, .ref g2), (2, .int i)], [])) (cB := zc .ge i (Int32.ofNat (X.map Value.int).length)) (off := 41) (lv := [(0, .ref g), (1, .ref g2), (2, .int i)]) (st := []) rfl rfl rfl rfl rfl (fun c34 => ?_) (fun c34 => ?_)
    · rw [c34]
      refine zeN (q := ((76, [(0, .ref g), (1, .ref g2), (2, .int i)], [.int 1]), h)) 1 rfl ?_
      exact zer rfl rfl
    · rw [c34]
      have hcc := of_decide_eq_false (z_ge c34).symm
      rw [z_len hn] at hcc
      have hi : zIx i X.length := ⟨h0, by omega⟩
      have hi2 : zIx i X2.length := zIx_s hi hL
      have hi1 := z_inc (a := i) (by omega) (by omega)
      refine zeN (q := ((38, [(0, .ref g), (1, .ref g2), (2, .int i)], [.ref g]), h)) 1 rfl ?_
      refine zegf (fs := [.int kd, .ref px, .ref py, .ref pb]) (v := .ref px) rfl rfl rfl rfl hg rfl ?_
      refine zeN (q := ((42, [(0, .ref g), (1, .ref g2), (2, .int i)], [.int i, .ref px]), h)) 1 rfl ?_
      refine zeia (l := X.map Value.int) (k := i.toNatClampNeg) (v := .int (gI X i)) rfl rfl hX (zIx_a hi) (zIx_b hi) ?_
      refine zeN (q := ((44, [(0, .ref g), (1, .ref g2), (2, .int i)], [.ref g2, .int (gI X i)]), h)) 1 rfl ?_
      refine zegf (fs := [.int kd2, .ref px2, .ref py2, .ref pb2]) (v := .ref px2) rfl rfl rfl rfl hg2 rfl ?_
      refine zeN (q := ((48, [(0, .ref g), (1, .ref g2), (2, .int i)], [.int i, .ref px2, .int (gI X i)]), h)) 1 rfl ?_
      refine zeia (l := X2.map Value.int) (k := i.toNatClampNeg) (v := .int (gI X2 i)) rfl rfl hX2 (zIx_a hi2) (zIx_b hi2) ?_
      refine zbc (q1 := (67, [(0, .ref g), (1, .ref g2), (2, .int i)], [])) (q2 := (52, [(0, .ref g), (1, .ref g2), (2, .int i)], [])) (cB := zc .ne (gI X i) (gI X2 i)) (off := 18) (lv := [(0, .ref g), (1, .ref g2), (2, .int i)]) (st := []) rfl rfl rfl rfl rfl (fun c49 => ?_) (fun c49 => ?_)
      · rw [c49]
        refine zeN (q := ((68, [(0, .ref g), (1, .ref g2), (2, .int i)], [.int 0]), h)) 1 rfl ?_
        exact zer rfl rfl
      · rw [c49]
        refine zeN (q := ((53, [(0, .ref g), (1, .ref g2), (2, .int i)], [.ref g]), h)) 1 rfl ?_
        refine zegf (fs := [.int kd, .ref px, .ref py, .ref pb]) (v := .ref py) rfl rfl rfl rfl hg rfl ?_
        refine zeN (q := ((57, [(0, .ref g), (1, .ref g2), (2, .int i)], [.int i, .ref py]), h)) 1 rfl ?_
        refine zeia (l := Y.map Value.int) (k := i.toNatClampNeg) (v := .int (gI Y i)) rfl rfl hY (zIx_a (zIx_s hi hXY)) (zIx_b (zIx_s hi hXY)) ?_
        refine zeN (q := ((59, [(0, .ref g), (1, .ref g2), (2, .int i)], [.ref g2, .int (gI Y i)]), h)) 1 rfl ?_
        refine zegf (fs := [.int kd2, .ref px2, .ref py2, .ref pb2]) (v := .ref py2) rfl rfl rfl rfl hg2 rfl ?_
        refine zeN (q := ((63, [(0, .ref g), (1, .ref g2), (2, .int i)], [.int i, .ref py2, .int (gI Y i)]), h)) 1 rfl ?_
        refine zeia (l := Y2.map Value.int) (k := i.toNatClampNeg) (v := .int (gI Y2 i)) rfl rfl hY2 (zIx_a (zIx_s hi2 hXY2)) (zIx_b (zIx_s hi2 hXY2)) ?_
        refine zbc (q1 := (69, [(0, .ref g), (1, .ref g2), (2, .int i)], [])) (q2 := (67, [(0, .ref g), (1, .ref g2), (2, .int i)], [])) (cB := zc .eq (gI Y i) (gI Y2 i)) (off := 5) (lv := [(0, .ref g), (1, .ref g2), (2, .int i)]) (st := []) rfl rfl rfl rfl rfl (fun c64 => ?_) (fun c64 => ?_)
        · rw [c64]
          refine zeN (q := ((28, [(2, .int (i + Int32.ofInt 1)), (0, .ref g), (1, .ref g2)], []), h)) 2 rfl ?_
          refine zeS [(0, .ref g), (1, .ref g2), (2, .int (i + Int32.ofInt 1))] (zsub_pick [1, 2, 0] rfl rfl) ?_
          exact ih (i + Int32.ofInt 1) (by omega) (by omega) (by omega)
        · rw [c64]
          refine zeN (q := ((68, [(0, .ref g), (1, .ref g2), (2, .int i)], [.int 0]), h)) 1 rfl ?_
          exact zer rfl rfl
def f_Ge_isSameAs (X Y X2 Y2 : List Int32) (kd kd2 : Int32) : Int32 := (bif zc .ne kd kd2 then (f_Ge_isSameAs_24 X Y X2 Y2 kd kd2) else (bif zc .eq (Int32.ofNat (X.map Value.int).length) (Int32.ofNat (X2.map Value.int).length) then (f_Ge_isSameAs_L28 X Y X2 Y2 kd kd2 (X.length + 1) 0) else (f_Ge_isSameAs_24 X Y X2 Y2 kd kd2)))
theorem b_Ge_isSameAs (X Y X2 Y2 : List Int32) (kd kd2 : Int32) : zB (f_Ge_isSameAs X Y X2 Y2 kd kd2) := by unfold f_Ge_isSameAs; exact (zbi (b_Ge_isSameAs_24 X Y X2 Y2 kd kd2) (zbi (b_Ge_isSameAs_L28 X Y X2 Y2 kd kd2 (X.length + 1) 0 ) (b_Ge_isSameAs_24 X Y X2 Y2 kd kd2)))
theorem s_Ge_isSameAs {fr lo : Nat} {h : zH} (X Y X2 Y2 : List Int32) (kd kd2 : Int32) (g px py pb : Nat) (hg : h.1[g]? = some (.inr (6, [.int kd, .ref px, .ref py, .ref pb]))) (hX : h.1[px]? = some (.inl (0, X.map Value.int))) (hY : h.1[py]? = some (.inl (0, Y.map Value.int))) (hXY : Y.length = X.length) (hn : X.length ≤ 1000) (g2 px2 py2 pb2 : Nat) (hg2 : h.1[g2]? = some (.inr (6, [.int kd2, .ref px2, .ref py2, .ref pb2]))) (hX2 : h.1[px2]? = some (.inl (0, X2.map Value.int))) (hY2 : h.1[py2]? = some (.inl (0, Y2.map Value.int))) (hXY2 : Y2.length = X2.length) (hn2 : X2.length ≤ 1000) (hlo : 22 ≤ lo) : zAns (fr + 1) lo 84 [.ref g, .ref g2] h (some (.int (f_Ge_isSameAs X Y X2 Y2 kd kd2)), h) := by
  unfold f_Ge_isSameAs
  refine zeb (fr := fr + 0) (M := M_Ge_isSameAs) rfl (Nat.le_trans (by decide) hlo) rfl ?_
  have e0 : mL M_Ge_isSameAs = 3 := rfl
  refine zeN (q := ((1, [(0, .ref g), (1, .ref g2)], [.ref g]), h)) 1 rfl ?_
  refine zegf (fs := [.int kd, .ref px, .ref py, .ref pb]) (v := .int kd) rfl rfl rfl rfl hg rfl ?_
  refine zeN (q := ((5, [(0, .ref g), (1, .ref g2)], [.ref g2, .int kd]), h)) 1 rfl ?_
  refine zegf (fs := [.int kd2, .ref px2, .ref py2, .ref pb2]) (v := .int kd2) rfl rfl rfl rfl hg2 rfl ?_
  refine zbc (q1 := (24, [(0, .ref g), (1, .ref g2)], [])) (q2 := (11, [(0, .ref g), (1, .ref g2)], [])) (cB := zc .ne kd kd2) (off := 16) (lv := [(0, .ref g), (1, .ref g2)]) (st := []) rfl rfl rfl rfl rfl (fun c8 => ?_) (fun c8 => ?_)
  · rw [c8]
    exact s_Ge_isSameAs_24 X Y X2 Y2 kd kd2 g px py pb hg hX hY hXY hn g2 px2 py2 pb2 hg2 hX2 hY2 hXY2 hn2 (by omega)
  · rw [c8]
    refine zeN (q := ((12, [(0, .ref g), (1, .ref g2)], [.ref g]), h)) 1 rfl ?_
    refine zegf (fs := [.int kd, .ref px, .ref py, .ref pb]) (v := .ref px) rfl rfl rfl rfl hg rfl ?_
    refine zeln (l := X.map Value.int) rfl rfl hX rfl ?_
    refine zeN (q := ((17, [(0, .ref g), (1, .ref g2)], [.ref g2, .int (Int32.ofNat (X.map Value.int).length)]), h)) 1 rfl ?_
    refine zegf (fs := [.int kd2, .ref px2, .ref py2, .ref pb2]) (v := .ref px2) rfl rfl rfl rfl hg2 rfl ?_
    refine zeln (l := X2.map Value.int) rfl rfl hX2 rfl ?_
    refine zbc (q1 := (26, [(0, .ref g), (1, .ref g2)], [])) (q2 := (24, [(0, .ref g), (1, .ref g2)], [])) (cB := zc .eq (Int32.ofNat (X.map Value.int).length) (Int32.ofNat (X2.map Value.int).length)) (off := 5) (lv := [(0, .ref g), (1, .ref g2)]) (st := []) rfl rfl rfl rfl rfl (fun c21 => ?_) (fun c21 => ?_)
    · rw [c21]
      have hL : X2.length = X.length := by
        have e := z_eqI c21
        rw [z_len hn, z_len hn2] at e
        omega
      refine zeN (q := ((28, [(2, .int 0), (0, .ref g), (1, .ref g2)], []), h)) 2 rfl ?_
      refine zeS [(0, .ref g), (1, .ref g2), (2, .int 0)] (zsub_pick [1, 2, 0] rfl rfl) ?_
      exact s_Ge_isSameAs_L28 X Y X2 Y2 kd kd2 g px py pb hg hX hY hXY hn g2 px2 py2 pb2 hg2 hX2 hY2 hXY2 hn2 hL (by omega) (X.length + 1) 0 (Int.le_refl _) (by show (0 : Int) ≤ _; omega) (by show (X.length : Int) < 0 + _; omega)
    · rw [c21]
      exact s_Ge_isSameAs_24 X Y X2 Y2 kd kd2 g px py pb hg hX hY hXY hn g2 px2 py2 pb2 hg2 hX2 hY2 hXY2 hn2 (by omega)
def f_Bo_gapToRectangle (x0 y0 x1 y1 p q r s : Int32) : Int32 := ((f_Bo_apart x0 x1 p r) * (f_Bo_apart x0 x1 p r)) + ((f_Bo_apart y0 y1 q s) * (f_Bo_apart y0 y1 q s))
theorem s_Bo_gapToRectangle {fr lo : Nat} {h : zH} (x0 y0 x1 y1 p q r s : Int32) (b : Nat) (hb : h.1[b]? = some (.inr (7, [.int x0, .int y0, .int x1, .int y1]))) (hlo : 86 ≤ lo) : zAns (fr + 2) lo 52 [.ref b, .int p, .int q, .int r, .int s] h (some (.int (f_Bo_gapToRectangle x0 y0 x1 y1 p q r s)), h) := by
  unfold f_Bo_gapToRectangle
  refine zeb (fr := fr + 1) (M := M_Bo_gapToRectangle) rfl (Nat.le_trans (by decide) hlo) rfl ?_
  have e0 : mL M_Bo_gapToRectangle = 7 := rfl
  refine zeN (q := ((1, [(0, .ref b), (1, .int p), (2, .int q), (3, .int r), (4, .int s)], [.ref b]), h)) 1 rfl ?_
  refine zegf (fs := [.int x0, .int y0, .int x1, .int y1]) (v := .int x0) rfl rfl rfl rfl hb rfl ?_
  refine zeN (q := ((5, [(0, .ref b), (1, .int p), (2, .int q), (3, .int r), (4, .int s)], [.ref b, .int x0]), h)) 1 rfl ?_
  refine zegf (fs := [.int x0, .int y0, .int x1, .int y1]) (v := .int x1) rfl rfl rfl rfl hb rfl ?_
  refine zeN (q := ((10, [(0, .ref b), (1, .int p), (2, .int q), (3, .int r), (4, .int s)], [.int r, .int p, .int x1, .int x0]), h)) 2 rfl ?_
  refine zec 0 (M' := M_Bo_apart) (qq := ([.int x0, .int x1, .int p, .int r], [])) (s' := (13, [(0, .ref b), (1, .int p), (2, .int q), (3, .int r), (4, .int s)], [.int (f_Bo_apart x0 x1 p r)])) rfl rfl (fun _ => rfl) rfl rfl rfl (s_Bo_apart x0 x1 p r  (by omega)) rfl ?_
  refine zeN (q := ((16, [(5, .int (f_Bo_apart x0 x1 p r)), (0, .ref b), (1, .int p), (2, .int q), (3, .int r), (4, .int s)], [.ref b]), h)) 2 rfl ?_
  refine zegf (fs := [.int x0, .int y0, .int x1, .int y1]) (v := .int y0) rfl rfl rfl rfl hb rfl ?_
  refine zeN (q := ((20, [(5, .int (f_Bo_apart x0 x1 p r)), (0, .ref b), (1, .int p), (2, .int q), (3, .int r), (4, .int s)], [.ref b, .int y0]), h)) 1 rfl ?_
  refine zegf (fs := [.int x0, .int y0, .int x1, .int y1]) (v := .int y1) rfl rfl rfl rfl hb rfl ?_
  refine zeN (q := ((26, [(5, .int (f_Bo_apart x0 x1 p r)), (0, .ref b), (1, .int p), (2, .int q), (3, .int r), (4, .int s)], [.int s, .int q, .int y1, .int y0]), h)) 2 rfl ?_
  refine zec 0 (M' := M_Bo_apart) (qq := ([.int y0, .int y1, .int q, .int s], [])) (s' := (29, [(5, .int (f_Bo_apart x0 x1 p r)), (0, .ref b), (1, .int p), (2, .int q), (3, .int r), (4, .int s)], [.int (f_Bo_apart y0 y1 q s)])) rfl rfl (fun _ => rfl) rfl rfl rfl (s_Bo_apart y0 y1 q s  (by omega)) rfl ?_
  refine zeN (q := ((42, [(6, .int (f_Bo_apart y0 y1 q s)), (5, .int (f_Bo_apart x0 x1 p r)), (0, .ref b), (1, .int p), (2, .int q), (3, .int r), (4, .int s)], [.int (((f_Bo_apart x0 x1 p r) * (f_Bo_apart x0 x1 p r)) + ((f_Bo_apart y0 y1 q s) * (f_Bo_apart y0 y1 q s)))]), h)) 8 rfl ?_
  exact zer rfl rfl
def f_Bo_gapTo (x0 y0 x1 y1 u0 v0 u1 v1 : Int32) : Int32 := f_Bo_gapToRectangle x0 y0 x1 y1 u0 v0 u1 v1
theorem s_Bo_gapTo {fr lo : Nat} {h : zH} (x0 y0 x1 y1 u0 v0 u1 v1 : Int32) (b : Nat) (hb : h.1[b]? = some (.inr (7, [.int x0, .int y0, .int x1, .int y1]))) (b2 : Nat) (hb2 : h.1[b2]? = some (.inr (7, [.int u0, .int v0, .int u1, .int v1]))) (hlo : 107 ≤ lo) : zAns (fr + 3) lo 56 [.ref b, .ref b2] h (some (.int (f_Bo_gapTo x0 y0 x1 y1 u0 v0 u1 v1)), h) := by
  unfold f_Bo_gapTo
  refine zeb (fr := fr + 2) (M := M_Bo_gapTo) rfl (Nat.le_trans (by decide) hlo) rfl ?_
  have e0 : mL M_Bo_gapTo = 2 := rfl
  refine zeN (q := ((2, [(0, .ref b), (1, .ref b2)], [.ref b2, .ref b]), h)) 2 rfl ?_
  refine zegf (fs := [.int u0, .int v0, .int u1, .int v1]) (v := .int u0) rfl rfl rfl rfl hb2 rfl ?_
  refine zeN (q := ((6, [(0, .ref b), (1, .ref b2)], [.ref b2, .int u0, .ref b]), h)) 1 rfl ?_
  refine zegf (fs := [.int u0, .int v0, .int u1, .int v1]) (v := .int v0) rfl rfl rfl rfl hb2 rfl ?_
  refine zeN (q := ((10, [(0, .ref b), (1, .ref b2)], [.ref b2, .int v0, .int u0, .ref b]), h)) 1 rfl ?_
  refine zegf (fs := [.int u0, .int v0, .int u1, .int v1]) (v := .int u1) rfl rfl rfl rfl hb2 rfl ?_
  refine zeN (q := ((14, [(0, .ref b), (1, .ref b2)], [.ref b2, .int u1, .int v0, .int u0, .ref b]), h)) 1 rfl ?_
  refine zegf (fs := [.int u0, .int v0, .int u1, .int v1]) (v := .int v1) rfl rfl rfl rfl hb2 rfl ?_
  refine zec 1 (M' := M_Bo_gapToRectangle) (qq := ([.ref b, .int u0, .int v0, .int u1, .int v1], [])) (s' := (20, [(0, .ref b), (1, .ref b2)], [.int (f_Bo_gapToRectangle x0 y0 x1 y1 u0 v0 u1 v1)])) rfl rfl (fun _ => rfl) rfl rfl (zhk rfl (zrc_ok hb) rfl) (s_Bo_gapToRectangle x0 y0 x1 y1 u0 v0 u1 v1 b hb (by omega)) rfl ?_
  exact zer rfl rfl
def f_Bo_quarter (x0 y0 x1 y1 l : Int32) : Int32 := (((y0 >>> ((8 - l) &&& 31)) &&& 1) * 2) + ((x0 >>> ((8 - l) &&& 31)) &&& 1)
theorem s_Bo_quarter {fr lo : Nat} {h : zH} (x0 y0 x1 y1 l : Int32) (b : Nat) (hb : h.1[b]? = some (.inr (7, [.int x0, .int y0, .int x1, .int y1]))) (hlo : 22 ≤ lo) : zAns (fr + 1) lo 37 [.ref b, .int l] h (some (.int (f_Bo_quarter x0 y0 x1 y1 l)), h) := by
  unfold f_Bo_quarter
  refine zeb (fr := fr + 0) (M := M_Bo_quarter) rfl (Nat.le_trans (by decide) hlo) rfl ?_
  have e0 : mL M_Bo_quarter = 3 := rfl
  refine zeN (q := ((6, [(2, .int (8 - l)), (0, .ref b), (1, .int l)], [.ref b]), h)) 5 rfl ?_
  refine zegf (fs := [.int x0, .int y0, .int x1, .int y1]) (v := .int y0) rfl rfl rfl rfl hb rfl ?_
  refine zeN (q := ((16, [(2, .int (8 - l)), (0, .ref b), (1, .int l)], [.ref b, .int (((y0 >>> ((8 - l) &&& 31)) &&& 1) * 2)]), h)) 7 rfl ?_
  refine zegf (fs := [.int x0, .int y0, .int x1, .int y1]) (v := .int x0) rfl rfl rfl rfl hb rfl ?_
  refine zeN (q := ((24, [(2, .int (8 - l)), (0, .ref b), (1, .int l)], [.int ((((y0 >>> ((8 - l) &&& 31)) &&& 1) * 2) + ((x0 >>> ((8 - l) &&& 31)) &&& 1))]), h)) 5 rfl ?_
  exact zer rfl rfl
def f_Bo_homeLevel_L23 (x0 y0 x1 y1 : Int32)  : Nat → Int32 → Int32
  | 0, _ => 0
  | n + 1, l => (bif zc .le l 0 then l else (bif zc .eq ((x0 ^^^ x1 ||| (y0 ^^^ y1)) >>> ((8 - l) &&& 31)) 0 then l else (f_Bo_homeLevel_L23 x0 y0 x1 y1 n (l + Int32.ofInt (-1)))))
theorem s_Bo_homeLevel_L23 {fr lo : Nat} {h : zH} (x0 y0 x1 y1 : Int32)  (b : Nat) (hb : h.1[b]? = some (.inr (7, [.int x0, .int y0, .int x1, .int y1])))  (hlo : 0 ≤ lo) : ∀ (n : Nat) (l : Int32) (h0 : 0 ≤ l.toInt) (h1 : l.toInt ≤ 8) (hm : l.toInt < n), zRun (fr + 0) lo none M_Bo_homeLevel (23, [(1, .int (x0 ^^^ x1 ||| (y0 ^^^ y1))), (2, .int l)], []) h (some (.int (f_Bo_homeLevel_L23 x0 y0 x1 y1 n l)), h) := by
  intro n
  induction n with
  | zero => intro l h0 h1 hm; exfalso; omega
  | succ n ih =>
    intro l h0 h1 hm
    rw [f_Bo_homeLevel_L23]
    refine zeN (q := ((24, [(1, .int (x0 ^^^ x1 ||| (y0 ^^^ y1))), (2, .int l)], [.int l]), h)) 1 rfl ?_
    refine zbc (q1 := (42, [(1, .int (x0 ^^^ x1 ||| (y0 ^^^ y1))), (2, .int l)], [])) (q2 := (27, [(1, .int (x0 ^^^ x1 ||| (y0 ^^^ y1))), (2, .int l)], [])) (cB := zc .le l 0) (off := 18) (lv := [(1, .int (x0 ^^^ x1 ||| (y0 ^^^ y1))), (2, .int l)]) (st := []) rfl rfl rfl rfl rfl (fun c24 => ?_) (fun c24 => ?_)
    · rw [c24]
      refine zeN (q := ((43, [(1, .int (x0 ^^^ x1 ||| (y0 ^^^ y1))), (2, .int l)], [.int l]), h)) 1 rfl ?_
      exact zer rfl rfl
    · rw [c24]
      have hcc := of_decide_eq_false (z_le c24).symm
      have hl1 : (l + Int32.ofInt (-1)).toInt = l.toInt - 1 := z_add (by show _ ≤ l.toInt + (-1); omega) (by show l.toInt + (-1) < _; omega)
      have hz : (0 : Int32).toInt = 0 := rfl
      refine zeN (q := ((33, [(1, .int (x0 ^^^ x1 ||| (y0 ^^^ y1))), (2, .int l)], [.int ((x0 ^^^ x1 ||| (y0 ^^^ y1)) >>> ((8 - l) &&& 31))]), h)) 5 rfl ?_
      refine zbc (q1 := (42, [(1, .int (x0 ^^^ x1 ||| (y0 ^^^ y1))), (2, .int l)], [])) (q2 := (36, [(1, .int (x0 ^^^ x1 ||| (y0 ^^^ y1))), (2, .int l)], [])) (cB := zc .eq ((x0 ^^^ x1 ||| (y0 ^^^ y1)) >>> ((8 - l) &&& 31)) 0) (off := 9) (lv := [(1, .int (x0 ^^^ x1 ||| (y0 ^^^ y1))), (2, .int l)]) (st := []) rfl rfl rfl rfl rfl (fun c33 => ?_) (fun c33 => ?_)
      · rw [c33]
        refine zeN (q := ((43, [(1, .int (x0 ^^^ x1 ||| (y0 ^^^ y1))), (2, .int l)], [.int l]), h)) 1 rfl ?_
        exact zer rfl rfl
      · rw [c33]
        refine zeN (q := ((23, [(2, .int (l + Int32.ofInt (-1))), (1, .int (x0 ^^^ x1 ||| (y0 ^^^ y1)))], []), h)) 2 rfl ?_
        refine zeS [(1, .int (x0 ^^^ x1 ||| (y0 ^^^ y1))), (2, .int (l + Int32.ofInt (-1)))] (zsub_pick [1, 0] rfl rfl) ?_
        exact ih (l + Int32.ofInt (-1)) (by omega) (by omega) (by omega)
def f_Bo_homeLevel (x0 y0 x1 y1 : Int32) : Int32 := (f_Bo_homeLevel_L23 x0 y0 x1 y1 9 8)
theorem s_Bo_homeLevel {fr lo : Nat} {h : zH} (x0 y0 x1 y1 : Int32) (b : Nat) (hb : h.1[b]? = some (.inr (7, [.int x0, .int y0, .int x1, .int y1]))) (hlo : 22 ≤ lo) : zAns (fr + 1) lo 36 [.ref b] h (some (.int (f_Bo_homeLevel x0 y0 x1 y1)), h) := by
  unfold f_Bo_homeLevel
  refine zeb (fr := fr + 0) (M := M_Bo_homeLevel) rfl (Nat.le_trans (by decide) hlo) rfl ?_
  have e0 : mL M_Bo_homeLevel = 3 := rfl
  refine zeN (q := ((1, [(0, .ref b)], [.ref b]), h)) 1 rfl ?_
  refine zegf (fs := [.int x0, .int y0, .int x1, .int y1]) (v := .int x0) rfl rfl rfl rfl hb rfl ?_
  refine zeN (q := ((5, [(0, .ref b)], [.ref b, .int x0]), h)) 1 rfl ?_
  refine zegf (fs := [.int x0, .int y0, .int x1, .int y1]) (v := .int x1) rfl rfl rfl rfl hb rfl ?_
  refine zeN (q := ((10, [(0, .ref b)], [.ref b, .int (x0 ^^^ x1)]), h)) 2 rfl ?_
  refine zegf (fs := [.int x0, .int y0, .int x1, .int y1]) (v := .int y0) rfl rfl rfl rfl hb rfl ?_
  refine zeN (q := ((14, [(0, .ref b)], [.ref b, .int y0, .int (x0 ^^^ x1)]), h)) 1 rfl ?_
  refine zegf (fs := [.int x0, .int y0, .int x1, .int y1]) (v := .int y1) rfl rfl rfl rfl hb rfl ?_
  refine zeN (q := ((23, [(2, .int 8), (1, .int ((x0 ^^^ x1) ||| (y0 ^^^ y1))), (0, .ref b)], []), h)) 5 rfl ?_
  refine zeS [(1, .int (x0 ^^^ x1 ||| (y0 ^^^ y1))), (2, .int 8)] (zsub_pick [1, 0] rfl rfl) ?_
  exact s_Bo_homeLevel_L23 x0 y0 x1 y1 b hb (by omega) 9 8 (by decide) (by decide) (by decide)
end
section
def f_Mo_turn (X Y : List Int32) (a b c : Int32) : Int64 := f_Mo_cross (gI X a) (gI Y a) (gI X b) (gI Y b) (gI X c) (gI Y c)
theorem s_Mo_turn {fr lo : Nat} {h : zH} (X Y : List Int32) (a b c : Int32) (m : Nat) (fs : List Value) (hm : h.1[m]? = some (.inr (8, fs))) (p_xs : Nat) (hf_xs : fs[4]? = some (.ref p_xs)) (ha_xs : h.1[p_xs]? = some (.inl (0, X.map Value.int))) (p_ys : Nat) (hf_ys : fs[5]? = some (.ref p_ys)) (ha_ys : h.1[p_ys]? = some (.inl (0, Y.map Value.int))) (hXY : Y.length = X.length) (ha : zIx a X.length) (hb : zIx b X.length) (hc : zIx c X.length) (hlo : 48 ≤ lo) : zAns (fr + 2) lo 123 [.ref m, .int a, .int b, .int c] h (some (.long (f_Mo_turn X Y a b c)), h) := by
  unfold f_Mo_turn
  refine zeb (fr := fr + 1) (M := M_Mo_turn) rfl (Nat.le_trans (by decide) hlo) rfl ?_
  have e0 : mL M_Mo_turn = 4 := rfl
  refine zeN (q := ((1, [(0, .ref m), (1, .int a), (2, .int b), (3, .int c)], [.ref m]), h)) 1 rfl ?_
  refine zegf (fs := fs) (v := .ref p_xs) rfl rfl rfl rfl hm hf_xs ?_
  refine zeN (q := ((5, [(0, .ref m), (1, .int a), (2, .int b), (3, .int c)], [.int a, .ref p_xs]), h)) 1 rfl ?_
  refine zeia (l := X.map Value.int) (k := a.toNatClampNeg) (v := .int (gI X a)) rfl rfl ha_xs (zIx_a ha) (zIx_b ha) ?_
  refine zeN (q := ((7, [(0, .ref m), (1, .int a), (2, .int b), (3, .int c)], [.ref m, .int (gI X a)]), h)) 1 rfl ?_
  refine zegf (fs := fs) (v := .ref p_ys) rfl rfl rfl rfl hm hf_ys ?_
  refine zeN (q := ((11, [(0, .ref m), (1, .int a), (2, .int b), (3, .int c)], [.int a, .ref p_ys, .int (gI X a)]), h)) 1 rfl ?_
  refine zeia (l := Y.map Value.int) (k := a.toNatClampNeg) (v := .int (gI Y a)) rfl rfl ha_ys (zIx_a (zIx_s ha hXY)) (zIx_b (zIx_s ha hXY)) ?_
  refine zeN (q := ((13, [(0, .ref m), (1, .int a), (2, .int b), (3, .int c)], [.ref m, .int (gI Y a), .int (gI X a)]), h)) 1 rfl ?_
  refine zegf (fs := fs) (v := .ref p_xs) rfl rfl rfl rfl hm hf_xs ?_
  refine zeN (q := ((17, [(0, .ref m), (1, .int a), (2, .int b), (3, .int c)], [.int b, .ref p_xs, .int (gI Y a), .int (gI X a)]), h)) 1 rfl ?_
  refine zeia (l := X.map Value.int) (k := b.toNatClampNeg) (v := .int (gI X b)) rfl rfl ha_xs (zIx_a hb) (zIx_b hb) ?_
  refine zeN (q := ((19, [(0, .ref m), (1, .int a), (2, .int b), (3, .int c)], [.ref m, .int (gI X b), .int (gI Y a), .int (gI X a)]), h)) 1 rfl ?_
  refine zegf (fs := fs) (v := .ref p_ys) rfl rfl rfl rfl hm hf_ys ?_
  refine zeN (q := ((23, [(0, .ref m), (1, .int a), (2, .int b), (3, .int c)], [.int b, .ref p_ys, .int (gI X b), .int (gI Y a), .int (gI X a)]), h)) 1 rfl ?_
  refine zeia (l := Y.map Value.int) (k := b.toNatClampNeg) (v := .int (gI Y b)) rfl rfl ha_ys (zIx_a (zIx_s hb hXY)) (zIx_b (zIx_s hb hXY)) ?_
  refine zeN (q := ((25, [(0, .ref m), (1, .int a), (2, .int b), (3, .int c)], [.ref m, .int (gI Y b), .int (gI X b), .int (gI Y a), .int (gI X a)]), h)) 1 rfl ?_
  refine zegf (fs := fs) (v := .ref p_xs) rfl rfl rfl rfl hm hf_xs ?_
  refine zeN (q := ((29, [(0, .ref m), (1, .int a), (2, .int b), (3, .int c)], [.int c, .ref p_xs, .int (gI Y b), .int (gI X b), .int (gI Y a), .int (gI X a)]), h)) 1 rfl ?_
  refine zeia (l := X.map Value.int) (k := c.toNatClampNeg) (v := .int (gI X c)) rfl rfl ha_xs (zIx_a hc) (zIx_b hc) ?_
  refine zeN (q := ((31, [(0, .ref m), (1, .int a), (2, .int b), (3, .int c)], [.ref m, .int (gI X c), .int (gI Y b), .int (gI X b), .int (gI Y a), .int (gI X a)]), h)) 1 rfl ?_
  refine zegf (fs := fs) (v := .ref p_ys) rfl rfl rfl rfl hm hf_ys ?_
  refine zeN (q := ((35, [(0, .ref m), (1, .int a), (2, .int b), (3, .int c)], [.int c, .ref p_ys, .int (gI X c), .int (gI Y b), .int (gI X b), .int (gI Y a), .int (gI X a)]), h)) 1 rfl ?_
  refine zeia (l := Y.map Value.int) (k := c.toNatClampNeg) (v := .int (gI Y c)) rfl rfl ha_ys (zIx_a (zIx_s hc hXY)) (zIx_b (zIx_s hc hXY)) ?_
  refine zec 0 (M' := M_Mo_cross) (qq := ([.int (gI X a), .int (gI Y a), .int (gI X b), .int (gI Y b), .int (gI X c), .int (gI Y c)], [])) (s' := (39, [(0, .ref m), (1, .int a), (2, .int b), (3, .int c)], [.long (f_Mo_cross (gI X a) (gI Y a) (gI X b) (gI Y b) (gI X c) (gI Y c))])) rfl rfl (fun _ => rfl) rfl rfl rfl (s_Mo_cross (gI X a) (gI Y a) (gI X b) (gI Y b) (gI X c) (gI Y c)  (by omega)) rfl ?_
  exact zer rfl rfl
def f_Mo_lies (X Y : List Int32) (a b c : Int32) : Int32 := f_Mo_on (gI X a) (gI Y a) (gI X b) (gI Y b) (gI X c) (gI Y c)
theorem b_Mo_lies (X Y : List Int32) (a b c : Int32) : zB (f_Mo_lies X Y a b c) := by unfold f_Mo_lies; exact (b_Mo_on (gI X a) (gI Y a) (gI X b) (gI Y b) (gI X c) (gI Y c))
theorem s_Mo_lies {fr lo : Nat} {h : zH} (X Y : List Int32) (a b c : Int32) (m : Nat) (fs : List Value) (hm : h.1[m]? = some (.inr (8, fs))) (p_xs : Nat) (hf_xs : fs[4]? = some (.ref p_xs)) (ha_xs : h.1[p_xs]? = some (.inl (0, X.map Value.int))) (p_ys : Nat) (hf_ys : fs[5]? = some (.ref p_ys)) (ha_ys : h.1[p_ys]? = some (.inl (0, Y.map Value.int))) (hXY : Y.length = X.length) (ha : zIx a X.length) (hb : zIx b X.length) (hc : zIx c X.length) (hlo : 73 ≤ lo) : zAns (fr + 3) lo 122 [.ref m, .int a, .int b, .int c] h (some (.int (f_Mo_lies X Y a b c)), h) := by
  unfold f_Mo_lies
  refine zeb (fr := fr + 2) (M := M_Mo_lies) rfl (Nat.le_trans (by decide) hlo) rfl ?_
  have e0 : mL M_Mo_lies = 4 := rfl
  refine zeN (q := ((1, [(0, .ref m), (1, .int a), (2, .int b), (3, .int c)], [.ref m]), h)) 1 rfl ?_
  refine zegf (fs := fs) (v := .ref p_xs) rfl rfl rfl rfl hm hf_xs ?_
  refine zeN (q := ((5, [(0, .ref m), (1, .int a), (2, .int b), (3, .int c)], [.int a, .ref p_xs]), h)) 1 rfl ?_
  refine zeia (l := X.map Value.int) (k := a.toNatClampNeg) (v := .int (gI X a)) rfl rfl ha_xs (zIx_a ha) (zIx_b ha) ?_
  refine zeN (q := ((7, [(0, .ref m), (1, .int a), (2, .int b), (3, .int c)], [.ref m, .int (gI X a)]), h)) 1 rfl ?_
  refine zegf (fs := fs) (v := .ref p_ys) rfl rfl rfl rfl hm hf_ys ?_
  refine zeN (q := ((11, [(0, .ref m), (1, .int a), (2, .int b), (3, .int c)], [.int a, .ref p_ys, .int (gI X a)]), h)) 1 rfl ?_
  refine zeia (l := Y.map Value.int) (k := a.toNatClampNeg) (v := .int (gI Y a)) rfl rfl ha_ys (zIx_a (zIx_s ha hXY)) (zIx_b (zIx_s ha hXY)) ?_
  refine zeN (q := ((13, [(0, .ref m), (1, .int a), (2, .int b), (3, .int c)], [.ref m, .int (gI Y a), .int (gI X a)]), h)) 1 rfl ?_
  refine zegf (fs := fs) (v := .ref p_xs) rfl rfl rfl rfl hm hf_xs ?_
  refine zeN (q := ((17, [(0, .ref m), (1, .int a), (2, .int b), (3, .int c)], [.int b, .ref p_xs, .int (gI Y a), .int (gI X a)]), h)) 1 rfl ?_
  refine zeia (l := X.map Value.int) (k := b.toNatClampNeg) (v := .int (gI X b)) rfl rfl ha_xs (zIx_a hb) (zIx_b hb) ?_
  refine zeN (q := ((19, [(0, .ref m), (1, .int a), (2, .int b), (3, .int c)], [.ref m, .int (gI X b), .int (gI Y a), .int (gI X a)]), h)) 1 rfl ?_
  refine zegf (fs := fs) (v := .ref p_ys) rfl rfl rfl rfl hm hf_ys ?_
  refine zeN (q := ((23, [(0, .ref m), (1, .int a), (2, .int b), (3, .int c)], [.int b, .ref p_ys, .int (gI X b), .int (gI Y a), .int (gI X a)]), h)) 1 rfl ?_
  refine zeia (l := Y.map Value.int) (k := b.toNatClampNeg) (v := .int (gI Y b)) rfl rfl ha_ys (zIx_a (zIx_s hb hXY)) (zIx_b (zIx_s hb hXY)) ?_
  refine zeN (q := ((25, [(0, .ref m), (1, .int a), (2, .int b), (3, .int c)], [.ref m, .int (gI Y b), .int (gI X b), .int (gI Y a), .int (gI X a)]), h)) 1 rfl ?_
  refine zegf (fs := fs) (v := .ref p_xs) rfl rfl rfl rfl hm hf_xs ?_
  refine zeN (q := ((29, [(0, .ref m), (1, .int a), (2, .int b), (3, .int c)], [.int c, .ref p_xs, .int (gI Y b), .int (gI X b), .int (gI Y a), .int (gI X a)]), h)) 1 rfl ?_
  refine zeia (l := X.map Value.int) (k := c.toNatClampNeg) (v := .int (gI X c)) rfl rfl ha_xs (zIx_a hc) (zIx_b hc) ?_
  refine zeN (q := ((31, [(0, .ref m), (1, .int a), (2, .int b), (3, .int c)], [.ref m, .int (gI X c), .int (gI Y b), .int (gI X b), .int (gI Y a), .int (gI X a)]), h)) 1 rfl ?_
  refine zegf (fs := fs) (v := .ref p_ys) rfl rfl rfl rfl hm hf_ys ?_
  refine zeN (q := ((35, [(0, .ref m), (1, .int a), (2, .int b), (3, .int c)], [.int c, .ref p_ys, .int (gI X c), .int (gI Y b), .int (gI X b), .int (gI Y a), .int (gI X a)]), h)) 1 rfl ?_
  refine zeia (l := Y.map Value.int) (k := c.toNatClampNeg) (v := .int (gI Y c)) rfl rfl ha_ys (zIx_a (zIx_s hc hXY)) (zIx_b (zIx_s hc hXY)) ?_
  refine zec 0 (M' := M_Mo_on) (qq := ([.int (gI X a), .int (gI Y a), .int (gI X b), .int (gI Y b), .int (gI X c), .int (gI Y c)], [])) (s' := (39, [(0, .ref m), (1, .int a), (2, .int b), (3, .int c)], [.int (f_Mo_on (gI X a) (gI Y a) (gI X b) (gI Y b) (gI X c) (gI Y c))])) rfl rfl (fun _ => rfl) rfl rfl rfl (s_Mo_on (gI X a) (gI Y a) (gI X b) (gI Y b) (gI X c) (gI Y c)  (by omega)) rfl ?_
  exact zer rfl (zreb (b_Mo_on (gI X a) (gI Y a) (gI X b) (gI Y b) (gI X c) (gI Y c)))
def f_Mo_touching_43 (X Y : List Int32) (a b c d : Int32) : Int32 := 1
theorem b_Mo_touching_43 (X Y : List Int32) (a b c d : Int32) : zB (f_Mo_touching_43 X Y a b c d) := by unfold f_Mo_touching_43; exact (zB1)
theorem s_Mo_touching_43 {fr lo : Nat} {h : zH} (X Y : List Int32) (a b c d : Int32) (m : Nat) (fs : List Value) (hm : h.1[m]? = some (.inr (8, fs))) (p_xs : Nat) (hf_xs : fs[4]? = some (.ref p_xs)) (ha_xs : h.1[p_xs]? = some (.inl (0, X.map Value.int))) (p_ys : Nat) (hf_ys : fs[5]? = some (.ref p_ys)) (ha_ys : h.1[p_ys]? = some (.inl (0, Y.map Value.int))) (hXY : Y.length = X.length) (ha : zIx a X.length) (hb : zIx b X.length) (hc : zIx c X.length) (hd : zIx d X.length) (hlo : 73 ≤ lo) : zRun (fr + 3) lo none M_Mo_touching (43, [(0, .ref m), (1, .int a), (2, .int b), (3, .int c), (4, .int d)], []) h (some (.int (f_Mo_touching_43 X Y a b c d)), h) := by
  unfold f_Mo_touching_43
  refine zeN (q := ((44, [(0, .ref m), (1, .int a), (2, .int b), (3, .int c), (4, .int d)], [.int 1]), h)) 1 rfl ?_
  exact zer rfl rfl
def f_Mo_touching_144 (X Y : List Int32) (a b c d : Int32) : Int32 := 0
theorem b_Mo_touching_144 (X Y : List Int32) (a b c d : Int32) : zB (f_Mo_touching_144 X Y a b c d) := by unfold f_Mo_touching_144; exact (zB0)
theorem s_Mo_touching_144 {fr lo : Nat} {h : zH} (X Y : List Int32) (a b c d : Int32) (m : Nat) (fs : List Value) (hm : h.1[m]? = some (.inr (8, fs))) (p_xs : Nat) (hf_xs : fs[4]? = some (.ref p_xs)) (ha_xs : h.1[p_xs]? = some (.inl (0, X.map Value.int))) (p_ys : Nat) (hf_ys : fs[5]? = some (.ref p_ys)) (ha_ys : h.1[p_ys]? = some (.inl (0, Y.map Value.int))) (hXY : Y.length = X.length) (ha : zIx a X.length) (hb : zIx b X.length) (hc : zIx c X.length) (hd : zIx d X.length) (hlo : 73 ≤ lo) : zRun (fr + 3) lo none M_Mo_touching (144, [(11, .long (f_Mo_turn X Y c d b)), (9, .long (f_Mo_turn X Y c d a)), (7, .long (f_Mo_turn X Y a b d)), (5, .long (f_Mo_turn X Y a b c)), (0, .ref m), (1, .int a), (2, .int b), (3, .int c), (4, .int d)], []) h (some (.int (f_Mo_touching_144 X Y a b c d)), h) := by
  unfold f_Mo_touching_144
  refine zeN (q := ((145, [(11, .long (f_Mo_turn X Y c d b)), (9, .long (f_Mo_turn X Y c d a)), (7, .long (f_Mo_turn X Y a b d)), (5, .long (f_Mo_turn X Y a b c)), (0, .ref m), (1, .int a), (2, .int b), (3, .int c), (4, .int d)], [.int 0]), h)) 1 rfl ?_
  exact zer rfl rfl
def f_Mo_touching_126 (X Y : List Int32) (a b c d : Int32) : Int32 := (bif zc .le (lg_cmp (f_Mo_turn X Y c d a) 0) 0 then (f_Mo_touching_144 X Y a b c d) else bif zc .ge (lg_cmp (f_Mo_turn X Y c d b) 0) 0 then 0 else 1)
theorem b_Mo_touching_126 (X Y : List Int32) (a b c d : Int32) : zB (f_Mo_touching_126 X Y a b c d) := by unfold f_Mo_touching_126; exact (zbi (b_Mo_touching_144 X Y a b c d) (zbb _))
theorem s_Mo_touching_126 {fr lo : Nat} {h : zH} (X Y : List Int32) (a b c d : Int32) (m : Nat) (fs : List Value) (hm : h.1[m]? = some (.inr (8, fs))) (p_xs : Nat) (hf_xs : fs[4]? = some (.ref p_xs)) (ha_xs : h.1[p_xs]? = some (.inl (0, X.map Value.int))) (p_ys : Nat) (hf_ys : fs[5]? = some (.ref p_ys)) (ha_ys : h.1[p_ys]? = some (.inl (0, Y.map Value.int))) (hXY : Y.length = X.length) (ha : zIx a X.length) (hb : zIx b X.length) (hc : zIx c X.length) (hd : zIx d X.length) (hlo : 73 ≤ lo) : zRun (fr + 3) lo none M_Mo_touching (126, [(11, .long (f_Mo_turn X Y c d b)), (9, .long (f_Mo_turn X Y c d a)), (7, .long (f_Mo_turn X Y a b d)), (5, .long (f_Mo_turn X Y a b c)), (0, .ref m), (1, .int a), (2, .int b), (3, .int c), (4, .int d)], []) h (some (.int (f_Mo_touching_126 X Y a b c d)), h) := by
  unfold f_Mo_touching_126
  refine zeN (q := ((130, [(11, .long (f_Mo_turn X Y c d b)), (9, .long (f_Mo_turn X Y c d a)), (7, .long (f_Mo_turn X Y a b d)), (5, .long (f_Mo_turn X Y a b c)), (0, .ref m), (1, .int a), (2, .int b), (3, .int c), (4, .int d)], [.int (lg_cmp (f_Mo_turn X Y c d a) 0)]), h)) 3 rfl ?_
  refine zbc (q1 := (144, [(11, .long (f_Mo_turn X Y c d b)), (9, .long (f_Mo_turn X Y c d a)), (7, .long (f_Mo_turn X Y a b d)), (5, .long (f_Mo_turn X Y a b c)), (0, .ref m), (1, .int a), (2, .int b), (3, .int c), (4, .int d)], [])) (q2 := (133, [(11, .long (f_Mo_turn X Y c d b)), (9, .long (f_Mo_turn X Y c d a)), (7, .long (f_Mo_turn X Y a b d)), (5, .long (f_Mo_turn X Y a b c)), (0, .ref m), (1, .int a), (2, .int b), (3, .int c), (4, .int d)], [])) (cB := zc .le (lg_cmp (f_Mo_turn X Y c d a) 0) 0) (off := 14) (lv := [(11, .long (f_Mo_turn X Y c d b)), (9, .long (f_Mo_turn X Y c d a)), (7, .long (f_Mo_turn X Y a b d)), (5, .long (f_Mo_turn X Y a b c)), (0, .ref m), (1, .int a), (2, .int b), (3, .int c), (4, .int d)]) (st := []) rfl rfl rfl rfl rfl (fun c130 => ?_) (fun c130 => ?_)
  · rw [c130]
    exact s_Mo_touching_144 X Y a b c d m fs hm p_xs hf_xs ha_xs p_ys hf_ys ha_ys hXY ha hb hc hd (by omega)
  · rw [c130]
    refine zeN (q := ((137, [(11, .long (f_Mo_turn X Y c d b)), (9, .long (f_Mo_turn X Y c d a)), (7, .long (f_Mo_turn X Y a b d)), (5, .long (f_Mo_turn X Y a b c)), (0, .ref m), (1, .int a), (2, .int b), (3, .int c), (4, .int d)], [.int (lg_cmp (f_Mo_turn X Y c d b) 0)]), h)) 3 rfl ?_
    refine zdia (q1 := (144, [(11, .long (f_Mo_turn X Y c d b)), (9, .long (f_Mo_turn X Y c d a)), (7, .long (f_Mo_turn X Y a b d)), (5, .long (f_Mo_turn X Y a b c)), (0, .ref m), (1, .int a), (2, .int b), (3, .int c), (4, .int d)], [])) (q2 := (140, [(11, .long (f_Mo_turn X Y c d b)), (9, .long (f_Mo_turn X Y c d a)), (7, .long (f_Mo_turn X Y a b d)), (5, .long (f_Mo_turn X Y a b c)), (0, .ref m), (1, .int a), (2, .int b), (3, .int c), (4, .int d)], [])) (cB := zc .ge (lg_cmp (f_Mo_turn X Y c d b) 0) 0) (off := 7) (lv := [(11, .long (f_Mo_turn X Y c d b)), (9, .long (f_Mo_turn X Y c d a)), (7, .long (f_Mo_turn X Y a b d)), (5, .long (f_Mo_turn X Y a b c)), (0, .ref m), (1, .int a), (2, .int b), (3, .int c), (4, .int d)]) (st := []) (lv2 := [(11, .long (f_Mo_turn X Y c d b)), (9, .long (f_Mo_turn X Y c d a)), (7, .long (f_Mo_turn X Y a b d)), (5, .long (f_Mo_turn X Y a b c)), (0, .ref m), (1, .int a), (2, .int b), (3, .int c), (4, .int d)]) (st2 := []) (J := 145) (vA := 0) (vB := 1) 1 2 rfl rfl rfl rfl rfl rfl rfl ?_
    exact zer rfl (zreb (zbb _))
def f_Mo_touching_140 (X Y : List Int32) (a b c d : Int32) : Int32 := 1
theorem b_Mo_touching_140 (X Y : List Int32) (a b c d : Int32) : zB (f_Mo_touching_140 X Y a b c d) := by unfold f_Mo_touching_140; exact (zB1)
theorem s_Mo_touching_140 {fr lo : Nat} {h : zH} (X Y : List Int32) (a b c d : Int32) (m : Nat) (fs : List Value) (hm : h.1[m]? = some (.inr (8, fs))) (p_xs : Nat) (hf_xs : fs[4]? = some (.ref p_xs)) (ha_xs : h.1[p_xs]? = some (.inl (0, X.map Value.int))) (p_ys : Nat) (hf_ys : fs[5]? = some (.ref p_ys)) (ha_ys : h.1[p_ys]? = some (.inl (0, Y.map Value.int))) (hXY : Y.length = X.length) (ha : zIx a X.length) (hb : zIx b X.length) (hc : zIx c X.length) (hd : zIx d X.length) (hlo : 73 ≤ lo) : zRun (fr + 3) lo none M_Mo_touching (140, [(11, .long (f_Mo_turn X Y c d b)), (9, .long (f_Mo_turn X Y c d a)), (7, .long (f_Mo_turn X Y a b d)), (5, .long (f_Mo_turn X Y a b c)), (0, .ref m), (1, .int a), (2, .int b), (3, .int c), (4, .int d)], []) h (some (.int (f_Mo_touching_140 X Y a b c d)), h) := by
  unfold f_Mo_touching_140
  refine zeN (q := ((145, [(11, .long (f_Mo_turn X Y c d b)), (9, .long (f_Mo_turn X Y c d a)), (7, .long (f_Mo_turn X Y a b d)), (5, .long (f_Mo_turn X Y a b c)), (0, .ref m), (1, .int a), (2, .int b), (3, .int c), (4, .int d)], [.int 1]), h)) 2 rfl ?_
  exact zer rfl rfl
def f_Mo_touching_112 (X Y : List Int32) (a b c d : Int32) : Int32 := (bif zc .ge (lg_cmp (f_Mo_turn X Y c d a) 0) 0 then (f_Mo_touching_126 X Y a b c d) else (bif zc .gt (lg_cmp (f_Mo_turn X Y c d b) 0) 0 then (f_Mo_touching_140 X Y a b c d) else (f_Mo_touching_126 X Y a b c d)))
theorem b_Mo_touching_112 (X Y : List Int32) (a b c d : Int32) : zB (f_Mo_touching_112 X Y a b c d) := by unfold f_Mo_touching_112; exact (zbi (b_Mo_touching_126 X Y a b c d) (zbi (b_Mo_touching_140 X Y a b c d) (b_Mo_touching_126 X Y a b c d)))
theorem s_Mo_touching_112 {fr lo : Nat} {h : zH} (X Y : List Int32) (a b c d : Int32) (m : Nat) (fs : List Value) (hm : h.1[m]? = some (.inr (8, fs))) (p_xs : Nat) (hf_xs : fs[4]? = some (.ref p_xs)) (ha_xs : h.1[p_xs]? = some (.inl (0, X.map Value.int))) (p_ys : Nat) (hf_ys : fs[5]? = some (.ref p_ys)) (ha_ys : h.1[p_ys]? = some (.inl (0, Y.map Value.int))) (hXY : Y.length = X.length) (ha : zIx a X.length) (hb : zIx b X.length) (hc : zIx c X.length) (hd : zIx d X.length) (hlo : 73 ≤ lo) : zRun (fr + 3) lo none M_Mo_touching (112, [(11, .long (f_Mo_turn X Y c d b)), (9, .long (f_Mo_turn X Y c d a)), (7, .long (f_Mo_turn X Y a b d)), (5, .long (f_Mo_turn X Y a b c)), (0, .ref m), (1, .int a), (2, .int b), (3, .int c), (4, .int d)], []) h (some (.int (f_Mo_touching_112 X Y a b c d)), h) := by
  unfold f_Mo_touching_112
  refine zeN (q := ((116, [(11, .long (f_Mo_turn X Y c d b)), (9, .long (f_Mo_turn X Y c d a)), (7, .long (f_Mo_turn X Y a b d)), (5, .long (f_Mo_turn X Y a b c)), (0, .ref m), (1, .int a), (2, .int b), (3, .int c), (4, .int d)], [.int (lg_cmp (f_Mo_turn X Y c d a) 0)]), h)) 3 rfl ?_
  refine zbc (q1 := (126, [(11, .long (f_Mo_turn X Y c d b)), (9, .long (f_Mo_turn X Y c d a)), (7, .long (f_Mo_turn X Y a b d)), (5, .long (f_Mo_turn X Y a b c)), (0, .ref m), (1, .int a), (2, .int b), (3, .int c), (4, .int d)], [])) (q2 := (119, [(11, .long (f_Mo_turn X Y c d b)), (9, .long (f_Mo_turn X Y c d a)), (7, .long (f_Mo_turn X Y a b d)), (5, .long (f_Mo_turn X Y a b c)), (0, .ref m), (1, .int a), (2, .int b), (3, .int c), (4, .int d)], [])) (cB := zc .ge (lg_cmp (f_Mo_turn X Y c d a) 0) 0) (off := 10) (lv := [(11, .long (f_Mo_turn X Y c d b)), (9, .long (f_Mo_turn X Y c d a)), (7, .long (f_Mo_turn X Y a b d)), (5, .long (f_Mo_turn X Y a b c)), (0, .ref m), (1, .int a), (2, .int b), (3, .int c), (4, .int d)]) (st := []) rfl rfl rfl rfl rfl (fun c116 => ?_) (fun c116 => ?_)
  · rw [c116]
    exact s_Mo_touching_126 X Y a b c d m fs hm p_xs hf_xs ha_xs p_ys hf_ys ha_ys hXY ha hb hc hd (by omega)
  · rw [c116]
    refine zeN (q := ((123, [(11, .long (f_Mo_turn X Y c d b)), (9, .long (f_Mo_turn X Y c d a)), (7, .long (f_Mo_turn X Y a b d)), (5, .long (f_Mo_turn X Y a b c)), (0, .ref m), (1, .int a), (2, .int b), (3, .int c), (4, .int d)], [.int (lg_cmp (f_Mo_turn X Y c d b) 0)]), h)) 3 rfl ?_
    refine zbc (q1 := (140, [(11, .long (f_Mo_turn X Y c d b)), (9, .long (f_Mo_turn X Y c d a)), (7, .long (f_Mo_turn X Y a b d)), (5, .long (f_Mo_turn X Y a b c)), (0, .ref m), (1, .int a), (2, .int b), (3, .int c), (4, .int d)], [])) (q2 := (126, [(11, .long (f_Mo_turn X Y c d b)), (9, .long (f_Mo_turn X Y c d a)), (7, .long (f_Mo_turn X Y a b d)), (5, .long (f_Mo_turn X Y a b c)), (0, .ref m), (1, .int a), (2, .int b), (3, .int c), (4, .int d)], [])) (cB := zc .gt (lg_cmp (f_Mo_turn X Y c d b) 0) 0) (off := 17) (lv := [(11, .long (f_Mo_turn X Y c d b)), (9, .long (f_Mo_turn X Y c d a)), (7, .long (f_Mo_turn X Y a b d)), (5, .long (f_Mo_turn X Y a b c)), (0, .ref m), (1, .int a), (2, .int b), (3, .int c), (4, .int d)]) (st := []) rfl rfl rfl rfl rfl (fun c123 => ?_) (fun c123 => ?_)
    · rw [c123]
      exact s_Mo_touching_140 X Y a b c d m fs hm p_xs hf_xs ha_xs p_ys hf_ys ha_ys hXY ha hb hc hd (by omega)
    · rw [c123]
      exact s_Mo_touching_126 X Y a b c d m fs hm p_xs hf_xs ha_xs p_ys hf_ys ha_ys hXY ha hb hc hd (by omega)
def f_Mo_touching_98 (X Y : List Int32) (a b c d : Int32) : Int32 := (bif zc .le (lg_cmp (f_Mo_turn X Y a b c) 0) 0 then (f_Mo_touching_144 X Y a b c d) else (bif zc .ge (lg_cmp (f_Mo_turn X Y a b d) 0) 0 then (f_Mo_touching_144 X Y a b c d) else (f_Mo_touching_112 X Y a b c d)))
theorem b_Mo_touching_98 (X Y : List Int32) (a b c d : Int32) : zB (f_Mo_touching_98 X Y a b c d) := by unfold f_Mo_touching_98; exact (zbi (b_Mo_touching_144 X Y a b c d) (zbi (b_Mo_touching_144 X Y a b c d) (b_Mo_touching_112 X Y a b c d)))
theorem s_Mo_touching_98 {fr lo : Nat} {h : zH} (X Y : List Int32) (a b c d : Int32) (m : Nat) (fs : List Value) (hm : h.1[m]? = some (.inr (8, fs))) (p_xs : Nat) (hf_xs : fs[4]? = some (.ref p_xs)) (ha_xs : h.1[p_xs]? = some (.inl (0, X.map Value.int))) (p_ys : Nat) (hf_ys : fs[5]? = some (.ref p_ys)) (ha_ys : h.1[p_ys]? = some (.inl (0, Y.map Value.int))) (hXY : Y.length = X.length) (ha : zIx a X.length) (hb : zIx b X.length) (hc : zIx c X.length) (hd : zIx d X.length) (hlo : 73 ≤ lo) : zRun (fr + 3) lo none M_Mo_touching (98, [(11, .long (f_Mo_turn X Y c d b)), (9, .long (f_Mo_turn X Y c d a)), (7, .long (f_Mo_turn X Y a b d)), (5, .long (f_Mo_turn X Y a b c)), (0, .ref m), (1, .int a), (2, .int b), (3, .int c), (4, .int d)], []) h (some (.int (f_Mo_touching_98 X Y a b c d)), h) := by
  unfold f_Mo_touching_98
  refine zeN (q := ((102, [(11, .long (f_Mo_turn X Y c d b)), (9, .long (f_Mo_turn X Y c d a)), (7, .long (f_Mo_turn X Y a b d)), (5, .long (f_Mo_turn X Y a b c)), (0, .ref m), (1, .int a), (2, .int b), (3, .int c), (4, .int d)], [.int (lg_cmp (f_Mo_turn X Y a b c) 0)]), h)) 3 rfl ?_
  refine zbc (q1 := (144, [(11, .long (f_Mo_turn X Y c d b)), (9, .long (f_Mo_turn X Y c d a)), (7, .long (f_Mo_turn X Y a b d)), (5, .long (f_Mo_turn X Y a b c)), (0, .ref m), (1, .int a), (2, .int b), (3, .int c), (4, .int d)], [])) (q2 := (105, [(11, .long (f_Mo_turn X Y c d b)), (9, .long (f_Mo_turn X Y c d a)), (7, .long (f_Mo_turn X Y a b d)), (5, .long (f_Mo_turn X Y a b c)), (0, .ref m), (1, .int a), (2, .int b), (3, .int c), (4, .int d)], [])) (cB := zc .le (lg_cmp (f_Mo_turn X Y a b c) 0) 0) (off := 42) (lv := [(11, .long (f_Mo_turn X Y c d b)), (9, .long (f_Mo_turn X Y c d a)), (7, .long (f_Mo_turn X Y a b d)), (5, .long (f_Mo_turn X Y a b c)), (0, .ref m), (1, .int a), (2, .int b), (3, .int c), (4, .int d)]) (st := []) rfl rfl rfl rfl rfl (fun c102 => ?_) (fun c102 => ?_)
  · rw [c102]
    exact s_Mo_touching_144 X Y a b c d m fs hm p_xs hf_xs ha_xs p_ys hf_ys ha_ys hXY ha hb hc hd (by omega)
  · rw [c102]
    refine zeN (q := ((109, [(11, .long (f_Mo_turn X Y c d b)), (9, .long (f_Mo_turn X Y c d a)), (7, .long (f_Mo_turn X Y a b d)), (5, .long (f_Mo_turn X Y a b c)), (0, .ref m), (1, .int a), (2, .int b), (3, .int c), (4, .int d)], [.int (lg_cmp (f_Mo_turn X Y a b d) 0)]), h)) 3 rfl ?_
    refine zbc (q1 := (144, [(11, .long (f_Mo_turn X Y c d b)), (9, .long (f_Mo_turn X Y c d a)), (7, .long (f_Mo_turn X Y a b d)), (5, .long (f_Mo_turn X Y a b c)), (0, .ref m), (1, .int a), (2, .int b), (3, .int c), (4, .int d)], [])) (q2 := (112, [(11, .long (f_Mo_turn X Y c d b)), (9, .long (f_Mo_turn X Y c d a)), (7, .long (f_Mo_turn X Y a b d)), (5, .long (f_Mo_turn X Y a b c)), (0, .ref m), (1, .int a), (2, .int b), (3, .int c), (4, .int d)], [])) (cB := zc .ge (lg_cmp (f_Mo_turn X Y a b d) 0) 0) (off := 35) (lv := [(11, .long (f_Mo_turn X Y c d b)), (9, .long (f_Mo_turn X Y c d a)), (7, .long (f_Mo_turn X Y a b d)), (5, .long (f_Mo_turn X Y a b c)), (0, .ref m), (1, .int a), (2, .int b), (3, .int c), (4, .int d)]) (st := []) rfl rfl rfl rfl rfl (fun c109 => ?_) (fun c109 => ?_)
    · rw [c109]
      exact s_Mo_touching_144 X Y a b c d m fs hm p_xs hf_xs ha_xs p_ys hf_ys ha_ys hXY ha hb hc hd (by omega)
    · rw [c109]
      exact s_Mo_touching_112 X Y a b c d m fs hm p_xs hf_xs ha_xs p_ys hf_ys ha_ys hXY ha hb hc hd (by omega)
def f_Mo_touching (X Y : List Int32) (a b c d : Int32) : Int32 := (bif zc .ne (f_Mo_lies X Y a b c) 0 then (f_Mo_touching_43 X Y a b c d) else (bif zc .ne (f_Mo_lies X Y a b d) 0 then (f_Mo_touching_43 X Y a b c d) else (bif zc .ne (f_Mo_lies X Y c d a) 0 then (f_Mo_touching_43 X Y a b c d) else (bif zc .eq (f_Mo_lies X Y c d b) 0 then (bif zc .ge (lg_cmp (f_Mo_turn X Y a b c) 0) 0 then (f_Mo_touching_98 X Y a b c d) else (bif zc .gt (lg_cmp (f_Mo_turn X Y a b d) 0) 0 then (f_Mo_touching_112 X Y a b c d) else (f_Mo_touching_98 X Y a b c d))) else (f_Mo_touching_43 X Y a b c d)))))
theorem b_Mo_touching (X Y : List Int32) (a b c d : Int32) : zB (f_Mo_touching X Y a b c d) := by unfold f_Mo_touching; exact (zbi (b_Mo_touching_43 X Y a b c d) (zbi (b_Mo_touching_43 X Y a b c d) (zbi (b_Mo_touching_43 X Y a b c d) (zbi (zbi (b_Mo_touching_98 X Y a b c d) (zbi (b_Mo_touching_112 X Y a b c d) (b_Mo_touching_98 X Y a b c d))) (b_Mo_touching_43 X Y a b c d)))))
theorem s_Mo_touching {fr lo : Nat} {h : zH} (X Y : List Int32) (a b c d : Int32) (m : Nat) (fs : List Value) (hm : h.1[m]? = some (.inr (8, fs))) (p_xs : Nat) (hf_xs : fs[4]? = some (.ref p_xs)) (ha_xs : h.1[p_xs]? = some (.inl (0, X.map Value.int))) (p_ys : Nat) (hf_ys : fs[5]? = some (.ref p_ys)) (ha_ys : h.1[p_ys]? = some (.inl (0, Y.map Value.int))) (hXY : Y.length = X.length) (ha : zIx a X.length) (hb : zIx b X.length) (hc : zIx c X.length) (hd : zIx d X.length) (hlo : 105 ≤ lo) : zAns (fr + 4) lo 121 [.ref m, .int a, .int b, .int c, .int d] h (some (.int (f_Mo_touching X Y a b c d)), h) := by
  unfold f_Mo_touching
  refine zeb (fr := fr + 3) (M := M_Mo_touching) rfl (Nat.le_trans (by decide) hlo) rfl ?_
  have e0 : mL M_Mo_touching = 13 := rfl
  refine zeN (q := ((4, [(0, .ref m), (1, .int a), (2, .int b), (3, .int c), (4, .int d)], [.int c, .int b, .int a, .ref m]), h)) 4 rfl ?_
  refine zec 1 (M' := M_Mo_lies) (qq := ([.ref m, .int a, .int b, .int c], [])) (s' := (7, [(0, .ref m), (1, .int a), (2, .int b), (3, .int c), (4, .int d)], [.int (f_Mo_lies X Y a b c)])) rfl rfl (fun _ => rfl) rfl rfl (zhk rfl (zrc_ok hm) rfl) (s_Mo_lies X Y a b c m fs hm p_xs hf_xs ha_xs p_ys hf_ys ha_ys hXY ha hb hc (by omega)) rfl ?_
  refine zbc (q1 := (43, [(0, .ref m), (1, .int a), (2, .int b), (3, .int c), (4, .int d)], [])) (q2 := (10, [(0, .ref m), (1, .int a), (2, .int b), (3, .int c), (4, .int d)], [])) (cB := zc .ne (f_Mo_lies X Y a b c) 0) (off := 36) (lv := [(0, .ref m), (1, .int a), (2, .int b), (3, .int c), (4, .int d)]) (st := []) rfl rfl rfl rfl rfl (fun c7 => ?_) (fun c7 => ?_)
  · rw [c7]
    exact s_Mo_touching_43 X Y a b c d m fs hm p_xs hf_xs ha_xs p_ys hf_ys ha_ys hXY ha hb hc hd (by omega)
  · rw [c7]
    refine zeN (q := ((15, [(0, .ref m), (1, .int a), (2, .int b), (3, .int c), (4, .int d)], [.int d, .int b, .int a, .ref m]), h)) 4 rfl ?_
    refine zec 1 (M' := M_Mo_lies) (qq := ([.ref m, .int a, .int b, .int d], [])) (s' := (18, [(0, .ref m), (1, .int a), (2, .int b), (3, .int c), (4, .int d)], [.int (f_Mo_lies X Y a b d)])) rfl rfl (fun _ => rfl) rfl rfl (zhk rfl (zrc_ok hm) rfl) (s_Mo_lies X Y a b d m fs hm p_xs hf_xs ha_xs p_ys hf_ys ha_ys hXY ha hb hd (by omega)) rfl ?_
    refine zbc (q1 := (43, [(0, .ref m), (1, .int a), (2, .int b), (3, .int c), (4, .int d)], [])) (q2 := (21, [(0, .ref m), (1, .int a), (2, .int b), (3, .int c), (4, .int d)], [])) (cB := zc .ne (f_Mo_lies X Y a b d) 0) (off := 25) (lv := [(0, .ref m), (1, .int a), (2, .int b), (3, .int c), (4, .int d)]) (st := []) rfl rfl rfl rfl rfl (fun c18 => ?_) (fun c18 => ?_)
    · rw [c18]
      exact s_Mo_touching_43 X Y a b c d m fs hm p_xs hf_xs ha_xs p_ys hf_ys ha_ys hXY ha hb hc hd (by omega)
    · rw [c18]
      refine zeN (q := ((26, [(0, .ref m), (1, .int a), (2, .int b), (3, .int c), (4, .int d)], [.int a, .int d, .int c, .ref m]), h)) 4 rfl ?_
      refine zec 1 (M' := M_Mo_lies) (qq := ([.ref m, .int c, .int d, .int a], [])) (s' := (29, [(0, .ref m), (1, .int a), (2, .int b), (3, .int c), (4, .int d)], [.int (f_Mo_lies X Y c d a)])) rfl rfl (fun _ => rfl) rfl rfl (zhk rfl (zrc_ok hm) rfl) (s_Mo_lies X Y c d a m fs hm p_xs hf_xs ha_xs p_ys hf_ys ha_ys hXY hc hd ha (by omega)) rfl ?_
      refine zbc (q1 := (43, [(0, .ref m), (1, .int a), (2, .int b), (3, .int c), (4, .int d)], [])) (q2 := (32, [(0, .ref m), (1, .int a), (2, .int b), (3, .int c), (4, .int d)], [])) (cB := zc .ne (f_Mo_lies X Y c d a) 0) (off := 14) (lv := [(0, .ref m), (1, .int a), (2, .int b), (3, .int c), (4, .int d)]) (st := []) rfl rfl rfl rfl rfl (fun c29 => ?_) (fun c29 => ?_)
      · rw [c29]
        exact s_Mo_touching_43 X Y a b c d m fs hm p_xs hf_xs ha_xs p_ys hf_ys ha_ys hXY ha hb hc hd (by omega)
      · rw [c29]
        refine zeN (q := ((37, [(0, .ref m), (1, .int a), (2, .int b), (3, .int c), (4, .int d)], [.int b, .int d, .int c, .ref m]), h)) 4 rfl ?_
        refine zec 1 (M' := M_Mo_lies) (qq := ([.ref m, .int c, .int d, .int b], [])) (s' := (40, [(0, .ref m), (1, .int a), (2, .int b), (3, .int c), (4, .int d)], [.int (f_Mo_lies X Y c d b)])) rfl rfl (fun _ => rfl) rfl rfl (zhk rfl (zrc_ok hm) rfl) (s_Mo_lies X Y c d b m fs hm p_xs hf_xs ha_xs p_ys hf_ys ha_ys hXY hc hd hb (by omega)) rfl ?_
        refine zbc (q1 := (45, [(0, .ref m), (1, .int a), (2, .int b), (3, .int c), (4, .int d)], [])) (q2 := (43, [(0, .ref m), (1, .int a), (2, .int b), (3, .int c), (4, .int d)], [])) (cB := zc .eq (f_Mo_lies X Y c d b) 0) (off := 5) (lv := [(0, .ref m), (1, .int a), (2, .int b), (3, .int c), (4, .int d)]) (st := []) rfl rfl rfl rfl rfl (fun c40 => ?_) (fun c40 => ?_)
        · rw [c40]
          refine zeN (q := ((49, [(0, .ref m), (1, .int a), (2, .int b), (3, .int c), (4, .int d)], [.int c, .int b, .int a, .ref m]), h)) 4 rfl ?_
          refine zec 1 (M' := M_Mo_turn) (qq := ([.ref m, .int a, .int b, .int c], [])) (s' := (52, [(0, .ref m), (1, .int a), (2, .int b), (3, .int c), (4, .int d)], [.long (f_Mo_turn X Y a b c)])) rfl rfl (fun _ => rfl) rfl rfl (zhk rfl (zrc_ok hm) rfl) (s_Mo_turn X Y a b c m fs hm p_xs hf_xs ha_xs p_ys hf_ys ha_ys hXY ha hb hc (by omega)) rfl ?_
          refine zeN (q := ((59, [(5, .long (f_Mo_turn X Y a b c)), (0, .ref m), (1, .int a), (2, .int b), (3, .int c), (4, .int d)], [.int d, .int b, .int a, .ref m]), h)) 5 rfl ?_
          refine zec 1 (M' := M_Mo_turn) (qq := ([.ref m, .int a, .int b, .int d], [])) (s' := (62, [(5, .long (f_Mo_turn X Y a b c)), (0, .ref m), (1, .int a), (2, .int b), (3, .int c), (4, .int d)], [.long (f_Mo_turn X Y a b d)])) rfl rfl (fun _ => rfl) rfl rfl (zhk rfl (zrc_ok hm) rfl) (s_Mo_turn X Y a b d m fs hm p_xs hf_xs ha_xs p_ys hf_ys ha_ys hXY ha hb hd (by omega)) rfl ?_
          refine zeN (q := ((69, [(7, .long (f_Mo_turn X Y a b d)), (5, .long (f_Mo_turn X Y a b c)), (0, .ref m), (1, .int a), (2, .int b), (3, .int c), (4, .int d)], [.int a, .int d, .int c, .ref m]), h)) 5 rfl ?_
          refine zec 1 (M' := M_Mo_turn) (qq := ([.ref m, .int c, .int d, .int a], [])) (s' := (72, [(7, .long (f_Mo_turn X Y a b d)), (5, .long (f_Mo_turn X Y a b c)), (0, .ref m), (1, .int a), (2, .int b), (3, .int c), (4, .int d)], [.long (f_Mo_turn X Y c d a)])) rfl rfl (fun _ => rfl) rfl rfl (zhk rfl (zrc_ok hm) rfl) (s_Mo_turn X Y c d a m fs hm p_xs hf_xs ha_xs p_ys hf_ys ha_ys hXY hc hd ha (by omega)) rfl ?_
          refine zeN (q := ((79, [(9, .long (f_Mo_turn X Y c d a)), (7, .long (f_Mo_turn X Y a b d)), (5, .long (f_Mo_turn X Y a b c)), (0, .ref m), (1, .int a), (2, .int b), (3, .int c), (4, .int d)], [.int b, .int d, .int c, .ref m]), h)) 5 rfl ?_
          refine zec 1 (M' := M_Mo_turn) (qq := ([.ref m, .int c, .int d, .int b], [])) (s' := (82, [(9, .long (f_Mo_turn X Y c d a)), (7, .long (f_Mo_turn X Y a b d)), (5, .long (f_Mo_turn X Y a b c)), (0, .ref m), (1, .int a), (2, .int b), (3, .int c), (4, .int d)], [.long (f_Mo_turn X Y c d b)])) rfl rfl (fun _ => rfl) rfl rfl (zhk rfl (zrc_ok hm) rfl) (s_Mo_turn X Y c d b m fs hm p_xs hf_xs ha_xs p_ys hf_ys ha_ys hXY hc hd hb (by omega)) rfl ?_
          refine zeN (q := ((88, [(11, .long (f_Mo_turn X Y c d b)), (9, .long (f_Mo_turn X Y c d a)), (7, .long (f_Mo_turn X Y a b d)), (5, .long (f_Mo_turn X Y a b c)), (0, .ref m), (1, .int a), (2, .int b), (3, .int c), (4, .int d)], [.int (lg_cmp (f_Mo_turn X Y a b c) 0)]), h)) 4 rfl ?_
          refine zbc (q1 := (98, [(11, .long (f_Mo_turn X Y c d b)), (9, .long (f_Mo_turn X Y c d a)), (7, .long (f_Mo_turn X Y a b d)), (5, .long (f_Mo_turn X Y a b c)), (0, .ref m), (1, .int a), (2, .int b), (3, .int c), (4, .int d)], [])) (q2 := (91, [(11, .long (f_Mo_turn X Y c d b)), (9, .long (f_Mo_turn X Y c d a)), (7, .long (f_Mo_turn X Y a b d)), (5, .long (f_Mo_turn X Y a b c)), (0, .ref m), (1, .int a), (2, .int b), (3, .int c), (4, .int d)], [])) (cB := zc .ge (lg_cmp (f_Mo_turn X Y a b c) 0) 0) (off := 10) (lv := [(11, .long (f_Mo_turn X Y c d b)), (9, .long (f_Mo_turn X Y c d a)), (7, .long (f_Mo_turn X Y a b d)), (5, .long (f_Mo_turn X Y a b c)), (0, .ref m), (1, .int a), (2, .int b), (3, .int c), (4, .int d)]) (st := []) rfl rfl rfl rfl rfl (fun c88 => ?_) (fun c88 => ?_)
          · rw [c88]
            exact s_Mo_touching_98 X Y a b c d m fs hm p_xs hf_xs ha_xs p_ys hf_ys ha_ys hXY ha hb hc hd (by omega)
          · rw [c88]
            refine zeN (q := ((95, [(11, .long (f_Mo_turn X Y c d b)), (9, .long (f_Mo_turn X Y c d a)), (7, .long (f_Mo_turn X Y a b d)), (5, .long (f_Mo_turn X Y a b c)), (0, .ref m), (1, .int a), (2, .int b), (3, .int c), (4, .int d)], [.int (lg_cmp (f_Mo_turn X Y a b d) 0)]), h)) 3 rfl ?_
            refine zbc (q1 := (112, [(11, .long (f_Mo_turn X Y c d b)), (9, .long (f_Mo_turn X Y c d a)), (7, .long (f_Mo_turn X Y a b d)), (5, .long (f_Mo_turn X Y a b c)), (0, .ref m), (1, .int a), (2, .int b), (3, .int c), (4, .int d)], [])) (q2 := (98, [(11, .long (f_Mo_turn X Y c d b)), (9, .long (f_Mo_turn X Y c d a)), (7, .long (f_Mo_turn X Y a b d)), (5, .long (f_Mo_turn X Y a b c)), (0, .ref m), (1, .int a), (2, .int b), (3, .int c), (4, .int d)], [])) (cB := zc .gt (lg_cmp (f_Mo_turn X Y a b d) 0) 0) (off := 17) (lv := [(11, .long (f_Mo_turn X Y c d b)), (9, .long (f_Mo_turn X Y c d a)), (7, .long (f_Mo_turn X Y a b d)), (5, .long (f_Mo_turn X Y a b c)), (0, .ref m), (1, .int a), (2, .int b), (3, .int c), (4, .int d)]) (st := []) rfl rfl rfl rfl rfl (fun c95 => ?_) (fun c95 => ?_)
            · rw [c95]
              exact s_Mo_touching_112 X Y a b c d m fs hm p_xs hf_xs ha_xs p_ys hf_ys ha_ys hXY ha hb hc hd (by omega)
            · rw [c95]
              exact s_Mo_touching_98 X Y a b c d m fs hm p_xs hf_xs ha_xs p_ys hf_ys ha_ys hXY ha hb hc hd (by omega)
        · rw [c40]
          exact s_Mo_touching_43 X Y a b c d m fs hm p_xs hf_xs ha_xs p_ys hf_ys ha_ys hXY ha hb hc hd (by omega)
def f_Mo_sides (SO MA : List Int32) (s : Int32) : Int32 := (bif zc .ne (gI SO s) 1 then gI MA s else (gI MA s) - 1)
theorem s_Mo_sides {fr lo : Nat} {h : zH} (SO MA : List Int32) (s : Int32) (m : Nat) (fs : List Value) (hm : h.1[m]? = some (.inr (8, fs))) (p_sort : Nat) (hf_sort : fs[2]? = some (.ref p_sort)) (ha_sort : h.1[p_sort]? = some (.inl (0, SO.map Value.int))) (p_many : Nat) (hf_many : fs[3]? = some (.ref p_many)) (ha_many : h.1[p_many]? = some (.inl (0, MA.map Value.int))) (hSM : MA.length = SO.length) (hs : zIx s SO.length) (hlo : 21 ≤ lo) : zAns (fr + 1) lo 119 [.ref m, .int s] h (some (.int (f_Mo_sides SO MA s)), h) := by
  unfold f_Mo_sides
  refine zeb (fr := fr + 0) (M := M_Mo_sides) rfl (Nat.le_trans (by decide) hlo) rfl ?_
  have e0 : mL M_Mo_sides = 2 := rfl
  refine zeN (q := ((1, [(0, .ref m), (1, .int s)], [.ref m]), h)) 1 rfl ?_
  refine zegf (fs := fs) (v := .ref p_sort) rfl rfl rfl rfl hm hf_sort ?_
  refine zeN (q := ((5, [(0, .ref m), (1, .int s)], [.int s, .ref p_sort]), h)) 1 rfl ?_
  refine zeia (l := SO.map Value.int) (k := s.toNatClampNeg) (v := .int (gI SO s)) rfl rfl ha_sort (zIx_a hs) (zIx_b hs) ?_
  refine zeN (q := ((7, [(0, .ref m), (1, .int s)], [.int 1, .int (gI SO s)]), h)) 1 rfl ?_
  refine zbc (q1 := (21, [(0, .ref m), (1, .int s)], [])) (q2 := (10, [(0, .ref m), (1, .int s)], [])) (cB := zc .ne (gI SO s) 1) (off := 14) (lv := [(0, .ref m), (1, .int s)]) (st := []) rfl rfl rfl rfl rfl (fun c7 => ?_) (fun c7 => ?_)
  · rw [c7]
    refine zeN (q := ((22, [(0, .ref m), (1, .int s)], [.ref m]), h)) 1 rfl ?_
    refine zegf (fs := fs) (v := .ref p_many) rfl rfl rfl rfl hm hf_many ?_
    refine zeN (q := ((26, [(0, .ref m), (1, .int s)], [.int s, .ref p_many]), h)) 1 rfl ?_
    refine zeia (l := MA.map Value.int) (k := s.toNatClampNeg) (v := .int (gI MA s)) rfl rfl ha_many (zIx_a (zIx_s hs hSM)) (zIx_b (zIx_s hs hSM)) ?_
    exact zer rfl rfl
  · rw [c7]
    refine zeN (q := ((11, [(0, .ref m), (1, .int s)], [.ref m]), h)) 1 rfl ?_
    refine zegf (fs := fs) (v := .ref p_many) rfl rfl rfl rfl hm hf_many ?_
    refine zeN (q := ((15, [(0, .ref m), (1, .int s)], [.int s, .ref p_many]), h)) 1 rfl ?_
    refine zeia (l := MA.map Value.int) (k := s.toNatClampNeg) (v := .int (gI MA s)) rfl rfl ha_many (zIx_a (zIx_s hs hSM)) (zIx_b (zIx_s hs hSM)) ?_
    refine zeN (q := ((27, [(0, .ref m), (1, .int s)], [.int ((gI MA s) - 1)]), h)) 3 rfl ?_
    exact zer rfl rfl
def f_Mo_corner (MA : List Int32) (s j e : Int32) : Int32 := (6 * s) + ((j + e) - (j + e) / (gI MA s) * (gI MA s))
theorem s_Mo_corner {fr lo : Nat} {h : zH} (MA : List Int32) (s j e : Int32) (m : Nat) (fs : List Value) (hm : h.1[m]? = some (.inr (8, fs))) (p_many : Nat) (hf_many : fs[3]? = some (.ref p_many)) (ha_many : h.1[p_many]? = some (.inl (0, MA.map Value.int))) (hs : zIx s MA.length) (hnz : ¬ gI MA s = 0) (hlo : 23 ≤ lo) : zAns (fr + 1) lo 120 [.ref m, .int s, .int j, .int e] h (some (.int (f_Mo_corner MA s j e)), h) := by
  unfold f_Mo_corner
  refine zeb (fr := fr + 0) (M := M_Mo_corner) rfl (Nat.le_trans (by decide) hlo) rfl ?_
  have e0 : mL M_Mo_corner = 4 := rfl
  refine zeN (q := ((8, [(0, .ref m), (1, .int s), (2, .int j), (3, .int e)], [.ref m, .int (j + e), .int (6 * s)]), h)) 7 rfl ?_
  refine zegf (fs := fs) (v := .ref p_many) rfl rfl rfl rfl hm hf_many ?_
  refine zeN (q := ((12, [(0, .ref m), (1, .int s), (2, .int j), (3, .int e)], [.int s, .ref p_many, .int (j + e), .int (6 * s)]), h)) 1 rfl ?_
  refine zeia (l := MA.map Value.int) (k := s.toNatClampNeg) (v := .int (gI MA s)) rfl rfl ha_many (zIx_a hs) (zIx_b hs) ?_
  refine zerm rfl rfl hnz ?_
  refine zeN (q := ((15, [(0, .ref m), (1, .int s), (2, .int j), (3, .int e)], [.int ((6 * s) + ((j + e) - (j + e) / (gI MA s) * (gI MA s)))]), h)) 1 rfl ?_
  exact zer rfl rfl
def f_Mo_gap (a b c d : Int32) : Int64 := (bif zc .ge b c then (bif zc .ge d a then 0 else (a - d).toInt64) else (c - b).toInt64)
theorem s_Mo_gap {fr lo : Nat} {h : zH} (a b c d : Int32)  (hlo : 23 ≤ lo) : zAns (fr + 1) lo 130 [.int a, .int b, .int c, .int d] h (some (.long (f_Mo_gap a b c d)), h) := by
  unfold f_Mo_gap
  refine zeb (fr := fr + 0) (M := M_Mo_gap) rfl (Nat.le_trans (by decide) hlo) rfl ?_
  have e0 : mL M_Mo_gap = 4 := rfl
  refine zeN (q := ((2, [(0, .int a), (1, .int b), (2, .int c), (3, .int d)], [.int c, .int b]), h)) 2 rfl ?_
  refine zbc (q1 := (12, [(0, .int a), (1, .int b), (2, .int c), (3, .int d)], [])) (q2 := (5, [(0, .int a), (1, .int b), (2, .int c), (3, .int d)], [])) (cB := zc .ge b c) (off := 10) (lv := [(0, .int a), (1, .int b), (2, .int c), (3, .int d)]) (st := []) rfl rfl rfl rfl rfl (fun c2 => ?_) (fun c2 => ?_)
  · rw [c2]
    refine zeN (q := ((14, [(0, .int a), (1, .int b), (2, .int c), (3, .int d)], [.int a, .int d]), h)) 2 rfl ?_
    refine zbc (q1 := (24, [(0, .int a), (1, .int b), (2, .int c), (3, .int d)], [])) (q2 := (17, [(0, .int a), (1, .int b), (2, .int c), (3, .int d)], [])) (cB := zc .ge d a) (off := 10) (lv := [(0, .int a), (1, .int b), (2, .int c), (3, .int d)]) (st := []) rfl rfl rfl rfl rfl (fun c14 => ?_) (fun c14 => ?_)
    · rw [c14]
      refine zeN (q := ((25, [(0, .int a), (1, .int b), (2, .int c), (3, .int d)], [.long 0]), h)) 1 rfl ?_
      exact zer rfl rfl
    · rw [c14]
      refine zeN (q := ((25, [(0, .int a), (1, .int b), (2, .int c), (3, .int d)], [.long ((a - d).toInt64)]), h)) 5 rfl ?_
      exact zer rfl rfl
  · rw [c2]
    refine zeN (q := ((25, [(0, .int a), (1, .int b), (2, .int c), (3, .int d)], [.long ((c - b).toInt64)]), h)) 5 rfl ?_
    exact zer rfl rfl
def f_Mo_isTable_9 (t : Int32) : Int32 := 1
theorem b_Mo_isTable_9 (t : Int32) : zB (f_Mo_isTable_9 t) := by unfold f_Mo_isTable_9; exact (zB1)
theorem s_Mo_isTable_9 {fr lo : Nat} {h : zH} (t : Int32)  (hlo : 0 ≤ lo) : zRun (fr + 0) lo none M_Mo_isTable (9, [(0, .int t)], []) h (some (.int (f_Mo_isTable_9 t)), h) := by
  unfold f_Mo_isTable_9
  refine zeN (q := ((14, [(0, .int t)], [.int 1]), h)) 2 rfl ?_
  exact zer rfl rfl
def f_Mo_isTable (t : Int32) : Int32 := (bif zc .eq t 0 then (f_Mo_isTable_9 t) else bif zc .ne t 1 then 0 else 1)
theorem b_Mo_isTable (t : Int32) : zB (f_Mo_isTable t) := by unfold f_Mo_isTable; exact (zbi (b_Mo_isTable_9 t) (zbb _))
theorem s_Mo_isTable {fr lo : Nat} {h : zH} (t : Int32)  (hlo : 20 ≤ lo) : zAns (fr + 1) lo 109 [.int t] h (some (.int (f_Mo_isTable t)), h) := by
  unfold f_Mo_isTable
  refine zeb (fr := fr + 0) (M := M_Mo_isTable) rfl (Nat.le_trans (by decide) hlo) rfl ?_
  have e0 : mL M_Mo_isTable = 1 := rfl
  refine zeN (q := ((1, [(0, .int t)], [.int t]), h)) 1 rfl ?_
  refine zbc (q1 := (9, [(0, .int t)], [])) (q2 := (4, [(0, .int t)], [])) (cB := zc .eq t 0) (off := 8) (lv := [(0, .int t)]) (st := []) rfl rfl rfl rfl rfl (fun c1 => ?_) (fun c1 => ?_)
  · rw [c1]
    exact s_Mo_isTable_9 t  (by omega)
  · rw [c1]
    refine zeN (q := ((6, [(0, .int t)], [.int 1, .int t]), h)) 2 rfl ?_
    refine zdia (q1 := (13, [(0, .int t)], [])) (q2 := (9, [(0, .int t)], [])) (cB := zc .ne t 1) (off := 7) (lv := [(0, .int t)]) (st := []) (lv2 := [(0, .int t)]) (st2 := []) (J := 14) (vA := 0) (vB := 1) 1 2 rfl rfl rfl rfl rfl rfl rfl ?_
    exact zer rfl (zreb (zbb _))
def f_ST_isTable_13 (t : Int32) : Int32 := 0
theorem b_ST_isTable_13 (t : Int32) : zB (f_ST_isTable_13 t) := by unfold f_ST_isTable_13; exact (zB0)
theorem s_ST_isTable_13 {fr lo : Nat} {h : zH} (t : Int32)  (hlo : 0 ≤ lo) : zRun (fr + 0) lo none M_ST_isTable (13, [(0, .int t)], []) h (some (.int (f_ST_isTable_13 t)), h) := by
  unfold f_ST_isTable_13
  refine zeN (q := ((14, [(0, .int t)], [.int 0]), h)) 1 rfl ?_
  exact zer rfl rfl
def f_ST_isTable (t : Int32) : Int32 := (bif zc .lt t 0 then (f_ST_isTable_13 t) else bif zc .ge t 2 then 0 else 1)
theorem b_ST_isTable (t : Int32) : zB (f_ST_isTable t) := by unfold f_ST_isTable; exact (zbi (b_ST_isTable_13 t) (zbb _))
theorem s_ST_isTable {fr lo : Nat} {h : zH} (t : Int32)  (hlo : 20 ≤ lo) : zAns (fr + 1) lo 30 [.int t] h (some (.int (f_ST_isTable t)), h) := by
  unfold f_ST_isTable
  refine zeb (fr := fr + 0) (M := M_ST_isTable) rfl (Nat.le_trans (by decide) hlo) rfl ?_
  have e0 : mL M_ST_isTable = 1 := rfl
  refine zeN (q := ((1, [(0, .int t)], [.int t]), h)) 1 rfl ?_
  refine zbc (q1 := (13, [(0, .int t)], [])) (q2 := (4, [(0, .int t)], [])) (cB := zc .lt t 0) (off := 12) (lv := [(0, .int t)]) (st := []) rfl rfl rfl rfl rfl (fun c1 => ?_) (fun c1 => ?_)
  · rw [c1]
    exact s_ST_isTable_13 t  (by omega)
  · rw [c1]
    refine zeN (q := ((6, [(0, .int t)], [.int 2, .int t]), h)) 2 rfl ?_
    refine zdia (q1 := (13, [(0, .int t)], [])) (q2 := (9, [(0, .int t)], [])) (cB := zc .ge t 2) (off := 7) (lv := [(0, .int t)]) (st := []) (lv2 := [(0, .int t)]) (st2 := []) (J := 14) (vA := 0) (vB := 1) 1 2 rfl rfl rfl rfl rfl rfl rfl ?_
    exact zer rfl (zreb (zbb _))
def f_ST_hasBit (b j : Int32) : Int32 := bif zc .eq ((b >>> (j &&& 31)) &&& 1) 0 then 0 else 1
theorem b_ST_hasBit (b j : Int32) : zB (f_ST_hasBit b j) := by unfold f_ST_hasBit; exact (zbb _)
theorem s_ST_hasBit {fr lo : Nat} {h : zH} (b j : Int32)  (hlo : 21 ≤ lo) : zAns (fr + 1) lo 65 [.int b, .int j] h (some (.int (f_ST_hasBit b j)), h) := by
  unfold f_ST_hasBit
  refine zeb (fr := fr + 0) (M := M_ST_hasBit) rfl (Nat.le_trans (by decide) hlo) rfl ?_
  have e0 : mL M_ST_hasBit = 2 := rfl
  refine zeN (q := ((5, [(0, .int b), (1, .int j)], [.int ((b >>> (j &&& 31)) &&& 1)]), h)) 5 rfl ?_
  refine zdia (q1 := (12, [(0, .int b), (1, .int j)], [])) (q2 := (8, [(0, .int b), (1, .int j)], [])) (cB := zc .eq ((b >>> (j &&& 31)) &&& 1) 0) (off := 7) (lv := [(0, .int b), (1, .int j)]) (st := []) (lv2 := [(0, .int b), (1, .int j)]) (st2 := []) (J := 13) (vA := 0) (vB := 1) 1 2 rfl rfl rfl rfl rfl rfl rfl ?_
  exact zer rfl (zreb (zbb _))
def f_ST_pageBit (t r : Int32) : Int32 := 1 <<< (((4 * t) + (r / 4)) &&& 31)
theorem s_ST_pageBit {fr lo : Nat} {h : zH} (t r : Int32)  (hlo : 21 ≤ lo) : zAns (fr + 1) lo 85 [.int t, .int r] h (some (.int (f_ST_pageBit t r)), h) := by
  unfold f_ST_pageBit
  refine zeb (fr := fr + 0) (M := M_ST_pageBit) rfl (Nat.le_trans (by decide) hlo) rfl ?_
  have e0 : mL M_ST_pageBit = 2 := rfl
  refine zeN (q := ((6, [(0, .int t), (1, .int r)], [.int 4, .int r, .int (4 * t), .int 1]), h)) 6 rfl ?_
  refine zedi rfl rfl (by decide) ?_
  refine zeN (q := ((9, [(0, .int t), (1, .int r)], [.int (1 <<< (((4 * t) + (r / 4)) &&& 31))]), h)) 2 rfl ?_
  exact zer rfl rfl
end
section
theorem z_nI {x : Int32} (h : 0 ≤ x.toInt) : ∃ j : Nat, j < 2 ^ 31 ∧ x = nI j := nI_of (fun h2 => by have h3 := Int32.lt_iff_toInt_lt.mp h2; have h4 : x.toInt < 0 := h3; omega)
theorem zIx_corner {MA : List Int32} {s j e : Int32} {n : Nat} (hs0 : 0 ≤ s.toInt) (hs1 : s.toInt ≤ 64) (hk1 : 1 ≤ (gI MA s).toInt) (hk2 : (gI MA s).toInt ≤ 6) (hj0 : 0 ≤ j.toInt) (hj1 : j.toInt ≤ 10) (he0 : 0 ≤ e.toInt) (he1 : e.toInt ≤ 1) (hn : n = 390) : zIx (f_Mo_corner MA s j e) n := by
  obtain ⟨S, hS, eS⟩ := z_nI hs0
  obtain ⟨J, hJ, eJ⟩ := z_nI hj0
  obtain ⟨E, hE, eE⟩ := z_nI he0
  obtain ⟨K, hK, eK⟩ := z_nI (x := gI MA s) (by omega)
  have tS : s.toInt = (S : Int) := by rw [eS]; exact nI_toInt hS
  have tJ : j.toInt = (J : Int) := by rw [eJ]; exact nI_toInt hJ
  have tE : e.toInt = (E : Int) := by rw [eE]; exact nI_toInt hE
  have tK : (gI MA s).toInt = (K : Int) := by rw [eK]; exact nI_toInt hK
  have hK0 : 0 < K := by omega
  have e1 : f_Mo_corner MA s j e = nI (6 * S + (J + E) % K) := by
    unfold f_Mo_corner
    rw [eK, eJ, eE, nI_add, pk_rem (by omega) hK0 hK]
    rw [eS, show (6 : Int32) = nI 6 from rfl, pk_mul, nI_add]
  have hlt : (J + E) % K < K := Nat.mod_lt _ hK0
  rw [e1]
  unfold zIx
  rw [nI_toInt (by omega)]
  omega
theorem z_msides {SO MA : List Int32} {s : Int32} (h1 : 1 ≤ (gI MA s).toInt) (h2 : (gI MA s).toInt ≤ 6) : (f_Mo_sides SO MA s).toInt ≤ (gI MA s).toInt := by
  unfold f_Mo_sides
  cases zc .ne (gI SO s) 1 with
  | true => exact Int.le_refl _
  | false =>
    have e3 : (gI MA s - 1).toInt = (gI MA s).toInt - 1 := z_sub (by show _ ≤ _ - (1 : Int); omega) (by show _ - (1 : Int) < _; omega)
    show (gI MA s - 1).toInt ≤ _
    rw [e3]
    omega
def f_Mo_within_L5 (X Y MA : List Int32) (s c : Int32)  : Nat → Int32 → Int32 → Int32
  | 0, _, _ => 0
  | n + 1, w, i => (bif zc .ge i (gI MA s) then w else (bif zc .ne (bif zc .le (gI Y (f_Mo_corner MA s i 0)) (gI Y c) then 0 else 1) (bif zc .le (gI Y (f_Mo_corner MA s i 1)) (gI Y c) then 0 else 1) then (bif zc .le (gI Y (f_Mo_corner MA s i 1)) (gI Y (f_Mo_corner MA s i 0)) then (bif zc .ge (lg_cmp (f_Mo_turn X Y (f_Mo_corner MA s i 0) (f_Mo_corner MA s i 1) c) 0) 0 then (f_Mo_within_L5 X Y MA s c n w (i + Int32.ofInt 1)) else (f_Mo_within_L5 X Y MA s c n (bif zc .ne w 0 then 0 else 1) (i + Int32.ofInt 1))) else (bif zc .le (lg_cmp (f_Mo_turn X Y (f_Mo_corner MA s i 0) (f_Mo_corner MA s i 1) c) 0) 0 then (f_Mo_within_L5 X Y MA s c n w (i + Int32.ofInt 1)) else (f_Mo_within_L5 X Y MA s c n (bif zc .ne w 0 then 0 else 1) (i + Int32.ofInt 1)))) else (f_Mo_within_L5 X Y MA s c n w (i + Int32.ofInt 1))))
theorem b_Mo_within_L5 (X Y MA : List Int32) (s c : Int32)  : ∀ (n : Nat) (w : Int32) (i : Int32) (hb_w : zB w), zB (f_Mo_within_L5 X Y MA s c n w i) := by
  intro n
  induction n with
  | zero => intro w i hb_w; exact zB0
  | succ n ih => intro w i hb_w; rw [f_Mo_within_L5]; exact (zbi (hb_w) (zbi (zbi (zbi (ih w (i + Int32.ofInt 1) (hb_w)) (ih (bif zc .ne w 0 then 0 else 1) (i + Int32.ofInt 1) (zbb _))) (zbi (ih w (i + Int32.ofInt 1) (hb_w)) (ih (bif zc .ne w 0 then 0 else 1) (i + Int32.ofInt 1) (zbb _)))) (ih w (i + Int32.ofInt 1) (hb_w))))
set_option maxRecDepth 100000 in
theorem s_Mo_within_L5 {fr lo : Nat} {h : zH} (X Y MA : List Int32) (s c : Int32)  (m : Nat) (fs : List Value) (hm : h.1[m]? = some (.inr (8, fs))) (p_many : Nat) (hf_many : fs[3]? = some (.ref p_many)) (ha_many : h.1[p_many]? = some (.inl (0, MA.map Value.int))) (p_xs : Nat) (hf_xs : fs[4]? = some (.ref p_xs)) (ha_xs : h.1[p_xs]? = some (.inl (0, X.map Value.int))) (p_ys : Nat) (hf_ys : fs[5]? = some (.ref p_ys)) (ha_ys : h.1[p_ys]? = some (.inl (0, Y.map Value.int))) (hXl : X.length = 390) (hYl : Y.length = 390) (hs : zIx s MA.length) (hs1 : s.toInt ≤ 64) (hk1 : 1 ≤ (gI MA s).toInt) (hk2 : (gI MA s).toInt ≤ 6) (hc : zIx c X.length)  (hlo : 48 ≤ lo) : ∀ (n : Nat) (w : Int32) (i : Int32) (hb_w : zB w) (h0 : 0 ≤ i.toInt) (h1 : i.toInt ≤ (gI MA s).toInt) (hm2 : (gI MA s).toInt < i.toInt + n), zRun (fr + 2) lo none M_Mo_within (5, [(0, .ref m), (1, .int s), (2, .int c), (3, .int w), (4, .int i)], []) h (some (.int (f_Mo_within_L5 X Y MA s c n w i)), h) := by
  intro n
  induction n with
  | zero => intro w i hb_w h0 h1 hm2; exfalso; omega
  | succ n ih =>
    intro w i hb_w h0 h1 hm2
    rw [f_Mo_within_L5]
    refine zeN (q := ((8, [(0, .ref m), (1, .int s), (2, .int c), (3, .int w), (4, .int i)], [.ref m, .int i]), h)) 2 rfl ?_
    refine zegf (fs := fs) (v := .ref p_many) rfl rfl rfl rfl hm hf_many ?_
    refine zeN (q := ((12, [(0, .ref m), (1, .int s), (2, .int c), (3, .int w), (4, .int i)], [.int s, .ref p_many, .int i]), h)) 1 rfl ?_
    refine zeia (l := MA.map Value.int) (k := s.toNatClampNeg) (v := .int (gI MA s)) rfl rfl ha_many (zIx_a hs) (zIx_b hs) ?_
    refine zbc (q1 := (145, [(0, .ref m), (1, .int s), (2, .int c), (3, .int w), (4, .int i)], [])) (q2 := (16, [(0, .ref m), (1, .int s), (2, .int c), (3, .int w), (4, .int i)], [])) (cB := zc .ge i (gI MA s)) (off := 132) (lv := [(0, .ref m), (1, .int s), (2, .int c), (3, .int w), (4, .int i)]) (st := []) rfl rfl rfl rfl rfl (fun c13 => ?_) (fun c13 => ?_)
    · rw [c13]
      refine zeN (q := ((146, [(0, .ref m), (1, .int s), (2, .int c), (3, .int w), (4, .int i)], [.int w]), h)) 1 rfl ?_
      exact zer rfl (zreb (hb_w))
    · rw [c13]
      have hcc := of_decide_eq_false (z_ge c13).symm
      have hi1 := z_inc (a := i) (by omega) (by omega)
      have hnz : ¬ gI MA s = 0 := fun e => by rw [e] at hk1; exact absurd hk1 (by decide)
      have hs0 := hs.1
      have hcY : zIx c Y.length := zIx_s hc (by omega)
      have hA : zIx (f_Mo_corner MA s i 0) Y.length := zIx_corner hs0 hs1 hk1 hk2 h0 (by omega) (by decide) (by decide) hYl
      have hB : zIx (f_Mo_corner MA s i 1) Y.length := zIx_corner hs0 hs1 hk1 hk2 h0 (by omega) (by decide) (by decide) hYl
      have hAX : zIx (f_Mo_corner MA s i 0) X.length := zIx_s hA (by omega)
      have hBX : zIx (f_Mo_corner MA s i 1) X.length := zIx_s hB (by omega)
      refine zeN (q := ((21, [(0, .ref m), (1, .int s), (2, .int c), (3, .int w), (4, .int i)], [.int 0, .int i, .int s, .ref m]), h)) 4 rfl ?_
      refine zec 1 (M' := M_Mo_corner) (qq := ([.ref m, .int s, .int i, .int 0], [])) (s' := (24, [(0, .ref m), (1, .int s), (2, .int c), (3, .int w), (4, .int i)], [.int (f_Mo_corner MA s i 0)])) rfl rfl (fun _ => rfl) rfl rfl (zhk rfl (zrc_ok hm) rfl) (s_Mo_corner MA s i 0 m fs hm p_many hf_many ha_many hs hnz (by omega)) rfl ?_
      refine zeN (q := ((31, [(5, .int (f_Mo_corner MA s i 0)), (0, .ref m), (1, .int s), (2, .int c), (3, .int w), (4, .int i)], [.int 1, .int i, .int s, .ref m]), h)) 5 rfl ?_
      refine zec 1 (M' := M_Mo_corner) (qq := ([.ref m, .int s, .int i, .int 1], [])) (s' := (34, [(5, .int (f_Mo_corner MA s i 0)), (0, .ref m), (1, .int s), (2, .int c), (3, .int w), (4, .int i)], [.int (f_Mo_corner MA s i 1)])) rfl rfl (fun _ => rfl) rfl rfl (zhk rfl (zrc_ok hm) rfl) (s_Mo_corner MA s i 1 m fs hm p_many hf_many ha_many hs hnz (by omega)) rfl ?_
      refine zeN (q := ((37, [(6, .int (f_Mo_corner MA s i 1)), (5, .int (f_Mo_corner MA s i 0)), (0, .ref m), (1, .int s), (2, .int c), (3, .int w), (4, .int i)], [.ref m]), h)) 2 rfl ?_
      refine zegf (fs := fs) (v := .ref p_ys) rfl rfl rfl rfl hm hf_ys ?_
      refine zeN (q := ((42, [(6, .int (f_Mo_corner MA s i 1)), (5, .int (f_Mo_corner MA s i 0)), (0, .ref m), (1, .int s), (2, .int c), (3, .int w), (4, .int i)], [.int (f_Mo_corner MA s i 0), .ref p_ys]), h)) 1 rfl ?_
      refine zeia (l := Y.map Value.int) (k := (f_Mo_corner MA s i 0).toNatClampNeg) (v := .int (gI Y (f_Mo_corner MA s i 0))) rfl rfl ha_ys (zIx_a hA) (zIx_b hA) ?_
      refine zeN (q := ((44, [(6, .int (f_Mo_corner MA s i 1)), (5, .int (f_Mo_corner MA s i 0)), (0, .ref m), (1, .int s), (2, .int c), (3, .int w), (4, .int i)], [.ref m, .int (gI Y (f_Mo_corner MA s i 0))]), h)) 1 rfl ?_
      refine zegf (fs := fs) (v := .ref p_ys) rfl rfl rfl rfl hm hf_ys ?_
      refine zeN (q := ((48, [(6, .int (f_Mo_corner MA s i 1)), (5, .int (f_Mo_corner MA s i 0)), (0, .ref m), (1, .int s), (2, .int c), (3, .int w), (4, .int i)], [.int c, .ref p_ys, .int (gI Y (f_Mo_corner MA s i 0))]), h)) 1 rfl ?_
      refine zeia (l := Y.map Value.int) (k := c.toNatClampNeg) (v := .int (gI Y c)) rfl rfl ha_ys (zIx_a hcY) (zIx_b hcY) ?_
      refine zdia (q1 := (56, [(6, .int (f_Mo_corner MA s i 1)), (5, .int (f_Mo_corner MA s i 0)), (0, .ref m), (1, .int s), (2, .int c), (3, .int w), (4, .int i)], [])) (q2 := (52, [(6, .int (f_Mo_corner MA s i 1)), (5, .int (f_Mo_corner MA s i 0)), (0, .ref m), (1, .int s), (2, .int c), (3, .int w), (4, .int i)], [])) (cB := zc .le (gI Y (f_Mo_corner MA s i 0)) (gI Y c)) (off := 7) (lv := [(6, .int (f_Mo_corner MA s i 1)), (5, .int (f_Mo_corner MA s i 0)), (0, .ref m), (1, .int s), (2, .int c), (3, .int w), (4, .int i)]) (st := []) (lv2 := [(6, .int (f_Mo_corner MA s i 1)), (5, .int (f_Mo_corner MA s i 0)), (0, .ref m), (1, .int s), (2, .int c), (3, .int w), (4, .int i)]) (st2 := []) (J := 57) (vA := 0) (vB := 1) 1 2 rfl rfl rfl rfl rfl rfl rfl ?_
      refine zeN (q := ((58, [(6, .int (f_Mo_corner MA s i 1)), (5, .int (f_Mo_corner MA s i 0)), (0, .ref m), (1, .int s), (2, .int c), (3, .int w), (4, .int i)], [.ref m, .int (bif zc .le (gI Y (f_Mo_corner MA s i 0)) (gI Y c) then 0 else 1)]), h)) 1 rfl ?_
      refine zegf (fs := fs) (v := .ref p_ys) rfl rfl rfl rfl hm hf_ys ?_
      refine zeN (q := ((63, [(6, .int (f_Mo_corner MA s i 1)), (5, .int (f_Mo_corner MA s i 0)), (0, .ref m), (1, .int s), (2, .int c), (3, .int w), (4, .int i)], [.int (f_Mo_corner MA s i 1), .ref p_ys, .int (bif zc .le (gI Y (f_Mo_corner MA s i 0)) (gI Y c) then 0 else 1)]), h)) 1 rfl ?_
      refine zeia (l := Y.map Value.int) (k := (f_Mo_corner MA s i 1).toNatClampNeg) (v := .int (gI Y (f_Mo_corner MA s i 1))) rfl rfl ha_ys (zIx_a hB) (zIx_b hB) ?_
      refine zeN (q := ((65, [(6, .int (f_Mo_corner MA s i 1)), (5, .int (f_Mo_corner MA s i 0)), (0, .ref m), (1, .int s), (2, .int c), (3, .int w), (4, .int i)], [.ref m, .int (gI Y (f_Mo_corner MA s i 1)), .int (bif zc .le (gI Y (f_Mo_corner MA s i 0)) (gI Y c) then 0 else 1)]), h)) 1 rfl ?_
      refine zegf (fs := fs) (v := .ref p_ys) rfl rfl rfl rfl hm hf_ys ?_
      refine zeN (q := ((69, [(6, .int (f_Mo_corner MA s i 1)), (5, .int (f_Mo_corner MA s i 0)), (0, .ref m), (1, .int s), (2, .int c), (3, .int w), (4, .int i)], [.int c, .ref p_ys, .int (gI Y (f_Mo_corner MA s i 1)), .int (bif zc .le (gI Y (f_Mo_corner MA s i 0)) (gI Y c) then 0 else 1)]), h)) 1 rfl ?_
      refine zeia (l := Y.map Value.int) (k := c.toNatClampNeg) (v := .int (gI Y c)) rfl rfl ha_ys (zIx_a hcY) (zIx_b hcY) ?_
      refine zdia (q1 := (77, [(6, .int (f_Mo_corner MA s i 1)), (5, .int (f_Mo_corner MA s i 0)), (0, .ref m), (1, .int s), (2, .int c), (3, .int w), (4, .int i)], [.int (bif zc .le (gI Y (f_Mo_corner MA s i 0)) (gI Y c) then 0 else 1)])) (q2 := (73, [(6, .int (f_Mo_corner MA s i 1)), (5, .int (f_Mo_corner MA s i 0)), (0, .ref m), (1, .int s), (2, .int c), (3, .int w), (4, .int i)], [.int (bif zc .le (gI Y (f_Mo_corner MA s i 0)) (gI Y c) then 0 else 1)])) (cB := zc .le (gI Y (f_Mo_corner MA s i 1)) (gI Y c)) (off := 7) (lv := [(6, .int (f_Mo_corner MA s i 1)), (5, .int (f_Mo_corner MA s i 0)), (0, .ref m), (1, .int s), (2, .int c), (3, .int w), (4, .int i)]) (st := [.int (bif zc .le (gI Y (f_Mo_corner MA s i 0)) (gI Y c) then 0 else 1)]) (lv2 := [(6, .int (f_Mo_corner MA s i 1)), (5, .int (f_Mo_corner MA s i 0)), (0, .ref m), (1, .int s), (2, .int c), (3, .int w), (4, .int i)]) (st2 := [.int (bif zc .le (gI Y (f_Mo_corner MA s i 0)) (gI Y c) then 0 else 1)]) (J := 78) (vA := 0) (vB := 1) 1 2 rfl rfl rfl rfl rfl rfl rfl ?_
      refine zbc (q1 := (84, [(6, .int (f_Mo_corner MA s i 1)), (5, .int (f_Mo_corner MA s i 0)), (0, .ref m), (1, .int s), (2, .int c), (3, .int w), (4, .int i)], [])) (q2 := (81, [(6, .int (f_Mo_corner MA s i 1)), (5, .int (f_Mo_corner MA s i 0)), (0, .ref m), (1, .int s), (2, .int c), (3, .int w), (4, .int i)], [])) (cB := zc .ne (bif zc .le (gI Y (f_Mo_corner MA s i 0)) (gI Y c) then 0 else 1) (bif zc .le (gI Y (f_Mo_corner MA s i 1)) (gI Y c) then 0 else 1)) (off := 6) (lv := [(6, .int (f_Mo_corner MA s i 1)), (5, .int (f_Mo_corner MA s i 0)), (0, .ref m), (1, .int s), (2, .int c), (3, .int w), (4, .int i)]) (st := []) rfl rfl rfl rfl rfl (fun c78 => ?_) (fun c78 => ?_)
      · rw [c78]
        refine zeN (q := ((90, [(6, .int (f_Mo_corner MA s i 1)), (5, .int (f_Mo_corner MA s i 0)), (0, .ref m), (1, .int s), (2, .int c), (3, .int w), (4, .int i)], [.int c, .int (f_Mo_corner MA s i 1), .int (f_Mo_corner MA s i 0), .ref m]), h)) 4 rfl ?_
        refine zec 1 (M' := M_Mo_turn) (qq := ([.ref m, .int (f_Mo_corner MA s i 0), .int (f_Mo_corner MA s i 1), .int c], [])) (s' := (93, [(6, .int (f_Mo_corner MA s i 1)), (5, .int (f_Mo_corner MA s i 0)), (0, .ref m), (1, .int s), (2, .int c), (3, .int w), (4, .int i)], [.long (f_Mo_turn X Y (f_Mo_corner MA s i 0) (f_Mo_corner MA s i 1) c)])) rfl rfl (fun _ => rfl) rfl rfl (zhk rfl (zrc_ok hm) rfl) (s_Mo_turn X Y (f_Mo_corner MA s i 0) (f_Mo_corner MA s i 1) c m fs hm p_xs hf_xs ha_xs p_ys hf_ys ha_ys (by omega) hAX hBX hc (by omega)) rfl ?_
        refine zeN (q := ((96, [(7, .long (f_Mo_turn X Y (f_Mo_corner MA s i 0) (f_Mo_corner MA s i 1) c)), (6, .int (f_Mo_corner MA s i 1)), (5, .int (f_Mo_corner MA s i 0)), (0, .ref m), (1, .int s), (2, .int c), (3, .int w), (4, .int i)], [.ref m]), h)) 2 rfl ?_
        refine zegf (fs := fs) (v := .ref p_ys) rfl rfl rfl rfl hm hf_ys ?_
        refine zeN (q := ((101, [(7, .long (f_Mo_turn X Y (f_Mo_corner MA s i 0) (f_Mo_corner MA s i 1) c)), (6, .int (f_Mo_corner MA s i 1)), (5, .int (f_Mo_corner MA s i 0)), (0, .ref m), (1, .int s), (2, .int c), (3, .int w), (4, .int i)], [.int (f_Mo_corner MA s i 1), .ref p_ys]), h)) 1 rfl ?_
        refine zeia (l := Y.map Value.int) (k := (f_Mo_corner MA s i 1).toNatClampNeg) (v := .int (gI Y (f_Mo_corner MA s i 1))) rfl rfl ha_ys (zIx_a hB) (zIx_b hB) ?_
        refine zeN (q := ((103, [(7, .long (f_Mo_turn X Y (f_Mo_corner MA s i 0) (f_Mo_corner MA s i 1) c)), (6, .int (f_Mo_corner MA s i 1)), (5, .int (f_Mo_corner MA s i 0)), (0, .ref m), (1, .int s), (2, .int c), (3, .int w), (4, .int i)], [.ref m, .int (gI Y (f_Mo_corner MA s i 1))]), h)) 1 rfl ?_
        refine zegf (fs := fs) (v := .ref p_ys) rfl rfl rfl rfl hm hf_ys ?_
        refine zeN (q := ((108, [(7, .long (f_Mo_turn X Y (f_Mo_corner MA s i 0) (f_Mo_corner MA s i 1) c)), (6, .int (f_Mo_corner MA s i 1)), (5, .int (f_Mo_corner MA s i 0)), (0, .ref m), (1, .int s), (2, .int c), (3, .int w), (4, .int i)], [.int (f_Mo_corner MA s i 0), .ref p_ys, .int (gI Y (f_Mo_corner MA s i 1))]), h)) 1 rfl ?_
        refine zeia (l := Y.map Value.int) (k := (f_Mo_corner MA s i 0).toNatClampNeg) (v := .int (gI Y (f_Mo_corner MA s i 0))) rfl rfl ha_ys (zIx_a hA) (zIx_b hA) ?_
        refine zbc (q1 := (122, [(7, .long (f_Mo_turn X Y (f_Mo_corner MA s i 0) (f_Mo_corner MA s i 1) c)), (6, .int (f_Mo_corner MA s i 1)), (5, .int (f_Mo_corner MA s i 0)), (0, .ref m), (1, .int s), (2, .int c), (3, .int w), (4, .int i)], [])) (q2 := (112, [(7, .long (f_Mo_turn X Y (f_Mo_corner MA s i 0) (f_Mo_corner MA s i 1) c)), (6, .int (f_Mo_corner MA s i 1)), (5, .int (f_Mo_corner MA s i 0)), (0, .ref m), (1, .int s), (2, .int c), (3, .int w), (4, .int i)], [])) (cB := zc .le (gI Y (f_Mo_corner MA s i 1)) (gI Y (f_Mo_corner MA s i 0))) (off := 13) (lv := [(7, .long (f_Mo_turn X Y (f_Mo_corner MA s i 0) (f_Mo_corner MA s i 1) c)), (6, .int (f_Mo_corner MA s i 1)), (5, .int (f_Mo_corner MA s i 0)), (0, .ref m), (1, .int s), (2, .int c), (3, .int w), (4, .int i)]) (st := []) rfl rfl rfl rfl rfl (fun c109 => ?_) (fun c109 => ?_)
        · rw [c109]
          refine zeN (q := ((126, [(7, .long (f_Mo_turn X Y (f_Mo_corner MA s i 0) (f_Mo_corner MA s i 1) c)), (6, .int (f_Mo_corner MA s i 1)), (5, .int (f_Mo_corner MA s i 0)), (0, .ref m), (1, .int s), (2, .int c), (3, .int w), (4, .int i)], [.int (lg_cmp (f_Mo_turn X Y (f_Mo_corner MA s i 0) (f_Mo_corner MA s i 1) c) 0)]), h)) 3 rfl ?_
          refine zbc (q1 := (139, [(7, .long (f_Mo_turn X Y (f_Mo_corner MA s i 0) (f_Mo_corner MA s i 1) c)), (6, .int (f_Mo_corner MA s i 1)), (5, .int (f_Mo_corner MA s i 0)), (0, .ref m), (1, .int s), (2, .int c), (3, .int w), (4, .int i)], [])) (q2 := (129, [(7, .long (f_Mo_turn X Y (f_Mo_corner MA s i 0) (f_Mo_corner MA s i 1) c)), (6, .int (f_Mo_corner MA s i 1)), (5, .int (f_Mo_corner MA s i 0)), (0, .ref m), (1, .int s), (2, .int c), (3, .int w), (4, .int i)], [])) (cB := zc .ge (lg_cmp (f_Mo_turn X Y (f_Mo_corner MA s i 0) (f_Mo_corner MA s i 1) c) 0) 0) (off := 13) (lv := [(7, .long (f_Mo_turn X Y (f_Mo_corner MA s i 0) (f_Mo_corner MA s i 1) c)), (6, .int (f_Mo_corner MA s i 1)), (5, .int (f_Mo_corner MA s i 0)), (0, .ref m), (1, .int s), (2, .int c), (3, .int w), (4, .int i)]) (st := []) rfl rfl rfl rfl rfl (fun c126 => ?_) (fun c126 => ?_)
          · rw [c126]
            refine zeN (q := ((5, [(4, .int (i + Int32.ofInt 1)), (7, .long (f_Mo_turn X Y (f_Mo_corner MA s i 0) (f_Mo_corner MA s i 1) c)), (6, .int (f_Mo_corner MA s i 1)), (5, .int (f_Mo_corner MA s i 0)), (0, .ref m), (1, .int s), (2, .int c), (3, .int w)], []), h)) 2 rfl ?_
            refine zeS [(0, .ref m), (1, .int s), (2, .int c), (3, .int w), (4, .int (i + Int32.ofInt 1))] (zsub_pick [4, 5, 6, 7, 0] rfl rfl) ?_
            exact ih w (i + Int32.ofInt 1) (hb_w) (by omega) (by omega) (by omega)
          · rw [c126]
            refine zeN (q := ((130, [(7, .long (f_Mo_turn X Y (f_Mo_corner MA s i 0) (f_Mo_corner MA s i 1) c)), (6, .int (f_Mo_corner MA s i 1)), (5, .int (f_Mo_corner MA s i 0)), (0, .ref m), (1, .int s), (2, .int c), (3, .int w), (4, .int i)], [.int w]), h)) 1 rfl ?_
            refine zdia (q1 := (137, [(7, .long (f_Mo_turn X Y (f_Mo_corner MA s i 0) (f_Mo_corner MA s i 1) c)), (6, .int (f_Mo_corner MA s i 1)), (5, .int (f_Mo_corner MA s i 0)), (0, .ref m), (1, .int s), (2, .int c), (3, .int w), (4, .int i)], [])) (q2 := (133, [(7, .long (f_Mo_turn X Y (f_Mo_corner MA s i 0) (f_Mo_corner MA s i 1) c)), (6, .int (f_Mo_corner MA s i 1)), (5, .int (f_Mo_corner MA s i 0)), (0, .ref m), (1, .int s), (2, .int c), (3, .int w), (4, .int i)], [])) (cB := zc .ne w 0) (off := 7) (lv := [(7, .long (f_Mo_turn X Y (f_Mo_corner MA s i 0) (f_Mo_corner MA s i 1) c)), (6, .int (f_Mo_corner MA s i 1)), (5, .int (f_Mo_corner MA s i 0)), (0, .ref m), (1, .int s), (2, .int c), (3, .int w), (4, .int i)]) (st := []) (lv2 := [(7, .long (f_Mo_turn X Y (f_Mo_corner MA s i 0) (f_Mo_corner MA s i 1) c)), (6, .int (f_Mo_corner MA s i 1)), (5, .int (f_Mo_corner MA s i 0)), (0, .ref m), (1, .int s), (2, .int c), (3, .int w), (4, .int i)]) (st2 := []) (J := 138) (vA := 0) (vB := 1) 1 2 rfl rfl rfl rfl rfl rfl rfl ?_
            refine zeN (q := ((5, [(4, .int (i + Int32.ofInt 1)), (3, .int (bif zc .ne w 0 then 0 else 1)), (7, .long (f_Mo_turn X Y (f_Mo_corner MA s i 0) (f_Mo_corner MA s i 1) c)), (6, .int (f_Mo_corner MA s i 1)), (5, .int (f_Mo_corner MA s i 0)), (0, .ref m), (1, .int s), (2, .int c)], []), h)) 3 rfl ?_
            refine zeS [(0, .ref m), (1, .int s), (2, .int c), (3, .int (bif zc .ne w 0 then 0 else 1)), (4, .int (i + Int32.ofInt 1))] (zsub_pick [5, 6, 7, 1, 0] rfl rfl) ?_
            exact ih (bif zc .ne w 0 then 0 else 1) (i + Int32.ofInt 1) (zbb _) (by omega) (by omega) (by omega)
        · rw [c109]
          refine zeN (q := ((116, [(7, .long (f_Mo_turn X Y (f_Mo_corner MA s i 0) (f_Mo_corner MA s i 1) c)), (6, .int (f_Mo_corner MA s i 1)), (5, .int (f_Mo_corner MA s i 0)), (0, .ref m), (1, .int s), (2, .int c), (3, .int w), (4, .int i)], [.int (lg_cmp (f_Mo_turn X Y (f_Mo_corner MA s i 0) (f_Mo_corner MA s i 1) c) 0)]), h)) 3 rfl ?_
          refine zbc (q1 := (139, [(7, .long (f_Mo_turn X Y (f_Mo_corner MA s i 0) (f_Mo_corner MA s i 1) c)), (6, .int (f_Mo_corner MA s i 1)), (5, .int (f_Mo_corner MA s i 0)), (0, .ref m), (1, .int s), (2, .int c), (3, .int w), (4, .int i)], [])) (q2 := (119, [(7, .long (f_Mo_turn X Y (f_Mo_corner MA s i 0) (f_Mo_corner MA s i 1) c)), (6, .int (f_Mo_corner MA s i 1)), (5, .int (f_Mo_corner MA s i 0)), (0, .ref m), (1, .int s), (2, .int c), (3, .int w), (4, .int i)], [])) (cB := zc .le (lg_cmp (f_Mo_turn X Y (f_Mo_corner MA s i 0) (f_Mo_corner MA s i 1) c) 0) 0) (off := 23) (lv := [(7, .long (f_Mo_turn X Y (f_Mo_corner MA s i 0) (f_Mo_corner MA s i 1) c)), (6, .int (f_Mo_corner MA s i 1)), (5, .int (f_Mo_corner MA s i 0)), (0, .ref m), (1, .int s), (2, .int c), (3, .int w), (4, .int i)]) (st := []) rfl rfl rfl rfl rfl (fun c116 => ?_) (fun c116 => ?_)
          · rw [c116]
            refine zeN (q := ((5, [(4, .int (i + Int32.ofInt 1)), (7, .long (f_Mo_turn X Y (f_Mo_corner MA s i 0) (f_Mo_corner MA s i 1) c)), (6, .int (f_Mo_corner MA s i 1)), (5, .int (f_Mo_corner MA s i 0)), (0, .ref m), (1, .int s), (2, .int c), (3, .int w)], []), h)) 2 rfl ?_
            refine zeS [(0, .ref m), (1, .int s), (2, .int c), (3, .int w), (4, .int (i + Int32.ofInt 1))] (zsub_pick [4, 5, 6, 7, 0] rfl rfl) ?_
            exact ih w (i + Int32.ofInt 1) (hb_w) (by omega) (by omega) (by omega)
          · rw [c116]
            refine zeN (q := ((130, [(7, .long (f_Mo_turn X Y (f_Mo_corner MA s i 0) (f_Mo_corner MA s i 1) c)), (6, .int (f_Mo_corner MA s i 1)), (5, .int (f_Mo_corner MA s i 0)), (0, .ref m), (1, .int s), (2, .int c), (3, .int w), (4, .int i)], [.int w]), h)) 2 rfl ?_
            refine zdia (q1 := (137, [(7, .long (f_Mo_turn X Y (f_Mo_corner MA s i 0) (f_Mo_corner MA s i 1) c)), (6, .int (f_Mo_corner MA s i 1)), (5, .int (f_Mo_corner MA s i 0)), (0, .ref m), (1, .int s), (2, .int c), (3, .int w), (4, .int i)], [])) (q2 := (133, [(7, .long (f_Mo_turn X Y (f_Mo_corner MA s i 0) (f_Mo_corner MA s i 1) c)), (6, .int (f_Mo_corner MA s i 1)), (5, .int (f_Mo_corner MA s i 0)), (0, .ref m), (1, .int s), (2, .int c), (3, .int w), (4, .int i)], [])) (cB := zc .ne w 0) (off := 7) (lv := [(7, .long (f_Mo_turn X Y (f_Mo_corner MA s i 0) (f_Mo_corner MA s i 1) c)), (6, .int (f_Mo_corner MA s i 1)), (5, .int (f_Mo_corner MA s i 0)), (0, .ref m), (1, .int s), (2, .int c), (3, .int w), (4, .int i)]) (st := []) (lv2 := [(7, .long (f_Mo_turn X Y (f_Mo_corner MA s i 0) (f_Mo_corner MA s i 1) c)), (6, .int (f_Mo_corner MA s i 1)), (5, .int (f_Mo_corner MA s i 0)), (0, .ref m), (1, .int s), (2, .int c), (3, .int w), (4, .int i)]) (st2 := []) (J := 138) (vA := 0) (vB := 1) 1 2 rfl rfl rfl rfl rfl rfl rfl ?_
            refine zeN (q := ((5, [(4, .int (i + Int32.ofInt 1)), (3, .int (bif zc .ne w 0 then 0 else 1)), (7, .long (f_Mo_turn X Y (f_Mo_corner MA s i 0) (f_Mo_corner MA s i 1) c)), (6, .int (f_Mo_corner MA s i 1)), (5, .int (f_Mo_corner MA s i 0)), (0, .ref m), (1, .int s), (2, .int c)], []), h)) 3 rfl ?_
            refine zeS [(0, .ref m), (1, .int s), (2, .int c), (3, .int (bif zc .ne w 0 then 0 else 1)), (4, .int (i + Int32.ofInt 1))] (zsub_pick [5, 6, 7, 1, 0] rfl rfl) ?_
            exact ih (bif zc .ne w 0 then 0 else 1) (i + Int32.ofInt 1) (zbb _) (by omega) (by omega) (by omega)
      · rw [c78]
        refine zeN (q := ((5, [(4, .int (i + Int32.ofInt 1)), (6, .int (f_Mo_corner MA s i 1)), (5, .int (f_Mo_corner MA s i 0)), (0, .ref m), (1, .int s), (2, .int c), (3, .int w)], []), h)) 3 rfl ?_
        refine zeS [(0, .ref m), (1, .int s), (2, .int c), (3, .int w), (4, .int (i + Int32.ofInt 1))] (zsub_pick [3, 4, 5, 6, 0] rfl rfl) ?_
        exact ih w (i + Int32.ofInt 1) (hb_w) (by omega) (by omega) (by omega)
def f_Mo_within (X Y MA : List Int32) (s c : Int32) : Int32 := (f_Mo_within_L5 X Y MA s c 7 0 0)
theorem b_Mo_within (X Y MA : List Int32) (s c : Int32) : zB (f_Mo_within X Y MA s c) := by unfold f_Mo_within; exact (b_Mo_within_L5 X Y MA s c 7 0 0 (zB0))
set_option maxRecDepth 100000 in
theorem s_Mo_within {fr lo : Nat} {h : zH} (X Y MA : List Int32) (s c : Int32) (m : Nat) (fs : List Value) (hm : h.1[m]? = some (.inr (8, fs))) (p_many : Nat) (hf_many : fs[3]? = some (.ref p_many)) (ha_many : h.1[p_many]? = some (.inl (0, MA.map Value.int))) (p_xs : Nat) (hf_xs : fs[4]? = some (.ref p_xs)) (ha_xs : h.1[p_xs]? = some (.inl (0, X.map Value.int))) (p_ys : Nat) (hf_ys : fs[5]? = some (.ref p_ys)) (ha_ys : h.1[p_ys]? = some (.inl (0, Y.map Value.int))) (hXl : X.length = 390) (hYl : Y.length = 390) (hs : zIx s MA.length) (hs1 : s.toInt ≤ 64) (hk1 : 1 ≤ (gI MA s).toInt) (hk2 : (gI MA s).toInt ≤ 6) (hc : zIx c X.length) (hlo : 76 ≤ lo) : zAns (fr + 3) lo 124 [.ref m, .int s, .int c] h (some (.int (f_Mo_within X Y MA s c)), h) := by
  unfold f_Mo_within
  refine zeb (fr := fr + 2) (M := M_Mo_within) rfl (Nat.le_trans (by decide) hlo) rfl ?_
  have e0 : mL M_Mo_within = 9 := rfl
  refine zeN (q := ((5, [(4, .int 0), (3, .int 0), (0, .ref m), (1, .int s), (2, .int c)], []), h)) 4 rfl ?_
  refine zeS [(0, .ref m), (1, .int s), (2, .int c), (3, .int 0), (4, .int 0)] (zsub_pick [2, 3, 4, 1, 0] rfl rfl) ?_
  exact s_Mo_within_L5 X Y MA s c m fs hm p_many hf_many ha_many p_xs hf_xs ha_xs p_ys hf_ys ha_ys hXl hYl hs hs1 hk1 hk2 hc (by omega) 7 0 0 zB0 (Int.le_refl _) (by show (0 : Int) ≤ _; omega) (by show _ < (0 : Int) + _; omega)
end
section
theorem zIx_six {s : Int32} {n : Nat} (h0 : 0 ≤ s.toInt) (h1 : s.toInt ≤ 64) (hn : n = 390) : zIx (6 * s) n := by
  have e : (6 * s).toInt = 6 * s.toInt := z_mul (by show _ ≤ (6 : Int) * s.toInt; omega) (by show (6 : Int) * s.toInt < _; omega)
  unfold zIx
  rw [e]
  omega
def f_Mo_meet_L14 (X Y SO MA : List Int32) (s u : Int32) (i : Int32) (K : Int32) : Nat → Int32 → Int32
  | 0, _ => 0
  | n + 1, j => (bif zc .ge j (f_Mo_sides SO MA u) then (K) else (bif zc .eq (f_Mo_touching X Y (f_Mo_corner MA s i 0) (f_Mo_corner MA s i 1) (f_Mo_corner MA u j 0) (f_Mo_corner MA u j 1)) 0 then (f_Mo_meet_L14 X Y SO MA s u i K n (j + Int32.ofInt 1)) else 1))
theorem b_Mo_meet_L14 (X Y SO MA : List Int32) (s u : Int32) (i : Int32) (K : Int32) (hK : zB K) : ∀ (n : Nat) (j : Int32) , zB (f_Mo_meet_L14 X Y SO MA s u i K n j) := by
  intro n
  induction n with
  | zero => intro j; exact zB0
  | succ n ih => intro j; rw [f_Mo_meet_L14]; exact (zbi hK (zbi (ih (j + Int32.ofInt 1) ) (zB1)))
set_option maxRecDepth 100000 in
theorem s_Mo_meet_L14 {fr lo : Nat} {h : zH} (X Y SO MA : List Int32) (s u : Int32) (i : Int32) (m : Nat) (fs : List Value) (hm : h.1[m]? = some (.inr (8, fs))) (p_sort : Nat) (hf_sort : fs[2]? = some (.ref p_sort)) (ha_sort : h.1[p_sort]? = some (.inl (0, SO.map Value.int))) (p_many : Nat) (hf_many : fs[3]? = some (.ref p_many)) (ha_many : h.1[p_many]? = some (.inl (0, MA.map Value.int))) (p_xs : Nat) (hf_xs : fs[4]? = some (.ref p_xs)) (ha_xs : h.1[p_xs]? = some (.inl (0, X.map Value.int))) (p_ys : Nat) (hf_ys : fs[5]? = some (.ref p_ys)) (ha_ys : h.1[p_ys]? = some (.inl (0, Y.map Value.int))) (hXl : X.length = 390) (hYl : Y.length = 390) (hSl : SO.length = 65) (hMl : MA.length = 65) (hs : zIx s MA.length) (hk1 : 1 ≤ (gI MA s).toInt) (hk2 : (gI MA s).toInt ≤ 6) (hu : zIx u MA.length) (hq1 : 1 ≤ (gI MA u).toInt) (hq2 : (gI MA u).toInt ≤ 6) (h0 : 0 ≤ i.toInt) (h2 : i.toInt < (gI MA s).toInt) (K : Int32) (hK : zRun (fr + 4) lo none M_Mo_meet (85, [(0, .ref m), (1, .int s), (2, .int u), (3, .int i)], []) h (some (.int K), h)) (hlo : 105 ≤ lo) : ∀ (n : Nat) (j : Int32) (k0 : 0 ≤ j.toInt) (k1 : j.toInt ≤ 6) (km : 6 < j.toInt + n), zRun (fr + 4) lo none M_Mo_meet (14, [(0, .ref m), (1, .int s), (2, .int u), (3, .int i), (4, .int j)], []) h (some (.int (f_Mo_meet_L14 X Y SO MA s u i K n j)), h) := by
  intro n
  induction n with
  | zero => intro j k0 k1 km; exfalso; omega
  | succ n ih =>
    intro j k0 k1 km
    rw [f_Mo_meet_L14]
    refine zeN (q := ((18, [(0, .ref m), (1, .int s), (2, .int u), (3, .int i), (4, .int j)], [.int u, .ref m, .int j]), h)) 3 rfl ?_
    refine zec 1 (M' := M_Mo_sides) (qq := ([.ref m, .int u], [.int j])) (s' := (21, [(0, .ref m), (1, .int s), (2, .int u), (3, .int i), (4, .int j)], [.int (f_Mo_sides SO MA u), .int j])) rfl rfl (fun _ => rfl) rfl rfl (zhk rfl (zrc_ok hm) rfl) (s_Mo_sides SO MA u m fs hm p_sort hf_sort ha_sort p_many hf_many ha_many (by omega) (zIx_s hu (by omega)) (by omega)) rfl ?_
    refine zbc (q1 := (85, [(0, .ref m), (1, .int s), (2, .int u), (3, .int i), (4, .int j)], [])) (q2 := (24, [(0, .ref m), (1, .int s), (2, .int u), (3, .int i), (4, .int j)], [])) (cB := zc .ge j (f_Mo_sides SO MA u)) (off := 64) (lv := [(0, .ref m), (1, .int s), (2, .int u), (3, .int i), (4, .int j)]) (st := []) rfl rfl rfl rfl rfl (fun c21 => ?_) (fun c21 => ?_)
    · rw [c21]
      refine zeS [(0, .ref m), (1, .int s), (2, .int u), (3, .int i)] (zsub_pick [0, 1, 2, 3] rfl rfl) ?_
      exact hK
    · rw [c21]
      have hcc := of_decide_eq_false (z_ge c21).symm
      have hms := z_msides (SO := SO) hq1 hq2
      have hj1 := z_inc (a := j) (by omega) (by omega)
      have hnz : ¬ gI MA s = 0 := fun e => by rw [e] at hk1; exact absurd hk1 (by decide)
      have hnzu : ¬ gI MA u = 0 := fun e => by rw [e] at hq1; exact absurd hq1 (by decide)
      have hA := zIx_corner (MA := MA) (s := s) (j := i) (e := 0) hs.1 (by have := hs.2; omega) hk1 hk2 h0 (by omega) (by decide) (by decide) hXl
      have hB := zIx_corner (MA := MA) (s := s) (j := i) (e := 1) hs.1 (by have := hs.2; omega) hk1 hk2 h0 (by omega) (by decide) (by decide) hXl
      have hC := zIx_corner (MA := MA) (s := u) (j := j) (e := 0) hu.1 (by have := hu.2; omega) hq1 hq2 k0 (by omega) (by decide) (by decide) hXl
      have hD := zIx_corner (MA := MA) (s := u) (j := j) (e := 1) hu.1 (by have := hu.2; omega) hq1 hq2 k0 (by omega) (by decide) (by decide) hXl
      refine zeN (q := ((28, [(0, .ref m), (1, .int s), (2, .int u), (3, .int i), (4, .int j)], [.int 0, .int i, .int s, .ref m]), h)) 4 rfl ?_
      refine zec 1 (M' := M_Mo_corner) (qq := ([.ref m, .int s, .int i, .int 0], [])) (s' := (31, [(0, .ref m), (1, .int s), (2, .int u), (3, .int i), (4, .int j)], [.int (f_Mo_corner MA s i 0)])) rfl rfl (fun _ => rfl) rfl rfl (zhk rfl (zrc_ok hm) rfl) (s_Mo_corner MA s i 0 m fs hm p_many hf_many ha_many hs hnz (by omega)) rfl ?_
      refine zeN (q := ((37, [(5, .int (f_Mo_corner MA s i 0)), (0, .ref m), (1, .int s), (2, .int u), (3, .int i), (4, .int j)], [.int 1, .int i, .int s, .ref m]), h)) 5 rfl ?_
      refine zec 1 (M' := M_Mo_corner) (qq := ([.ref m, .int s, .int i, .int 1], [])) (s' := (40, [(5, .int (f_Mo_corner MA s i 0)), (0, .ref m), (1, .int s), (2, .int u), (3, .int i), (4, .int j)], [.int (f_Mo_corner MA s i 1)])) rfl rfl (fun _ => rfl) rfl rfl (zhk rfl (zrc_ok hm) rfl) (s_Mo_corner MA s i 1 m fs hm p_many hf_many ha_many hs hnz (by omega)) rfl ?_
      refine zeN (q := ((47, [(6, .int (f_Mo_corner MA s i 1)), (5, .int (f_Mo_corner MA s i 0)), (0, .ref m), (1, .int s), (2, .int u), (3, .int i), (4, .int j)], [.int 0, .int j, .int u, .ref m]), h)) 5 rfl ?_
      refine zec 1 (M' := M_Mo_corner) (qq := ([.ref m, .int u, .int j, .int 0], [])) (s' := (50, [(6, .int (f_Mo_corner MA s i 1)), (5, .int (f_Mo_corner MA s i 0)), (0, .ref m), (1, .int s), (2, .int u), (3, .int i), (4, .int j)], [.int (f_Mo_corner MA u j 0)])) rfl rfl (fun _ => rfl) rfl rfl (zhk rfl (zrc_ok hm) rfl) (s_Mo_corner MA u j 0 m fs hm p_many hf_many ha_many hu hnzu (by omega)) rfl ?_
      refine zeN (q := ((57, [(7, .int (f_Mo_corner MA u j 0)), (6, .int (f_Mo_corner MA s i 1)), (5, .int (f_Mo_corner MA s i 0)), (0, .ref m), (1, .int s), (2, .int u), (3, .int i), (4, .int j)], [.int 1, .int j, .int u, .ref m]), h)) 5 rfl ?_
      refine zec 1 (M' := M_Mo_corner) (qq := ([.ref m, .int u, .int j, .int 1], [])) (s' := (60, [(7, .int (f_Mo_corner MA u j 0)), (6, .int (f_Mo_corner MA s i 1)), (5, .int (f_Mo_corner MA s i 0)), (0, .ref m), (1, .int s), (2, .int u), (3, .int i), (4, .int j)], [.int (f_Mo_corner MA u j 1)])) rfl rfl (fun _ => rfl) rfl rfl (zhk rfl (zrc_ok hm) rfl) (s_Mo_corner MA u j 1 m fs hm p_many hf_many ha_many hu hnzu (by omega)) rfl ?_
      refine zeN (q := ((71, [(8, .int (f_Mo_corner MA u j 1)), (7, .int (f_Mo_corner MA u j 0)), (6, .int (f_Mo_corner MA s i 1)), (5, .int (f_Mo_corner MA s i 0)), (0, .ref m), (1, .int s), (2, .int u), (3, .int i), (4, .int j)], [.int (f_Mo_corner MA u j 1), .int (f_Mo_corner MA u j 0), .int (f_Mo_corner MA s i 1), .int (f_Mo_corner MA s i 0), .ref m]), h)) 6 rfl ?_
      refine zec 1 (M' := M_Mo_touching) (qq := ([.ref m, .int (f_Mo_corner MA s i 0), .int (f_Mo_corner MA s i 1), .int (f_Mo_corner MA u j 0), .int (f_Mo_corner MA u j 1)], [])) (s' := (74, [(8, .int (f_Mo_corner MA u j 1)), (7, .int (f_Mo_corner MA u j 0)), (6, .int (f_Mo_corner MA s i 1)), (5, .int (f_Mo_corner MA s i 0)), (0, .ref m), (1, .int s), (2, .int u), (3, .int i), (4, .int j)], [.int (f_Mo_touching X Y (f_Mo_corner MA s i 0) (f_Mo_corner MA s i 1) (f_Mo_corner MA u j 0) (f_Mo_corner MA u j 1))])) rfl rfl (fun _ => rfl) rfl rfl (zhk rfl (zrc_ok hm) rfl) (s_Mo_touching X Y (f_Mo_corner MA s i 0) (f_Mo_corner MA s i 1) (f_Mo_corner MA u j 0) (f_Mo_corner MA u j 1) m fs hm p_xs hf_xs ha_xs p_ys hf_ys ha_ys (by omega) hA hB hC hD (by omega)) rfl ?_
      refine zbc (q1 := (79, [(8, .int (f_Mo_corner MA u j 1)), (7, .int (f_Mo_corner MA u j 0)), (6, .int (f_Mo_corner MA s i 1)), (5, .int (f_Mo_corner MA s i 0)), (0, .ref m), (1, .int s), (2, .int u), (3, .int i), (4, .int j)], [])) (q2 := (77, [(8, .int (f_Mo_corner MA u j 1)), (7, .int (f_Mo_corner MA u j 0)), (6, .int (f_Mo_corner MA s i 1)), (5, .int (f_Mo_corner MA s i 0)), (0, .ref m), (1, .int s), (2, .int u), (3, .int i), (4, .int j)], [])) (cB := zc .eq (f_Mo_touching X Y (f_Mo_corner MA s i 0) (f_Mo_corner MA s i 1) (f_Mo_corner MA u j 0) (f_Mo_corner MA u j 1)) 0) (off := 5) (lv := [(8, .int (f_Mo_corner MA u j 1)), (7, .int (f_Mo_corner MA u j 0)), (6, .int (f_Mo_corner MA s i 1)), (5, .int (f_Mo_corner MA s i 0)), (0, .ref m), (1, .int s), (2, .int u), (3, .int i), (4, .int j)]) (st := []) rfl rfl rfl rfl rfl (fun c74 => ?_) (fun c74 => ?_)
      · rw [c74]
        refine zeN (q := ((14, [(4, .int (j + Int32.ofInt 1)), (8, .int (f_Mo_corner MA u j 1)), (7, .int (f_Mo_corner MA u j 0)), (6, .int (f_Mo_corner MA s i 1)), (5, .int (f_Mo_corner MA s i 0)), (0, .ref m), (1, .int s), (2, .int u), (3, .int i)], []), h)) 2 rfl ?_
        refine zeS [(0, .ref m), (1, .int s), (2, .int u), (3, .int i), (4, .int (j + Int32.ofInt 1))] (zsub_pick [5, 6, 7, 8, 0] rfl rfl) ?_
        exact ih (j + Int32.ofInt 1) (by omega) (by omega) (by omega)
      · rw [c74]
        refine zeN (q := ((78, [(8, .int (f_Mo_corner MA u j 1)), (7, .int (f_Mo_corner MA u j 0)), (6, .int (f_Mo_corner MA s i 1)), (5, .int (f_Mo_corner MA s i 0)), (0, .ref m), (1, .int s), (2, .int u), (3, .int i), (4, .int j)], [.int 1]), h)) 1 rfl ?_
        exact zer rfl rfl
def f_Mo_meet_L2 (X Y SO MA : List Int32) (s u : Int32)  : Nat → Int32 → Int32
  | 0, _ => 0
  | n + 1, i => (bif zc .ge i (f_Mo_sides SO MA s) then (bif zc .ne (gI SO u) 2 then (bif zc .ne (gI SO s) 2 then 0 else bif zc .eq (f_Mo_within X Y MA s (6 * u)) 0 then 0 else 1) else (bif zc .ne (f_Mo_within X Y MA u (6 * s)) 0 then 1 else (bif zc .ne (gI SO s) 2 then 0 else bif zc .eq (f_Mo_within X Y MA s (6 * u)) 0 then 0 else 1))) else (f_Mo_meet_L14 X Y SO MA s u i ((f_Mo_meet_L2 X Y SO MA s u n (i + Int32.ofInt 1))) 7 0))
theorem b_Mo_meet_L2 (X Y SO MA : List Int32) (s u : Int32)  : ∀ (n : Nat) (i : Int32) , zB (f_Mo_meet_L2 X Y SO MA s u n i) := by
  intro n
  induction n with
  | zero => intro i; exact zB0
  | succ n ih => intro i; rw [f_Mo_meet_L2]; exact (zbi (zbi (zbi (zB0) (zbb _)) (zbi (zB1) (zbi (zB0) (zbb _)))) (b_Mo_meet_L14 X Y SO MA s u i ((f_Mo_meet_L2 X Y SO MA s u n (i + Int32.ofInt 1))) (ih (i + Int32.ofInt 1) ) 7 0))
set_option maxRecDepth 100000 in
theorem s_Mo_meet_L2 {fr lo : Nat} {h : zH} (X Y SO MA : List Int32) (s u : Int32)  (m : Nat) (fs : List Value) (hm : h.1[m]? = some (.inr (8, fs))) (p_sort : Nat) (hf_sort : fs[2]? = some (.ref p_sort)) (ha_sort : h.1[p_sort]? = some (.inl (0, SO.map Value.int))) (p_many : Nat) (hf_many : fs[3]? = some (.ref p_many)) (ha_many : h.1[p_many]? = some (.inl (0, MA.map Value.int))) (p_xs : Nat) (hf_xs : fs[4]? = some (.ref p_xs)) (ha_xs : h.1[p_xs]? = some (.inl (0, X.map Value.int))) (p_ys : Nat) (hf_ys : fs[5]? = some (.ref p_ys)) (ha_ys : h.1[p_ys]? = some (.inl (0, Y.map Value.int))) (hXl : X.length = 390) (hYl : Y.length = 390) (hSl : SO.length = 65) (hMl : MA.length = 65) (hs : zIx s MA.length) (hk1 : 1 ≤ (gI MA s).toInt) (hk2 : (gI MA s).toInt ≤ 6) (hu : zIx u MA.length) (hq1 : 1 ≤ (gI MA u).toInt) (hq2 : (gI MA u).toInt ≤ 6)  (hlo : 105 ≤ lo) : ∀ (n : Nat) (i : Int32) (h0 : 0 ≤ i.toInt) (h1 : i.toInt ≤ 6) (hm2 : 6 < i.toInt + n), zRun (fr + 4) lo none M_Mo_meet (2, [(0, .ref m), (1, .int s), (2, .int u), (3, .int i)], []) h (some (.int (f_Mo_meet_L2 X Y SO MA s u n i)), h) := by
  intro n
  induction n with
  | zero => intro i h0 h1 hm2; exfalso; omega
  | succ n ih =>
    intro i h0 h1 hm2
    rw [f_Mo_meet_L2]
    refine zeN (q := ((5, [(0, .ref m), (1, .int s), (2, .int u), (3, .int i)], [.int s, .ref m, .int i]), h)) 3 rfl ?_
    refine zec 1 (M' := M_Mo_sides) (qq := ([.ref m, .int s], [.int i])) (s' := (8, [(0, .ref m), (1, .int s), (2, .int u), (3, .int i)], [.int (f_Mo_sides SO MA s), .int i])) rfl rfl (fun _ => rfl) rfl rfl (zhk rfl (zrc_ok hm) rfl) (s_Mo_sides SO MA s m fs hm p_sort hf_sort ha_sort p_many hf_many ha_many (by omega) (zIx_s hs (by omega)) (by omega)) rfl ?_
    refine zbc (q1 := (91, [(0, .ref m), (1, .int s), (2, .int u), (3, .int i)], [])) (q2 := (11, [(0, .ref m), (1, .int s), (2, .int u), (3, .int i)], [])) (cB := zc .ge i (f_Mo_sides SO MA s)) (off := 83) (lv := [(0, .ref m), (1, .int s), (2, .int u), (3, .int i)]) (st := []) rfl rfl rfl rfl rfl (fun c8 => ?_) (fun c8 => ?_)
    · rw [c8]
      have hsS : zIx s SO.length := zIx_s hs (by omega)
      have huS : zIx u SO.length := zIx_s hu (by omega)
      refine zeN (q := ((92, [(0, .ref m), (1, .int s), (2, .int u), (3, .int i)], [.ref m]), h)) 1 rfl ?_
      refine zegf (fs := fs) (v := .ref p_sort) rfl rfl rfl rfl hm hf_sort ?_
      refine zeN (q := ((96, [(0, .ref m), (1, .int s), (2, .int u), (3, .int i)], [.int u, .ref p_sort]), h)) 1 rfl ?_
      refine zeia (l := SO.map Value.int) (k := u.toNatClampNeg) (v := .int (gI SO u)) rfl rfl ha_sort (zIx_a huS) (zIx_b huS) ?_
      refine zeN (q := ((98, [(0, .ref m), (1, .int s), (2, .int u), (3, .int i)], [.int 2, .int (gI SO u)]), h)) 1 rfl ?_
      refine zbc (q1 := (113, [(0, .ref m), (1, .int s), (2, .int u), (3, .int i)], [])) (q2 := (101, [(0, .ref m), (1, .int s), (2, .int u), (3, .int i)], [])) (cB := zc .ne (gI SO u) 2) (off := 15) (lv := [(0, .ref m), (1, .int s), (2, .int u), (3, .int i)]) (st := []) rfl rfl rfl rfl rfl (fun c98 => ?_) (fun c98 => ?_)
      · rw [c98]
        refine zeN (q := ((114, [(0, .ref m), (1, .int s), (2, .int u), (3, .int i)], [.ref m]), h)) 1 rfl ?_
        refine zegf (fs := fs) (v := .ref p_sort) rfl rfl rfl rfl hm hf_sort ?_
        refine zeN (q := ((118, [(0, .ref m), (1, .int s), (2, .int u), (3, .int i)], [.int s, .ref p_sort]), h)) 1 rfl ?_
        refine zeia (l := SO.map Value.int) (k := s.toNatClampNeg) (v := .int (gI SO s)) rfl rfl ha_sort (zIx_a hsS) (zIx_b hsS) ?_
        refine zeN (q := ((120, [(0, .ref m), (1, .int s), (2, .int u), (3, .int i)], [.int 2, .int (gI SO s)]), h)) 1 rfl ?_
        refine zbc (q1 := (139, [(0, .ref m), (1, .int s), (2, .int u), (3, .int i)], [])) (q2 := (123, [(0, .ref m), (1, .int s), (2, .int u), (3, .int i)], [])) (cB := zc .ne (gI SO s) 2) (off := 19) (lv := [(0, .ref m), (1, .int s), (2, .int u), (3, .int i)]) (st := []) rfl rfl rfl rfl rfl (fun c120 => ?_) (fun c120 => ?_)
        · rw [c120]
          refine zeN (q := ((140, [(0, .ref m), (1, .int s), (2, .int u), (3, .int i)], [.int 0]), h)) 1 rfl ?_
          exact zer rfl rfl
        · rw [c120]
          refine zeN (q := ((129, [(0, .ref m), (1, .int s), (2, .int u), (3, .int i)], [.int (6 * u), .int s, .ref m]), h)) 5 rfl ?_
          refine zec 1 (M' := M_Mo_within) (qq := ([.ref m, .int s, .int (6 * u)], [])) (s' := (132, [(0, .ref m), (1, .int s), (2, .int u), (3, .int i)], [.int (f_Mo_within X Y MA s (6 * u))])) rfl rfl (fun _ => rfl) rfl rfl (zhk rfl (zrc_ok hm) rfl) (s_Mo_within X Y MA s (6 * u) m fs hm p_many hf_many ha_many p_xs hf_xs ha_xs p_ys hf_ys ha_ys hXl hYl hs (by have := hs.2; omega) hk1 hk2 (zIx_six hu.1 (by have := hu.2; omega) hXl) (by omega)) rfl ?_
          refine zdia (q1 := (139, [(0, .ref m), (1, .int s), (2, .int u), (3, .int i)], [])) (q2 := (135, [(0, .ref m), (1, .int s), (2, .int u), (3, .int i)], [])) (cB := zc .eq (f_Mo_within X Y MA s (6 * u)) 0) (off := 7) (lv := [(0, .ref m), (1, .int s), (2, .int u), (3, .int i)]) (st := []) (lv2 := [(0, .ref m), (1, .int s), (2, .int u), (3, .int i)]) (st2 := []) (J := 140) (vA := 0) (vB := 1) 1 2 rfl rfl rfl rfl rfl rfl rfl ?_
          exact zer rfl (zreb (zbb _))
      · rw [c98]
        refine zeN (q := ((107, [(0, .ref m), (1, .int s), (2, .int u), (3, .int i)], [.int (6 * s), .int u, .ref m]), h)) 5 rfl ?_
        refine zec 1 (M' := M_Mo_within) (qq := ([.ref m, .int u, .int (6 * s)], [])) (s' := (110, [(0, .ref m), (1, .int s), (2, .int u), (3, .int i)], [.int (f_Mo_within X Y MA u (6 * s))])) rfl rfl (fun _ => rfl) rfl rfl (zhk rfl (zrc_ok hm) rfl) (s_Mo_within X Y MA u (6 * s) m fs hm p_many hf_many ha_many p_xs hf_xs ha_xs p_ys hf_ys ha_ys hXl hYl hu (by have := hu.2; omega) hq1 hq2 (zIx_six hs.1 (by have := hs.2; omega) hXl) (by omega)) rfl ?_
        refine zbc (q1 := (135, [(0, .ref m), (1, .int s), (2, .int u), (3, .int i)], [])) (q2 := (113, [(0, .ref m), (1, .int s), (2, .int u), (3, .int i)], [])) (cB := zc .ne (f_Mo_within X Y MA u (6 * s)) 0) (off := 25) (lv := [(0, .ref m), (1, .int s), (2, .int u), (3, .int i)]) (st := []) rfl rfl rfl rfl rfl (fun c110 => ?_) (fun c110 => ?_)
        · rw [c110]
          refine zeN (q := ((140, [(0, .ref m), (1, .int s), (2, .int u), (3, .int i)], [.int 1]), h)) 2 rfl ?_
          exact zer rfl rfl
        · rw [c110]
          refine zeN (q := ((114, [(0, .ref m), (1, .int s), (2, .int u), (3, .int i)], [.ref m]), h)) 1 rfl ?_
          refine zegf (fs := fs) (v := .ref p_sort) rfl rfl rfl rfl hm hf_sort ?_
          refine zeN (q := ((118, [(0, .ref m), (1, .int s), (2, .int u), (3, .int i)], [.int s, .ref p_sort]), h)) 1 rfl ?_
          refine zeia (l := SO.map Value.int) (k := s.toNatClampNeg) (v := .int (gI SO s)) rfl rfl ha_sort (zIx_a hsS) (zIx_b hsS) ?_
          refine zeN (q := ((120, [(0, .ref m), (1, .int s), (2, .int u), (3, .int i)], [.int 2, .int (gI SO s)]), h)) 1 rfl ?_
          refine zbc (q1 := (139, [(0, .ref m), (1, .int s), (2, .int u), (3, .int i)], [])) (q2 := (123, [(0, .ref m), (1, .int s), (2, .int u), (3, .int i)], [])) (cB := zc .ne (gI SO s) 2) (off := 19) (lv := [(0, .ref m), (1, .int s), (2, .int u), (3, .int i)]) (st := []) rfl rfl rfl rfl rfl (fun c120 => ?_) (fun c120 => ?_)
          · rw [c120]
            refine zeN (q := ((140, [(0, .ref m), (1, .int s), (2, .int u), (3, .int i)], [.int 0]), h)) 1 rfl ?_
            exact zer rfl rfl
          · rw [c120]
            refine zeN (q := ((129, [(0, .ref m), (1, .int s), (2, .int u), (3, .int i)], [.int (6 * u), .int s, .ref m]), h)) 5 rfl ?_
            refine zec 1 (M' := M_Mo_within) (qq := ([.ref m, .int s, .int (6 * u)], [])) (s' := (132, [(0, .ref m), (1, .int s), (2, .int u), (3, .int i)], [.int (f_Mo_within X Y MA s (6 * u))])) rfl rfl (fun _ => rfl) rfl rfl (zhk rfl (zrc_ok hm) rfl) (s_Mo_within X Y MA s (6 * u) m fs hm p_many hf_many ha_many p_xs hf_xs ha_xs p_ys hf_ys ha_ys hXl hYl hs (by have := hs.2; omega) hk1 hk2 (zIx_six hu.1 (by have := hu.2; omega) hXl) (by omega)) rfl ?_
            refine zdia (q1 := (139, [(0, .ref m), (1, .int s), (2, .int u), (3, .int i)], [])) (q2 := (135, [(0, .ref m), (1, .int s), (2, .int u), (3, .int i)], [])) (cB := zc .eq (f_Mo_within X Y MA s (6 * u)) 0) (off := 7) (lv := [(0, .ref m), (1, .int s), (2, .int u), (3, .int i)]) (st := []) (lv2 := [(0, .ref m), (1, .int s), (2, .int u), (3, .int i)]) (st2 := []) (J := 140) (vA := 0) (vB := 1) 1 2 rfl rfl rfl rfl rfl rfl rfl ?_
            exact zer rfl (zreb (zbb _))
    · rw [c8]
      have hcc := of_decide_eq_false (z_ge c8).symm
      have hms := z_msides (SO := SO) hk1 hk2
      have hi1 := z_inc (a := i) (by omega) (by omega)
      have h2 : i.toInt < (gI MA s).toInt := by omega
      refine zeN (q := ((14, [(4, .int 0), (0, .ref m), (1, .int s), (2, .int u), (3, .int i)], []), h)) 2 rfl ?_
      have hK : zRun (fr + 4) lo none M_Mo_meet (85, [(0, .ref m), (1, .int s), (2, .int u), (3, .int i)], []) h (some (.int ((f_Mo_meet_L2 X Y SO MA s u n (i + Int32.ofInt 1)))), h) := by
        refine zeN (q := ((2, [(3, .int (i + Int32.ofInt 1)), (0, .ref m), (1, .int s), (2, .int u)], []), h)) 2 rfl ?_
        refine zeS [(0, .ref m), (1, .int s), (2, .int u), (3, .int (i + Int32.ofInt 1))] (zsub_pick [1, 2, 3, 0] rfl rfl) ?_
        exact ih (i + Int32.ofInt 1) (by omega) (by omega) (by omega)
      refine zeS [(0, .ref m), (1, .int s), (2, .int u), (3, .int i), (4, .int 0)] (zsub_pick [1, 2, 3, 4, 0] rfl rfl) ?_
      exact s_Mo_meet_L14 X Y SO MA s u i m fs hm p_sort hf_sort ha_sort p_many hf_many ha_many p_xs hf_xs ha_xs p_ys hf_ys ha_ys hXl hYl hSl hMl hs hk1 hk2 hu hq1 hq2 h0 h2 ((f_Mo_meet_L2 X Y SO MA s u n (i + Int32.ofInt 1))) hK (by omega) 7 0 (by decide) (by decide) (by decide)
def f_Mo_meet (X Y SO MA : List Int32) (s u : Int32) : Int32 := (f_Mo_meet_L2 X Y SO MA s u 7 0)
theorem b_Mo_meet (X Y SO MA : List Int32) (s u : Int32) : zB (f_Mo_meet X Y SO MA s u) := by unfold f_Mo_meet; exact (b_Mo_meet_L2 X Y SO MA s u 7 0 )
set_option maxRecDepth 100000 in
theorem s_Mo_meet {fr lo : Nat} {h : zH} (X Y SO MA : List Int32) (s u : Int32) (m : Nat) (fs : List Value) (hm : h.1[m]? = some (.inr (8, fs))) (p_sort : Nat) (hf_sort : fs[2]? = some (.ref p_sort)) (ha_sort : h.1[p_sort]? = some (.inl (0, SO.map Value.int))) (p_many : Nat) (hf_many : fs[3]? = some (.ref p_many)) (ha_many : h.1[p_many]? = some (.inl (0, MA.map Value.int))) (p_xs : Nat) (hf_xs : fs[4]? = some (.ref p_xs)) (ha_xs : h.1[p_xs]? = some (.inl (0, X.map Value.int))) (p_ys : Nat) (hf_ys : fs[5]? = some (.ref p_ys)) (ha_ys : h.1[p_ys]? = some (.inl (0, Y.map Value.int))) (hXl : X.length = 390) (hYl : Y.length = 390) (hSl : SO.length = 65) (hMl : MA.length = 65) (hs : zIx s MA.length) (hk1 : 1 ≤ (gI MA s).toInt) (hk2 : (gI MA s).toInt ≤ 6) (hu : zIx u MA.length) (hq1 : 1 ≤ (gI MA u).toInt) (hq2 : (gI MA u).toInt ≤ 6) (hlo : 133 ≤ lo) : zAns (fr + 5) lo 118 [.ref m, .int s, .int u] h (some (.int (f_Mo_meet X Y SO MA s u)), h) := by
  unfold f_Mo_meet
  refine zeb (fr := fr + 4) (M := M_Mo_meet) rfl (Nat.le_trans (by decide) hlo) rfl ?_
  have e0 : mL M_Mo_meet = 9 := rfl
  refine zeN (q := ((2, [(3, .int 0), (0, .ref m), (1, .int s), (2, .int u)], []), h)) 2 rfl ?_
  refine zeS [(0, .ref m), (1, .int s), (2, .int u), (3, .int 0)] (zsub_pick [1, 2, 3, 0] rfl rfl) ?_
  exact s_Mo_meet_L2 X Y SO MA s u m fs hm p_sort hf_sort ha_sort p_many hf_many ha_many p_xs hf_xs ha_xs p_ys hf_ys ha_ys hXl hYl hSl hMl hs hk1 hk2 hu hq1 hq2 (by omega) 7 0 (by decide) (by decide) (by decide)
end
section
/-- the heap with the distance d as (T, B) -/
def zD (h : zH) (d : Nat) (p : Int64 × Int64) : zH := (h.1.set d (.inr (3, [.long p.1, .long p.2])), h.2)
theorem zD_self {h : zH} {d : Nat} {c : zC} {p : Int64 × Int64} (hd : h.1[d]? = some c) : (zD h d p).1[d]? = some (.inr (3, [.long p.1, .long p.2])) := List.getElem?_set_self (List.getElem?_eq_some_iff.mp hd).1
theorem zD_ne {h : zH} {d g : Nat} {c : Option zC} {p : Int64 × Int64} (hg : h.1[g]? = c) (hne : g ≠ d) : (zD h d p).1[g]? = c := by
  show (h.1.set d _)[g]? = _
  rw [List.getElem?_set_ne (Ne.symm hne)]
  exact hg
theorem zD_D {h : zH} {d : Nat} {p q : Int64 × Int64} : zD (zD h d p) d q = zD h d q := by simp [zD, List.set_set]
theorem zD_id {h : zH} {d : Nat} {T B : Int64} (hd : h.1[d]? = some (.inr (3, [.long T, .long B]))) : zD h d (T, B) = h := by
  have e : h.1.set d (.inr (3, [.long T, .long B])) = h.1 := by
    obtain ⟨hlt, he⟩ := List.getElem?_eq_some_iff.mp hd
    rw [← he]
    exact List.set_getElem_self hlt
  show (h.1.set d (.inr (3, [.long T, .long B])), h.2) = h
  rw [e]
theorem s_Di_become {fr lo : Nat} {h : zH} (T B t b : Int64) (d : Nat) (hd : h.1[d]? = some (.inr (3, [.long T, .long B]))) (hlo : 24 ≤ lo) : zAns (fr + 1) lo 49 [.ref d, .long t, .long b] h (none, zD h d (t, b)) := by
  refine zeb (fr := fr) (M := M_Di_become) rfl (Nat.le_trans (by decide) hlo) rfl ?_
  refine zeN (q := ((2, [(0, .ref d), (1, .long t), (3, .long b)], [.long t, .ref d]), h)) 2 rfl ?_
  refine zepf (fs := [.long T, .long B]) rfl rfl rfl rfl hd (show (0 : Nat) < 2 by decide) rfl ?_
  refine zeN (q := ((7, [(0, .ref d), (1, .long t), (3, .long b)], [.long b, .ref d]), _)) 2 rfl ?_
  refine zepf (fs := [.long t, .long B]) rfl rfl rfl rfl (List.getElem?_set_self (List.getElem?_eq_some_iff.mp hd).1) (show (1 : Nat) < 2 by decide) rfl ?_
  have e : ((h.1.set d (.inr (3, [Value.long t, .long B]))).set d (.inr (3, [Value.long t, .long b])), h.2) = zD h d (t, b) := by simp [zD, List.set_set]
  show zRun fr _ none M_Di_become (10, [(0, .ref d), (1, .long t), (3, .long b)], []) ((h.1.set d (.inr (3, [Value.long t, .long B]))).set d (.inr (3, [Value.long t, .long b])), h.2) (none, zD h d (t, b))
  rw [e]
  exact zer rfl rfl
/-- the less of two fractions: what lessen leaves -/
def f_Di_lessen (T B t b : Int64) : Int64 × Int64 := bif zc .ge (lg_cmp (t * B) (T * b)) 0 then (T, B) else (t, b)
theorem s_Di_lessen {fr lo : Nat} {h : zH} (T B t b : Int64) (d : Nat) (hd : h.1[d]? = some (.inr (3, [.long T, .long B]))) (hlo : 48 ≤ lo) : zAns (fr + 2) lo 62 [.ref d, .long t, .long b] h (none, zD h d (f_Di_lessen T B t b)) := by
  unfold f_Di_lessen
  refine zeb (fr := fr + 1) (M := M_Di_lessen) rfl (Nat.le_trans (by decide) hlo) rfl ?_
  have e0 : mL M_Di_lessen = 5 := rfl
  refine zeN (q := ((2, [(0, .ref d), (1, .long t), (3, .long b)], [.ref d, .long t]), h)) 2 rfl ?_
  refine zegf (fs := [.long T, .long B]) (v := .long B) rfl rfl rfl rfl hd rfl ?_
  refine zeN (q := ((7, [(0, .ref d), (1, .long t), (3, .long b)], [.ref d, .long (t * B)]), h)) 2 rfl ?_
  refine zegf (fs := [.long T, .long B]) (v := .long T) rfl rfl rfl rfl hd rfl ?_
  refine zeN (q := ((13, [(0, .ref d), (1, .long t), (3, .long b)], [.int (lg_cmp (t * B) (T * b))]), h)) 3 rfl ?_
  refine zbc (q1 := (22, [(0, .ref d), (1, .long t), (3, .long b)], [])) (q2 := (16, [(0, .ref d), (1, .long t), (3, .long b)], [])) (cB := zc .ge (lg_cmp (t * B) (T * b)) 0) (off := 9) (lv := [(0, .ref d), (1, .long t), (3, .long b)]) (st := []) rfl rfl rfl rfl rfl (fun c13 => ?_) (fun c13 => ?_)
  · rw [c13]
    show zRun _ _ none M_Di_lessen _ h (none, zD h d (T, B))
    rw [zD_id hd]
    exact zer rfl rfl
  · rw [c13]
    refine zeN (q := ((19, [(0, .ref d), (1, .long t), (3, .long b)], [.long b, .long t, .ref d]), h)) 3 rfl ?_
    refine zec 1 (M' := M_Di_become) (qq := ([.ref d, .long t, .long b], [])) (s' := (22, [(0, .ref d), (1, .long t), (3, .long b)], [])) rfl rfl (fun _ => rfl) rfl rfl (zhk rfl (zrc_ok hd) rfl) (s_Di_become T B t b d hd (by omega)) rfl ?_
    exact zer rfl rfl
def f_Di_isAtMost (T B : Int64) (l : Int32) : Int32 := bif zc .gt (lg_cmp T (l.toInt64 * B)) 0 then 0 else 1
theorem b_Di_isAtMost (T B : Int64) (l : Int32) : zB (f_Di_isAtMost T B l) := by unfold f_Di_isAtMost; exact (zbb _)
set_option maxRecDepth 100000 in
theorem s_Di_isAtMost {fr lo : Nat} {h : zH} (T B : Int64) (l : Int32) (d : Nat) (hd : h.1[d]? = some (.inr (3, [.long T, .long B]))) (hlo : 21 ≤ lo) : zAns (fr + 1) lo 63 [.ref d, .int l] h (some (.int (f_Di_isAtMost T B l)), h) := by
  unfold f_Di_isAtMost
  refine zeb (fr := fr + 0) (M := M_Di_isAtMost) rfl (Nat.le_trans (by decide) hlo) rfl ?_
  have e0 : mL M_Di_isAtMost = 2 := rfl
  refine zeN (q := ((1, [(0, .ref d), (1, .int l)], [.ref d]), h)) 1 rfl ?_
  refine zegf (fs := [.long T, .long B]) (v := .long T) rfl rfl rfl rfl hd rfl ?_
  refine zeN (q := ((7, [(0, .ref d), (1, .int l)], [.ref d, .long l.toInt64, .long T]), h)) 3 rfl ?_
  refine zegf (fs := [.long T, .long B]) (v := .long B) rfl rfl rfl rfl hd rfl ?_
  refine zeN (q := ((12, [(0, .ref d), (1, .int l)], [.int (lg_cmp T (l.toInt64 * B))]), h)) 2 rfl ?_
  refine zdia (q1 := (19, [(0, .ref d), (1, .int l)], [])) (q2 := (15, [(0, .ref d), (1, .int l)], [])) (cB := zc .gt (lg_cmp T (l.toInt64 * B)) 0) (off := 7) (lv := [(0, .ref d), (1, .int l)]) (st := []) (lv2 := [(0, .ref d), (1, .int l)]) (st2 := []) (J := 20) (vA := 0) (vB := 1) 1 2 rfl rfl rfl rfl rfl rfl rfl ?_
  exact zer rfl (zreb (zbb _))
def f_Di_isAtLeast (T B : Int64) (l : Int32) : Int32 := bif zc .gt (lg_cmp (l.toInt64 * B) T) 0 then 0 else 1
theorem b_Di_isAtLeast (T B : Int64) (l : Int32) : zB (f_Di_isAtLeast T B l) := by unfold f_Di_isAtLeast; exact (zbb _)
set_option maxRecDepth 100000 in
theorem s_Di_isAtLeast {fr lo : Nat} {h : zH} (T B : Int64) (l : Int32) (d : Nat) (hd : h.1[d]? = some (.inr (3, [.long T, .long B]))) (hlo : 21 ≤ lo) : zAns (fr + 1) lo 54 [.ref d, .int l] h (some (.int (f_Di_isAtLeast T B l)), h) := by
  unfold f_Di_isAtLeast
  refine zeb (fr := fr + 0) (M := M_Di_isAtLeast) rfl (Nat.le_trans (by decide) hlo) rfl ?_
  have e0 : mL M_Di_isAtLeast = 2 := rfl
  refine zeN (q := ((3, [(0, .ref d), (1, .int l)], [.ref d, .long l.toInt64]), h)) 3 rfl ?_
  refine zegf (fs := [.long T, .long B]) (v := .long B) rfl rfl rfl rfl hd rfl ?_
  refine zeN (q := ((8, [(0, .ref d), (1, .int l)], [.ref d, .long (l.toInt64 * B)]), h)) 2 rfl ?_
  refine zegf (fs := [.long T, .long B]) (v := .long T) rfl rfl rfl rfl hd rfl ?_
  refine zeN (q := ((12, [(0, .ref d), (1, .int l)], [.int (lg_cmp (l.toInt64 * B) T)]), h)) 1 rfl ?_
  refine zdia (q1 := (19, [(0, .ref d), (1, .int l)], [])) (q2 := (15, [(0, .ref d), (1, .int l)], [])) (cB := zc .gt (lg_cmp (l.toInt64 * B) T) 0) (off := 7) (lv := [(0, .ref d), (1, .int l)]) (st := []) (lv2 := [(0, .ref d), (1, .int l)]) (st2 := []) (J := 20) (vA := 0) (vB := 1) 1 2 rfl rfl rfl rfl rfl rfl rfl ?_
  exact zer rfl (zreb (zbb _))
def f_Di_isBelow (T B T2 B2 : Int64) : Int32 := bif zc .ge (lg_cmp (T * B2) (T2 * B)) 0 then 0 else 1
theorem b_Di_isBelow (T B T2 B2 : Int64) : zB (f_Di_isBelow T B T2 B2) := by unfold f_Di_isBelow; exact (zbb _)
set_option maxRecDepth 100000 in
theorem s_Di_isBelow {fr lo : Nat} {h : zH} (T B T2 B2 : Int64) (d : Nat) (hd : h.1[d]? = some (.inr (3, [.long T, .long B]))) (d2 : Nat) (hd2 : h.1[d2]? = some (.inr (3, [.long T2, .long B2]))) (hlo : 21 ≤ lo) : zAns (fr + 1) lo 70 [.ref d, .ref d2] h (some (.int (f_Di_isBelow T B T2 B2)), h) := by
  unfold f_Di_isBelow
  refine zeb (fr := fr + 0) (M := M_Di_isBelow) rfl (Nat.le_trans (by decide) hlo) rfl ?_
  have e0 : mL M_Di_isBelow = 2 := rfl
  refine zeN (q := ((1, [(0, .ref d), (1, .ref d2)], [.ref d]), h)) 1 rfl ?_
  refine zegf (fs := [.long T, .long B]) (v := .long T) rfl rfl rfl rfl hd rfl ?_
  refine zeN (q := ((5, [(0, .ref d), (1, .ref d2)], [.ref d2, .long T]), h)) 1 rfl ?_
  refine zegf (fs := [.long T2, .long B2]) (v := .long B2) rfl rfl rfl rfl hd2 rfl ?_
  refine zeN (q := ((10, [(0, .ref d), (1, .ref d2)], [.ref d2, .long (T * B2)]), h)) 2 rfl ?_
  refine zegf (fs := [.long T2, .long B2]) (v := .long T2) rfl rfl rfl rfl hd2 rfl ?_
  refine zeN (q := ((14, [(0, .ref d), (1, .ref d2)], [.ref d, .long T2, .long (T * B2)]), h)) 1 rfl ?_
  refine zegf (fs := [.long T, .long B]) (v := .long B) rfl rfl rfl rfl hd rfl ?_
  refine zeN (q := ((19, [(0, .ref d), (1, .ref d2)], [.int (lg_cmp (T * B2) (T2 * B))]), h)) 2 rfl ?_
  refine zdia (q1 := (26, [(0, .ref d), (1, .ref d2)], [])) (q2 := (22, [(0, .ref d), (1, .ref d2)], [])) (cB := zc .ge (lg_cmp (T * B2) (T2 * B)) 0) (off := 7) (lv := [(0, .ref d), (1, .ref d2)]) (st := []) (lv2 := [(0, .ref d), (1, .ref d2)]) (st2 := []) (J := 27) (vA := 0) (vB := 1) 1 2 rfl rfl rfl rfl rfl rfl rfl ?_
  exact zer rfl (zreb (zbb _))
def f_Di_wholePart (T B : Int64) : Int32 := (bif zc .le (lg_cmp B 0) 0 then 0 else (T / B).toInt32)
set_option maxRecDepth 100000 in
theorem s_Di_wholePart {fr lo : Nat} {h : zH} (T B : Int64) (d : Nat) (hd : h.1[d]? = some (.inr (3, [.long T, .long B]))) (hlo : 20 ≤ lo) : zAns (fr + 1) lo 77 [.ref d] h (some (.int (f_Di_wholePart T B)), h) := by
  unfold f_Di_wholePart
  refine zeb (fr := fr + 0) (M := M_Di_wholePart) rfl (Nat.le_trans (by decide) hlo) rfl ?_
  have e0 : mL M_Di_wholePart = 1 := rfl
  refine zeN (q := ((1, [(0, .ref d)], [.ref d]), h)) 1 rfl ?_
  refine zegf (fs := [.long T, .long B]) (v := .long B) rfl rfl rfl rfl hd rfl ?_
  refine zeN (q := ((6, [(0, .ref d)], [.int (lg_cmp B 0)]), h)) 2 rfl ?_
  refine zbc (q1 := (22, [(0, .ref d)], [])) (q2 := (9, [(0, .ref d)], [])) (cB := zc .le (lg_cmp B 0) 0) (off := 16) (lv := [(0, .ref d)]) (st := []) rfl rfl rfl rfl rfl (fun c6 => ?_) (fun c6 => ?_)
  · rw [c6]
    refine zeN (q := ((23, [(0, .ref d)], [.int 0]), h)) 1 rfl ?_
    exact zer rfl rfl
  · rw [c6]
    refine zeN (q := ((10, [(0, .ref d)], [.ref d]), h)) 1 rfl ?_
    refine zegf (fs := [.long T, .long B]) (v := .long T) rfl rfl rfl rfl hd rfl ?_
    refine zeN (q := ((14, [(0, .ref d)], [.ref d, .long T]), h)) 1 rfl ?_
    refine zegf (fs := [.long T, .long B]) (v := .long B) rfl rfl rfl rfl hd rfl ?_
    refine zedl rfl rfl (fun e => by rw [e] at c6; exact absurd c6 (by decide)) ?_
    refine zeN (q := ((23, [(0, .ref d)], [.int ((T / B).toInt32)]), h)) 2 rfl ?_
    exact zer rfl rfl
end
section
def f_Di_lessenByEnd_C100 (T B : Int64) (dx : Int64) (dy : Int64) (qx : Int64) (qy : Int64) (ln : Int64) (al : Int64) : Int64 × Int64 := (bif zc .gt (lg_cmp al 0) 0 then (bif zc .lt (lg_cmp al ln) 0 then f_Di_lessen T B (((qx * dy) - (qy * dx)) * ((qx * dy) - (qy * dx))) ln else f_Di_lessen T B (((qx - dx) * (qx - dx)) + ((qy - dy) * (qy - dy))) 1) else f_Di_lessen T B ((qx * qx) + (qy * qy)) 1)
set_option maxRecDepth 100000 in
theorem s_Di_lessenByEnd_C100 {fr lo : Nat} {h : zH} (T B : Int64) (dx : Int64) (dy : Int64) (qx : Int64) (qy : Int64) (ln : Int64) (al : Int64) (d : Nat) (hd : h.1[d]? = some (.inr (3, [.long T, .long B]))) (hlo : 48 ≤ lo) : zRun (fr + 2) lo none M_Di_lessenByEnd (100, [(0, .ref d), (5, .long dx), (7, .long dy), (9, .long qx), (11, .long qy), (13, .long ln), (15, .long al)], []) h (none, zD h d (f_Di_lessenByEnd_C100 T B dx dy qx qy ln al)) := by
  unfold f_Di_lessenByEnd_C100
  refine zeN (q := ((104, [(0, .ref d), (5, .long dx), (7, .long dy), (9, .long qx), (11, .long qy), (13, .long ln), (15, .long al)], [.int (lg_cmp al 0)]), h)) 3 rfl ?_
  refine zbc (q1 := (126, [(0, .ref d), (5, .long dx), (7, .long dy), (9, .long qx), (11, .long qy), (13, .long ln), (15, .long al)], [])) (q2 := (107, [(0, .ref d), (5, .long dx), (7, .long dy), (9, .long qx), (11, .long qy), (13, .long ln), (15, .long al)], [])) (cB := zc .gt (lg_cmp al 0) 0) (off := 22) (lv := [(0, .ref d), (5, .long dx), (7, .long dy), (9, .long qx), (11, .long qy), (13, .long ln), (15, .long al)]) (st := []) rfl rfl rfl rfl rfl (fun c104 => ?_) (fun c104 => ?_)
  · rw [c104]
    refine zeN (q := ((131, [(0, .ref d), (5, .long dx), (7, .long dy), (9, .long qx), (11, .long qy), (13, .long ln), (15, .long al)], [.int (lg_cmp al ln)]), h)) 3 rfl ?_
    refine zbc (q1 := (165, [(0, .ref d), (5, .long dx), (7, .long dy), (9, .long qx), (11, .long qy), (13, .long ln), (15, .long al)], [])) (q2 := (134, [(0, .ref d), (5, .long dx), (7, .long dy), (9, .long qx), (11, .long qy), (13, .long ln), (15, .long al)], [])) (cB := zc .lt (lg_cmp al ln) 0) (off := 34) (lv := [(0, .ref d), (5, .long dx), (7, .long dy), (9, .long qx), (11, .long qy), (13, .long ln), (15, .long al)]) (st := []) rfl rfl rfl rfl rfl (fun c131 => ?_) (fun c131 => ?_)
    · rw [c131]
      refine zeN (q := ((186, [(17, .long ((qx * dy) - (qy * dx))), (0, .ref d), (5, .long dx), (7, .long dy), (9, .long qx), (11, .long qy), (13, .long ln), (15, .long al)], [.long ln, .long (((qx * dy) - (qy * dx)) * ((qx * dy) - (qy * dx))), .ref d]), h)) 13 rfl ?_
      refine zec 1 (M' := M_Di_lessen) (qq := ([.ref d, .long (((qx * dy) - (qy * dx)) * ((qx * dy) - (qy * dx))), .long ln], [])) (s' := (189, [(17, .long ((qx * dy) - (qy * dx))), (0, .ref d), (5, .long dx), (7, .long dy), (9, .long qx), (11, .long qy), (13, .long ln), (15, .long al)], [])) rfl rfl (fun _ => rfl) rfl rfl (zhk rfl (zrc_ok hd) rfl) (s_Di_lessen T B (((qx * dy) - (qy * dx)) * ((qx * dy) - (qy * dx))) ln d hd (by omega)) rfl ?_
      exact zer rfl rfl
    · rw [c131]
      refine zeN (q := ((159, [(0, .ref d), (5, .long dx), (7, .long dy), (9, .long qx), (11, .long qy), (13, .long ln), (15, .long al)], [.long 1, .long (((qx - dx) * (qx - dx)) + ((qy - dy) * (qy - dy))), .ref d]), h)) 17 rfl ?_
      refine zec 1 (M' := M_Di_lessen) (qq := ([.ref d, .long (((qx - dx) * (qx - dx)) + ((qy - dy) * (qy - dy))), .long 1], [])) (s' := (162, [(0, .ref d), (5, .long dx), (7, .long dy), (9, .long qx), (11, .long qy), (13, .long ln), (15, .long al)], [])) rfl rfl (fun _ => rfl) rfl rfl (zhk rfl (zrc_ok hd) rfl) (s_Di_lessen T B (((qx - dx) * (qx - dx)) + ((qy - dy) * (qy - dy))) 1 d hd (by omega)) rfl ?_
      refine zeN (q := ((189, [(0, .ref d), (5, .long dx), (7, .long dy), (9, .long qx), (11, .long qy), (13, .long ln), (15, .long al)], []), (zD h d (f_Di_lessen T B (((qx - dx) * (qx - dx)) + ((qy - dy) * (qy - dy))) 1)))) 1 rfl ?_
      exact zer rfl rfl
  · rw [c104]
    refine zeN (q := ((120, [(0, .ref d), (5, .long dx), (7, .long dy), (9, .long qx), (11, .long qy), (13, .long ln), (15, .long al)], [.long 1, .long ((qx * qx) + (qy * qy)), .ref d]), h)) 9 rfl ?_
    refine zec 1 (M' := M_Di_lessen) (qq := ([.ref d, .long ((qx * qx) + (qy * qy)), .long 1], [])) (s' := (123, [(0, .ref d), (5, .long dx), (7, .long dy), (9, .long qx), (11, .long qy), (13, .long ln), (15, .long al)], [])) rfl rfl (fun _ => rfl) rfl rfl (zhk rfl (zrc_ok hd) rfl) (s_Di_lessen T B ((qx * qx) + (qy * qy)) 1 d hd (by omega)) rfl ?_
    refine zeN (q := ((189, [(0, .ref d), (5, .long dx), (7, .long dy), (9, .long qx), (11, .long qy), (13, .long ln), (15, .long al)], []), (zD h d (f_Di_lessen T B ((qx * qx) + (qy * qy)) 1)))) 1 rfl ?_
    exact zer rfl rfl
def f_Di_lessenByEnd_C74 (T B : Int64) (dx : Int64) (dy : Int64) (qx : Int64) (qy : Int64) : Int64 × Int64 := (f_Di_lessenByEnd_C100 T B dx dy qx qy ((dx * dx) + (dy * dy)) ((qx * dx) + (qy * dy)))
set_option maxRecDepth 100000 in
theorem s_Di_lessenByEnd_C74 {fr lo : Nat} {h : zH} (T B : Int64) (dx : Int64) (dy : Int64) (qx : Int64) (qy : Int64) (d : Nat) (hd : h.1[d]? = some (.inr (3, [.long T, .long B]))) (hlo : 48 ≤ lo) : zRun (fr + 2) lo none M_Di_lessenByEnd (74, [(0, .ref d), (5, .long dx), (7, .long dy), (9, .long qx), (11, .long qy)], []) h (none, zD h d (f_Di_lessenByEnd_C74 T B dx dy qx qy)) := by
  unfold f_Di_lessenByEnd_C74
  refine zeN (q := ((100, [(15, .long ((qx * dx) + (qy * dy))), (13, .long ((dx * dx) + (dy * dy))), (0, .ref d), (5, .long dx), (7, .long dy), (9, .long qx), (11, .long qy)], []), h)) 16 rfl ?_
  refine zeS [(0, .ref d), (5, .long dx), (7, .long dy), (9, .long qx), (11, .long qy), (13, .long ((dx * dx) + (dy * dy))), (15, .long ((qx * dx) + (qy * dy)))] (zsub_pick [2, 3, 4, 5, 6, 1, 0] rfl rfl) ?_
  exact s_Di_lessenByEnd_C100 T B dx dy qx qy ((dx * dx) + (dy * dy)) ((qx * dx) + (qy * dy)) d hd (by omega)
def f_Di_lessenByEnd (X Y X2 Y2 : List Int32) (j c : Int32) (T B : Int64) : Int64 × Int64 := (f_Di_lessenByEnd_C74 T B (((gI X (f_Ge_end X j)) - (gI X j)).toInt64) (((gI Y (f_Ge_end X j)) - (gI Y j)).toInt64) (((gI X2 c) - (gI X j)).toInt64) (((gI Y2 c) - (gI Y j)).toInt64))
set_option maxRecDepth 100000 in
theorem s_Di_lessenByEnd {fr lo : Nat} {h : zH} (X Y X2 Y2 : List Int32) (j c : Int32) (T B : Int64) (d : Nat) (hd : h.1[d]? = some (.inr (3, [.long T, .long B]))) (g px py pb : Nat) (kd : Int32) (hg : h.1[g]? = some (.inr (6, [.int kd, .ref px, .ref py, .ref pb]))) (hX : h.1[px]? = some (.inl (0, X.map Value.int))) (hY : h.1[py]? = some (.inl (0, Y.map Value.int))) (hXY : Y.length = X.length) (hn : X.length ≤ 1000) (g2 px2 py2 pb2 : Nat) (kd2 : Int32) (hg2 : h.1[g2]? = some (.inr (6, [.int kd2, .ref px2, .ref py2, .ref pb2]))) (hX2 : h.1[px2]? = some (.inl (0, X2.map Value.int))) (hY2 : h.1[py2]? = some (.inl (0, Y2.map Value.int))) (hXY2 : Y2.length = X2.length) (hn2 : X2.length ≤ 1000) (hj : zIx j X.length) (hc : zIx c X2.length) (hlo : 86 ≤ lo) : zAns (fr + 3) lo 61 [.ref d, .ref g, .int j, .ref g2, .int c] h (none, zD h d (f_Di_lessenByEnd X Y X2 Y2 j c T B)) := by
  unfold f_Di_lessenByEnd
  refine zeb (fr := fr + 2) (M := M_Di_lessenByEnd) rfl (Nat.le_trans (by decide) hlo) rfl ?_
  have e0 : mL M_Di_lessenByEnd = 19 := rfl
  refine zeN (q := ((1, [(0, .ref d), (1, .ref g), (2, .int j), (3, .ref g2), (4, .int c)], [.ref g]), h)) 1 rfl ?_
  refine zegf (fs := [.int kd, .ref px, .ref py, .ref pb]) (v := .ref px) rfl rfl rfl rfl hg rfl ?_
  refine zeN (q := ((6, [(0, .ref d), (1, .ref g), (2, .int j), (3, .ref g2), (4, .int c)], [.int j, .ref g, .ref px]), h)) 2 rfl ?_
  refine zec 1 (M' := M_Ge_end) (qq := ([.ref g, .int j], [.ref px])) (s' := (9, [(0, .ref d), (1, .ref g), (2, .int j), (3, .ref g2), (4, .int c)], [.int (f_Ge_end X j), .ref px])) rfl rfl (fun _ => rfl) rfl rfl (zhk rfl (zrc_ok hg) rfl) (s_Ge_end X j g px py pb kd hg hX  (by omega)) rfl ?_
  refine zeia (l := X.map Value.int) (k := (f_Ge_end X j).toNatClampNeg) (v := .int (gI X (f_Ge_end X j))) rfl rfl hX (zIx_a (zIx_end hn hj)) (zIx_b (zIx_end hn hj)) ?_
  refine zeN (q := ((11, [(0, .ref d), (1, .ref g), (2, .int j), (3, .ref g2), (4, .int c)], [.ref g, .int (gI X (f_Ge_end X j))]), h)) 1 rfl ?_
  refine zegf (fs := [.int kd, .ref px, .ref py, .ref pb]) (v := .ref px) rfl rfl rfl rfl hg rfl ?_
  refine zeN (q := ((15, [(0, .ref d), (1, .ref g), (2, .int j), (3, .ref g2), (4, .int c)], [.int j, .ref px, .int (gI X (f_Ge_end X j))]), h)) 1 rfl ?_
  refine zeia (l := X.map Value.int) (k := j.toNatClampNeg) (v := .int (gI X j)) rfl rfl hX (zIx_a hj) (zIx_b hj) ?_
  refine zeN (q := ((21, [(5, .long (((gI X (f_Ge_end X j)) - (gI X j)).toInt64)), (0, .ref d), (1, .ref g), (2, .int j), (3, .ref g2), (4, .int c)], [.ref g]), h)) 4 rfl ?_
  refine zegf (fs := [.int kd, .ref px, .ref py, .ref pb]) (v := .ref py) rfl rfl rfl rfl hg rfl ?_
  refine zeN (q := ((26, [(5, .long (((gI X (f_Ge_end X j)) - (gI X j)).toInt64)), (0, .ref d), (1, .ref g), (2, .int j), (3, .ref g2), (4, .int c)], [.int j, .ref g, .ref py]), h)) 2 rfl ?_
  refine zec 1 (M' := M_Ge_end) (qq := ([.ref g, .int j], [.ref py])) (s' := (29, [(5, .long (((gI X (f_Ge_end X j)) - (gI X j)).toInt64)), (0, .ref d), (1, .ref g), (2, .int j), (3, .ref g2), (4, .int c)], [.int (f_Ge_end X j), .ref py])) rfl rfl (fun _ => rfl) rfl rfl (zhk rfl (zrc_ok hg) rfl) (s_Ge_end X j g px py pb kd hg hX  (by omega)) rfl ?_
  refine zeia (l := Y.map Value.int) (k := (f_Ge_end X j).toNatClampNeg) (v := .int (gI Y (f_Ge_end X j))) rfl rfl hY (zIx_a (zIx_s (zIx_end hn hj) hXY)) (zIx_b (zIx_s (zIx_end hn hj) hXY)) ?_
  refine zeN (q := ((31, [(5, .long (((gI X (f_Ge_end X j)) - (gI X j)).toInt64)), (0, .ref d), (1, .ref g), (2, .int j), (3, .ref g2), (4, .int c)], [.ref g, .int (gI Y (f_Ge_end X j))]), h)) 1 rfl ?_
  refine zegf (fs := [.int kd, .ref px, .ref py, .ref pb]) (v := .ref py) rfl rfl rfl rfl hg rfl ?_
  refine zeN (q := ((35, [(5, .long (((gI X (f_Ge_end X j)) - (gI X j)).toInt64)), (0, .ref d), (1, .ref g), (2, .int j), (3, .ref g2), (4, .int c)], [.int j, .ref py, .int (gI Y (f_Ge_end X j))]), h)) 1 rfl ?_
  refine zeia (l := Y.map Value.int) (k := j.toNatClampNeg) (v := .int (gI Y j)) rfl rfl hY (zIx_a (zIx_s hj hXY)) (zIx_b (zIx_s hj hXY)) ?_
  refine zeN (q := ((41, [(7, .long (((gI Y (f_Ge_end X j)) - (gI Y j)).toInt64)), (5, .long (((gI X (f_Ge_end X j)) - (gI X j)).toInt64)), (0, .ref d), (1, .ref g), (2, .int j), (3, .ref g2), (4, .int c)], [.ref g2]), h)) 4 rfl ?_
  refine zegf (fs := [.int kd2, .ref px2, .ref py2, .ref pb2]) (v := .ref px2) rfl rfl rfl rfl hg2 rfl ?_
  refine zeN (q := ((46, [(7, .long (((gI Y (f_Ge_end X j)) - (gI Y j)).toInt64)), (5, .long (((gI X (f_Ge_end X j)) - (gI X j)).toInt64)), (0, .ref d), (1, .ref g), (2, .int j), (3, .ref g2), (4, .int c)], [.int c, .ref px2]), h)) 1 rfl ?_
  refine zeia (l := X2.map Value.int) (k := c.toNatClampNeg) (v := .int (gI X2 c)) rfl rfl hX2 (zIx_a hc) (zIx_b hc) ?_
  refine zeN (q := ((48, [(7, .long (((gI Y (f_Ge_end X j)) - (gI Y j)).toInt64)), (5, .long (((gI X (f_Ge_end X j)) - (gI X j)).toInt64)), (0, .ref d), (1, .ref g), (2, .int j), (3, .ref g2), (4, .int c)], [.ref g, .int (gI X2 c)]), h)) 1 rfl ?_
  refine zegf (fs := [.int kd, .ref px, .ref py, .ref pb]) (v := .ref px) rfl rfl rfl rfl hg rfl ?_
  refine zeN (q := ((52, [(7, .long (((gI Y (f_Ge_end X j)) - (gI Y j)).toInt64)), (5, .long (((gI X (f_Ge_end X j)) - (gI X j)).toInt64)), (0, .ref d), (1, .ref g), (2, .int j), (3, .ref g2), (4, .int c)], [.int j, .ref px, .int (gI X2 c)]), h)) 1 rfl ?_
  refine zeia (l := X.map Value.int) (k := j.toNatClampNeg) (v := .int (gI X j)) rfl rfl hX (zIx_a hj) (zIx_b hj) ?_
  refine zeN (q := ((58, [(9, .long (((gI X2 c) - (gI X j)).toInt64)), (7, .long (((gI Y (f_Ge_end X j)) - (gI Y j)).toInt64)), (5, .long (((gI X (f_Ge_end X j)) - (gI X j)).toInt64)), (0, .ref d), (1, .ref g), (2, .int j), (3, .ref g2), (4, .int c)], [.ref g2]), h)) 4 rfl ?_
  refine zegf (fs := [.int kd2, .ref px2, .ref py2, .ref pb2]) (v := .ref py2) rfl rfl rfl rfl hg2 rfl ?_
  refine zeN (q := ((63, [(9, .long (((gI X2 c) - (gI X j)).toInt64)), (7, .long (((gI Y (f_Ge_end X j)) - (gI Y j)).toInt64)), (5, .long (((gI X (f_Ge_end X j)) - (gI X j)).toInt64)), (0, .ref d), (1, .ref g), (2, .int j), (3, .ref g2), (4, .int c)], [.int c, .ref py2]), h)) 1 rfl ?_
  refine zeia (l := Y2.map Value.int) (k := c.toNatClampNeg) (v := .int (gI Y2 c)) rfl rfl hY2 (zIx_a (zIx_s hc hXY2)) (zIx_b (zIx_s hc hXY2)) ?_
  refine zeN (q := ((65, [(9, .long (((gI X2 c) - (gI X j)).toInt64)), (7, .long (((gI Y (f_Ge_end X j)) - (gI Y j)).toInt64)), (5, .long (((gI X (f_Ge_end X j)) - (gI X j)).toInt64)), (0, .ref d), (1, .ref g), (2, .int j), (3, .ref g2), (4, .int c)], [.ref g, .int (gI Y2 c)]), h)) 1 rfl ?_
  refine zegf (fs := [.int kd, .ref px, .ref py, .ref pb]) (v := .ref py) rfl rfl rfl rfl hg rfl ?_
  refine zeN (q := ((69, [(9, .long (((gI X2 c) - (gI X j)).toInt64)), (7, .long (((gI Y (f_Ge_end X j)) - (gI Y j)).toInt64)), (5, .long (((gI X (f_Ge_end X j)) - (gI X j)).toInt64)), (0, .ref d), (1, .ref g), (2, .int j), (3, .ref g2), (4, .int c)], [.int j, .ref py, .int (gI Y2 c)]), h)) 1 rfl ?_
  refine zeia (l := Y.map Value.int) (k := j.toNatClampNeg) (v := .int (gI Y j)) rfl rfl hY (zIx_a (zIx_s hj hXY)) (zIx_b (zIx_s hj hXY)) ?_
  refine zeN (q := ((74, [(11, .long (((gI Y2 c) - (gI Y j)).toInt64)), (9, .long (((gI X2 c) - (gI X j)).toInt64)), (7, .long (((gI Y (f_Ge_end X j)) - (gI Y j)).toInt64)), (5, .long (((gI X (f_Ge_end X j)) - (gI X j)).toInt64)), (0, .ref d), (1, .ref g), (2, .int j), (3, .ref g2), (4, .int c)], []), h)) 3 rfl ?_
  refine zeS [(0, .ref d), (5, .long (((gI X (f_Ge_end X j)) - (gI X j)).toInt64)), (7, .long (((gI Y (f_Ge_end X j)) - (gI Y j)).toInt64)), (9, .long (((gI X2 c) - (gI X j)).toInt64)), (11, .long (((gI Y2 c) - (gI Y j)).toInt64))] (zsub_pick [4, 3, 2, 1, 0] rfl rfl) ?_
  exact s_Di_lessenByEnd_C74 T B (((gI X (f_Ge_end X j)) - (gI X j)).toInt64) (((gI Y (f_Ge_end X j)) - (gI Y j)).toInt64) (((gI X2 c) - (gI X j)).toInt64) (((gI Y2 c) - (gI Y j)).toInt64) d hd (by omega)
end
section
theorem zAns_D {fr lo a d : Nat} {as : List Value} {h : zH} {v : Option Value} {p q : Int64 × Int64} (k : zAns fr lo a as (zD h d p) (v, zD (zD h d p) d q)) : zAns fr lo a as (zD h d p) (v, zD h d q) := by
  rw [zD_D] at k
  exact k
def fE (X Y X2 Y2 : List Int32) (j c : Int32) (p : Int64 × Int64) : Int64 × Int64 := f_Di_lessenByEnd X Y X2 Y2 j c p.1 p.2
def f_Di_lessenBySides (X Y X2 Y2 : List Int32) (j k : Int32) (p : Int64 × Int64) : Int64 × Int64 := (bif zc .eq (f_Ge_sideMeets X Y X2 Y2 j k) 0 then fE X2 Y2 X Y k (f_Ge_end X j) (fE X2 Y2 X Y k j (fE X Y X2 Y2 j (f_Ge_end X2 k) (fE X Y X2 Y2 j k p))) else (0, 1))
set_option maxRecDepth 100000 in
theorem s_Di_lessenBySides {fr lo : Nat} {h : zH} (X Y X2 Y2 : List Int32) (j k : Int32) (p : Int64 × Int64) (d : Nat) (hd : h.1[d]? = some (.inr (3, [.long p.1, .long p.2]))) (g px py pb : Nat) (kd : Int32) (hg : h.1[g]? = some (.inr (6, [.int kd, .ref px, .ref py, .ref pb]))) (hX : h.1[px]? = some (.inl (0, X.map Value.int))) (hY : h.1[py]? = some (.inl (0, Y.map Value.int))) (hXY : Y.length = X.length) (hn : X.length ≤ 1000) (g2 px2 py2 pb2 : Nat) (kd2 : Int32) (hg2 : h.1[g2]? = some (.inr (6, [.int kd2, .ref px2, .ref py2, .ref pb2]))) (hX2 : h.1[px2]? = some (.inl (0, X2.map Value.int))) (hY2 : h.1[py2]? = some (.inl (0, Y2.map Value.int))) (hXY2 : Y2.length = X2.length) (hn2 : X2.length ≤ 1000) (n_hg : g ≠ d) (n_hX : px ≠ d) (n_hY : py ≠ d) (n_hg2 : g2 ≠ d) (n_hX2 : px2 ≠ d) (n_hY2 : py2 ≠ d) (hj : zIx j X.length) (hk : zIx k X2.length) (hlo : 136 ≤ lo) : zAns (fr + 4) lo 60 [.ref d, .ref g, .int j, .ref g2, .int k] h (none, zD h d (f_Di_lessenBySides X Y X2 Y2 j k p)) := by
  unfold f_Di_lessenBySides
  refine zeb (fr := fr + 3) (M := M_Di_lessenBySides) rfl (Nat.le_trans (by decide) hlo) rfl ?_
  have e0 : mL M_Di_lessenBySides = 5 := rfl
  refine zeN (q := ((5, [(0, .ref d), (1, .ref g), (2, .int j), (3, .ref g2), (4, .int k)], [.int k, .ref g2, .int j, .ref g]), h)) 4 rfl ?_
  refine zec 1 (M' := M_Ge_sideMeets) (qq := ([.ref g, .int j, .ref g2, .int k], [])) (s' := (8, [(0, .ref d), (1, .ref g), (2, .int j), (3, .ref g2), (4, .int k)], [.int (f_Ge_sideMeets X Y X2 Y2 j k)])) rfl rfl (fun _ => rfl) rfl rfl (zhk rfl (zrc_ok hg) rfl) (s_Ge_sideMeets X Y X2 Y2 j k g px py pb kd hg hX hY hXY hn g2 px2 py2 pb2 kd2 hg2 hX2 hY2 hXY2 hn2 hj hk (by omega)) rfl ?_
  refine zbc (q1 := (18, [(0, .ref d), (1, .ref g), (2, .int j), (3, .ref g2), (4, .int k)], [])) (q2 := (11, [(0, .ref d), (1, .ref g), (2, .int j), (3, .ref g2), (4, .int k)], [])) (cB := zc .eq (f_Ge_sideMeets X Y X2 Y2 j k) 0) (off := 10) (lv := [(0, .ref d), (1, .ref g), (2, .int j), (3, .ref g2), (4, .int k)]) (st := []) rfl rfl rfl rfl rfl (fun c8 => ?_) (fun c8 => ?_)
  · rw [c8]
    refine zeN (q := ((24, [(0, .ref d), (1, .ref g), (2, .int j), (3, .ref g2), (4, .int k)], [.int k, .ref g2, .int j, .ref g, .ref d]), h)) 5 rfl ?_
    refine zec 1 (M' := M_Di_lessenByEnd) (qq := ([.ref d, .ref g, .int j, .ref g2, .int k], [])) (s' := (27, [(0, .ref d), (1, .ref g), (2, .int j), (3, .ref g2), (4, .int k)], [])) rfl rfl (fun _ => rfl) rfl rfl (zhk rfl (zrc_ok hd) rfl) (s_Di_lessenByEnd X Y X2 Y2 j k p.1 p.2 d hd g px py pb kd hg hX hY hXY hn g2 px2 py2 pb2 kd2 hg2 hX2 hY2 hXY2 hn2 hj hk (by omega)) rfl ?_
    refine zeN (q := ((34, [(0, .ref d), (1, .ref g), (2, .int j), (3, .ref g2), (4, .int k)], [.int k, .ref g2, .ref g2, .int j, .ref g, .ref d]), (zD h d (fE X Y X2 Y2 j k p)))) 6 rfl ?_
    refine zec 1 (M' := M_Ge_end) (qq := ([.ref g2, .int k], [.ref g2, .int j, .ref g, .ref d])) (s' := (37, [(0, .ref d), (1, .ref g), (2, .int j), (3, .ref g2), (4, .int k)], [.int (f_Ge_end X2 k), .ref g2, .int j, .ref g, .ref d])) rfl rfl (fun _ => rfl) rfl rfl (zhk rfl (zrc_ok (zD_ne hg2 n_hg2)) rfl) (s_Ge_end X2 k g2 px2 py2 pb2 kd2 (zD_ne hg2 n_hg2) (zD_ne hX2 n_hX2) (by omega)) rfl ?_
    refine zec 1 (M' := M_Di_lessenByEnd) (qq := ([.ref d, .ref g, .int j, .ref g2, .int (f_Ge_end X2 k)], [])) (s' := (40, [(0, .ref d), (1, .ref g), (2, .int j), (3, .ref g2), (4, .int k)], [])) rfl rfl (fun _ => rfl) rfl rfl (zhk rfl (zrc_ok (zD_self hd)) rfl) (zAns_D (s_Di_lessenByEnd X Y X2 Y2 j (f_Ge_end X2 k) (fE X Y X2 Y2 j k p).1 (fE X Y X2 Y2 j k p).2 d (zD_self hd) g px py pb kd (zD_ne hg n_hg) (zD_ne hX n_hX) (zD_ne hY n_hY) hXY hn g2 px2 py2 pb2 kd2 (zD_ne hg2 n_hg2) (zD_ne hX2 n_hX2) (zD_ne hY2 n_hY2) hXY2 hn2 hj (zIx_end hn2 hk) (by omega))) rfl ?_
    refine zeN (q := ((46, [(0, .ref d), (1, .ref g), (2, .int j), (3, .ref g2), (4, .int k)], [.int j, .ref g, .int k, .ref g2, .ref d]), (zD h d (fE X Y X2 Y2 j (f_Ge_end X2 k) (fE X Y X2 Y2 j k p))))) 5 rfl ?_
    refine zec 1 (M' := M_Di_lessenByEnd) (qq := ([.ref d, .ref g2, .int k, .ref g, .int j], [])) (s' := (49, [(0, .ref d), (1, .ref g), (2, .int j), (3, .ref g2), (4, .int k)], [])) rfl rfl (fun _ => rfl) rfl rfl (zhk rfl (zrc_ok (zD_self hd)) rfl) (zAns_D (s_Di_lessenByEnd X2 Y2 X Y k j (fE X Y X2 Y2 j (f_Ge_end X2 k) (fE X Y X2 Y2 j k p)).1 (fE X Y X2 Y2 j (f_Ge_end X2 k) (fE X Y X2 Y2 j k p)).2 d (zD_self hd) g2 px2 py2 pb2 kd2 (zD_ne hg2 n_hg2) (zD_ne hX2 n_hX2) (zD_ne hY2 n_hY2) hXY2 hn2 g px py pb kd (zD_ne hg n_hg) (zD_ne hX n_hX) (zD_ne hY n_hY) hXY hn hk hj (by omega))) rfl ?_
    refine zeN (q := ((56, [(0, .ref d), (1, .ref g), (2, .int j), (3, .ref g2), (4, .int k)], [.int j, .ref g, .ref g, .int k, .ref g2, .ref d]), (zD h d (fE X2 Y2 X Y k j (fE X Y X2 Y2 j (f_Ge_end X2 k) (fE X Y X2 Y2 j k p)))))) 6 rfl ?_
    refine zec 1 (M' := M_Ge_end) (qq := ([.ref g, .int j], [.ref g, .int k, .ref g2, .ref d])) (s' := (59, [(0, .ref d), (1, .ref g), (2, .int j), (3, .ref g2), (4, .int k)], [.int (f_Ge_end X j), .ref g, .int k, .ref g2, .ref d])) rfl rfl (fun _ => rfl) rfl rfl (zhk rfl (zrc_ok (zD_ne hg n_hg)) rfl) (s_Ge_end X j g px py pb kd (zD_ne hg n_hg) (zD_ne hX n_hX) (by omega)) rfl ?_
    refine zec 1 (M' := M_Di_lessenByEnd) (qq := ([.ref d, .ref g2, .int k, .ref g, .int (f_Ge_end X j)], [])) (s' := (62, [(0, .ref d), (1, .ref g), (2, .int j), (3, .ref g2), (4, .int k)], [])) rfl rfl (fun _ => rfl) rfl rfl (zhk rfl (zrc_ok (zD_self hd)) rfl) (zAns_D (s_Di_lessenByEnd X2 Y2 X Y k (f_Ge_end X j) (fE X2 Y2 X Y k j (fE X Y X2 Y2 j (f_Ge_end X2 k) (fE X Y X2 Y2 j k p))).1 (fE X2 Y2 X Y k j (fE X Y X2 Y2 j (f_Ge_end X2 k) (fE X Y X2 Y2 j k p))).2 d (zD_self hd) g2 px2 py2 pb2 kd2 (zD_ne hg2 n_hg2) (zD_ne hX2 n_hX2) (zD_ne hY2 n_hY2) hXY2 hn2 g px py pb kd (zD_ne hg n_hg) (zD_ne hX n_hX) (zD_ne hY n_hY) hXY hn hk (zIx_end hn hj) (by omega))) rfl ?_
    exact zer rfl rfl
  · rw [c8]
    refine zeN (q := ((14, [(0, .ref d), (1, .ref g), (2, .int j), (3, .ref g2), (4, .int k)], [.long 1, .long 0, .ref d]), h)) 3 rfl ?_
    refine zec 1 (M' := M_Di_become) (qq := ([.ref d, .long 0, .long 1], [])) (s' := (17, [(0, .ref d), (1, .ref g), (2, .int j), (3, .ref g2), (4, .int k)], [])) rfl rfl (fun _ => rfl) rfl rfl (zhk rfl (zrc_ok hd) rfl) (s_Di_become p.1 p.2 0 1 d hd (by omega)) rfl ?_
    exact zer rfl rfl
end
section
theorem zIx_0 {n : Nat} (h : 1 ≤ n) : zIx 0 n := ⟨Int.le_refl _, by show (0 : Int) < _; omega⟩
def f_Di_between_L66 (X Y X2 Y2 : List Int32) (kd kd2 : Int32) (p0 : Int64 × Int64) (i : Int32) (K : Int64 × Int64 → Int64 × Int64) : Nat → Int32 → Int64 × Int64 → Int64 × Int64
  | 0, _, p => p
  | n + 1, j, p => (bif zc .ge j (f_Ge_sides X2 kd2) then (K p) else (bif zc .le (lg_cmp p.1 0) 0 then (K p) else (f_Di_between_L66 X Y X2 Y2 kd kd2 p0 i K n (j + Int32.ofInt 1) (f_Di_lessenBySides X Y X2 Y2 i j p))))
set_option maxRecDepth 100000 in
theorem s_Di_between_L66 {fr lo : Nat} {h : zH} (X Y X2 Y2 : List Int32) (kd kd2 : Int32) (p0 : Int64 × Int64) (i : Int32) (d : Nat) (hd : h.1[d]? = some (.inr (3, [.long p0.1, .long p0.2]))) (g px py pb : Nat) (hg : h.1[g]? = some (.inr (6, [.int kd, .ref px, .ref py, .ref pb]))) (hX : h.1[px]? = some (.inl (0, X.map Value.int))) (hY : h.1[py]? = some (.inl (0, Y.map Value.int))) (hXY : Y.length = X.length) (hn : X.length ≤ 1000) (g2 px2 py2 pb2 : Nat) (hg2 : h.1[g2]? = some (.inr (6, [.int kd2, .ref px2, .ref py2, .ref pb2]))) (hX2 : h.1[px2]? = some (.inl (0, X2.map Value.int))) (hY2 : h.1[py2]? = some (.inl (0, Y2.map Value.int))) (hXY2 : Y2.length = X2.length) (hn2 : X2.length ≤ 1000) (n_hg : g ≠ d) (n_hX : px ≠ d) (n_hY : py ≠ d) (n_hg2 : g2 ≠ d) (n_hX2 : px2 ≠ d) (n_hY2 : py2 ≠ d) (hne : 1 ≤ X.length) (hne2 : 1 ≤ X2.length) (hi : zIx i X.length) (K : Int64 × Int64 → Int64 × Int64) (hK : ∀ p, zRun (fr + 4) lo none M_Di_between (99, [(0, .ref d), (1, .ref g), (2, .ref g2), (3, .int i)], []) (zD h d p) (none, zD h d (K p))) (hlo : 136 ≤ lo) : ∀ (n : Nat) (j : Int32) (p : Int64 × Int64) (k0 : 0 ≤ j.toInt) (k1 : j.toInt ≤ X2.length) (km : (X2.length : Int) < j.toInt + n), zRun (fr + 4) lo none M_Di_between (66, [(0, .ref d), (1, .ref g), (2, .ref g2), (3, .int i), (4, .int j)], []) (zD h d p) (none, zD h d (f_Di_between_L66 X Y X2 Y2 kd kd2 p0 i K n j p)) := by
  intro n
  induction n with
  | zero => intro j p k0 k1 km; exfalso; omega
  | succ n ih =>
    intro j p k0 k1 km
    rw [f_Di_between_L66]
    refine zeN (q := ((69, [(0, .ref d), (1, .ref g), (2, .ref g2), (3, .int i), (4, .int j)], [.ref g2, .int j]), (zD h d p))) 2 rfl ?_
    refine zec 1 (M' := M_Ge_sides) (qq := ([.ref g2], [.int j])) (s' := (72, [(0, .ref d), (1, .ref g), (2, .ref g2), (3, .int i), (4, .int j)], [.int (f_Ge_sides X2 kd2), .int j])) rfl rfl (fun _ => rfl) rfl rfl (zhk rfl (zrc_ok (zD_ne hg2 n_hg2)) rfl) (s_Ge_sides X2 kd2 g2 px2 py2 pb2 (zD_ne hg2 n_hg2) (zD_ne hX2 n_hX2) (by omega)) rfl ?_
    refine zbc (q1 := (99, [(0, .ref d), (1, .ref g), (2, .ref g2), (3, .int i), (4, .int j)], [])) (q2 := (75, [(0, .ref d), (1, .ref g), (2, .ref g2), (3, .int i), (4, .int j)], [])) (cB := zc .ge j (f_Ge_sides X2 kd2)) (off := 27) (lv := [(0, .ref d), (1, .ref g), (2, .ref g2), (3, .int i), (4, .int j)]) (st := []) rfl rfl rfl rfl rfl (fun c72 => ?_) (fun c72 => ?_)
    · rw [c72]
      refine zeS [(0, .ref d), (1, .ref g), (2, .ref g2), (3, .int i)] (zsub_pick [0, 1, 2, 3] rfl rfl) ?_
      exact hK p
    · rw [c72]
      have hs := z_sides (kd := kd2) hn2 hne2
      have hcc := of_decide_eq_false (z_ge c72).symm
      have hj : zIx j X2.length := ⟨k0, by omega⟩
      have hj1 := z_inc (a := j) (by omega) (by omega)
      refine zeN (q := ((76, [(0, .ref d), (1, .ref g), (2, .ref g2), (3, .int i), (4, .int j)], [.ref d]), (zD h d p))) 1 rfl ?_
      refine zegf (fs := [.long p.1, .long p.2]) (v := .long p.1) rfl rfl rfl rfl (zD_self hd) rfl ?_
      refine zeN (q := ((81, [(0, .ref d), (1, .ref g), (2, .ref g2), (3, .int i), (4, .int j)], [.int (lg_cmp p.1 0)]), (zD h d p))) 2 rfl ?_
      refine zbc (q1 := (99, [(0, .ref d), (1, .ref g), (2, .ref g2), (3, .int i), (4, .int j)], [])) (q2 := (84, [(0, .ref d), (1, .ref g), (2, .ref g2), (3, .int i), (4, .int j)], [])) (cB := zc .le (lg_cmp p.1 0) 0) (off := 18) (lv := [(0, .ref d), (1, .ref g), (2, .ref g2), (3, .int i), (4, .int j)]) (st := []) rfl rfl rfl rfl rfl (fun c81 => ?_) (fun c81 => ?_)
      · rw [c81]
        refine zeS [(0, .ref d), (1, .ref g), (2, .ref g2), (3, .int i)] (zsub_pick [0, 1, 2, 3] rfl rfl) ?_
        exact hK p
      · rw [c81]
        refine zeN (q := ((90, [(0, .ref d), (1, .ref g), (2, .ref g2), (3, .int i), (4, .int j)], [.int j, .ref g2, .int i, .ref g, .ref d]), (zD h d p))) 5 rfl ?_
        refine zec 1 (M' := M_Di_lessenBySides) (qq := ([.ref d, .ref g, .int i, .ref g2, .int j], [])) (s' := (93, [(0, .ref d), (1, .ref g), (2, .ref g2), (3, .int i), (4, .int j)], [])) rfl rfl (fun _ => rfl) rfl rfl (zhk rfl (zrc_ok (zD_self hd)) rfl) (zAns_D (s_Di_lessenBySides X Y X2 Y2 i j p d (zD_self hd) g px py pb kd (zD_ne hg n_hg) (zD_ne hX n_hX) (zD_ne hY n_hY) hXY hn g2 px2 py2 pb2 kd2 (zD_ne hg2 n_hg2) (zD_ne hX2 n_hX2) (zD_ne hY2 n_hY2) hXY2 hn2 n_hg n_hX n_hY n_hg2 n_hX2 n_hY2 hi hj (by omega))) rfl ?_
        refine zeN (q := ((66, [(4, .int (j + Int32.ofInt 1)), (0, .ref d), (1, .ref g), (2, .ref g2), (3, .int i)], []), (zD h d (f_Di_lessenBySides X Y X2 Y2 i j p)))) 2 rfl ?_
        refine zeS [(0, .ref d), (1, .ref g), (2, .ref g2), (3, .int i), (4, .int (j + Int32.ofInt 1))] (zsub_pick [1, 2, 3, 4, 0] rfl rfl) ?_
        exact ih (j + Int32.ofInt 1) (f_Di_lessenBySides X Y X2 Y2 i j p) (by omega) (by omega) (by omega)
def f_Di_between_L55 (X Y X2 Y2 : List Int32) (kd kd2 : Int32) (p0 : Int64 × Int64)  : Nat → Int32 → Int64 × Int64 → Int64 × Int64
  | 0, _, p => p
  | n + 1, i, p => (bif zc .ge i (f_Ge_sides X kd) then p else (f_Di_between_L66 X Y X2 Y2 kd kd2 p0 i (fun p => (f_Di_between_L55 X Y X2 Y2 kd kd2 p0 n (i + Int32.ofInt 1) p)) (X2.length + 1) 0 p))
set_option maxRecDepth 100000 in
theorem s_Di_between_L55 {fr lo : Nat} {h : zH} (X Y X2 Y2 : List Int32) (kd kd2 : Int32) (p0 : Int64 × Int64)  (d : Nat) (hd : h.1[d]? = some (.inr (3, [.long p0.1, .long p0.2]))) (g px py pb : Nat) (hg : h.1[g]? = some (.inr (6, [.int kd, .ref px, .ref py, .ref pb]))) (hX : h.1[px]? = some (.inl (0, X.map Value.int))) (hY : h.1[py]? = some (.inl (0, Y.map Value.int))) (hXY : Y.length = X.length) (hn : X.length ≤ 1000) (g2 px2 py2 pb2 : Nat) (hg2 : h.1[g2]? = some (.inr (6, [.int kd2, .ref px2, .ref py2, .ref pb2]))) (hX2 : h.1[px2]? = some (.inl (0, X2.map Value.int))) (hY2 : h.1[py2]? = some (.inl (0, Y2.map Value.int))) (hXY2 : Y2.length = X2.length) (hn2 : X2.length ≤ 1000) (n_hg : g ≠ d) (n_hX : px ≠ d) (n_hY : py ≠ d) (n_hg2 : g2 ≠ d) (n_hX2 : px2 ≠ d) (n_hY2 : py2 ≠ d) (hne : 1 ≤ X.length) (hne2 : 1 ≤ X2.length)  (hlo : 136 ≤ lo) : ∀ (n : Nat) (i : Int32) (p : Int64 × Int64) (h0 : 0 ≤ i.toInt) (h1 : i.toInt ≤ X.length) (hm : (X.length : Int) < i.toInt + n), zRun (fr + 4) lo none M_Di_between (55, [(0, .ref d), (1, .ref g), (2, .ref g2), (3, .int i)], []) (zD h d p) (none, zD h d (f_Di_between_L55 X Y X2 Y2 kd kd2 p0 n i p)) := by
  intro n
  induction n with
  | zero => intro i p h0 h1 hm; exfalso; omega
  | succ n ih =>
    intro i p h0 h1 hm
    rw [f_Di_between_L55]
    refine zeN (q := ((57, [(0, .ref d), (1, .ref g), (2, .ref g2), (3, .int i)], [.ref g, .int i]), (zD h d p))) 2 rfl ?_
    refine zec 1 (M' := M_Ge_sides) (qq := ([.ref g], [.int i])) (s' := (60, [(0, .ref d), (1, .ref g), (2, .ref g2), (3, .int i)], [.int (f_Ge_sides X kd), .int i])) rfl rfl (fun _ => rfl) rfl rfl (zhk rfl (zrc_ok (zD_ne hg n_hg)) rfl) (s_Ge_sides X kd g px py pb (zD_ne hg n_hg) (zD_ne hX n_hX) (by omega)) rfl ?_
    refine zbc (q1 := (105, [(0, .ref d), (1, .ref g), (2, .ref g2), (3, .int i)], [])) (q2 := (63, [(0, .ref d), (1, .ref g), (2, .ref g2), (3, .int i)], [])) (cB := zc .ge i (f_Ge_sides X kd)) (off := 45) (lv := [(0, .ref d), (1, .ref g), (2, .ref g2), (3, .int i)]) (st := []) rfl rfl rfl rfl rfl (fun c60 => ?_) (fun c60 => ?_)
    · rw [c60]
      exact zer rfl rfl
    · rw [c60]
      have hs := z_sides (kd := kd) hn hne
      have hcc := of_decide_eq_false (z_ge c60).symm
      have hi : zIx i X.length := ⟨h0, by omega⟩
      have hi1 := z_inc (a := i) (by omega) (by omega)
      refine zeN (q := ((66, [(4, .int 0), (0, .ref d), (1, .ref g), (2, .ref g2), (3, .int i)], []), (zD h d p))) 2 rfl ?_
      have hK : ∀ p, zRun (fr + 4) lo none M_Di_between (99, [(0, .ref d), (1, .ref g), (2, .ref g2), (3, .int i)], []) (zD h d p) (none, zD h d ((fun p => (f_Di_between_L55 X Y X2 Y2 kd kd2 p0 n (i + Int32.ofInt 1) p)) p)) := by
        intro p
        refine zeN (q := ((55, [(3, .int (i + Int32.ofInt 1)), (0, .ref d), (1, .ref g), (2, .ref g2)], []), (zD h d p))) 2 rfl ?_
        refine zeS [(0, .ref d), (1, .ref g), (2, .ref g2), (3, .int (i + Int32.ofInt 1))] (zsub_pick [1, 2, 3, 0] rfl rfl) ?_
        exact ih (i + Int32.ofInt 1) p (by omega) (by omega) (by omega)
      refine zeS [(0, .ref d), (1, .ref g), (2, .ref g2), (3, .int i), (4, .int 0)] (zsub_pick [1, 2, 3, 4, 0] rfl rfl) ?_
      exact s_Di_between_L66 X Y X2 Y2 kd kd2 p0 i d hd g px py pb hg hX hY hXY hn g2 px2 py2 pb2 hg2 hX2 hY2 hXY2 hn2 n_hg n_hX n_hY n_hg2 n_hX2 n_hY2 hne hne2 hi (fun p => (f_Di_between_L55 X Y X2 Y2 kd kd2 p0 n (i + Int32.ofInt 1) p)) hK (by omega) (X2.length + 1) 0 p (Int.le_refl _) (by show (0 : Int) ≤ _; omega) (by show (X2.length : Int) < 0 + _; omega)
def f_Di_between (X Y X2 Y2 : List Int32) (kd kd2 : Int32) (p0 : Int64 × Int64) : Int64 × Int64 := (bif zc .ne (f_Ge_encloses X Y kd (gI X2 (0 : Int32)) (gI Y2 (0 : Int32))) 0 then (0, 1) else (bif zc .eq (f_Ge_encloses X2 Y2 kd2 (gI X (0 : Int32)) (gI Y (0 : Int32))) 0 then (f_Di_between_L55 X Y X2 Y2 kd kd2 p0 (X.length + 1) 0 ((1048576, 1))) else (0, 1)))
set_option maxRecDepth 100000 in
theorem s_Di_between {fr lo : Nat} {h : zH} (X Y X2 Y2 : List Int32) (kd kd2 : Int32) (p0 : Int64 × Int64) (d : Nat) (hd : h.1[d]? = some (.inr (3, [.long p0.1, .long p0.2]))) (g px py pb : Nat) (hg : h.1[g]? = some (.inr (6, [.int kd, .ref px, .ref py, .ref pb]))) (hX : h.1[px]? = some (.inl (0, X.map Value.int))) (hY : h.1[py]? = some (.inl (0, Y.map Value.int))) (hXY : Y.length = X.length) (hn : X.length ≤ 1000) (g2 px2 py2 pb2 : Nat) (hg2 : h.1[g2]? = some (.inr (6, [.int kd2, .ref px2, .ref py2, .ref pb2]))) (hX2 : h.1[px2]? = some (.inl (0, X2.map Value.int))) (hY2 : h.1[py2]? = some (.inl (0, Y2.map Value.int))) (hXY2 : Y2.length = X2.length) (hn2 : X2.length ≤ 1000) (n_hg : g ≠ d) (n_hX : px ≠ d) (n_hY : py ≠ d) (n_hg2 : g2 ≠ d) (n_hX2 : px2 ≠ d) (n_hY2 : py2 ≠ d) (hne : 1 ≤ X.length) (hne2 : 1 ≤ X2.length) (hlo : 160 ≤ lo) : zAns (fr + 5) lo 58 [.ref d, .ref g, .ref g2] h (none, zD h d (f_Di_between X Y X2 Y2 kd kd2 p0)) := by
  unfold f_Di_between
  refine zeb (fr := fr + 4) (M := M_Di_between) rfl (Nat.le_trans (by decide) hlo) rfl ?_
  have e0 : mL M_Di_between = 5 := rfl
  refine zeN (q := ((2, [(0, .ref d), (1, .ref g), (2, .ref g2)], [.ref g2, .ref g]), h)) 2 rfl ?_
  refine zegf (fs := [.int kd2, .ref px2, .ref py2, .ref pb2]) (v := .ref px2) rfl rfl rfl rfl hg2 rfl ?_
  refine zeN (q := ((6, [(0, .ref d), (1, .ref g), (2, .ref g2)], [.int 0, .ref px2, .ref g]), h)) 1 rfl ?_
  refine zeia (l := X2.map Value.int) (k := (0 : Int32).toNatClampNeg) (v := .int (gI X2 (0 : Int32))) rfl rfl hX2 (zIx_a (zIx_0 hne2)) (zIx_b (zIx_0 hne2)) ?_
  refine zeN (q := ((8, [(0, .ref d), (1, .ref g), (2, .ref g2)], [.ref g2, .int (gI X2 (0 : Int32)), .ref g]), h)) 1 rfl ?_
  refine zegf (fs := [.int kd2, .ref px2, .ref py2, .ref pb2]) (v := .ref py2) rfl rfl rfl rfl hg2 rfl ?_
  refine zeN (q := ((12, [(0, .ref d), (1, .ref g), (2, .ref g2)], [.int 0, .ref py2, .int (gI X2 (0 : Int32)), .ref g]), h)) 1 rfl ?_
  refine zeia (l := Y2.map Value.int) (k := (0 : Int32).toNatClampNeg) (v := .int (gI Y2 (0 : Int32))) rfl rfl hY2 (zIx_a (zIx_s (zIx_0 hne2) hXY2)) (zIx_b (zIx_s (zIx_0 hne2) hXY2)) ?_
  refine zec 1 (M' := M_Ge_encloses) (qq := ([.ref g, .int (gI X2 (0 : Int32)), .int (gI Y2 (0 : Int32))], [])) (s' := (16, [(0, .ref d), (1, .ref g), (2, .ref g2)], [.int (f_Ge_encloses X Y kd (gI X2 (0 : Int32)) (gI Y2 (0 : Int32)))])) rfl rfl (fun _ => rfl) rfl rfl (zhk rfl (zrc_ok hg) rfl) (s_Ge_encloses X Y kd (gI X2 (0 : Int32)) (gI Y2 (0 : Int32)) g px py pb hg hX hY hXY hn hne (by omega)) rfl ?_
  refine zbc (q1 := (38, [(0, .ref d), (1, .ref g), (2, .ref g2)], [])) (q2 := (19, [(0, .ref d), (1, .ref g), (2, .ref g2)], [])) (cB := zc .ne (f_Ge_encloses X Y kd (gI X2 (0 : Int32)) (gI Y2 (0 : Int32))) 0) (off := 22) (lv := [(0, .ref d), (1, .ref g), (2, .ref g2)]) (st := []) rfl rfl rfl rfl rfl (fun c16 => ?_) (fun c16 => ?_)
  · rw [c16]
    refine zeN (q := ((41, [(0, .ref d), (1, .ref g), (2, .ref g2)], [.long 1, .long 0, .ref d]), h)) 3 rfl ?_
    refine zec 1 (M' := M_Di_become) (qq := ([.ref d, .long 0, .long 1], [])) (s' := (44, [(0, .ref d), (1, .ref g), (2, .ref g2)], [])) rfl rfl (fun _ => rfl) rfl rfl (zhk rfl (zrc_ok hd) rfl) (s_Di_become p0.1 p0.2 0 1 d hd (by omega)) rfl ?_
    exact zer rfl rfl
  · rw [c16]
    refine zeN (q := ((21, [(0, .ref d), (1, .ref g), (2, .ref g2)], [.ref g, .ref g2]), h)) 2 rfl ?_
    refine zegf (fs := [.int kd, .ref px, .ref py, .ref pb]) (v := .ref px) rfl rfl rfl rfl hg rfl ?_
    refine zeN (q := ((25, [(0, .ref d), (1, .ref g), (2, .ref g2)], [.int 0, .ref px, .ref g2]), h)) 1 rfl ?_
    refine zeia (l := X.map Value.int) (k := (0 : Int32).toNatClampNeg) (v := .int (gI X (0 : Int32))) rfl rfl hX (zIx_a (zIx_0 hne)) (zIx_b (zIx_0 hne)) ?_
    refine zeN (q := ((27, [(0, .ref d), (1, .ref g), (2, .ref g2)], [.ref g, .int (gI X (0 : Int32)), .ref g2]), h)) 1 rfl ?_
    refine zegf (fs := [.int kd, .ref px, .ref py, .ref pb]) (v := .ref py) rfl rfl rfl rfl hg rfl ?_
    refine zeN (q := ((31, [(0, .ref d), (1, .ref g), (2, .ref g2)], [.int 0, .ref py, .int (gI X (0 : Int32)), .ref g2]), h)) 1 rfl ?_
    refine zeia (l := Y.map Value.int) (k := (0 : Int32).toNatClampNeg) (v := .int (gI Y (0 : Int32))) rfl rfl hY (zIx_a (zIx_s (zIx_0 hne) hXY)) (zIx_b (zIx_s (zIx_0 hne) hXY)) ?_
    refine zec 1 (M' := M_Ge_encloses) (qq := ([.ref g2, .int (gI X (0 : Int32)), .int (gI Y (0 : Int32))], [])) (s' := (35, [(0, .ref d), (1, .ref g), (2, .ref g2)], [.int (f_Ge_encloses X2 Y2 kd2 (gI X (0 : Int32)) (gI Y (0 : Int32)))])) rfl rfl (fun _ => rfl) rfl rfl (zhk rfl (zrc_ok hg2) rfl) (s_Ge_encloses X2 Y2 kd2 (gI X (0 : Int32)) (gI Y (0 : Int32)) g2 px2 py2 pb2 hg2 hX2 hY2 hXY2 hn2 hne2 (by omega)) rfl ?_
    refine zbc (q1 := (45, [(0, .ref d), (1, .ref g), (2, .ref g2)], [])) (q2 := (38, [(0, .ref d), (1, .ref g), (2, .ref g2)], [])) (cB := zc .eq (f_Ge_encloses X2 Y2 kd2 (gI X (0 : Int32)) (gI Y (0 : Int32))) 0) (off := 10) (lv := [(0, .ref d), (1, .ref g), (2, .ref g2)]) (st := []) rfl rfl rfl rfl rfl (fun c35 => ?_) (fun c35 => ?_)
    · rw [c35]
      refine zeN (q := ((50, [(0, .ref d), (1, .ref g), (2, .ref g2)], [.long 1, .long 1048576, .ref d]), h)) 3 rfl ?_
      refine zec 1 (M' := M_Di_become) (qq := ([.ref d, .long 1048576, .long 1], [])) (s' := (53, [(0, .ref d), (1, .ref g), (2, .ref g2)], [])) rfl rfl (fun _ => rfl) rfl rfl (zhk rfl (zrc_ok hd) rfl) (s_Di_become p0.1 p0.2 1048576 1 d hd (by omega)) rfl ?_
      refine zeN (q := ((55, [(3, .int 0), (0, .ref d), (1, .ref g), (2, .ref g2)], []), (zD h d (1048576, 1)))) 2 rfl ?_
      refine zeS [(0, .ref d), (1, .ref g), (2, .ref g2), (3, .int 0)] (zsub_pick [1, 2, 3, 0] rfl rfl) ?_
      exact s_Di_between_L55 X Y X2 Y2 kd kd2 p0 d hd g px py pb hg hX hY hXY hn g2 px2 py2 pb2 hg2 hX2 hY2 hXY2 hn2 n_hg n_hX n_hY n_hg2 n_hX2 n_hY2 hne hne2 (by omega) (X.length + 1) 0 ((1048576, 1)) (Int.le_refl _) (by show (0 : Int) ≤ _; omega) (by show (X.length : Int) < 0 + _; omega)
    · rw [c35]
      refine zeN (q := ((41, [(0, .ref d), (1, .ref g), (2, .ref g2)], [.long 1, .long 0, .ref d]), h)) 3 rfl ?_
      refine zec 1 (M' := M_Di_become) (qq := ([.ref d, .long 0, .long 1], [])) (s' := (44, [(0, .ref d), (1, .ref g), (2, .ref g2)], [])) rfl rfl (fun _ => rfl) rfl rfl (zhk rfl (zrc_ok hd) rfl) (s_Di_become p0.1 p0.2 0 1 d hd (by omega)) rfl ?_
      exact zer rfl rfl
end
section
-- what the mirror functions say over whole numbers
theorem b_mul {a b : Int} {A B : Int} (h1 : -A ≤ a) (h2 : a ≤ A) (h3 : -B ≤ b) (h4 : b ≤ B) : -(A * B) ≤ a * b ∧ a * b ≤ A * B := by
  have p1 : 0 ≤ (A - a) * (B + b) := Int.mul_nonneg (by omega) (by omega)
  have p2 : 0 ≤ (A + a) * (B - b) := Int.mul_nonneg (by omega) (by omega)
  have p3 : 0 ≤ (A - a) * (B - b) := Int.mul_nonneg (by omega) (by omega)
  have p4 : 0 ≤ (A + a) * (B + b) := Int.mul_nonneg (by omega) (by omega)
  simp only [Int.sub_mul, Int.mul_sub, Int.add_mul, Int.mul_add] at p1 p2 p3 p4
  constructor <;> omega
/-- coordinates -/
def zCo (X : List Int32) : Prop := ∀ v ∈ X, 0 ≤ v.toInt ∧ v.toInt ≤ 255
theorem zCo_g {X : List Int32} {j : Int32} (h : zCo X) (hj : zIx j X.length) : 0 ≤ (gI X j).toInt ∧ (gI X j).toInt ≤ 255 := by
  have h1 := zIx_a hj
  have h2 : j.toNatClampNeg < X.length := by have := hj.2; omega
  have e : gI X j = X[j.toNatClampNeg] := by simp [gI, List.getD_eq_getElem?_getD, h2]
  rw [e]
  exact h _ (List.getElem_mem h2)
/-- twice the area of a triangle, with its sign -/
def zTurn (ax ay bx bz cx cy : Int) : Int := (bx - ax) * (cy - ay) - (bz - ay) * (cx - ax)
theorem zTurn_b {ax ay bx bz cx cy : Int} (h1 : 0 ≤ ax ∧ ax ≤ 255) (h2 : 0 ≤ ay ∧ ay ≤ 255) (h3 : 0 ≤ bx ∧ bx ≤ 255) (h4 : 0 ≤ bz ∧ bz ≤ 255) (h5 : 0 ≤ cx ∧ cx ≤ 255) (h6 : 0 ≤ cy ∧ cy ≤ 255) : -130050 ≤ zTurn ax ay bx bz cx cy ∧ zTurn ax ay bx bz cx cy ≤ 130050 := by
  have p := b_mul (a := bx - ax) (b := cy - ay) (A := 255) (B := 255) (by omega) (by omega) (by omega) (by omega)
  have q := b_mul (a := bz - ay) (b := cx - ax) (A := 255) (B := 255) (by omega) (by omega) (by omega) (by omega)
  unfold zTurn
  omega
theorem z_turn {X Y : List Int32} {j x y : Int32} (hX : zCo X) (hY : zCo Y) (hXY : Y.length = X.length) (hn : X.length ≤ 1000) (hj : zIx j X.length) (hx : 0 ≤ x.toInt ∧ x.toInt ≤ 255) (hy : 0 ≤ y.toInt ∧ y.toInt ≤ 255) :
    (f_Ge_turn X Y j x y).toInt = zTurn (gI X j).toInt (gI Y j).toInt (gI X (f_Ge_end X j)).toInt (gI Y (f_Ge_end X j)).toInt x.toInt y.toInt := by
  have he := zIx_end hn hj
  have a1 := zCo_g hX hj
  have a2 := zCo_g hY (zIx_s hj hXY)
  have a3 := zCo_g hX he
  have a4 := zCo_g hY (zIx_s he hXY)
  have s1 := z_sub (a := gI X (f_Ge_end X j)) (b := gI X j) (by omega) (by omega)
  have s2 := z_sub (a := y) (b := gI Y j) (by omega) (by omega)
  have s3 := z_sub (a := gI Y (f_Ge_end X j)) (b := gI Y j) (by omega) (by omega)
  have s4 := z_sub (a := x) (b := gI X j) (by omega) (by omega)
  have p := b_mul (a := (gI X (f_Ge_end X j)).toInt - (gI X j).toInt) (b := y.toInt - (gI Y j).toInt) (A := 255) (B := 255) (by omega) (by omega) (by omega) (by omega)
  have q := b_mul (a := (gI Y (f_Ge_end X j)).toInt - (gI Y j).toInt) (b := x.toInt - (gI X j).toInt) (A := 255) (B := 255) (by omega) (by omega) (by omega) (by omega)
  have m1 := z_mul (a := gI X (f_Ge_end X j) - gI X j) (b := y - gI Y j) (by rw [s1, s2]; omega) (by rw [s1, s2]; omega)
  have m2 := z_mul (a := gI Y (f_Ge_end X j) - gI Y j) (b := x - gI X j) (by rw [s3, s4]; omega) (by rw [s3, s4]; omega)
  rw [s1, s2] at m1
  rw [s3, s4] at m2
  unfold f_Ge_turn zTurn
  rw [z_sub (by rw [m1, m2]; omega) (by rw [m1, m2]; omega), m1, m2]
theorem z_subL {a b : Int64} (h1 : -9223372036854775808 ≤ a.toInt - b.toInt) (h2 : a.toInt - b.toInt < 9223372036854775808) : (a - b).toInt = a.toInt - b.toInt := by
  rw [Int64.toInt_sub, Int.bmod_def]
  omega
theorem z_addL {a b : Int64} (h1 : -9223372036854775808 ≤ a.toInt + b.toInt) (h2 : a.toInt + b.toInt < 9223372036854775808) : (a + b).toInt = a.toInt + b.toInt := by
  rw [Int64.toInt_add, Int.bmod_def]
  omega
theorem z_mulL {a b : Int64} (h1 : -9223372036854775808 ≤ a.toInt * b.toInt) (h2 : a.toInt * b.toInt < 9223372036854775808) : (a * b).toInt = a.toInt * b.toInt := by
  rw [Int64.toInt_mul, Int.bmod_def]
  omega
theorem z_i2l (a : Int32) : a.toInt64.toInt = a.toInt := Int32.toInt_toInt64 a
theorem z_cross {ax ay bx bz cx cy : Int32} (h1 : 0 ≤ ax.toInt ∧ ax.toInt ≤ 255) (h2 : 0 ≤ ay.toInt ∧ ay.toInt ≤ 255) (h3 : 0 ≤ bx.toInt ∧ bx.toInt ≤ 255) (h4 : 0 ≤ bz.toInt ∧ bz.toInt ≤ 255) (h5 : 0 ≤ cx.toInt ∧ cx.toInt ≤ 255) (h6 : 0 ≤ cy.toInt ∧ cy.toInt ≤ 255) :
    (f_Mo_cross ax ay bx bz cx cy).toInt = zTurn ax.toInt ay.toInt bx.toInt bz.toInt cx.toInt cy.toInt := by
  have s1 := z_sub (a := bx) (b := ax) (by omega) (by omega)
  have s2 := z_sub (a := cy) (b := ay) (by omega) (by omega)
  have s3 := z_sub (a := bz) (b := ay) (by omega) (by omega)
  have s4 := z_sub (a := cx) (b := ax) (by omega) (by omega)
  have p := b_mul (a := bx.toInt - ax.toInt) (b := cy.toInt - ay.toInt) (A := 255) (B := 255) (by omega) (by omega) (by omega) (by omega)
  have q := b_mul (a := bz.toInt - ay.toInt) (b := cx.toInt - ax.toInt) (A := 255) (B := 255) (by omega) (by omega) (by omega) (by omega)
  have m1 := z_mulL (a := (bx - ax).toInt64) (b := (cy - ay).toInt64) (by rw [z_i2l, z_i2l, s1, s2]; omega) (by rw [z_i2l, z_i2l, s1, s2]; omega)
  have m2 := z_mulL (a := (bz - ay).toInt64) (b := (cx - ax).toInt64) (by rw [z_i2l, z_i2l, s3, s4]; omega) (by rw [z_i2l, z_i2l, s3, s4]; omega)
  rw [z_i2l, z_i2l, s1, s2] at m1
  rw [z_i2l, z_i2l, s3, s4] at m2
  unfold f_Mo_cross zTurn
  rw [z_subL (by rw [m1, m2]; omega) (by rw [m1, m2]; omega), m1, m2]
end
section
-- conditions over whole numbers; truth values
theorem zc_lt (x y : Int32) : zc .lt x y = decide (x.toInt < y.toInt) := decide_eq_decide.mpr Int32.lt_iff_toInt_lt
theorem zc_ge (x y : Int32) : zc .ge x y = decide (y.toInt ≤ x.toInt) := decide_eq_decide.mpr Int32.le_iff_toInt_le
theorem zc_gt (x y : Int32) : zc .gt x y = decide (y.toInt < x.toInt) := decide_eq_decide.mpr Int32.lt_iff_toInt_lt
theorem zc_le (x y : Int32) : zc .le x y = decide (x.toInt ≤ y.toInt) := decide_eq_decide.mpr Int32.le_iff_toInt_le
theorem zc_eq (x y : Int32) : zc .eq x y = decide (x.toInt = y.toInt) := decide_eq_decide.mpr ⟨fun e => by rw [e], fun e => Int32.toInt_inj.mp e⟩
theorem zc_ne (x y : Int32) : zc .ne x y = decide (¬ x.toInt = y.toInt) := decide_eq_decide.mpr ⟨fun e e2 => e (Int32.toInt_inj.mp e2), fun e e2 => e (by rw [e2])⟩
def b2 (c : Bool) : Int32 := bif c then 1 else 0
theorem b2_eq (c : Bool) : zc .eq (b2 c) 0 = !c := by cases c <;> rfl
theorem b2_ne (c : Bool) : zc .ne (b2 c) 0 = c := by cases c <;> rfl
def zBtw (a v b : Int) : Bool := decide ((a ≤ v ∧ v ≤ b) ∨ (b ≤ v ∧ v ≤ a))
def zOpp (p q : Int) : Bool := decide ((p < 0 ∧ 0 < q) ∨ (0 < p ∧ q < 0))
def zOn (ax ay bx bz cx cy : Int) : Bool := decide (zTurn ax ay bx bz cx cy = 0) && (zBtw ax cx bx && zBtw ay cy bz)
theorem z_min (a b : Int32) : (if b < a then b else a).toInt = if b.toInt < a.toInt then b.toInt else a.toInt := by
  by_cases h : b < a
  · rw [if_pos h, if_pos (Int32.lt_iff_toInt_lt.mp h)]
  · rw [if_neg h, if_neg (fun h2 => h (Int32.lt_iff_toInt_lt.mpr h2))]
theorem z_max (a b : Int32) : (if a < b then b else a).toInt = if a.toInt < b.toInt then b.toInt else a.toInt := by
  by_cases h : a < b
  · rw [if_pos h, if_pos (Int32.lt_iff_toInt_lt.mp h)]
  · rw [if_neg h, if_neg (fun h2 => h (Int32.lt_iff_toInt_lt.mpr h2))]
theorem z_isBetween (c a b : Int32) : f_Ge_isBetween c a b = b2 (zBtw a.toInt c.toInt b.toInt) := by
  unfold f_Ge_isBetween f_Ge_isBetween_22 b2 zBtw
  rw [zc_gt, zc_gt, z_min a b, z_max a b]
  simp only [Bool.cond_decide]
  repeat' split
  all_goals first | rfl | (exfalso; omega)
end
section
theorem lc_le (x y : Int64) : zc .le (lg_cmp x y) 0 = decide (x.toInt ≤ y.toInt) := decide_eq_decide.mpr ((lg_cmp_le x y).trans Int64.le_iff_toInt_le)
theorem lc_ge (x y : Int64) : zc .ge (lg_cmp x y) 0 = decide (y.toInt ≤ x.toInt) := decide_eq_decide.mpr ((lg_cmp_ge x y).trans Int64.le_iff_toInt_le)
theorem lc_lt (x y : Int64) : zc .lt (lg_cmp x y) 0 = decide (x.toInt < y.toInt) := decide_eq_decide.mpr ((lg_cmp_lt x y).trans Int64.lt_iff_toInt_lt)
theorem lc_gt (x y : Int64) : zc .gt (lg_cmp x y) 0 = decide (y.toInt < x.toInt) := decide_eq_decide.mpr ((lg_cmp_gt x y).trans Int64.lt_iff_toInt_lt)
theorem lc_eq (x y : Int64) : zc .eq (lg_cmp x y) 0 = decide (x.toInt = y.toInt) := decide_eq_decide.mpr ((lg_cmp_eq x y).trans ⟨fun e => by rw [e], fun e => Int64.toInt_inj.mp e⟩)
theorem lc_ne (x y : Int64) : zc .ne (lg_cmp x y) 0 = decide (¬ x.toInt = y.toInt) := decide_eq_decide.mpr (not_congr ((lg_cmp_eq x y).trans ⟨fun e => by rw [e], fun e => Int64.toInt_inj.mp e⟩))
theorem z_i0 : (0 : Int32).toInt = 0 := rfl
theorem z_l0 : (0 : Int64).toInt = 0 := rfl
theorem z_mbetween (a v b : Int32) : f_Mo_between a v b = b2 (zBtw a.toInt v.toInt b.toInt) := by
  unfold f_Mo_between f_Mo_between_10 f_Mo_between_20 f_Mo_between_24 b2 zBtw
  rw [zc_gt, zc_gt, zc_gt, zc_le]
  simp only [Bool.cond_decide]
  repeat' split
  all_goals first | rfl | (exfalso; omega)
theorem z_opp (a b : Int32) : f_Ge_areOpposite a b = b2 (zOpp a.toInt b.toInt) := by
  unfold f_Ge_areOpposite f_Ge_areOpposite_8 f_Ge_areOpposite_16 f_Ge_areOpposite_20 b2 zOpp
  rw [zc_ge, zc_ge, zc_gt, zc_le, z_i0]
  simp only [Bool.cond_decide]
  repeat' split
  all_goals first | rfl | (exfalso; omega)
theorem z_on {ax ay bx bz cx cy : Int32} (h1 : 0 ≤ ax.toInt ∧ ax.toInt ≤ 255) (h2 : 0 ≤ ay.toInt ∧ ay.toInt ≤ 255) (h3 : 0 ≤ bx.toInt ∧ bx.toInt ≤ 255) (h4 : 0 ≤ bz.toInt ∧ bz.toInt ≤ 255) (h5 : 0 ≤ cx.toInt ∧ cx.toInt ≤ 255) (h6 : 0 ≤ cy.toInt ∧ cy.toInt ≤ 255) :
    f_Mo_on ax ay bx bz cx cy = b2 (zOn ax.toInt ay.toInt bx.toInt bz.toInt cx.toInt cy.toInt) := by
  unfold f_Mo_on f_Mo_on_40 zOn
  rw [z_mbetween, z_mbetween, b2_eq, b2_eq, lc_ne, z_cross h1 h2 h3 h4 h5 h6, z_l0]
  by_cases h : zTurn ax.toInt ay.toInt bx.toInt bz.toInt cx.toInt cy.toInt = 0
  · rw [decide_eq_false (not_not_intro h), decide_eq_true h]
    cases zBtw ax.toInt cx.toInt bx.toInt <;> cases zBtw ay.toInt cy.toInt bz.toInt <;> rfl
  · rw [decide_eq_true h, decide_eq_false h]
    rfl
theorem z_beside (X Y X2 Y2 : List Int32) (j c : Int32) :
    f_Ge_isBeside X Y X2 Y2 j c = b2 (zBtw (gI X j).toInt (gI X2 c).toInt (gI X (f_Ge_end X j)).toInt && zBtw (gI Y j).toInt (gI Y2 c).toInt (gI Y (f_Ge_end X j)).toInt) := by
  unfold f_Ge_isBeside f_Ge_isBeside_60
  rw [z_isBetween, z_isBetween, b2_eq, b2_eq]
  cases zBtw (gI X j).toInt (gI X2 c).toInt (gI X (f_Ge_end X j)).toInt <;> cases zBtw (gI Y j).toInt (gI Y2 c).toInt (gI Y (f_Ge_end X j)).toInt <;> rfl
/-- two sides meet -/
def zMt (ax ay bx bz cx cy dx dy : Int) : Bool :=
  (zOpp (zTurn ax ay bx bz cx cy) (zTurn ax ay bx bz dx dy) && zOpp (zTurn cx cy dx dy ax ay) (zTurn cx cy dx dy bx bz)) || (zOn ax ay bx bz cx cy || (zOn ax ay bx bz dx dy || (zOn cx cy dx dy ax ay || zOn cx cy dx dy bx bz)))
theorem z_sideMeets {X Y X2 Y2 : List Int32} {j k : Int32} (hX : zCo X) (hY : zCo Y) (hXY : Y.length = X.length) (hn : X.length ≤ 1000) (hj : zIx j X.length) (hX2 : zCo X2) (hY2 : zCo Y2) (hXY2 : Y2.length = X2.length) (hn2 : X2.length ≤ 1000) (hk : zIx k X2.length) :
    f_Ge_sideMeets X Y X2 Y2 j k = b2 (zMt (gI X j).toInt (gI Y j).toInt (gI X (f_Ge_end X j)).toInt (gI Y (f_Ge_end X j)).toInt (gI X2 k).toInt (gI Y2 k).toInt (gI X2 (f_Ge_end X2 k)).toInt (gI Y2 (f_Ge_end X2 k)).toInt) := by
  have he := zIx_end hn hj
  have hf := zIx_end hn2 hk
  have a1 := zCo_g hX hj
  have a2 := zCo_g hY (zIx_s hj hXY)
  have a3 := zCo_g hX he
  have a4 := zCo_g hY (zIx_s he hXY)
  have a5 := zCo_g hX2 hk
  have a6 := zCo_g hY2 (zIx_s hk hXY2)
  have a7 := zCo_g hX2 hf
  have a8 := zCo_g hY2 (zIx_s hf hXY2)
  have t1 := z_turn hX hY hXY hn hj a5 a6
  have t2 := z_turn hX hY hXY hn hj a7 a8
  have t3 := z_turn hX2 hY2 hXY2 hn2 hk a1 a2
  have t4 := z_turn hX2 hY2 hXY2 hn2 hk a3 a4
  unfold f_Ge_sideMeets f_Ge_sideMeets_114 f_Ge_sideMeets_129 f_Ge_sideMeets_145 f_Ge_sideMeets_160 f_Ge_sideMeets_176 f_Ge_sideMeets_180 zMt zOn
  rw [z_opp, z_opp, b2_eq, b2_ne, zc_ne, zc_ne, zc_ne, zc_ne, z_beside, z_beside, z_beside, z_beside, b2_ne, b2_ne, b2_ne, b2_eq, t1, t2, t3, t4, z_i0]
  generalize zTurn (gI X j).toInt (gI Y j).toInt (gI X (f_Ge_end X j)).toInt (gI Y (f_Ge_end X j)).toInt (gI X2 k).toInt (gI Y2 k).toInt = T1
  generalize zTurn (gI X j).toInt (gI Y j).toInt (gI X (f_Ge_end X j)).toInt (gI Y (f_Ge_end X j)).toInt (gI X2 (f_Ge_end X2 k)).toInt (gI Y2 (f_Ge_end X2 k)).toInt = T2
  generalize zTurn (gI X2 k).toInt (gI Y2 k).toInt (gI X2 (f_Ge_end X2 k)).toInt (gI Y2 (f_Ge_end X2 k)).toInt (gI X j).toInt (gI Y j).toInt = T3
  generalize zTurn (gI X2 k).toInt (gI Y2 k).toInt (gI X2 (f_Ge_end X2 k)).toInt (gI Y2 (f_Ge_end X2 k)).toInt (gI X (f_Ge_end X j)).toInt (gI Y (f_Ge_end X j)).toInt = T4
  generalize (zBtw _ _ _ && zBtw _ _ _) = B1
  generalize (zBtw _ _ _ && zBtw _ _ _) = B2
  generalize (zBtw _ _ _ && zBtw _ _ _) = B3
  generalize (zBtw _ _ _ && zBtw _ _ _) = B4
  have e (T : Int) : decide (¬ T = 0) = !decide (T = 0) := decide_not
  rw [e T1, e T2, e T3, e T4]
  generalize zOpp T1 T2 = O1
  generalize zOpp T3 T4 = O2
  generalize decide (T1 = 0) = D1
  generalize decide (T2 = 0) = D2
  generalize decide (T3 = 0) = D3
  generalize decide (T4 = 0) = D4
  cases O1 <;> cases O2 <;> cases D1 <;> cases D2 <;> cases D3 <;> cases D4 <;> cases B1 <;> cases B2 <;> cases B3 <;> cases B4 <;> rfl
end
section
theorem z_touching {X Y : List Int32} {a b c d : Int32} (a1 : 0 ≤ (gI X a).toInt ∧ (gI X a).toInt ≤ 255) (a2 : 0 ≤ (gI Y a).toInt ∧ (gI Y a).toInt ≤ 255) (a3 : 0 ≤ (gI X b).toInt ∧ (gI X b).toInt ≤ 255) (a4 : 0 ≤ (gI Y b).toInt ∧ (gI Y b).toInt ≤ 255) (a5 : 0 ≤ (gI X c).toInt ∧ (gI X c).toInt ≤ 255) (a6 : 0 ≤ (gI Y c).toInt ∧ (gI Y c).toInt ≤ 255) (a7 : 0 ≤ (gI X d).toInt ∧ (gI X d).toInt ≤ 255) (a8 : 0 ≤ (gI Y d).toInt ∧ (gI Y d).toInt ≤ 255) :
    f_Mo_touching X Y a b c d = b2 (zMt (gI X a).toInt (gI Y a).toInt (gI X b).toInt (gI Y b).toInt (gI X c).toInt (gI Y c).toInt (gI X d).toInt (gI Y d).toInt) := by
  have t1 : (f_Mo_turn X Y a b c).toInt = _ := z_cross a1 a2 a3 a4 a5 a6
  have t2 : (f_Mo_turn X Y a b d).toInt = _ := z_cross a1 a2 a3 a4 a7 a8
  have t3 : (f_Mo_turn X Y c d a).toInt = _ := z_cross a5 a6 a7 a8 a1 a2
  have t4 : (f_Mo_turn X Y c d b).toInt = _ := z_cross a5 a6 a7 a8 a3 a4
  have l1 : f_Mo_lies X Y a b c = _ := z_on a1 a2 a3 a4 a5 a6
  have l2 : f_Mo_lies X Y a b d = _ := z_on a1 a2 a3 a4 a7 a8
  have l3 : f_Mo_lies X Y c d a = _ := z_on a5 a6 a7 a8 a1 a2
  have l4 : f_Mo_lies X Y c d b = _ := z_on a5 a6 a7 a8 a3 a4
  unfold f_Mo_touching f_Mo_touching_43 f_Mo_touching_98 f_Mo_touching_112 f_Mo_touching_126 f_Mo_touching_140 f_Mo_touching_144 zMt
  rw [l1, l2, l3, l4, b2_ne, b2_ne, b2_ne, b2_eq]
  simp only [lc_le, lc_ge, lc_gt, t1, t2, t3, t4, z_l0]
  generalize zTurn (gI X a).toInt (gI Y a).toInt (gI X b).toInt (gI Y b).toInt (gI X c).toInt (gI Y c).toInt = T1
  generalize zTurn (gI X a).toInt (gI Y a).toInt (gI X b).toInt (gI Y b).toInt (gI X d).toInt (gI Y d).toInt = T2
  generalize zTurn (gI X c).toInt (gI Y c).toInt (gI X d).toInt (gI Y d).toInt (gI X a).toInt (gI Y a).toInt = T3
  generalize zTurn (gI X c).toInt (gI Y c).toInt (gI X d).toInt (gI Y d).toInt (gI X b).toInt (gI Y b).toInt = T4
  generalize zOn _ _ _ _ _ _ = B1
  generalize zOn _ _ _ _ _ _ = B2
  generalize zOn _ _ _ _ _ _ = B3
  generalize zOn _ _ _ _ _ _ = B4
  have s (x y : Int32) (P : Prop) [Decidable P] : (bif decide P then x else y) = if P then x else y := Bool.cond_decide ..
  cases B1 <;> cases B2 <;> cases B3 <;> cases B4 <;> first | (simp only [Bool.true_or, Bool.or_true, Bool.not_false, Bool.not_true, cond_true, cond_false]; done) | (simp only [Bool.or_true, Bool.true_or]; rfl) | skip
  simp only [Bool.or_false, cond_false, Bool.not_false, cond_true, zOpp, b2, ← Bool.decide_and, s]
  repeat' split
  all_goals first | rfl | (exfalso; omega)
end
section
-- the fixed cells as a picture
/-- ints, longs, references, by cell and slot -/
abbrev yW : Type := (Nat → Nat → Int32) × (Nat → Nat → Int64) × (Nat → Nat → Option Nat)
def yrv : Option Nat → Value
  | none => .null
  | some u => .ref u
/-- what a slot of a kind holds: one value always, an int, a long, a reference -/
def ysl (w : yW) (c j : Nat) : Value ⊕ Nat → Value
  | .inl v => v
  | .inr 0 => .int (w.1 c j)
  | .inr 1 => .long (w.2.1 c j)
  | .inr _ => yrv (w.2.2 c j)
def ylist (w : yW) (c : Nat) (ks : List (Value ⊕ Nat)) : List Value := ks.mapIdx (fun j k => ysl w c j k)
def ycel (w : yW) (c : Nat) (s : Bool × Nat × List (Value ⊕ Nat)) : zC := bif s.1 then .inr (s.2.1, ylist w c s.2.2) else .inl (s.2.1, ylist w c s.2.2)
def yshp : List (Bool × Nat × List (Value ⊕ Nat)) := [
  (true, 0, [.inl (.ref 1), .inl (.ref 2), .inl (.ref 3), .inl (.ref 4), .inl (.ref 6), .inr 2, .inl (.ref 9), .inr 0, .inr 0, .inl (.ref 10), .inl (.ref 11), .inl (.ref 12), .inl (.ref 13)]),
  (false, 3, [.inl (.ref 14), .inl (.ref 26)]),
  (false, 3, [.inl (.ref 17), .inl (.ref 29)]),
  (false, 4, [.inl (.ref 20), .inl (.ref 32)]),
  (true, 1, [.inl (.ref 5)]),
  (false, 0, [.inr 0, .inr 0, .inr 0, .inr 0, .inr 0, .inr 0, .inr 0, .inr 0, .inr 0]),
  (true, 2, [.inl (.ref 7), .inl (.ref 8), .inr 0]),
  (false, 0, List.replicate 6 (.inr 0)),
  (false, 0, List.replicate 6 (.inr 0)),
  (false, 0, List.replicate 256 (.inr 0)),
  (true, 3, [.inr 1, .inr 1]),
  (true, 3, [.inr 1, .inr 1]),
  (false, 5, [.inl (.ref 38), .inl (.ref 39), .inl (.ref 40), .inl (.ref 41), .inl (.ref 42), .inl (.ref 43), .inl (.ref 44), .inl (.ref 45), .inl (.ref 46), .inl (.ref 47), .inl (.ref 48), .inl (.ref 49), .inl (.ref 50), .inl (.ref 51), .inl (.ref 52), .inl (.ref 53)]),
  (false, 0, List.replicate 16 (.inr 0)),
  (true, 4, [.inl (.ref 15), .inl (.ref 16)]),
  (false, 0, List.replicate 16 (.inr 0)),
  (false, 6, List.replicate 16 (.inr 2)),
  (true, 4, [.inl (.ref 18), .inl (.ref 19)]),
  (false, 0, List.replicate 16 (.inr 0)),
  (false, 6, List.replicate 16 (.inr 2)),
  (true, 5, [.inl (.ref 21), .inl (.ref 22), .inl (.ref 23), .inl (.ref 24), .inl (.ref 25), .inr 0]),
  (false, 0, List.replicate 516 (.inr 0)),
  (false, 0, List.replicate 129 (.inr 0)),
  (false, 0, List.replicate 129 (.inr 0)),
  (false, 0, List.replicate 129 (.inr 0)),
  (false, 0, List.replicate 129 (.inr 0)),
  (true, 4, [.inl (.ref 27), .inl (.ref 28)]),
  (false, 0, List.replicate 16 (.inr 0)),
  (false, 6, List.replicate 16 (.inr 2)),
  (true, 4, [.inl (.ref 30), .inl (.ref 31)]),
  (false, 0, List.replicate 16 (.inr 0)),
  (false, 6, List.replicate 16 (.inr 2)),
  (true, 5, [.inl (.ref 33), .inl (.ref 34), .inl (.ref 35), .inl (.ref 36), .inl (.ref 37), .inr 0]),
  (false, 0, List.replicate 516 (.inr 0)),
  (false, 0, List.replicate 129 (.inr 0)),
  (false, 0, List.replicate 129 (.inr 0)),
  (false, 0, List.replicate 129 (.inr 0)),
  (false, 0, List.replicate 129 (.inr 0)),
  (true, 3, [.inr 1, .inr 1]),
  (true, 3, [.inr 1, .inr 1]),
  (true, 3, [.inr 1, .inr 1]),
  (true, 3, [.inr 1, .inr 1]),
  (true, 3, [.inr 1, .inr 1]),
  (true, 3, [.inr 1, .inr 1]),
  (true, 3, [.inr 1, .inr 1]),
  (true, 3, [.inr 1, .inr 1]),
  (true, 3, [.inr 1, .inr 1]),
  (true, 3, [.inr 1, .inr 1]),
  (true, 3, [.inr 1, .inr 1]),
  (true, 3, [.inr 1, .inr 1]),
  (true, 3, [.inr 1, .inr 1]),
  (true, 3, [.inr 1, .inr 1]),
  (true, 3, [.inr 1, .inr 1]),
  (true, 3, [.inr 1, .inr 1]),
  (true, 8, [.inl (.ref 55), .inl (.ref 56), .inl (.ref 57), .inl (.ref 58), .inl (.ref 59), .inl (.ref 60), .inl (.ref 61), .inl (.ref 62), .inl (.ref 63), .inl (.ref 64), .inr 0, .inl (.ref 65), .inl (.ref 66), .inr 1, .inr 1, .inl (.ref 67), .inl (.ref 68), .inr 0, .inr 0, .inr 0, .inr 0, .inr 0, .inr 0, .inl (.ref 69), .inl (.ref 70), .inl (.ref 71)]),
  (false, 1, List.replicate 65 (.inr 0)),
  (false, 0, List.replicate 65 (.inr 0)),
  (false, 0, List.replicate 65 (.inr 0)),
  (false, 0, List.replicate 65 (.inr 0)),
  (false, 0, List.replicate 390 (.inr 0)),
  (false, 0, List.replicate 390 (.inr 0)),
  (false, 0, List.replicate 65 (.inr 0)),
  (false, 0, List.replicate 65 (.inr 0)),
  (false, 0, List.replicate 65 (.inr 0)),
  (false, 0, List.replicate 65 (.inr 0)),
  (false, 0, List.replicate 6 (.inr 0)),
  (false, 0, List.replicate 6 (.inr 0)),
  (false, 2, List.replicate 16 (.inr 1)),
  (false, 2, List.replicate 16 (.inr 1)),
  (false, 0, List.replicate 256 (.inr 0)),
  (false, 0, [.inr 0, .inr 0, .inr 0, .inr 0, .inr 0, .inr 0, .inr 0, .inr 0, .inr 0]),
  (false, 0, List.replicate 9 (.inr 0))]
def ypic (w : yW) : List zC := yshp.mapIdx (fun c s => ycel w c s)
/-- the heap: the fixed cells, the geometries' cells, the slots made -/
def yhp (w : yW) (G : List zC) (n : Nat) : zH := (ypic w ++ G, n)
theorem yshp_len : yshp.length = 72 := rfl
theorem ypic_len (w : yW) : (ypic w).length = 72 := by rw [ypic, List.length_mapIdx]; rfl
theorem yhp_get {w : yW} {G : List zC} {n c : Nat} {s : Bool × Nat × List (Value ⊕ Nat)} (hs : yshp[c]? = some s) : (yhp w G n).1[c]? = some (ycel w c s) := by
  have hc : c < yshp.length := (List.getElem?_eq_some_iff.mp hs).1
  show (ypic w ++ G)[c]? = _
  rw [List.getElem?_append_left (by rw [ypic_len]; exact hc), ypic, List.getElem?_mapIdx, hs]
  rfl
theorem yhp_o {w : yW} {G : List zC} {n c a : Nat} {ks : List (Value ⊕ Nat)} (hs : yshp[c]? = some (true, a, ks)) : (yhp w G n).1[c]? = some (.inr (a, ylist w c ks)) := yhp_get hs
theorem yhp_a {w : yW} {G : List zC} {n c a : Nat} {ks : List (Value ⊕ Nat)} (hs : yshp[c]? = some (false, a, ks)) : (yhp w G n).1[c]? = some (.inl (a, ylist w c ks)) := yhp_get hs
theorem ylist_get {w : yW} {c j : Nat} {ks : List (Value ⊕ Nat)} {k : Value ⊕ Nat} (hk : ks[j]? = some k) : (ylist w c ks)[j]? = some (ysl w c j k) := by
  rw [ylist, List.getElem?_mapIdx, hk]
  rfl
theorem ylist_len {w : yW} {c : Nat} {ks : List (Value ⊕ Nat)} : (ylist w c ks).length = ks.length := List.length_mapIdx
/-- one slot written -/
def yat (c j c' j' : Nat) : Bool := Nat.beq c' c && Nat.beq j' j
def wI (w : yW) (c j : Nat) (v : Int32) : yW := (fun c' j' => bif yat c j c' j' then v else w.1 c' j', w.2)
def wL (w : yW) (c j : Nat) (v : Int64) : yW := (w.1, fun c' j' => bif yat c j c' j' then v else w.2.1 c' j', w.2.2)
def wR (w : yW) (c j : Nat) (v : Option Nat) : yW := (w.1, w.2.1, fun c' j' => bif yat c j c' j' then v else w.2.2 c' j')
theorem yat_ne {c j c' j' : Nat} (h : ¬ (c' = c ∧ j' = j)) : yat c j c' j' = false := by
  cases e : yat c j c' j' with
  | false => rfl
  | true =>
    simp only [yat, Bool.and_eq_true] at e
    exact absurd ⟨Nat.eq_of_beq_eq_true e.1, Nat.eq_of_beq_eq_true e.2⟩ h
theorem yat_self (c j : Nat) : yat c j c j = true := by simp [yat, Nat.beq_refl]
/-- two states that differ in one slot alone -/
def ydif (w w' : yW) (c j : Nat) : Prop := ∀ c' j', ¬ (c' = c ∧ j' = j) → w'.1 c' j' = w.1 c' j' ∧ w'.2.1 c' j' = w.2.1 c' j' ∧ w'.2.2 c' j' = w.2.2 c' j'
theorem ydif_sl {w w' : yW} {c j c' j' : Nat} (h : ydif w w' c j) (hn : ¬ (c' = c ∧ j' = j)) : ∀ k, ysl w' c' j' k = ysl w c' j' k
  | .inl v => rfl
  | .inr 0 => congrArg Value.int (h c' j' hn).1
  | .inr 1 => congrArg Value.long (h c' j' hn).2.1
  | .inr (_ + 2) => congrArg yrv (h c' j' hn).2.2
theorem ydif_list {w w' : yW} {c j c' : Nat} (h : ydif w w' c j) (hn : c' ≠ c) (ks : List (Value ⊕ Nat)) : ylist w' c' ks = ylist w c' ks := by
  unfold ylist
  congr 1
  funext i k
  exact ydif_sl h (fun e => hn e.1) k
theorem yset_list {w w' : yW} {c j : Nat} {ks : List (Value ⊕ Nat)} {k : Value ⊕ Nat} {v : Value} (h : ydif w w' c j) (hk : ks[j]? = some k) (hv : ysl w' c j k = v) : (ylist w c ks).set j v = ylist w' c ks := by
  apply List.ext_getElem?
  intro i
  by_cases hi : i = j
  · subst hi
    rw [List.getElem?_set_self (by rw [ylist_len]; exact (List.getElem?_eq_some_iff.mp hk).1), ylist_get hk, hv]
  · rw [List.getElem?_set_ne (Ne.symm hi), ylist, ylist, List.getElem?_mapIdx, List.getElem?_mapIdx]
    cases ks[i]? with
    | none => rfl
    | some k' => exact congrArg some (ydif_sl h (fun e => hi e.2) k').symm
theorem yset_of {w w' : yW} {c j : Nat} {s : Bool × Nat × List (Value ⊕ Nat)} {x : zC} (S : List (Bool × Nat × List (Value ⊕ Nat))) (h : ydif w w' c j) (hs : S[c]? = some s) (hx : x = ycel w' c s) : (S.mapIdx (fun c s => ycel w c s)).set c x = S.mapIdx (fun c s => ycel w' c s) := by
  have hc : c < S.length := (List.getElem?_eq_some_iff.mp hs).1
  apply List.ext_getElem?
  intro i
  by_cases hi : i = c
  · subst hi
    rw [List.getElem?_set_self (by rw [List.length_mapIdx]; exact hc), List.getElem?_mapIdx, hs, hx]
    rfl
  · rw [List.getElem?_set_ne (Ne.symm hi), List.getElem?_mapIdx, List.getElem?_mapIdx]
    cases S[i]? with
    | none => rfl
    | some s' =>
      refine congrArg some ?_
      show ycel w i s' = ycel w' i s'
      unfold ycel
      rw [ydif_list h hi]
theorem yset_pic {w w' : yW} {G : List zC} {n c j : Nat} {s : Bool × Nat × List (Value ⊕ Nat)} {x : zC} (h : ydif w w' c j) (hs : yshp[c]? = some s) (hx : x = ycel w' c s) : ((yhp w G n).1.set c x, (yhp w G n).2) = yhp w' G n := by
  have hc : c < (ypic w).length := by rw [ypic_len, ← yshp_len]; exact (List.getElem?_eq_some_iff.mp hs).1
  have e : (ypic w).set c x = ypic w' := yset_of yshp h hs hx
  show ((ypic w ++ G).set c x, n) = (ypic w' ++ G, n)
  rw [List.set_append_left _ _ hc, e]
theorem ydI (w : yW) (c j : Nat) (v : Int32) : ydif w (wI w c j v) c j := fun c' j' hn => ⟨by show (bif yat c j c' j' then v else w.1 c' j') = _; rw [yat_ne hn]; rfl, rfl, rfl⟩
theorem ydL (w : yW) (c j : Nat) (v : Int64) : ydif w (wL w c j v) c j := fun c' j' hn => ⟨rfl, by show (bif yat c j c' j' then v else w.2.1 c' j') = _; rw [yat_ne hn]; rfl, rfl⟩
theorem ydR (w : yW) (c j : Nat) (v : Option Nat) : ydif w (wR w c j v) c j := fun c' j' hn => ⟨rfl, rfl, by show (bif yat c j c' j' then v else w.2.2 c' j') = _; rw [yat_ne hn]; rfl⟩
theorem wI_self (w : yW) (c j : Nat) (v : Int32) : (wI w c j v).1 c j = v := by show (bif yat c j c j then v else _) = _; rw [yat_self]; rfl
theorem wL_self (w : yW) (c j : Nat) (v : Int64) : (wL w c j v).2.1 c j = v := by show (bif yat c j c j then v else _) = _; rw [yat_self]; rfl
theorem wR_self (w : yW) (c j : Nat) (v : Option Nat) : (wR w c j v).2.2 c j = v := by show (bif yat c j c j then v else _) = _; rw [yat_self]; rfl
end
section
-- rules over the picture of the fixed cells
theorem yset_o {w w' : yW} {G : List zC} {n c b a : Nat} {ks : List (Value ⊕ Nat)} {k : Value ⊕ Nat} {v : Value} (h : ydif w w' c b) (hs : yshp[c]? = some (true, a, ks)) (hk : ks[b]? = some k) (hv : ysl w' c b k = v) : ((yhp w G n).1.set c (.inr (a, (ylist w c ks).set b v)), (yhp w G n).2) = yhp w' G n := by
  rw [yset_list h hk hv]
  exact yset_pic h hs rfl
theorem yset_a {w w' : yW} {G : List zC} {n c b a : Nat} {ks : List (Value ⊕ Nat)} {k : Value ⊕ Nat} {v : Value} (h : ydif w w' c b) (hs : yshp[c]? = some (false, a, ks)) (hk : ks[b]? = some k) (hv : ysl w' c b k = v) : ((yhp w G n).1.set c (.inl (a, (ylist w c ks).set b v)), (yhp w G n).2) = yhp w' G n := by
  rw [yset_list h hk hv]
  exact yset_pic h hs rfl
theorem ysI (w : yW) (c j : Nat) (v : Int32) : ysl (wI w c j v) c j (.inr 0) = .int v := congrArg Value.int (wI_self w c j v)
theorem ysL (w : yW) (c j : Nat) (v : Int64) : ysl (wL w c j v) c j (.inr 1) = .long v := congrArg Value.long (wL_self w c j v)
theorem ysR (w : yW) (c j : Nat) (v : Option Nat) : ysl (wR w c j v) c j (.inr 2) = yrv v := congrArg yrv (wR_self w c j v)
section YRU
variable {fr lo : Nat} {xs : zX} {M : zM} {w : yW} {G : List zC} {n : Nat} {r : Option Value × zH} {pc : Nat} {lv : List (Nat × Value)} {rest : List Value} {x : zE} {c : Nat} {j : Int32} {N : Nat}
theorem yIx_r {k : Value ⊕ Nat} (hj : zIx j N) : (List.replicate N k)[j.toNatClampNeg]? = some k := by
  have h1 := zIx_a hj
  have h2 : j.toNatClampNeg < N := by have := hj.2; omega
  rw [List.getElem?_replicate, if_pos h2]
theorem yIx_l {k : Value ⊕ Nat} (hj : zIx j N) : j.toNatClampNeg < (ylist w c (List.replicate N k)).length := by
  have h1 := zIx_a hj
  have := hj.2
  rw [ylist_len, List.length_replicate]
  omega
theorem ygf {a b i : Nat} {ks : List (Value ⊕ Nat)} {kk : Value ⊕ Nat} {v : Value} (hx : zlk2 (mT M) pc = some x) (hi : xI x = .getfield i) (ha : xA x = a) (hb : xB x = b) (hs : yshp[c]? = some (true, a, ks)) (hk : ks[b]? = some kk) (hv : ysl w c b kk = v) (k : zRun fr lo xs M (pc + 3, lv, v :: rest) (yhp w G n) r) : zRun fr lo xs M (pc, lv, .ref c :: rest) (yhp w G n) r :=
  zegf hx hi ha hb (yhp_o hs) (hv ▸ ylist_get hk) k
theorem yia (hx : zlk2 (mT M) pc = some x) (hi : xI x = .iaload) (hs : yshp[c]? = some (false, 0, List.replicate N (.inr 0))) (hj : zIx j N) (kk : zRun fr lo xs M (pc + 1, lv, .int (w.1 c j.toNatClampNeg) :: rest) (yhp w G n) r) : zRun fr lo xs M (pc, lv, .int j :: .ref c :: rest) (yhp w G n) r :=
  zeia hx hi (yhp_a hs) (zIx_a hj) (ylist_get (yIx_r hj)) kk
theorem yba (hx : zlk2 (mT M) pc = some x) (hi : xI x = .baload) (hs : yshp[c]? = some (false, 1, List.replicate N (.inr 0))) (hj : zIx j N) (kk : zRun fr lo xs M (pc + 1, lv, .int (w.1 c j.toNatClampNeg) :: rest) (yhp w G n) r) : zRun fr lo xs M (pc, lv, .int j :: .ref c :: rest) (yhp w G n) r :=
  zeba hx hi (yhp_a hs) (zIx_a hj) (ylist_get (yIx_r hj)) kk
theorem yla (hx : zlk2 (mT M) pc = some x) (hi : xI x = .laload) (hs : yshp[c]? = some (false, 2, List.replicate N (.inr 1))) (hj : zIx j N) (kk : zRun fr lo xs M (pc + 1, lv, .long (w.2.1 c j.toNatClampNeg) :: rest) (yhp w G n) r) : zRun fr lo xs M (pc, lv, .int j :: .ref c :: rest) (yhp w G n) r :=
  zela hx hi (yhp_a hs) (zIx_a hj) (ylist_get (yIx_r hj)) kk
theorem yaa (hx : zlk2 (mT M) pc = some x) (hi : xI x = .aaload) (hs : yshp[c]? = some (false, 6, List.replicate N (.inr 2))) (hj : zIx j N) (kk : zRun fr lo xs M (pc + 1, lv, yrv (w.2.2 c j.toNatClampNeg) :: rest) (yhp w G n) r) : zRun fr lo xs M (pc, lv, .int j :: .ref c :: rest) (yhp w G n) r :=
  zeaa hx hi (yhp_a hs) rfl (zIx_a hj) (ylist_get (yIx_r hj)) kk
theorem yln {t : Nat} {k : Value ⊕ Nat} (hx : zlk2 (mT M) pc = some x) (hi : xI x = .arraylength) (hs : yshp[c]? = some (false, t, List.replicate N k)) (ht : Nat.blt t zNT = true) (kk : zRun fr lo xs M (pc + 1, lv, .int (Int32.ofNat N) :: rest) (yhp w G n) r) : zRun fr lo xs M (pc, lv, .ref c :: rest) (yhp w G n) r := by
  refine zeln hx hi (yhp_a hs) ht ?_
  rw [ylist_len, List.length_replicate]
  exact kk
theorem ypI {a b i : Nat} {ks : List (Value ⊕ Nat)} {v : Int32} (hx : zlk2 (mT M) pc = some x) (hi : xI x = .putfield i) (ha : xA x = a) (hb : xB x = b) (hs : yshp[c]? = some (true, a, ks)) (hk : ks[b]? = some (.inr 0)) (hf : zfit (zty a b) (.int v) = true) (k : zRun fr lo xs M (pc + 3, lv, rest) (yhp (wI w c b v) G n) r) : zRun fr lo xs M (pc, lv, .int v :: .ref c :: rest) (yhp w G n) r := by
  refine zepf hx hi ha hb (yhp_o hs) (by rw [ylist_len]; exact (List.getElem?_eq_some_iff.mp hk).1) hf ?_
  rw [yset_o (ydI w c b v) hs hk (ysI w c b v)]
  exact k
theorem ypL {a b i : Nat} {ks : List (Value ⊕ Nat)} {v : Int64} (hx : zlk2 (mT M) pc = some x) (hi : xI x = .putfield i) (ha : xA x = a) (hb : xB x = b) (hs : yshp[c]? = some (true, a, ks)) (hk : ks[b]? = some (.inr 1)) (hf : zfit (zty a b) (.long v) = true) (k : zRun fr lo xs M (pc + 3, lv, rest) (yhp (wL w c b v) G n) r) : zRun fr lo xs M (pc, lv, .long v :: .ref c :: rest) (yhp w G n) r := by
  refine zepf hx hi ha hb (yhp_o hs) (by rw [ylist_len]; exact (List.getElem?_eq_some_iff.mp hk).1) hf ?_
  rw [yset_o (ydL w c b v) hs hk (ysL w c b v)]
  exact k
theorem ypR {a b i : Nat} {ks : List (Value ⊕ Nat)} {v : Option Nat} (hx : zlk2 (mT M) pc = some x) (hi : xI x = .putfield i) (ha : xA x = a) (hb : xB x = b) (hs : yshp[c]? = some (true, a, ks)) (hk : ks[b]? = some (.inr 2)) (hf : zfit (zty a b) (yrv v) = true) (k : zRun fr lo xs M (pc + 3, lv, rest) (yhp (wR w c b v) G n) r) : zRun fr lo xs M (pc, lv, yrv v :: .ref c :: rest) (yhp w G n) r := by
  refine zepf hx hi ha hb (yhp_o hs) (by rw [ylist_len]; exact (List.getElem?_eq_some_iff.mp hk).1) hf ?_
  rw [yset_o (ydR w c b v) hs hk (ysR w c b v)]
  exact k
theorem yis {z : Int32} (hx : zlk2 (mT M) pc = some x) (hi : xI x = .iastore) (hs : yshp[c]? = some (false, 0, List.replicate N (.inr 0))) (hj : zIx j N) (kk : zRun fr lo xs M (pc + 1, lv, rest) (yhp (wI w c j.toNatClampNeg z) G n) r) : zRun fr lo xs M (pc, lv, .int z :: .int j :: .ref c :: rest) (yhp w G n) r := by
  refine zeis hx hi (yhp_a hs) (zIx_a hj) (yIx_l hj) ?_
  rw [yset_a (ydI w c _ z) hs (yIx_r hj) (ysI w c _ z)]
  exact kk
theorem ybs {z : Int32} (hx : zlk2 (mT M) pc = some x) (hi : xI x = .bastore) (hs : yshp[c]? = some (false, 1, List.replicate N (.inr 0))) (hj : zIx j N) (kk : zRun fr lo xs M (pc + 1, lv, rest) (yhp (wI w c j.toNatClampNeg (z &&& 1)) G n) r) : zRun fr lo xs M (pc, lv, .int z :: .int j :: .ref c :: rest) (yhp w G n) r := by
  refine zebs hx hi (yhp_a hs) (zIx_a hj) (yIx_l hj) ?_
  rw [yset_a (ydI w c _ (z &&& 1)) hs (yIx_r hj) (ysI w c _ (z &&& 1))]
  exact kk
theorem yls {z : Int64} (hx : zlk2 (mT M) pc = some x) (hi : xI x = .lastore) (hs : yshp[c]? = some (false, 2, List.replicate N (.inr 1))) (hj : zIx j N) (kk : zRun fr lo xs M (pc + 1, lv, rest) (yhp (wL w c j.toNatClampNeg z) G n) r) : zRun fr lo xs M (pc, lv, .long z :: .int j :: .ref c :: rest) (yhp w G n) r := by
  refine zels hx hi (yhp_a hs) (zIx_a hj) (yIx_l hj) ?_
  rw [yset_a (ydL w c _ z) hs (yIx_r hj) (ysL w c _ z)]
  exact kk
theorem yas {v : Option Nat} (hx : zlk2 (mT M) pc = some x) (hi : xI x = .aastore) (hs : yshp[c]? = some (false, 6, List.replicate N (.inr 2))) (hv : zes (yhp w G n).1 6 (yrv v) = true) (hj : zIx j N) (kk : zRun fr lo xs M (pc + 1, lv, rest) (yhp (wR w c j.toNatClampNeg v) G n) r) : zRun fr lo xs M (pc, lv, yrv v :: .int j :: .ref c :: rest) (yhp w G n) r := by
  refine zeas hx hi (yhp_a hs) hv (zIx_a hj) (yIx_l hj) ?_
  rw [yset_a (ydR w c _ v) hs (yIx_r hj) (ysR w c _ v)]
  exact kk
end YRU
end
section
-- the reference's reading methods over the picture
theorem ylist_c {w : yW} {c j : Nat} {ks : List (Value ⊕ Nat)} {v : Value} (hk : ks[j]? = some (.inl v)) : (ylist w c ks)[j]? = some v := ylist_get hk
/-- an int array of the picture as a list -/
def yA (w : yW) (c N : Nat) : List Int32 := (List.range N).map (w.1 c)
theorem yA_len {w : yW} {c N : Nat} : (yA w c N).length = N := by rw [yA, List.length_map, List.length_range]
theorem yA_get {w : yW} {c N k : Nat} (hk : k < N) : (yA w c N)[k]? = some (w.1 c k) := by
  rw [yA, List.getElem?_map, List.getElem?_range hk]
  rfl
theorem yA_g {w : yW} {c N : Nat} {j : Int32} (hj : zIx j N) : gI (yA w c N) j = w.1 c j.toNatClampNeg := by
  have h1 := zIx_a hj
  have h2 : j.toNatClampNeg < N := by have := hj.2; omega
  rw [gI, List.getD_eq_getElem?_getD, yA_get h2]
  rfl
theorem ylist_A {w : yW} {c N : Nat} : ylist w c (List.replicate N (.inr 0)) = (yA w c N).map Value.int := by
  apply List.ext_getElem?
  intro i
  by_cases hi : i < N
  · rw [ylist_get (k := .inr 0) (by rw [List.getElem?_replicate, if_pos hi]), List.getElem?_map, yA_get hi]
    rfl
  · rw [List.getElem?_eq_none (by rw [ylist_len, List.length_replicate]; omega), List.getElem?_eq_none (by rw [List.length_map, yA_len]; omega)]
theorem yhp_A {w : yW} {G : List zC} {n c t N : Nat} (hs : yshp[c]? = some (false, t, List.replicate N (.inr 0))) : (yhp w G n).1[c]? = some (.inl (t, (yA w c N).map Value.int)) := by
  rw [yhp_a hs, ylist_A]
theorem zIx_A {w : yW} {c N : Nat} {j : Int32} (hj : zIx j N) : zIx j (yA w c N).length := zIx_s hj yA_len
section YWR
variable {fr lo : Nat} {w : yW} {G : List zC} {n : Nat}
theorem y_turn (a b c : Int32) (ha : zIx a 390) (hb : zIx b 390) (hc : zIx c 390) (hlo : 48 ≤ lo) : zAns (fr + 2) lo 123 [.ref 54, .int a, .int b, .int c] (yhp w G n) (some (.long (f_Mo_turn (yA w 59 390) (yA w 60 390) a b c)), yhp w G n) :=
  s_Mo_turn _ _ a b c 54 _ (yhp_o rfl) 59 (ylist_c rfl) (yhp_A rfl) 60 (ylist_c rfl) (yhp_A rfl) (by rw [yA_len, yA_len]) (zIx_A ha) (zIx_A hb) (zIx_A hc) hlo
theorem y_sides (s : Int32) (hs : zIx s 65) (hlo : 21 ≤ lo) : zAns (fr + 1) lo 119 [.ref 54, .int s] (yhp w G n) (some (.int (f_Mo_sides (yA w 57 65) (yA w 58 65) s)), yhp w G n) :=
  s_Mo_sides _ _ s 54 _ (yhp_o rfl) 57 (ylist_c rfl) (yhp_A rfl) 58 (ylist_c rfl) (yhp_A rfl) (by rw [yA_len, yA_len]) (zIx_A hs) hlo
theorem y_corner (s j e : Int32) (hs : zIx s 65) (hnz : ¬ gI (yA w 58 65) s = 0) (hlo : 23 ≤ lo) : zAns (fr + 1) lo 120 [.ref 54, .int s, .int j, .int e] (yhp w G n) (some (.int (f_Mo_corner (yA w 58 65) s j e)), yhp w G n) :=
  s_Mo_corner _ s j e 54 _ (yhp_o rfl) 58 (ylist_c rfl) (yhp_A rfl) (zIx_A hs) hnz hlo
theorem y_meet (s u : Int32) (hs : zIx s 65) (hk1 : 1 ≤ (gI (yA w 58 65) s).toInt) (hk2 : (gI (yA w 58 65) s).toInt ≤ 6) (hu : zIx u 65) (hq1 : 1 ≤ (gI (yA w 58 65) u).toInt) (hq2 : (gI (yA w 58 65) u).toInt ≤ 6) (hlo : 133 ≤ lo) : zAns (fr + 5) lo 118 [.ref 54, .int s, .int u] (yhp w G n) (some (.int (f_Mo_meet (yA w 59 390) (yA w 60 390) (yA w 57 65) (yA w 58 65) s u)), yhp w G n) :=
  s_Mo_meet _ _ _ _ s u 54 _ (yhp_o rfl) 57 (ylist_c rfl) (yhp_A rfl) 58 (ylist_c rfl) (yhp_A rfl) 59 (ylist_c rfl) (yhp_A rfl) 60 (ylist_c rfl) (yhp_A rfl) yA_len yA_len yA_len yA_len (zIx_A hs) hk1 hk2 (zIx_A hu) hq1 hq2 hlo
end YWR
end
section
theorem wI_ne {w : yW} {c0 j0 c j : Nat} {v : Int32} (hc : c ≠ c0) : (wI w c0 j0 v).1 c j = w.1 c j := by
  show (bif yat c0 j0 c j then v else w.1 c j) = _
  rw [yat_ne (fun e => hc e.1)]
  rfl
theorem yc1 {b : Bool} {x y : yW} {c j : Nat} : (bif b then x else y).1 c j = bif b then x.1 c j else y.1 c j := by cases b <;> rfl
def g_Mo_bind_52 (s i : Int32) (w : yW)  : yW := (bif zc .ge (w.1 59 i.toNatClampNeg) (w.1 61 s.toNatClampNeg) then wI w 61 s.toNatClampNeg (w.1 61 s.toNatClampNeg) else wI w 61 s.toNatClampNeg (w.1 59 i.toNatClampNeg))
set_option maxRecDepth 100000 in
theorem t_Mo_bind_52 {fr lo sz : Nat} {G : List zC} {r : Option Value × zH} (s i : Int32) (w : yW)  (hs : zIx s 65) (hi : zIx i 390) (hlo : 0 ≤ lo) (k : zRun (fr + 0) lo none M_Mo_bind (88, [(0, .ref 54), (1, .int s), (2, .int i)], []) (yhp (g_Mo_bind_52 s i w ) G sz) r) : zRun (fr + 0) lo none M_Mo_bind (52, [(0, .ref 54), (1, .int s), (2, .int i)], []) (yhp w G sz) r := by
  unfold g_Mo_bind_52 at k
  refine zeN (q := ((53, [(0, .ref 54), (1, .int s), (2, .int i)], [.ref 54]), yhp w G sz)) 1 rfl ?_
  refine ygf (kk := .inl (.ref 61)) (v := .ref 61) rfl rfl rfl rfl rfl rfl rfl ?_
  refine zeN (q := ((58, [(0, .ref 54), (1, .int s), (2, .int i)], [.ref 54, .int s, .ref 61]), yhp w G sz)) 2 rfl ?_
  refine ygf (kk := .inl (.ref 59)) (v := .ref 59) rfl rfl rfl rfl rfl rfl rfl ?_
  refine zeN (q := ((62, [(0, .ref 54), (1, .int s), (2, .int i)], [.int i, .ref 59, .int s, .ref 61]), yhp w G sz)) 1 rfl ?_
  refine yia (N := 390) rfl rfl rfl (by assumption) ?_
  refine zeN (q := ((64, [(0, .ref 54), (1, .int s), (2, .int i)], [.ref 54, .int (w.1 59 i.toNatClampNeg), .int s, .ref 61]), yhp w G sz)) 1 rfl ?_
  refine ygf (kk := .inl (.ref 61)) (v := .ref 61) rfl rfl rfl rfl rfl rfl rfl ?_
  refine zeN (q := ((68, [(0, .ref 54), (1, .int s), (2, .int i)], [.int s, .ref 61, .int (w.1 59 i.toNatClampNeg), .int s, .ref 61]), yhp w G sz)) 1 rfl ?_
  refine yia (N := 65) rfl rfl rfl (by assumption) ?_
  refine zbc (q1 := (81, [(0, .ref 54), (1, .int s), (2, .int i)], [.int s, .ref 61])) (q2 := (72, [(0, .ref 54), (1, .int s), (2, .int i)], [.int s, .ref 61])) (cB := zc .ge (w.1 59 i.toNatClampNeg) (w.1 61 s.toNatClampNeg)) (off := 12) (lv := [(0, .ref 54), (1, .int s), (2, .int i)]) (st := [.int s, .ref 61]) rfl rfl rfl rfl rfl (fun c69 => ?_) (fun c69 => ?_)
  · rw [c69] at k
    refine zeN (q := ((82, [(0, .ref 54), (1, .int s), (2, .int i)], [.ref 54, .int s, .ref 61]), yhp w G sz)) 1 rfl ?_
    refine ygf (kk := .inl (.ref 61)) (v := .ref 61) rfl rfl rfl rfl rfl rfl rfl ?_
    refine zeN (q := ((86, [(0, .ref 54), (1, .int s), (2, .int i)], [.int s, .ref 61, .int s, .ref 61]), yhp w G sz)) 1 rfl ?_
    refine yia (N := 65) rfl rfl rfl (by assumption) ?_
    refine yis (N := 65) rfl rfl rfl (by assumption) ?_
    exact k
  · rw [c69] at k
    refine zeN (q := ((73, [(0, .ref 54), (1, .int s), (2, .int i)], [.ref 54, .int s, .ref 61]), yhp w G sz)) 1 rfl ?_
    refine ygf (kk := .inl (.ref 59)) (v := .ref 59) rfl rfl rfl rfl rfl rfl rfl ?_
    refine zeN (q := ((77, [(0, .ref 54), (1, .int s), (2, .int i)], [.int i, .ref 59, .int s, .ref 61]), yhp w G sz)) 1 rfl ?_
    refine yia (N := 390) rfl rfl rfl (by assumption) ?_
    refine zeN (q := ((87, [(0, .ref 54), (1, .int s), (2, .int i)], [.int (w.1 59 i.toNatClampNeg), .int s, .ref 61]), yhp w G sz)) 1 rfl ?_
    refine yis (N := 65) rfl rfl rfl (by assumption) ?_
    exact k
def g_Mo_bind_88 (s i : Int32) (w : yW)  : yW := (bif zc .le (w.1 59 i.toNatClampNeg) (w.1 62 s.toNatClampNeg) then wI w 62 s.toNatClampNeg (w.1 62 s.toNatClampNeg) else wI w 62 s.toNatClampNeg (w.1 59 i.toNatClampNeg))
set_option maxRecDepth 100000 in
theorem t_Mo_bind_88 {fr lo sz : Nat} {G : List zC} {r : Option Value × zH} (s i : Int32) (w : yW)  (hs : zIx s 65) (hi : zIx i 390) (hlo : 0 ≤ lo) (k : zRun (fr + 0) lo none M_Mo_bind (124, [(0, .ref 54), (1, .int s), (2, .int i)], []) (yhp (g_Mo_bind_88 s i w ) G sz) r) : zRun (fr + 0) lo none M_Mo_bind (88, [(0, .ref 54), (1, .int s), (2, .int i)], []) (yhp w G sz) r := by
  unfold g_Mo_bind_88 at k
  refine zeN (q := ((89, [(0, .ref 54), (1, .int s), (2, .int i)], [.ref 54]), yhp w G sz)) 1 rfl ?_
  refine ygf (kk := .inl (.ref 62)) (v := .ref 62) rfl rfl rfl rfl rfl rfl rfl ?_
  refine zeN (q := ((94, [(0, .ref 54), (1, .int s), (2, .int i)], [.ref 54, .int s, .ref 62]), yhp w G sz)) 2 rfl ?_
  refine ygf (kk := .inl (.ref 59)) (v := .ref 59) rfl rfl rfl rfl rfl rfl rfl ?_
  refine zeN (q := ((98, [(0, .ref 54), (1, .int s), (2, .int i)], [.int i, .ref 59, .int s, .ref 62]), yhp w G sz)) 1 rfl ?_
  refine yia (N := 390) rfl rfl rfl (by assumption) ?_
  refine zeN (q := ((100, [(0, .ref 54), (1, .int s), (2, .int i)], [.ref 54, .int (w.1 59 i.toNatClampNeg), .int s, .ref 62]), yhp w G sz)) 1 rfl ?_
  refine ygf (kk := .inl (.ref 62)) (v := .ref 62) rfl rfl rfl rfl rfl rfl rfl ?_
  refine zeN (q := ((104, [(0, .ref 54), (1, .int s), (2, .int i)], [.int s, .ref 62, .int (w.1 59 i.toNatClampNeg), .int s, .ref 62]), yhp w G sz)) 1 rfl ?_
  refine yia (N := 65) rfl rfl rfl (by assumption) ?_
  refine zbc (q1 := (117, [(0, .ref 54), (1, .int s), (2, .int i)], [.int s, .ref 62])) (q2 := (108, [(0, .ref 54), (1, .int s), (2, .int i)], [.int s, .ref 62])) (cB := zc .le (w.1 59 i.toNatClampNeg) (w.1 62 s.toNatClampNeg)) (off := 12) (lv := [(0, .ref 54), (1, .int s), (2, .int i)]) (st := [.int s, .ref 62]) rfl rfl rfl rfl rfl (fun c105 => ?_) (fun c105 => ?_)
  · rw [c105] at k
    refine zeN (q := ((118, [(0, .ref 54), (1, .int s), (2, .int i)], [.ref 54, .int s, .ref 62]), yhp w G sz)) 1 rfl ?_
    refine ygf (kk := .inl (.ref 62)) (v := .ref 62) rfl rfl rfl rfl rfl rfl rfl ?_
    refine zeN (q := ((122, [(0, .ref 54), (1, .int s), (2, .int i)], [.int s, .ref 62, .int s, .ref 62]), yhp w G sz)) 1 rfl ?_
    refine yia (N := 65) rfl rfl rfl (by assumption) ?_
    refine yis (N := 65) rfl rfl rfl (by assumption) ?_
    exact k
  · rw [c105] at k
    refine zeN (q := ((109, [(0, .ref 54), (1, .int s), (2, .int i)], [.ref 54, .int s, .ref 62]), yhp w G sz)) 1 rfl ?_
    refine ygf (kk := .inl (.ref 59)) (v := .ref 59) rfl rfl rfl rfl rfl rfl rfl ?_
    refine zeN (q := ((113, [(0, .ref 54), (1, .int s), (2, .int i)], [.int i, .ref 59, .int s, .ref 62]), yhp w G sz)) 1 rfl ?_
    refine yia (N := 390) rfl rfl rfl (by assumption) ?_
    refine zeN (q := ((123, [(0, .ref 54), (1, .int s), (2, .int i)], [.int (w.1 59 i.toNatClampNeg), .int s, .ref 62]), yhp w G sz)) 1 rfl ?_
    refine yis (N := 65) rfl rfl rfl (by assumption) ?_
    exact k
def g_Mo_bind_124 (s i : Int32) (w : yW)  : yW := (bif zc .ge (w.1 60 i.toNatClampNeg) (w.1 63 s.toNatClampNeg) then wI w 63 s.toNatClampNeg (w.1 63 s.toNatClampNeg) else wI w 63 s.toNatClampNeg (w.1 60 i.toNatClampNeg))
set_option maxRecDepth 100000 in
theorem t_Mo_bind_124 {fr lo sz : Nat} {G : List zC} {r : Option Value × zH} (s i : Int32) (w : yW)  (hs : zIx s 65) (hi : zIx i 390) (hlo : 0 ≤ lo) (k : zRun (fr + 0) lo none M_Mo_bind (160, [(0, .ref 54), (1, .int s), (2, .int i)], []) (yhp (g_Mo_bind_124 s i w ) G sz) r) : zRun (fr + 0) lo none M_Mo_bind (124, [(0, .ref 54), (1, .int s), (2, .int i)], []) (yhp w G sz) r := by
  unfold g_Mo_bind_124 at k
  refine zeN (q := ((125, [(0, .ref 54), (1, .int s), (2, .int i)], [.ref 54]), yhp w G sz)) 1 rfl ?_
  refine ygf (kk := .inl (.ref 63)) (v := .ref 63) rfl rfl rfl rfl rfl rfl rfl ?_
  refine zeN (q := ((130, [(0, .ref 54), (1, .int s), (2, .int i)], [.ref 54, .int s, .ref 63]), yhp w G sz)) 2 rfl ?_
  refine ygf (kk := .inl (.ref 60)) (v := .ref 60) rfl rfl rfl rfl rfl rfl rfl ?_
  refine zeN (q := ((134, [(0, .ref 54), (1, .int s), (2, .int i)], [.int i, .ref 60, .int s, .ref 63]), yhp w G sz)) 1 rfl ?_
  refine yia (N := 390) rfl rfl rfl (by assumption) ?_
  refine zeN (q := ((136, [(0, .ref 54), (1, .int s), (2, .int i)], [.ref 54, .int (w.1 60 i.toNatClampNeg), .int s, .ref 63]), yhp w G sz)) 1 rfl ?_
  refine ygf (kk := .inl (.ref 63)) (v := .ref 63) rfl rfl rfl rfl rfl rfl rfl ?_
  refine zeN (q := ((140, [(0, .ref 54), (1, .int s), (2, .int i)], [.int s, .ref 63, .int (w.1 60 i.toNatClampNeg), .int s, .ref 63]), yhp w G sz)) 1 rfl ?_
  refine yia (N := 65) rfl rfl rfl (by assumption) ?_
  refine zbc (q1 := (153, [(0, .ref 54), (1, .int s), (2, .int i)], [.int s, .ref 63])) (q2 := (144, [(0, .ref 54), (1, .int s), (2, .int i)], [.int s, .ref 63])) (cB := zc .ge (w.1 60 i.toNatClampNeg) (w.1 63 s.toNatClampNeg)) (off := 12) (lv := [(0, .ref 54), (1, .int s), (2, .int i)]) (st := [.int s, .ref 63]) rfl rfl rfl rfl rfl (fun c141 => ?_) (fun c141 => ?_)
  · rw [c141] at k
    refine zeN (q := ((154, [(0, .ref 54), (1, .int s), (2, .int i)], [.ref 54, .int s, .ref 63]), yhp w G sz)) 1 rfl ?_
    refine ygf (kk := .inl (.ref 63)) (v := .ref 63) rfl rfl rfl rfl rfl rfl rfl ?_
    refine zeN (q := ((158, [(0, .ref 54), (1, .int s), (2, .int i)], [.int s, .ref 63, .int s, .ref 63]), yhp w G sz)) 1 rfl ?_
    refine yia (N := 65) rfl rfl rfl (by assumption) ?_
    refine yis (N := 65) rfl rfl rfl (by assumption) ?_
    exact k
  · rw [c141] at k
    refine zeN (q := ((145, [(0, .ref 54), (1, .int s), (2, .int i)], [.ref 54, .int s, .ref 63]), yhp w G sz)) 1 rfl ?_
    refine ygf (kk := .inl (.ref 60)) (v := .ref 60) rfl rfl rfl rfl rfl rfl rfl ?_
    refine zeN (q := ((149, [(0, .ref 54), (1, .int s), (2, .int i)], [.int i, .ref 60, .int s, .ref 63]), yhp w G sz)) 1 rfl ?_
    refine yia (N := 390) rfl rfl rfl (by assumption) ?_
    refine zeN (q := ((159, [(0, .ref 54), (1, .int s), (2, .int i)], [.int (w.1 60 i.toNatClampNeg), .int s, .ref 63]), yhp w G sz)) 1 rfl ?_
    refine yis (N := 65) rfl rfl rfl (by assumption) ?_
    exact k
def g_Mo_bind_160 (s i : Int32) (w : yW)  : yW := (bif zc .le (w.1 60 i.toNatClampNeg) (w.1 64 s.toNatClampNeg) then wI w 64 s.toNatClampNeg (w.1 64 s.toNatClampNeg) else wI w 64 s.toNatClampNeg (w.1 60 i.toNatClampNeg))
set_option maxRecDepth 100000 in
theorem t_Mo_bind_160 {fr lo sz : Nat} {G : List zC} {r : Option Value × zH} (s i : Int32) (w : yW)  (hs : zIx s 65) (hi : zIx i 390) (hlo : 0 ≤ lo) (k : zRun (fr + 0) lo none M_Mo_bind (196, [(0, .ref 54), (1, .int s), (2, .int i)], []) (yhp (g_Mo_bind_160 s i w ) G sz) r) : zRun (fr + 0) lo none M_Mo_bind (160, [(0, .ref 54), (1, .int s), (2, .int i)], []) (yhp w G sz) r := by
  unfold g_Mo_bind_160 at k
  refine zeN (q := ((161, [(0, .ref 54), (1, .int s), (2, .int i)], [.ref 54]), yhp w G sz)) 1 rfl ?_
  refine ygf (kk := .inl (.ref 64)) (v := .ref 64) rfl rfl rfl rfl rfl rfl rfl ?_
  refine zeN (q := ((166, [(0, .ref 54), (1, .int s), (2, .int i)], [.ref 54, .int s, .ref 64]), yhp w G sz)) 2 rfl ?_
  refine ygf (kk := .inl (.ref 60)) (v := .ref 60) rfl rfl rfl rfl rfl rfl rfl ?_
  refine zeN (q := ((170, [(0, .ref 54), (1, .int s), (2, .int i)], [.int i, .ref 60, .int s, .ref 64]), yhp w G sz)) 1 rfl ?_
  refine yia (N := 390) rfl rfl rfl (by assumption) ?_
  refine zeN (q := ((172, [(0, .ref 54), (1, .int s), (2, .int i)], [.ref 54, .int (w.1 60 i.toNatClampNeg), .int s, .ref 64]), yhp w G sz)) 1 rfl ?_
  refine ygf (kk := .inl (.ref 64)) (v := .ref 64) rfl rfl rfl rfl rfl rfl rfl ?_
  refine zeN (q := ((176, [(0, .ref 54), (1, .int s), (2, .int i)], [.int s, .ref 64, .int (w.1 60 i.toNatClampNeg), .int s, .ref 64]), yhp w G sz)) 1 rfl ?_
  refine yia (N := 65) rfl rfl rfl (by assumption) ?_
  refine zbc (q1 := (189, [(0, .ref 54), (1, .int s), (2, .int i)], [.int s, .ref 64])) (q2 := (180, [(0, .ref 54), (1, .int s), (2, .int i)], [.int s, .ref 64])) (cB := zc .le (w.1 60 i.toNatClampNeg) (w.1 64 s.toNatClampNeg)) (off := 12) (lv := [(0, .ref 54), (1, .int s), (2, .int i)]) (st := [.int s, .ref 64]) rfl rfl rfl rfl rfl (fun c177 => ?_) (fun c177 => ?_)
  · rw [c177] at k
    refine zeN (q := ((190, [(0, .ref 54), (1, .int s), (2, .int i)], [.ref 54, .int s, .ref 64]), yhp w G sz)) 1 rfl ?_
    refine ygf (kk := .inl (.ref 64)) (v := .ref 64) rfl rfl rfl rfl rfl rfl rfl ?_
    refine zeN (q := ((194, [(0, .ref 54), (1, .int s), (2, .int i)], [.int s, .ref 64, .int s, .ref 64]), yhp w G sz)) 1 rfl ?_
    refine yia (N := 65) rfl rfl rfl (by assumption) ?_
    refine yis (N := 65) rfl rfl rfl (by assumption) ?_
    exact k
  · rw [c177] at k
    refine zeN (q := ((181, [(0, .ref 54), (1, .int s), (2, .int i)], [.ref 54, .int s, .ref 64]), yhp w G sz)) 1 rfl ?_
    refine ygf (kk := .inl (.ref 60)) (v := .ref 60) rfl rfl rfl rfl rfl rfl rfl ?_
    refine zeN (q := ((185, [(0, .ref 54), (1, .int s), (2, .int i)], [.int i, .ref 60, .int s, .ref 64]), yhp w G sz)) 1 rfl ?_
    refine yia (N := 390) rfl rfl rfl (by assumption) ?_
    refine zeN (q := ((195, [(0, .ref 54), (1, .int s), (2, .int i)], [.int (w.1 60 i.toNatClampNeg), .int s, .ref 64]), yhp w G sz)) 1 rfl ?_
    refine yis (N := 65) rfl rfl rfl (by assumption) ?_
    exact k
theorem u_Mo_bind_52 (s i : Int32) (w : yW) (c j : Nat) (hc : c ≠ 61) : (g_Mo_bind_52 s i w).1 c j = w.1 c j := by simp only [g_Mo_bind_52, yc1, wI_ne hc, Bool.cond_self]
theorem u_Mo_bind_88 (s i : Int32) (w : yW) (c j : Nat) (hc : c ≠ 62) : (g_Mo_bind_88 s i w).1 c j = w.1 c j := by simp only [g_Mo_bind_88, yc1, wI_ne hc, Bool.cond_self]
theorem u_Mo_bind_124 (s i : Int32) (w : yW) (c j : Nat) (hc : c ≠ 63) : (g_Mo_bind_124 s i w).1 c j = w.1 c j := by simp only [g_Mo_bind_124, yc1, wI_ne hc, Bool.cond_self]
theorem u_Mo_bind_160 (s i : Int32) (w : yW) (c j : Nat) (hc : c ≠ 64) : (g_Mo_bind_160 s i w).1 c j = w.1 c j := by simp only [g_Mo_bind_160, yc1, wI_ne hc, Bool.cond_self]
def g_Mo_bind_37 (s mv : Int32) : Nat → yW → Int32 → yW
  | 0, w, i => w
  | n + 1, w, i => (bif zc .ge i ((6 * s) + (w.1 58 s.toNatClampNeg)) then w else g_Mo_bind_37 s mv n ((g_Mo_bind_160 s i  ((g_Mo_bind_124 s i  ((g_Mo_bind_88 s i  ((g_Mo_bind_52 s i  w )) )) )) )) (i + Int32.ofInt 1))
set_option maxRecDepth 100000 in
theorem t_Mo_bind_37 {fr lo sz : Nat} {G : List zC} {r : Option Value × zH} (s mv : Int32) (hs : zIx s 65) (hm : (6 * s + mv).toInt ≤ 390) (hlo : 0 ≤ lo) : ∀ (n : Nat) (w : yW) (i : Int32) (hmv : w.1 58 s.toNatClampNeg = mv) (h0 : 0 ≤ i.toInt) (h1 : i.toInt ≤ 390) (hn : 390 < i.toInt + n) (k : zRun (fr + 0) lo none M_Mo_bind (202, [(0, .ref 54), (1, .int s)], []) (yhp (g_Mo_bind_37 s mv n w i) G sz) r), zRun (fr + 0) lo none M_Mo_bind (37, [(0, .ref 54), (1, .int s), (2, .int i)], []) (yhp w G sz) r := by
  intro n
  induction n with
  | zero => intro w i hmv h0 h1 hn k; exfalso; omega
  | succ n ih =>
    intro w i hmv h0 h1 hn k
    rw [g_Mo_bind_37] at k
    refine zeN (q := ((43, [(0, .ref 54), (1, .int s), (2, .int i)], [.ref 54, .int (6 * s), .int i]), yhp w G sz)) 5 rfl ?_
    refine ygf (kk := .inl (.ref 58)) (v := .ref 58) rfl rfl rfl rfl rfl rfl rfl ?_
    refine zeN (q := ((47, [(0, .ref 54), (1, .int s), (2, .int i)], [.int s, .ref 58, .int (6 * s), .int i]), yhp w G sz)) 1 rfl ?_
    refine yia (N := 65) rfl rfl rfl (by assumption) ?_
    refine zeN (q := ((49, [(0, .ref 54), (1, .int s), (2, .int i)], [.int ((6 * s) + (w.1 58 s.toNatClampNeg)), .int i]), yhp w G sz)) 1 rfl ?_
    refine zbc (q1 := (202, [(0, .ref 54), (1, .int s), (2, .int i)], [])) (q2 := (52, [(0, .ref 54), (1, .int s), (2, .int i)], [])) (cB := zc .ge i ((6 * s) + (w.1 58 s.toNatClampNeg))) (off := 153) (lv := [(0, .ref 54), (1, .int s), (2, .int i)]) (st := []) rfl rfl rfl rfl rfl (fun c49 => ?_) (fun c49 => ?_)
    · rw [c49] at k
      refine zeS [(0, .ref 54), (1, .int s)] (zsub_pick [0, 1] rfl rfl) ?_
      exact k
    · rw [c49] at k
      rw [hmv] at c49
      have hcc := of_decide_eq_false (z_ge c49).symm
      have hi : zIx i 390 := ⟨h0, by omega⟩
      have hi1 := z_inc (a := i) (by omega) (by omega)
      refine t_Mo_bind_52 s i w  hs hi (by omega) ?_
      refine t_Mo_bind_88 s i ((g_Mo_bind_52 s i  w ))  hs hi (by omega) ?_
      refine t_Mo_bind_124 s i ((g_Mo_bind_88 s i  ((g_Mo_bind_52 s i  w )) ))  hs hi (by omega) ?_
      refine t_Mo_bind_160 s i ((g_Mo_bind_124 s i  ((g_Mo_bind_88 s i  ((g_Mo_bind_52 s i  w )) )) ))  hs hi (by omega) ?_
      refine zeN (q := ((37, [(2, .int (i + Int32.ofInt 1)), (0, .ref 54), (1, .int s)], []), yhp ((g_Mo_bind_160 s i  ((g_Mo_bind_124 s i  ((g_Mo_bind_88 s i  ((g_Mo_bind_52 s i  w )) )) )) )) G sz)) 2 rfl ?_
      refine zeS [(0, .ref 54), (1, .int s), (2, .int (i + Int32.ofInt 1))] (zsub_pick [1, 2, 0] rfl rfl) ?_
      exact ih ((g_Mo_bind_160 s i  ((g_Mo_bind_124 s i  ((g_Mo_bind_88 s i  ((g_Mo_bind_52 s i  w )) )) )) )) (i + Int32.ofInt 1) (by rw [u_Mo_bind_160 _ _ _ 58 _ (by decide), u_Mo_bind_124 _ _ _ 58 _ (by decide), u_Mo_bind_88 _ _ _ 58 _ (by decide), u_Mo_bind_52 _ _ _ 58 _ (by decide)]; exact hmv) (by omega) (by omega) (by omega) k
def e_Mo_bind (s mv : Int32) (w : yW) : yW := (g_Mo_bind_37 s mv 391 (wI (wI (wI (wI w 61 s.toNatClampNeg 255) 62 s.toNatClampNeg 0) 63 s.toNatClampNeg 255) 64 s.toNatClampNeg 0) (6 * s))
set_option maxRecDepth 100000 in
theorem r_Mo_bind {fr lo sz : Nat} {G : List zC} (s mv : Int32) (w : yW) (hs : zIx s 65) (hmv : w.1 58 s.toNatClampNeg = mv) (hm : (6 * s + mv).toInt ≤ 390) (hlo : 22 ≤ lo) : zAns (fr + 1) lo 107 [.ref 54, .int s] (yhp w G sz) (none, yhp (e_Mo_bind s mv w) G sz) := by
  unfold e_Mo_bind
  refine zeb (fr := fr + 0) (M := M_Mo_bind) rfl (Nat.le_trans (by decide) hlo) rfl ?_
  have e0 : mL M_Mo_bind = 3 := rfl
  refine zeN (q := ((1, [(0, .ref 54), (1, .int s)], [.ref 54]), yhp w G sz)) 1 rfl ?_
  refine ygf (kk := .inl (.ref 61)) (v := .ref 61) rfl rfl rfl rfl rfl rfl rfl ?_
  refine zeN (q := ((8, [(0, .ref 54), (1, .int s)], [.int 255, .int s, .ref 61]), yhp w G sz)) 2 rfl ?_
  refine yis (N := 65) rfl rfl rfl (by assumption) ?_
  refine zeN (q := ((10, [(0, .ref 54), (1, .int s)], [.ref 54]), yhp (wI w 61 s.toNatClampNeg 255) G sz)) 1 rfl ?_
  refine ygf (kk := .inl (.ref 62)) (v := .ref 62) rfl rfl rfl rfl rfl rfl rfl ?_
  refine zeN (q := ((15, [(0, .ref 54), (1, .int s)], [.int 0, .int s, .ref 62]), yhp (wI w 61 s.toNatClampNeg 255) G sz)) 2 rfl ?_
  refine yis (N := 65) rfl rfl rfl (by assumption) ?_
  refine zeN (q := ((17, [(0, .ref 54), (1, .int s)], [.ref 54]), yhp (wI (wI w 61 s.toNatClampNeg 255) 62 s.toNatClampNeg 0) G sz)) 1 rfl ?_
  refine ygf (kk := .inl (.ref 63)) (v := .ref 63) rfl rfl rfl rfl rfl rfl rfl ?_
  refine zeN (q := ((24, [(0, .ref 54), (1, .int s)], [.int 255, .int s, .ref 63]), yhp (wI (wI w 61 s.toNatClampNeg 255) 62 s.toNatClampNeg 0) G sz)) 2 rfl ?_
  refine yis (N := 65) rfl rfl rfl (by assumption) ?_
  refine zeN (q := ((26, [(0, .ref 54), (1, .int s)], [.ref 54]), yhp (wI (wI (wI w 61 s.toNatClampNeg 255) 62 s.toNatClampNeg 0) 63 s.toNatClampNeg 255) G sz)) 1 rfl ?_
  refine ygf (kk := .inl (.ref 64)) (v := .ref 64) rfl rfl rfl rfl rfl rfl rfl ?_
  refine zeN (q := ((31, [(0, .ref 54), (1, .int s)], [.int 0, .int s, .ref 64]), yhp (wI (wI (wI w 61 s.toNatClampNeg 255) 62 s.toNatClampNeg 0) 63 s.toNatClampNeg 255) G sz)) 2 rfl ?_
  refine yis (N := 65) rfl rfl rfl (by assumption) ?_
  have e6 : (6 * s).toInt = 6 * s.toInt := z_mul (by show _ ≤ (6 : Int) * s.toInt; have := hs.1; omega) (by show (6 : Int) * s.toInt < _; have := hs.2; omega)
  have hs0 := hs.1
  have hs1 := hs.2
  refine zeN (q := ((37, [(2, .int (6 * s)), (0, .ref 54), (1, .int s)], []), yhp (wI (wI (wI (wI w 61 s.toNatClampNeg 255) 62 s.toNatClampNeg 0) 63 s.toNatClampNeg 255) 64 s.toNatClampNeg 0) G sz)) 4 rfl ?_
  refine zeS [(0, .ref 54), (1, .int s), (2, .int (6 * s))] (zsub_pick [1, 2, 0] rfl rfl) ?_
  refine t_Mo_bind_37 s mv hs hm (by omega) 391 (wI (wI (wI (wI w 61 s.toNatClampNeg 255) 62 s.toNatClampNeg 0) 63 s.toNatClampNeg 255) 64 s.toNatClampNeg 0) (6 * s) hmv (by rw [e6]; omega) (by rw [e6]; omega) (by rw [e6]; omega) ?_
  exact zer rfl rfl
end
section
theorem zIx_six6 {s i : Int32} (h0 : 0 ≤ s.toInt) (h1 : s.toInt < 65) (h2 : 0 ≤ i.toInt) (h3 : i.toInt < 6) : zIx (6 * s + i) 390 := by
  have e : (6 * s).toInt = 6 * s.toInt := z_mul (by show _ ≤ (6 : Int) * s.toInt; omega) (by show (6 : Int) * s.toInt < _; omega)
  have e2 : (6 * s + i).toInt = 6 * s.toInt + i.toInt := by rw [z_add (by rw [e]; omega) (by rw [e]; omega), e]
  unfold zIx
  rw [e2]
  omega
theorem z_six {s : Int32} (h0 : 0 ≤ s.toInt) (h1 : s.toInt < 65) {k : Int32} (k0 : 0 ≤ k.toInt) (k1 : k.toInt ≤ 6) : (6 * s + k).toInt = 6 * s.toInt + k.toInt := by
  have e : (6 * s).toInt = 6 * s.toInt := z_mul (by show _ ≤ (6 : Int) * s.toInt; omega) (by show (6 : Int) * s.toInt < _; omega)
  rw [z_add (by rw [e]; omega) (by rw [e]; omega), e]
def g_Mo_copyShape_26 (a b : Int32) : Nat → yW → Int32 → yW
  | 0, w, i => w
  | n + 1, w, i => (bif zc .ge i 6 then w else g_Mo_copyShape_26 a b n (wI (wI w 59 ((6 * b) + i).toNatClampNeg (w.1 59 ((6 * a) + i).toNatClampNeg)) 60 ((6 * b) + i).toNatClampNeg ((wI w 59 ((6 * b) + i).toNatClampNeg (w.1 59 ((6 * a) + i).toNatClampNeg)).1 60 ((6 * a) + i).toNatClampNeg)) (i + Int32.ofInt 1))
set_option maxRecDepth 100000 in
theorem t_Mo_copyShape_26 {fr lo sz : Nat} {G : List zC} {r : Option Value × zH} (a b : Int32) (ha : zIx a 65) (hb : zIx b 65) (hlo : 22 ≤ lo) : ∀ (n : Nat) (w : yW) (i : Int32) (h0 : 0 ≤ i.toInt) (h1 : i.toInt ≤ 6) (hn : 6 < i.toInt + n) (k : zRun (fr + 1) lo none M_Mo_copyShape (82, [(0, .ref 54), (1, .int a), (2, .int b)], []) (yhp (g_Mo_copyShape_26 a b n w i) G sz) r), zRun (fr + 1) lo none M_Mo_copyShape (26, [(0, .ref 54), (1, .int a), (2, .int b), (3, .int i)], []) (yhp w G sz) r := by
  intro n
  induction n with
  | zero => intro w i h0 h1 hn k; exfalso; omega
  | succ n ih =>
    intro w i h0 h1 hn k
    rw [g_Mo_copyShape_26] at k
    refine zeN (q := ((29, [(0, .ref 54), (1, .int a), (2, .int b), (3, .int i)], [.int 6, .int i]), yhp w G sz)) 2 rfl ?_
    refine zbc (q1 := (82, [(0, .ref 54), (1, .int a), (2, .int b), (3, .int i)], [])) (q2 := (32, [(0, .ref 54), (1, .int a), (2, .int b), (3, .int i)], [])) (cB := zc .ge i 6) (off := 53) (lv := [(0, .ref 54), (1, .int a), (2, .int b), (3, .int i)]) (st := []) rfl rfl rfl rfl rfl (fun c29 => ?_) (fun c29 => ?_)
    · rw [c29] at k
      refine zeS [(0, .ref 54), (1, .int a), (2, .int b)] (zsub_pick [0, 1, 2] rfl rfl) ?_
      exact k
    · rw [c29] at k
      have hcc : ¬ (6 : Int) ≤ i.toInt := of_decide_eq_false (z_ge c29).symm
      have hA : zIx (6 * a + i) 390 := zIx_six6 ha.1 ha.2 h0 (by omega)
      have hB : zIx (6 * b + i) 390 := zIx_six6 hb.1 hb.2 h0 (by omega)
      have hi1 := z_inc (a := i) (by omega) (by omega)
      refine zeN (q := ((33, [(0, .ref 54), (1, .int a), (2, .int b), (3, .int i)], [.ref 54]), yhp w G sz)) 1 rfl ?_
      refine ygf (kk := .inl (.ref 59)) (v := .ref 59) rfl rfl rfl rfl rfl rfl rfl ?_
      refine zeN (q := ((43, [(0, .ref 54), (1, .int a), (2, .int b), (3, .int i)], [.ref 54, .int ((6 * b) + i), .ref 59]), yhp w G sz)) 6 rfl ?_
      refine ygf (kk := .inl (.ref 59)) (v := .ref 59) rfl rfl rfl rfl rfl rfl rfl ?_
      refine zeN (q := ((52, [(0, .ref 54), (1, .int a), (2, .int b), (3, .int i)], [.int ((6 * a) + i), .ref 59, .int ((6 * b) + i), .ref 59]), yhp w G sz)) 5 rfl ?_
      refine yia (N := 390) rfl rfl rfl (by assumption) ?_
      refine yis (N := 390) rfl rfl rfl (by assumption) ?_
      refine zeN (q := ((55, [(0, .ref 54), (1, .int a), (2, .int b), (3, .int i)], [.ref 54]), yhp (wI w 59 ((6 * b) + i).toNatClampNeg (w.1 59 ((6 * a) + i).toNatClampNeg)) G sz)) 1 rfl ?_
      refine ygf (kk := .inl (.ref 60)) (v := .ref 60) rfl rfl rfl rfl rfl rfl rfl ?_
      refine zeN (q := ((65, [(0, .ref 54), (1, .int a), (2, .int b), (3, .int i)], [.ref 54, .int ((6 * b) + i), .ref 60]), yhp (wI w 59 ((6 * b) + i).toNatClampNeg (w.1 59 ((6 * a) + i).toNatClampNeg)) G sz)) 6 rfl ?_
      refine ygf (kk := .inl (.ref 60)) (v := .ref 60) rfl rfl rfl rfl rfl rfl rfl ?_
      refine zeN (q := ((74, [(0, .ref 54), (1, .int a), (2, .int b), (3, .int i)], [.int ((6 * a) + i), .ref 60, .int ((6 * b) + i), .ref 60]), yhp (wI w 59 ((6 * b) + i).toNatClampNeg (w.1 59 ((6 * a) + i).toNatClampNeg)) G sz)) 5 rfl ?_
      refine yia (N := 390) rfl rfl rfl (by assumption) ?_
      refine yis (N := 390) rfl rfl rfl (by assumption) ?_
      refine zeN (q := ((26, [(3, .int (i + Int32.ofInt 1)), (0, .ref 54), (1, .int a), (2, .int b)], []), yhp (wI (wI w 59 ((6 * b) + i).toNatClampNeg (w.1 59 ((6 * a) + i).toNatClampNeg)) 60 ((6 * b) + i).toNatClampNeg ((wI w 59 ((6 * b) + i).toNatClampNeg (w.1 59 ((6 * a) + i).toNatClampNeg)).1 60 ((6 * a) + i).toNatClampNeg)) G sz)) 2 rfl ?_
      refine zeS [(0, .ref 54), (1, .int a), (2, .int b), (3, .int (i + Int32.ofInt 1))] (zsub_pick [1, 2, 3, 0] rfl rfl) ?_
      exact ih (wI (wI w 59 ((6 * b) + i).toNatClampNeg (w.1 59 ((6 * a) + i).toNatClampNeg)) 60 ((6 * b) + i).toNatClampNeg ((wI w 59 ((6 * b) + i).toNatClampNeg (w.1 59 ((6 * a) + i).toNatClampNeg)).1 60 ((6 * a) + i).toNatClampNeg)) (i + Int32.ofInt 1) (by omega) (by omega) (by omega) k
theorem u_Mo_copyShape_26 (a b : Int32) (c j : Nat) (h1 : c ≠ 59) (h2 : c ≠ 60) : ∀ (n : Nat) (w : yW) (i : Int32), (g_Mo_copyShape_26 a b n w i).1 c j = w.1 c j
  | 0, w, i => rfl
  | n + 1, w, i => by
    rw [g_Mo_copyShape_26, yc1, u_Mo_copyShape_26 a b c j h1 h2 n, wI_ne h2, wI_ne h1, Bool.cond_self]
def e_Mo_copyShape (a b mv : Int32) (w : yW) : yW := e_Mo_bind b mv ((g_Mo_copyShape_26 a b 7 (wI (wI w 57 b.toNatClampNeg (w.1 57 a.toNatClampNeg)) 58 b.toNatClampNeg ((wI w 57 b.toNatClampNeg (w.1 57 a.toNatClampNeg)).1 58 a.toNatClampNeg)) 0))
set_option maxRecDepth 100000 in
theorem r_Mo_copyShape {fr lo sz : Nat} {G : List zC} (a b mv : Int32) (w : yW) (ha : zIx a 65) (hb : zIx b 65) (hmv : w.1 58 a.toNatClampNeg = mv) (hv0 : 0 ≤ mv.toInt) (hv1 : mv.toInt ≤ 6) (hlo : 45 ≤ lo) : zAns (fr + 2) lo 111 [.ref 54, .int a, .int b] (yhp w G sz) (none, yhp (e_Mo_copyShape a b mv w) G sz) := by
  unfold e_Mo_copyShape
  refine zeb (fr := fr + 1) (M := M_Mo_copyShape) rfl (Nat.le_trans (by decide) hlo) rfl ?_
  have e0 : mL M_Mo_copyShape = 4 := rfl
  refine zeN (q := ((1, [(0, .ref 54), (1, .int a), (2, .int b)], [.ref 54]), yhp w G sz)) 1 rfl ?_
  refine ygf (kk := .inl (.ref 57)) (v := .ref 57) rfl rfl rfl rfl rfl rfl rfl ?_
  refine zeN (q := ((6, [(0, .ref 54), (1, .int a), (2, .int b)], [.ref 54, .int b, .ref 57]), yhp w G sz)) 2 rfl ?_
  refine ygf (kk := .inl (.ref 57)) (v := .ref 57) rfl rfl rfl rfl rfl rfl rfl ?_
  refine zeN (q := ((10, [(0, .ref 54), (1, .int a), (2, .int b)], [.int a, .ref 57, .int b, .ref 57]), yhp w G sz)) 1 rfl ?_
  refine yia (N := 65) rfl rfl rfl (by assumption) ?_
  refine yis (N := 65) rfl rfl rfl (by assumption) ?_
  refine zeN (q := ((13, [(0, .ref 54), (1, .int a), (2, .int b)], [.ref 54]), yhp (wI w 57 b.toNatClampNeg (w.1 57 a.toNatClampNeg)) G sz)) 1 rfl ?_
  refine ygf (kk := .inl (.ref 58)) (v := .ref 58) rfl rfl rfl rfl rfl rfl rfl ?_
  refine zeN (q := ((18, [(0, .ref 54), (1, .int a), (2, .int b)], [.ref 54, .int b, .ref 58]), yhp (wI w 57 b.toNatClampNeg (w.1 57 a.toNatClampNeg)) G sz)) 2 rfl ?_
  refine ygf (kk := .inl (.ref 58)) (v := .ref 58) rfl rfl rfl rfl rfl rfl rfl ?_
  refine zeN (q := ((22, [(0, .ref 54), (1, .int a), (2, .int b)], [.int a, .ref 58, .int b, .ref 58]), yhp (wI w 57 b.toNatClampNeg (w.1 57 a.toNatClampNeg)) G sz)) 1 rfl ?_
  refine yia (N := 65) rfl rfl rfl (by assumption) ?_
  refine yis (N := 65) rfl rfl rfl (by assumption) ?_
  refine zeN (q := ((26, [(3, .int 0), (0, .ref 54), (1, .int a), (2, .int b)], []), yhp (wI (wI w 57 b.toNatClampNeg (w.1 57 a.toNatClampNeg)) 58 b.toNatClampNeg ((wI w 57 b.toNatClampNeg (w.1 57 a.toNatClampNeg)).1 58 a.toNatClampNeg)) G sz)) 2 rfl ?_
  refine zeS [(0, .ref 54), (1, .int a), (2, .int b), (3, .int 0)] (zsub_pick [1, 2, 3, 0] rfl rfl) ?_
  refine t_Mo_copyShape_26 a b ha hb (by omega) 7 (wI (wI w 57 b.toNatClampNeg (w.1 57 a.toNatClampNeg)) 58 b.toNatClampNeg ((wI w 57 b.toNatClampNeg (w.1 57 a.toNatClampNeg)).1 58 a.toNatClampNeg)) 0 (by decide) (by decide) (by decide) ?_
  have hm : (6 * b + mv).toInt ≤ 390 := by rw [z_six hb.1 hb.2 hv0 hv1]; have := hb.2; omega
  have hmv2 := (u_Mo_copyShape_26 a b 58 b.toNatClampNeg (by decide) (by decide) 7 (wI (wI w 57 b.toNatClampNeg (w.1 57 a.toNatClampNeg)) 58 b.toNatClampNeg ((wI w 57 b.toNatClampNeg (w.1 57 a.toNatClampNeg)).1 58 a.toNatClampNeg)) 0).trans ((wI_self _ _ _ _).trans hmv)
  refine zeN (q := ((84, [(0, .ref 54), (1, .int a), (2, .int b)], [.int b, .ref 54]), yhp ((g_Mo_copyShape_26 a b 7 (wI (wI w 57 b.toNatClampNeg (w.1 57 a.toNatClampNeg)) 58 b.toNatClampNeg ((wI w 57 b.toNatClampNeg (w.1 57 a.toNatClampNeg)).1 58 a.toNatClampNeg)) 0)) G sz)) 2 rfl ?_
  refine zec 1 (M' := M_Mo_bind) (qq := ([.ref 54, .int b], [])) (s' := (87, [(0, .ref 54), (1, .int a), (2, .int b)], [])) rfl rfl (fun _ => rfl) rfl rfl (zhk rfl (zrc_ok (yhp_o rfl)) rfl) (r_Mo_bind b mv _ hb hmv2 hm (by omega)) rfl ?_
  exact zer rfl rfl
end
section
def g_Mo_reach_122 (ux uy vx vy al ln wx wy : Int64) (w : yW)  : yW × Int64 := (bif zc .gt (lg_cmp al 0) 0 then (bif zc .lt (lg_cmp al ln) 0 then (w, (((ux * vy) - (uy * vx)) * ((ux * vy) - (uy * vx)))) else (w, ((wx * wx) + (wy * wy)))) else (w, ((vx * vx) + (vy * vy))))
set_option maxRecDepth 100000 in
theorem t_Mo_reach_122 {fr lo sz : Nat} {G : List zC} {r : Option Value × zH} (ux uy vx vy al ln wx wy : Int64) (w : yW)   (hlo : 0 ≤ lo) (k : zRun (fr + 0) lo none M_Mo_reach (190, [(0, .ref 54), (4, .long ux), (6, .long uy), (8, .long vx), (10, .long vy), (12, .long al), (14, .long ln), (16, .long wx), (18, .long wy), (20, .long ((g_Mo_reach_122 ux uy vx vy al ln wx wy w ).2))], []) (yhp (g_Mo_reach_122 ux uy vx vy al ln wx wy w ).1 G sz) r) : zRun (fr + 0) lo none M_Mo_reach (122, [(0, .ref 54), (4, .long ux), (6, .long uy), (8, .long vx), (10, .long vy), (12, .long al), (14, .long ln), (16, .long wx), (18, .long wy)], []) (yhp w G sz) r := by
  unfold g_Mo_reach_122 at k
  refine zeN (q := ((126, [(0, .ref 54), (4, .long ux), (6, .long uy), (8, .long vx), (10, .long vy), (12, .long al), (14, .long ln), (16, .long wx), (18, .long wy)], [.int (lg_cmp al 0)]), yhp w G sz)) 3 rfl ?_
  refine zbc (q1 := (143, [(0, .ref 54), (4, .long ux), (6, .long uy), (8, .long vx), (10, .long vy), (12, .long al), (14, .long ln), (16, .long wx), (18, .long wy)], [])) (q2 := (129, [(0, .ref 54), (4, .long ux), (6, .long uy), (8, .long vx), (10, .long vy), (12, .long al), (14, .long ln), (16, .long wx), (18, .long wy)], [])) (cB := zc .gt (lg_cmp al 0) 0) (off := 17) (lv := [(0, .ref 54), (4, .long ux), (6, .long uy), (8, .long vx), (10, .long vy), (12, .long al), (14, .long ln), (16, .long wx), (18, .long wy)]) (st := []) rfl rfl rfl rfl rfl (fun c126 => ?_) (fun c126 => ?_)
  · rw [c126] at k
    refine zeN (q := ((148, [(0, .ref 54), (4, .long ux), (6, .long uy), (8, .long vx), (10, .long vy), (12, .long al), (14, .long ln), (16, .long wx), (18, .long wy)], [.int (lg_cmp al ln)]), yhp w G sz)) 3 rfl ?_
    refine zbc (q1 := (165, [(0, .ref 54), (4, .long ux), (6, .long uy), (8, .long vx), (10, .long vy), (12, .long al), (14, .long ln), (16, .long wx), (18, .long wy)], [])) (q2 := (151, [(0, .ref 54), (4, .long ux), (6, .long uy), (8, .long vx), (10, .long vy), (12, .long al), (14, .long ln), (16, .long wx), (18, .long wy)], [])) (cB := zc .lt (lg_cmp al ln) 0) (off := 17) (lv := [(0, .ref 54), (4, .long ux), (6, .long uy), (8, .long vx), (10, .long vy), (12, .long al), (14, .long ln), (16, .long wx), (18, .long wy)]) (st := []) rfl rfl rfl rfl rfl (fun c148 => ?_) (fun c148 => ?_)
    · rw [c148] at k
      refine zeN (q := ((190, [(20, .long (((ux * vy) - (uy * vx)) * ((ux * vy) - (uy * vx)))), (0, .ref 54), (4, .long ux), (6, .long uy), (8, .long vx), (10, .long vy), (12, .long al), (14, .long ln), (16, .long wx), (18, .long wy)], []), yhp w G sz)) 16 rfl ?_
      refine zeS [(0, .ref 54), (4, .long ux), (6, .long uy), (8, .long vx), (10, .long vy), (12, .long al), (14, .long ln), (16, .long wx), (18, .long wy), (20, .long (((ux * vy) - (uy * vx)) * ((ux * vy) - (uy * vx))))] (zsub_pick [1, 2, 3, 4, 5, 6, 7, 8, 9, 0] rfl rfl) ?_
      exact k
    · rw [c148] at k
      refine zeN (q := ((190, [(20, .long ((wx * wx) + (wy * wy))), (0, .ref 54), (4, .long ux), (6, .long uy), (8, .long vx), (10, .long vy), (12, .long al), (14, .long ln), (16, .long wx), (18, .long wy)], []), yhp w G sz)) 9 rfl ?_
      refine zeS [(0, .ref 54), (4, .long ux), (6, .long uy), (8, .long vx), (10, .long vy), (12, .long al), (14, .long ln), (16, .long wx), (18, .long wy), (20, .long ((wx * wx) + (wy * wy)))] (zsub_pick [1, 2, 3, 4, 5, 6, 7, 8, 9, 0] rfl rfl) ?_
      exact k
  · rw [c126] at k
    refine zeN (q := ((190, [(20, .long ((vx * vx) + (vy * vy))), (0, .ref 54), (4, .long ux), (6, .long uy), (8, .long vx), (10, .long vy), (12, .long al), (14, .long ln), (16, .long wx), (18, .long wy)], []), yhp w G sz)) 9 rfl ?_
    refine zeS [(0, .ref 54), (4, .long ux), (6, .long uy), (8, .long vx), (10, .long vy), (12, .long al), (14, .long ln), (16, .long wx), (18, .long wy), (20, .long ((vx * vx) + (vy * vy)))] (zsub_pick [1, 2, 3, 4, 5, 6, 7, 8, 9, 0] rfl rfl) ?_
    exact k
def g_Mo_reach_190 (al ln t : Int64) (w : yW)  : yW × Int64 := (bif zc .le (lg_cmp al 0) 0 then (w, 1) else (bif zc .lt (lg_cmp al ln) 0 then (w, ln) else (w, 1)))
set_option maxRecDepth 100000 in
theorem t_Mo_reach_190 {fr lo sz : Nat} {G : List zC} {r : Option Value × zH} (al ln t : Int64) (w : yW)   (hlo : 0 ≤ lo) (k : zRun (fr + 0) lo none M_Mo_reach (213, [(0, .ref 54), (12, .long al), (14, .long ln), (20, .long t), (22, .long ((g_Mo_reach_190 al ln t w ).2))], []) (yhp (g_Mo_reach_190 al ln t w ).1 G sz) r) : zRun (fr + 0) lo none M_Mo_reach (190, [(0, .ref 54), (12, .long al), (14, .long ln), (20, .long t)], []) (yhp w G sz) r := by
  unfold g_Mo_reach_190 at k
  refine zeN (q := ((194, [(0, .ref 54), (12, .long al), (14, .long ln), (20, .long t)], [.int (lg_cmp al 0)]), yhp w G sz)) 3 rfl ?_
  refine zbc (q1 := (205, [(0, .ref 54), (12, .long al), (14, .long ln), (20, .long t)], [])) (q2 := (197, [(0, .ref 54), (12, .long al), (14, .long ln), (20, .long t)], [])) (cB := zc .le (lg_cmp al 0) 0) (off := 11) (lv := [(0, .ref 54), (12, .long al), (14, .long ln), (20, .long t)]) (st := []) rfl rfl rfl rfl rfl (fun c194 => ?_) (fun c194 => ?_)
  · rw [c194] at k
    refine zeN (q := ((213, [(22, .long 1), (0, .ref 54), (12, .long al), (14, .long ln), (20, .long t)], []), yhp w G sz)) 3 rfl ?_
    refine zeS [(0, .ref 54), (12, .long al), (14, .long ln), (20, .long t), (22, .long 1)] (zsub_pick [1, 2, 3, 4, 0] rfl rfl) ?_
    exact k
  · rw [c194] at k
    refine zeN (q := ((202, [(0, .ref 54), (12, .long al), (14, .long ln), (20, .long t)], [.int (lg_cmp al ln)]), yhp w G sz)) 3 rfl ?_
    refine zbc (q1 := (209, [(0, .ref 54), (12, .long al), (14, .long ln), (20, .long t)], [])) (q2 := (205, [(0, .ref 54), (12, .long al), (14, .long ln), (20, .long t)], [])) (cB := zc .lt (lg_cmp al ln) 0) (off := 7) (lv := [(0, .ref 54), (12, .long al), (14, .long ln), (20, .long t)]) (st := []) rfl rfl rfl rfl rfl (fun c202 => ?_) (fun c202 => ?_)
    · rw [c202] at k
      refine zeN (q := ((213, [(22, .long ln), (0, .ref 54), (12, .long al), (14, .long ln), (20, .long t)], []), yhp w G sz)) 2 rfl ?_
      refine zeS [(0, .ref 54), (12, .long al), (14, .long ln), (20, .long t), (22, .long ln)] (zsub_pick [1, 2, 3, 4, 0] rfl rfl) ?_
      exact k
    · rw [c202] at k
      refine zeN (q := ((213, [(22, .long 1), (0, .ref 54), (12, .long al), (14, .long ln), (20, .long t)], []), yhp w G sz)) 3 rfl ?_
      refine zeS [(0, .ref 54), (12, .long al), (14, .long ln), (20, .long t), (22, .long 1)] (zsub_pick [1, 2, 3, 4, 0] rfl rfl) ?_
      exact k
def g_Mo_reach_213 (t u : Int64) (w : yW)  : yW := (bif zc .ge (lg_cmp (t * (w.2.1 54 14)) ((w.2.1 54 13) * u)) 0 then w else wL (wL w 54 13 t) 54 14 u)
set_option maxRecDepth 100000 in
theorem t_Mo_reach_213 {fr lo sz : Nat} {G : List zC} {r : Option Value × zH} (t u : Int64) (w : yW)   (hlo : 0 ≤ lo) (k : zRun (fr + 0) lo none M_Mo_reach (243, [(0, .ref 54), (20, .long t), (22, .long u)], []) (yhp (g_Mo_reach_213 t u w ) G sz) r) : zRun (fr + 0) lo none M_Mo_reach (213, [(0, .ref 54), (20, .long t), (22, .long u)], []) (yhp w G sz) r := by
  unfold g_Mo_reach_213 at k
  refine zeN (q := ((216, [(0, .ref 54), (20, .long t), (22, .long u)], [.ref 54, .long t]), yhp w G sz)) 2 rfl ?_
  refine ygf (kk := .inr 1) (v := .long (w.2.1 54 14)) rfl rfl rfl rfl rfl rfl rfl ?_
  refine zeN (q := ((221, [(0, .ref 54), (20, .long t), (22, .long u)], [.ref 54, .long (t * (w.2.1 54 14))]), yhp w G sz)) 2 rfl ?_
  refine ygf (kk := .inr 1) (v := .long (w.2.1 54 13)) rfl rfl rfl rfl rfl rfl rfl ?_
  refine zeN (q := ((228, [(0, .ref 54), (20, .long t), (22, .long u)], [.int (lg_cmp (t * (w.2.1 54 14)) ((w.2.1 54 13) * u))]), yhp w G sz)) 3 rfl ?_
  refine zbc (q1 := (243, [(0, .ref 54), (20, .long t), (22, .long u)], [])) (q2 := (231, [(0, .ref 54), (20, .long t), (22, .long u)], [])) (cB := zc .ge (lg_cmp (t * (w.2.1 54 14)) ((w.2.1 54 13) * u)) 0) (off := 15) (lv := [(0, .ref 54), (20, .long t), (22, .long u)]) (st := []) rfl rfl rfl rfl rfl (fun c228 => ?_) (fun c228 => ?_)
  · rw [c228] at k
    exact k
  · rw [c228] at k
    refine zeN (q := ((234, [(0, .ref 54), (20, .long t), (22, .long u)], [.long t, .ref 54]), yhp w G sz)) 2 rfl ?_
    refine ypL (v := t) rfl rfl rfl rfl rfl rfl rfl ?_
    refine zeN (q := ((240, [(0, .ref 54), (20, .long t), (22, .long u)], [.long u, .ref 54]), yhp (wL w 54 13 t) G sz)) 2 rfl ?_
    refine ypL (v := u) rfl rfl rfl rfl rfl rfl rfl ?_
    exact k
def e_Mo_reach (a b c : Int32) (w : yW) : yW := (g_Mo_reach_213 ((g_Mo_reach_122 (((w.1 59 b.toNatClampNeg) - (w.1 59 a.toNatClampNeg)).toInt64) (((w.1 60 b.toNatClampNeg) - (w.1 60 a.toNatClampNeg)).toInt64) (((w.1 59 c.toNatClampNeg) - (w.1 59 a.toNatClampNeg)).toInt64) (((w.1 60 c.toNatClampNeg) - (w.1 60 a.toNatClampNeg)).toInt64) (((((w.1 59 b.toNatClampNeg) - (w.1 59 a.toNatClampNeg)).toInt64) * (((w.1 59 c.toNatClampNeg) - (w.1 59 a.toNatClampNeg)).toInt64)) + ((((w.1 60 b.toNatClampNeg) - (w.1 60 a.toNatClampNeg)).toInt64) * (((w.1 60 c.toNatClampNeg) - (w.1 60 a.toNatClampNeg)).toInt64))) (((((w.1 59 b.toNatClampNeg) - (w.1 59 a.toNatClampNeg)).toInt64) * (((w.1 59 b.toNatClampNeg) - (w.1 59 a.toNatClampNeg)).toInt64)) + ((((w.1 60 b.toNatClampNeg) - (w.1 60 a.toNatClampNeg)).toInt64) * (((w.1 60 b.toNatClampNeg) - (w.1 60 a.toNatClampNeg)).toInt64))) (((w.1 59 c.toNatClampNeg) - (w.1 59 b.toNatClampNeg)).toInt64) (((w.1 60 c.toNatClampNeg) - (w.1 60 b.toNatClampNeg)).toInt64)  w ).2) ((g_Mo_reach_190 (((((w.1 59 b.toNatClampNeg) - (w.1 59 a.toNatClampNeg)).toInt64) * (((w.1 59 c.toNatClampNeg) - (w.1 59 a.toNatClampNeg)).toInt64)) + ((((w.1 60 b.toNatClampNeg) - (w.1 60 a.toNatClampNeg)).toInt64) * (((w.1 60 c.toNatClampNeg) - (w.1 60 a.toNatClampNeg)).toInt64))) (((((w.1 59 b.toNatClampNeg) - (w.1 59 a.toNatClampNeg)).toInt64) * (((w.1 59 b.toNatClampNeg) - (w.1 59 a.toNatClampNeg)).toInt64)) + ((((w.1 60 b.toNatClampNeg) - (w.1 60 a.toNatClampNeg)).toInt64) * (((w.1 60 b.toNatClampNeg) - (w.1 60 a.toNatClampNeg)).toInt64))) ((g_Mo_reach_122 (((w.1 59 b.toNatClampNeg) - (w.1 59 a.toNatClampNeg)).toInt64) (((w.1 60 b.toNatClampNeg) - (w.1 60 a.toNatClampNeg)).toInt64) (((w.1 59 c.toNatClampNeg) - (w.1 59 a.toNatClampNeg)).toInt64) (((w.1 60 c.toNatClampNeg) - (w.1 60 a.toNatClampNeg)).toInt64) (((((w.1 59 b.toNatClampNeg) - (w.1 59 a.toNatClampNeg)).toInt64) * (((w.1 59 c.toNatClampNeg) - (w.1 59 a.toNatClampNeg)).toInt64)) + ((((w.1 60 b.toNatClampNeg) - (w.1 60 a.toNatClampNeg)).toInt64) * (((w.1 60 c.toNatClampNeg) - (w.1 60 a.toNatClampNeg)).toInt64))) (((((w.1 59 b.toNatClampNeg) - (w.1 59 a.toNatClampNeg)).toInt64) * (((w.1 59 b.toNatClampNeg) - (w.1 59 a.toNatClampNeg)).toInt64)) + ((((w.1 60 b.toNatClampNeg) - (w.1 60 a.toNatClampNeg)).toInt64) * (((w.1 60 b.toNatClampNeg) - (w.1 60 a.toNatClampNeg)).toInt64))) (((w.1 59 c.toNatClampNeg) - (w.1 59 b.toNatClampNeg)).toInt64) (((w.1 60 c.toNatClampNeg) - (w.1 60 b.toNatClampNeg)).toInt64)  w ).2)  ((g_Mo_reach_122 (((w.1 59 b.toNatClampNeg) - (w.1 59 a.toNatClampNeg)).toInt64) (((w.1 60 b.toNatClampNeg) - (w.1 60 a.toNatClampNeg)).toInt64) (((w.1 59 c.toNatClampNeg) - (w.1 59 a.toNatClampNeg)).toInt64) (((w.1 60 c.toNatClampNeg) - (w.1 60 a.toNatClampNeg)).toInt64) (((((w.1 59 b.toNatClampNeg) - (w.1 59 a.toNatClampNeg)).toInt64) * (((w.1 59 c.toNatClampNeg) - (w.1 59 a.toNatClampNeg)).toInt64)) + ((((w.1 60 b.toNatClampNeg) - (w.1 60 a.toNatClampNeg)).toInt64) * (((w.1 60 c.toNatClampNeg) - (w.1 60 a.toNatClampNeg)).toInt64))) (((((w.1 59 b.toNatClampNeg) - (w.1 59 a.toNatClampNeg)).toInt64) * (((w.1 59 b.toNatClampNeg) - (w.1 59 a.toNatClampNeg)).toInt64)) + ((((w.1 60 b.toNatClampNeg) - (w.1 60 a.toNatClampNeg)).toInt64) * (((w.1 60 b.toNatClampNeg) - (w.1 60 a.toNatClampNeg)).toInt64))) (((w.1 59 c.toNatClampNeg) - (w.1 59 b.toNatClampNeg)).toInt64) (((w.1 60 c.toNatClampNeg) - (w.1 60 b.toNatClampNeg)).toInt64)  w ).1) ).2)  ((g_Mo_reach_190 (((((w.1 59 b.toNatClampNeg) - (w.1 59 a.toNatClampNeg)).toInt64) * (((w.1 59 c.toNatClampNeg) - (w.1 59 a.toNatClampNeg)).toInt64)) + ((((w.1 60 b.toNatClampNeg) - (w.1 60 a.toNatClampNeg)).toInt64) * (((w.1 60 c.toNatClampNeg) - (w.1 60 a.toNatClampNeg)).toInt64))) (((((w.1 59 b.toNatClampNeg) - (w.1 59 a.toNatClampNeg)).toInt64) * (((w.1 59 b.toNatClampNeg) - (w.1 59 a.toNatClampNeg)).toInt64)) + ((((w.1 60 b.toNatClampNeg) - (w.1 60 a.toNatClampNeg)).toInt64) * (((w.1 60 b.toNatClampNeg) - (w.1 60 a.toNatClampNeg)).toInt64))) ((g_Mo_reach_122 (((w.1 59 b.toNatClampNeg) - (w.1 59 a.toNatClampNeg)).toInt64) (((w.1 60 b.toNatClampNeg) - (w.1 60 a.toNatClampNeg)).toInt64) (((w.1 59 c.toNatClampNeg) - (w.1 59 a.toNatClampNeg)).toInt64) (((w.1 60 c.toNatClampNeg) - (w.1 60 a.toNatClampNeg)).toInt64) (((((w.1 59 b.toNatClampNeg) - (w.1 59 a.toNatClampNeg)).toInt64) * (((w.1 59 c.toNatClampNeg) - (w.1 59 a.toNatClampNeg)).toInt64)) + ((((w.1 60 b.toNatClampNeg) - (w.1 60 a.toNatClampNeg)).toInt64) * (((w.1 60 c.toNatClampNeg) - (w.1 60 a.toNatClampNeg)).toInt64))) (((((w.1 59 b.toNatClampNeg) - (w.1 59 a.toNatClampNeg)).toInt64) * (((w.1 59 b.toNatClampNeg) - (w.1 59 a.toNatClampNeg)).toInt64)) + ((((w.1 60 b.toNatClampNeg) - (w.1 60 a.toNatClampNeg)).toInt64) * (((w.1 60 b.toNatClampNeg) - (w.1 60 a.toNatClampNeg)).toInt64))) (((w.1 59 c.toNatClampNeg) - (w.1 59 b.toNatClampNeg)).toInt64) (((w.1 60 c.toNatClampNeg) - (w.1 60 b.toNatClampNeg)).toInt64)  w ).2)  ((g_Mo_reach_122 (((w.1 59 b.toNatClampNeg) - (w.1 59 a.toNatClampNeg)).toInt64) (((w.1 60 b.toNatClampNeg) - (w.1 60 a.toNatClampNeg)).toInt64) (((w.1 59 c.toNatClampNeg) - (w.1 59 a.toNatClampNeg)).toInt64) (((w.1 60 c.toNatClampNeg) - (w.1 60 a.toNatClampNeg)).toInt64) (((((w.1 59 b.toNatClampNeg) - (w.1 59 a.toNatClampNeg)).toInt64) * (((w.1 59 c.toNatClampNeg) - (w.1 59 a.toNatClampNeg)).toInt64)) + ((((w.1 60 b.toNatClampNeg) - (w.1 60 a.toNatClampNeg)).toInt64) * (((w.1 60 c.toNatClampNeg) - (w.1 60 a.toNatClampNeg)).toInt64))) (((((w.1 59 b.toNatClampNeg) - (w.1 59 a.toNatClampNeg)).toInt64) * (((w.1 59 b.toNatClampNeg) - (w.1 59 a.toNatClampNeg)).toInt64)) + ((((w.1 60 b.toNatClampNeg) - (w.1 60 a.toNatClampNeg)).toInt64) * (((w.1 60 b.toNatClampNeg) - (w.1 60 a.toNatClampNeg)).toInt64))) (((w.1 59 c.toNatClampNeg) - (w.1 59 b.toNatClampNeg)).toInt64) (((w.1 60 c.toNatClampNeg) - (w.1 60 b.toNatClampNeg)).toInt64)  w ).1) ).1) )
set_option maxRecDepth 100000 in
theorem r_Mo_reach {fr lo sz : Nat} {G : List zC} (a b c : Int32) (w : yW) (ha : zIx a 390) (hb : zIx b 390) (hc : zIx c 390) (hlo : 43 ≤ lo) : zAns (fr + 1) lo 125 [.ref 54, .int a, .int b, .int c] (yhp w G sz) (none, yhp (e_Mo_reach a b c w) G sz) := by
  unfold e_Mo_reach
  refine zeb (fr := fr + 0) (M := M_Mo_reach) rfl (Nat.le_trans (by decide) hlo) rfl ?_
  have e0 : mL M_Mo_reach = 24 := rfl
  refine zeN (q := ((1, [(0, .ref 54), (1, .int a), (2, .int b), (3, .int c)], [.ref 54]), yhp w G sz)) 1 rfl ?_
  refine ygf (kk := .inl (.ref 59)) (v := .ref 59) rfl rfl rfl rfl rfl rfl rfl ?_
  refine zeN (q := ((5, [(0, .ref 54), (1, .int a), (2, .int b), (3, .int c)], [.int b, .ref 59]), yhp w G sz)) 1 rfl ?_
  refine yia (N := 390) rfl rfl rfl (by assumption) ?_
  refine zeN (q := ((7, [(0, .ref 54), (1, .int a), (2, .int b), (3, .int c)], [.ref 54, .int (w.1 59 b.toNatClampNeg)]), yhp w G sz)) 1 rfl ?_
  refine ygf (kk := .inl (.ref 59)) (v := .ref 59) rfl rfl rfl rfl rfl rfl rfl ?_
  refine zeN (q := ((11, [(0, .ref 54), (1, .int a), (2, .int b), (3, .int c)], [.int a, .ref 59, .int (w.1 59 b.toNatClampNeg)]), yhp w G sz)) 1 rfl ?_
  refine yia (N := 390) rfl rfl rfl (by assumption) ?_
  refine zeN (q := ((17, [(4, .long (((w.1 59 b.toNatClampNeg) - (w.1 59 a.toNatClampNeg)).toInt64)), (0, .ref 54), (1, .int a), (2, .int b), (3, .int c)], [.ref 54]), yhp w G sz)) 4 rfl ?_
  refine ygf (kk := .inl (.ref 60)) (v := .ref 60) rfl rfl rfl rfl rfl rfl rfl ?_
  refine zeN (q := ((21, [(4, .long (((w.1 59 b.toNatClampNeg) - (w.1 59 a.toNatClampNeg)).toInt64)), (0, .ref 54), (1, .int a), (2, .int b), (3, .int c)], [.int b, .ref 60]), yhp w G sz)) 1 rfl ?_
  refine yia (N := 390) rfl rfl rfl (by assumption) ?_
  refine zeN (q := ((23, [(4, .long (((w.1 59 b.toNatClampNeg) - (w.1 59 a.toNatClampNeg)).toInt64)), (0, .ref 54), (1, .int a), (2, .int b), (3, .int c)], [.ref 54, .int (w.1 60 b.toNatClampNeg)]), yhp w G sz)) 1 rfl ?_
  refine ygf (kk := .inl (.ref 60)) (v := .ref 60) rfl rfl rfl rfl rfl rfl rfl ?_
  refine zeN (q := ((27, [(4, .long (((w.1 59 b.toNatClampNeg) - (w.1 59 a.toNatClampNeg)).toInt64)), (0, .ref 54), (1, .int a), (2, .int b), (3, .int c)], [.int a, .ref 60, .int (w.1 60 b.toNatClampNeg)]), yhp w G sz)) 1 rfl ?_
  refine yia (N := 390) rfl rfl rfl (by assumption) ?_
  refine zeN (q := ((33, [(6, .long (((w.1 60 b.toNatClampNeg) - (w.1 60 a.toNatClampNeg)).toInt64)), (4, .long (((w.1 59 b.toNatClampNeg) - (w.1 59 a.toNatClampNeg)).toInt64)), (0, .ref 54), (1, .int a), (2, .int b), (3, .int c)], [.ref 54]), yhp w G sz)) 4 rfl ?_
  refine ygf (kk := .inl (.ref 59)) (v := .ref 59) rfl rfl rfl rfl rfl rfl rfl ?_
  refine zeN (q := ((37, [(6, .long (((w.1 60 b.toNatClampNeg) - (w.1 60 a.toNatClampNeg)).toInt64)), (4, .long (((w.1 59 b.toNatClampNeg) - (w.1 59 a.toNatClampNeg)).toInt64)), (0, .ref 54), (1, .int a), (2, .int b), (3, .int c)], [.int c, .ref 59]), yhp w G sz)) 1 rfl ?_
  refine yia (N := 390) rfl rfl rfl (by assumption) ?_
  refine zeN (q := ((39, [(6, .long (((w.1 60 b.toNatClampNeg) - (w.1 60 a.toNatClampNeg)).toInt64)), (4, .long (((w.1 59 b.toNatClampNeg) - (w.1 59 a.toNatClampNeg)).toInt64)), (0, .ref 54), (1, .int a), (2, .int b), (3, .int c)], [.ref 54, .int (w.1 59 c.toNatClampNeg)]), yhp w G sz)) 1 rfl ?_
  refine ygf (kk := .inl (.ref 59)) (v := .ref 59) rfl rfl rfl rfl rfl rfl rfl ?_
  refine zeN (q := ((43, [(6, .long (((w.1 60 b.toNatClampNeg) - (w.1 60 a.toNatClampNeg)).toInt64)), (4, .long (((w.1 59 b.toNatClampNeg) - (w.1 59 a.toNatClampNeg)).toInt64)), (0, .ref 54), (1, .int a), (2, .int b), (3, .int c)], [.int a, .ref 59, .int (w.1 59 c.toNatClampNeg)]), yhp w G sz)) 1 rfl ?_
  refine yia (N := 390) rfl rfl rfl (by assumption) ?_
  refine zeN (q := ((49, [(8, .long (((w.1 59 c.toNatClampNeg) - (w.1 59 a.toNatClampNeg)).toInt64)), (6, .long (((w.1 60 b.toNatClampNeg) - (w.1 60 a.toNatClampNeg)).toInt64)), (4, .long (((w.1 59 b.toNatClampNeg) - (w.1 59 a.toNatClampNeg)).toInt64)), (0, .ref 54), (1, .int a), (2, .int b), (3, .int c)], [.ref 54]), yhp w G sz)) 4 rfl ?_
  refine ygf (kk := .inl (.ref 60)) (v := .ref 60) rfl rfl rfl rfl rfl rfl rfl ?_
  refine zeN (q := ((53, [(8, .long (((w.1 59 c.toNatClampNeg) - (w.1 59 a.toNatClampNeg)).toInt64)), (6, .long (((w.1 60 b.toNatClampNeg) - (w.1 60 a.toNatClampNeg)).toInt64)), (4, .long (((w.1 59 b.toNatClampNeg) - (w.1 59 a.toNatClampNeg)).toInt64)), (0, .ref 54), (1, .int a), (2, .int b), (3, .int c)], [.int c, .ref 60]), yhp w G sz)) 1 rfl ?_
  refine yia (N := 390) rfl rfl rfl (by assumption) ?_
  refine zeN (q := ((55, [(8, .long (((w.1 59 c.toNatClampNeg) - (w.1 59 a.toNatClampNeg)).toInt64)), (6, .long (((w.1 60 b.toNatClampNeg) - (w.1 60 a.toNatClampNeg)).toInt64)), (4, .long (((w.1 59 b.toNatClampNeg) - (w.1 59 a.toNatClampNeg)).toInt64)), (0, .ref 54), (1, .int a), (2, .int b), (3, .int c)], [.ref 54, .int (w.1 60 c.toNatClampNeg)]), yhp w G sz)) 1 rfl ?_
  refine ygf (kk := .inl (.ref 60)) (v := .ref 60) rfl rfl rfl rfl rfl rfl rfl ?_
  refine zeN (q := ((59, [(8, .long (((w.1 59 c.toNatClampNeg) - (w.1 59 a.toNatClampNeg)).toInt64)), (6, .long (((w.1 60 b.toNatClampNeg) - (w.1 60 a.toNatClampNeg)).toInt64)), (4, .long (((w.1 59 b.toNatClampNeg) - (w.1 59 a.toNatClampNeg)).toInt64)), (0, .ref 54), (1, .int a), (2, .int b), (3, .int c)], [.int a, .ref 60, .int (w.1 60 c.toNatClampNeg)]), yhp w G sz)) 1 rfl ?_
  refine yia (N := 390) rfl rfl rfl (by assumption) ?_
  refine zeN (q := ((91, [(14, .long (((((w.1 59 b.toNatClampNeg) - (w.1 59 a.toNatClampNeg)).toInt64) * (((w.1 59 b.toNatClampNeg) - (w.1 59 a.toNatClampNeg)).toInt64)) + ((((w.1 60 b.toNatClampNeg) - (w.1 60 a.toNatClampNeg)).toInt64) * (((w.1 60 b.toNatClampNeg) - (w.1 60 a.toNatClampNeg)).toInt64)))), (12, .long (((((w.1 59 b.toNatClampNeg) - (w.1 59 a.toNatClampNeg)).toInt64) * (((w.1 59 c.toNatClampNeg) - (w.1 59 a.toNatClampNeg)).toInt64)) + ((((w.1 60 b.toNatClampNeg) - (w.1 60 a.toNatClampNeg)).toInt64) * (((w.1 60 c.toNatClampNeg) - (w.1 60 a.toNatClampNeg)).toInt64)))), (10, .long (((w.1 60 c.toNatClampNeg) - (w.1 60 a.toNatClampNeg)).toInt64)), (8, .long (((w.1 59 c.toNatClampNeg) - (w.1 59 a.toNatClampNeg)).toInt64)), (6, .long (((w.1 60 b.toNatClampNeg) - (w.1 60 a.toNatClampNeg)).toInt64)), (4, .long (((w.1 59 b.toNatClampNeg) - (w.1 59 a.toNatClampNeg)).toInt64)), (0, .ref 54), (1, .int a), (2, .int b), (3, .int c)], [.ref 54]), yhp w G sz)) 20 rfl ?_
  refine ygf (kk := .inl (.ref 59)) (v := .ref 59) rfl rfl rfl rfl rfl rfl rfl ?_
  refine zeN (q := ((95, [(14, .long (((((w.1 59 b.toNatClampNeg) - (w.1 59 a.toNatClampNeg)).toInt64) * (((w.1 59 b.toNatClampNeg) - (w.1 59 a.toNatClampNeg)).toInt64)) + ((((w.1 60 b.toNatClampNeg) - (w.1 60 a.toNatClampNeg)).toInt64) * (((w.1 60 b.toNatClampNeg) - (w.1 60 a.toNatClampNeg)).toInt64)))), (12, .long (((((w.1 59 b.toNatClampNeg) - (w.1 59 a.toNatClampNeg)).toInt64) * (((w.1 59 c.toNatClampNeg) - (w.1 59 a.toNatClampNeg)).toInt64)) + ((((w.1 60 b.toNatClampNeg) - (w.1 60 a.toNatClampNeg)).toInt64) * (((w.1 60 c.toNatClampNeg) - (w.1 60 a.toNatClampNeg)).toInt64)))), (10, .long (((w.1 60 c.toNatClampNeg) - (w.1 60 a.toNatClampNeg)).toInt64)), (8, .long (((w.1 59 c.toNatClampNeg) - (w.1 59 a.toNatClampNeg)).toInt64)), (6, .long (((w.1 60 b.toNatClampNeg) - (w.1 60 a.toNatClampNeg)).toInt64)), (4, .long (((w.1 59 b.toNatClampNeg) - (w.1 59 a.toNatClampNeg)).toInt64)), (0, .ref 54), (1, .int a), (2, .int b), (3, .int c)], [.int c, .ref 59]), yhp w G sz)) 1 rfl ?_
  refine yia (N := 390) rfl rfl rfl (by assumption) ?_
  refine zeN (q := ((97, [(14, .long (((((w.1 59 b.toNatClampNeg) - (w.1 59 a.toNatClampNeg)).toInt64) * (((w.1 59 b.toNatClampNeg) - (w.1 59 a.toNatClampNeg)).toInt64)) + ((((w.1 60 b.toNatClampNeg) - (w.1 60 a.toNatClampNeg)).toInt64) * (((w.1 60 b.toNatClampNeg) - (w.1 60 a.toNatClampNeg)).toInt64)))), (12, .long (((((w.1 59 b.toNatClampNeg) - (w.1 59 a.toNatClampNeg)).toInt64) * (((w.1 59 c.toNatClampNeg) - (w.1 59 a.toNatClampNeg)).toInt64)) + ((((w.1 60 b.toNatClampNeg) - (w.1 60 a.toNatClampNeg)).toInt64) * (((w.1 60 c.toNatClampNeg) - (w.1 60 a.toNatClampNeg)).toInt64)))), (10, .long (((w.1 60 c.toNatClampNeg) - (w.1 60 a.toNatClampNeg)).toInt64)), (8, .long (((w.1 59 c.toNatClampNeg) - (w.1 59 a.toNatClampNeg)).toInt64)), (6, .long (((w.1 60 b.toNatClampNeg) - (w.1 60 a.toNatClampNeg)).toInt64)), (4, .long (((w.1 59 b.toNatClampNeg) - (w.1 59 a.toNatClampNeg)).toInt64)), (0, .ref 54), (1, .int a), (2, .int b), (3, .int c)], [.ref 54, .int (w.1 59 c.toNatClampNeg)]), yhp w G sz)) 1 rfl ?_
  refine ygf (kk := .inl (.ref 59)) (v := .ref 59) rfl rfl rfl rfl rfl rfl rfl ?_
  refine zeN (q := ((101, [(14, .long (((((w.1 59 b.toNatClampNeg) - (w.1 59 a.toNatClampNeg)).toInt64) * (((w.1 59 b.toNatClampNeg) - (w.1 59 a.toNatClampNeg)).toInt64)) + ((((w.1 60 b.toNatClampNeg) - (w.1 60 a.toNatClampNeg)).toInt64) * (((w.1 60 b.toNatClampNeg) - (w.1 60 a.toNatClampNeg)).toInt64)))), (12, .long (((((w.1 59 b.toNatClampNeg) - (w.1 59 a.toNatClampNeg)).toInt64) * (((w.1 59 c.toNatClampNeg) - (w.1 59 a.toNatClampNeg)).toInt64)) + ((((w.1 60 b.toNatClampNeg) - (w.1 60 a.toNatClampNeg)).toInt64) * (((w.1 60 c.toNatClampNeg) - (w.1 60 a.toNatClampNeg)).toInt64)))), (10, .long (((w.1 60 c.toNatClampNeg) - (w.1 60 a.toNatClampNeg)).toInt64)), (8, .long (((w.1 59 c.toNatClampNeg) - (w.1 59 a.toNatClampNeg)).toInt64)), (6, .long (((w.1 60 b.toNatClampNeg) - (w.1 60 a.toNatClampNeg)).toInt64)), (4, .long (((w.1 59 b.toNatClampNeg) - (w.1 59 a.toNatClampNeg)).toInt64)), (0, .ref 54), (1, .int a), (2, .int b), (3, .int c)], [.int b, .ref 59, .int (w.1 59 c.toNatClampNeg)]), yhp w G sz)) 1 rfl ?_
  refine yia (N := 390) rfl rfl rfl (by assumption) ?_
  refine zeN (q := ((107, [(16, .long (((w.1 59 c.toNatClampNeg) - (w.1 59 b.toNatClampNeg)).toInt64)), (14, .long (((((w.1 59 b.toNatClampNeg) - (w.1 59 a.toNatClampNeg)).toInt64) * (((w.1 59 b.toNatClampNeg) - (w.1 59 a.toNatClampNeg)).toInt64)) + ((((w.1 60 b.toNatClampNeg) - (w.1 60 a.toNatClampNeg)).toInt64) * (((w.1 60 b.toNatClampNeg) - (w.1 60 a.toNatClampNeg)).toInt64)))), (12, .long (((((w.1 59 b.toNatClampNeg) - (w.1 59 a.toNatClampNeg)).toInt64) * (((w.1 59 c.toNatClampNeg) - (w.1 59 a.toNatClampNeg)).toInt64)) + ((((w.1 60 b.toNatClampNeg) - (w.1 60 a.toNatClampNeg)).toInt64) * (((w.1 60 c.toNatClampNeg) - (w.1 60 a.toNatClampNeg)).toInt64)))), (10, .long (((w.1 60 c.toNatClampNeg) - (w.1 60 a.toNatClampNeg)).toInt64)), (8, .long (((w.1 59 c.toNatClampNeg) - (w.1 59 a.toNatClampNeg)).toInt64)), (6, .long (((w.1 60 b.toNatClampNeg) - (w.1 60 a.toNatClampNeg)).toInt64)), (4, .long (((w.1 59 b.toNatClampNeg) - (w.1 59 a.toNatClampNeg)).toInt64)), (0, .ref 54), (1, .int a), (2, .int b), (3, .int c)], [.ref 54]), yhp w G sz)) 4 rfl ?_
  refine ygf (kk := .inl (.ref 60)) (v := .ref 60) rfl rfl rfl rfl rfl rfl rfl ?_
  refine zeN (q := ((111, [(16, .long (((w.1 59 c.toNatClampNeg) - (w.1 59 b.toNatClampNeg)).toInt64)), (14, .long (((((w.1 59 b.toNatClampNeg) - (w.1 59 a.toNatClampNeg)).toInt64) * (((w.1 59 b.toNatClampNeg) - (w.1 59 a.toNatClampNeg)).toInt64)) + ((((w.1 60 b.toNatClampNeg) - (w.1 60 a.toNatClampNeg)).toInt64) * (((w.1 60 b.toNatClampNeg) - (w.1 60 a.toNatClampNeg)).toInt64)))), (12, .long (((((w.1 59 b.toNatClampNeg) - (w.1 59 a.toNatClampNeg)).toInt64) * (((w.1 59 c.toNatClampNeg) - (w.1 59 a.toNatClampNeg)).toInt64)) + ((((w.1 60 b.toNatClampNeg) - (w.1 60 a.toNatClampNeg)).toInt64) * (((w.1 60 c.toNatClampNeg) - (w.1 60 a.toNatClampNeg)).toInt64)))), (10, .long (((w.1 60 c.toNatClampNeg) - (w.1 60 a.toNatClampNeg)).toInt64)), (8, .long (((w.1 59 c.toNatClampNeg) - (w.1 59 a.toNatClampNeg)).toInt64)), (6, .long (((w.1 60 b.toNatClampNeg) - (w.1 60 a.toNatClampNeg)).toInt64)), (4, .long (((w.1 59 b.toNatClampNeg) - (w.1 59 a.toNatClampNeg)).toInt64)), (0, .ref 54), (1, .int a), (2, .int b), (3, .int c)], [.int c, .ref 60]), yhp w G sz)) 1 rfl ?_
  refine yia (N := 390) rfl rfl rfl (by assumption) ?_
  refine zeN (q := ((113, [(16, .long (((w.1 59 c.toNatClampNeg) - (w.1 59 b.toNatClampNeg)).toInt64)), (14, .long (((((w.1 59 b.toNatClampNeg) - (w.1 59 a.toNatClampNeg)).toInt64) * (((w.1 59 b.toNatClampNeg) - (w.1 59 a.toNatClampNeg)).toInt64)) + ((((w.1 60 b.toNatClampNeg) - (w.1 60 a.toNatClampNeg)).toInt64) * (((w.1 60 b.toNatClampNeg) - (w.1 60 a.toNatClampNeg)).toInt64)))), (12, .long (((((w.1 59 b.toNatClampNeg) - (w.1 59 a.toNatClampNeg)).toInt64) * (((w.1 59 c.toNatClampNeg) - (w.1 59 a.toNatClampNeg)).toInt64)) + ((((w.1 60 b.toNatClampNeg) - (w.1 60 a.toNatClampNeg)).toInt64) * (((w.1 60 c.toNatClampNeg) - (w.1 60 a.toNatClampNeg)).toInt64)))), (10, .long (((w.1 60 c.toNatClampNeg) - (w.1 60 a.toNatClampNeg)).toInt64)), (8, .long (((w.1 59 c.toNatClampNeg) - (w.1 59 a.toNatClampNeg)).toInt64)), (6, .long (((w.1 60 b.toNatClampNeg) - (w.1 60 a.toNatClampNeg)).toInt64)), (4, .long (((w.1 59 b.toNatClampNeg) - (w.1 59 a.toNatClampNeg)).toInt64)), (0, .ref 54), (1, .int a), (2, .int b), (3, .int c)], [.ref 54, .int (w.1 60 c.toNatClampNeg)]), yhp w G sz)) 1 rfl ?_
  refine ygf (kk := .inl (.ref 60)) (v := .ref 60) rfl rfl rfl rfl rfl rfl rfl ?_
  refine zeN (q := ((117, [(16, .long (((w.1 59 c.toNatClampNeg) - (w.1 59 b.toNatClampNeg)).toInt64)), (14, .long (((((w.1 59 b.toNatClampNeg) - (w.1 59 a.toNatClampNeg)).toInt64) * (((w.1 59 b.toNatClampNeg) - (w.1 59 a.toNatClampNeg)).toInt64)) + ((((w.1 60 b.toNatClampNeg) - (w.1 60 a.toNatClampNeg)).toInt64) * (((w.1 60 b.toNatClampNeg) - (w.1 60 a.toNatClampNeg)).toInt64)))), (12, .long (((((w.1 59 b.toNatClampNeg) - (w.1 59 a.toNatClampNeg)).toInt64) * (((w.1 59 c.toNatClampNeg) - (w.1 59 a.toNatClampNeg)).toInt64)) + ((((w.1 60 b.toNatClampNeg) - (w.1 60 a.toNatClampNeg)).toInt64) * (((w.1 60 c.toNatClampNeg) - (w.1 60 a.toNatClampNeg)).toInt64)))), (10, .long (((w.1 60 c.toNatClampNeg) - (w.1 60 a.toNatClampNeg)).toInt64)), (8, .long (((w.1 59 c.toNatClampNeg) - (w.1 59 a.toNatClampNeg)).toInt64)), (6, .long (((w.1 60 b.toNatClampNeg) - (w.1 60 a.toNatClampNeg)).toInt64)), (4, .long (((w.1 59 b.toNatClampNeg) - (w.1 59 a.toNatClampNeg)).toInt64)), (0, .ref 54), (1, .int a), (2, .int b), (3, .int c)], [.int b, .ref 60, .int (w.1 60 c.toNatClampNeg)]), yhp w G sz)) 1 rfl ?_
  refine yia (N := 390) rfl rfl rfl (by assumption) ?_
  refine zeN (q := ((122, [(18, .long (((w.1 60 c.toNatClampNeg) - (w.1 60 b.toNatClampNeg)).toInt64)), (16, .long (((w.1 59 c.toNatClampNeg) - (w.1 59 b.toNatClampNeg)).toInt64)), (14, .long (((((w.1 59 b.toNatClampNeg) - (w.1 59 a.toNatClampNeg)).toInt64) * (((w.1 59 b.toNatClampNeg) - (w.1 59 a.toNatClampNeg)).toInt64)) + ((((w.1 60 b.toNatClampNeg) - (w.1 60 a.toNatClampNeg)).toInt64) * (((w.1 60 b.toNatClampNeg) - (w.1 60 a.toNatClampNeg)).toInt64)))), (12, .long (((((w.1 59 b.toNatClampNeg) - (w.1 59 a.toNatClampNeg)).toInt64) * (((w.1 59 c.toNatClampNeg) - (w.1 59 a.toNatClampNeg)).toInt64)) + ((((w.1 60 b.toNatClampNeg) - (w.1 60 a.toNatClampNeg)).toInt64) * (((w.1 60 c.toNatClampNeg) - (w.1 60 a.toNatClampNeg)).toInt64)))), (10, .long (((w.1 60 c.toNatClampNeg) - (w.1 60 a.toNatClampNeg)).toInt64)), (8, .long (((w.1 59 c.toNatClampNeg) - (w.1 59 a.toNatClampNeg)).toInt64)), (6, .long (((w.1 60 b.toNatClampNeg) - (w.1 60 a.toNatClampNeg)).toInt64)), (4, .long (((w.1 59 b.toNatClampNeg) - (w.1 59 a.toNatClampNeg)).toInt64)), (0, .ref 54), (1, .int a), (2, .int b), (3, .int c)], []), yhp w G sz)) 3 rfl ?_
  refine zeS [(0, .ref 54), (4, .long (((w.1 59 b.toNatClampNeg) - (w.1 59 a.toNatClampNeg)).toInt64)), (6, .long (((w.1 60 b.toNatClampNeg) - (w.1 60 a.toNatClampNeg)).toInt64)), (8, .long (((w.1 59 c.toNatClampNeg) - (w.1 59 a.toNatClampNeg)).toInt64)), (10, .long (((w.1 60 c.toNatClampNeg) - (w.1 60 a.toNatClampNeg)).toInt64)), (12, .long (((((w.1 59 b.toNatClampNeg) - (w.1 59 a.toNatClampNeg)).toInt64) * (((w.1 59 c.toNatClampNeg) - (w.1 59 a.toNatClampNeg)).toInt64)) + ((((w.1 60 b.toNatClampNeg) - (w.1 60 a.toNatClampNeg)).toInt64) * (((w.1 60 c.toNatClampNeg) - (w.1 60 a.toNatClampNeg)).toInt64)))), (14, .long (((((w.1 59 b.toNatClampNeg) - (w.1 59 a.toNatClampNeg)).toInt64) * (((w.1 59 b.toNatClampNeg) - (w.1 59 a.toNatClampNeg)).toInt64)) + ((((w.1 60 b.toNatClampNeg) - (w.1 60 a.toNatClampNeg)).toInt64) * (((w.1 60 b.toNatClampNeg) - (w.1 60 a.toNatClampNeg)).toInt64)))), (16, .long (((w.1 59 c.toNatClampNeg) - (w.1 59 b.toNatClampNeg)).toInt64)), (18, .long (((w.1 60 c.toNatClampNeg) - (w.1 60 b.toNatClampNeg)).toInt64))] (zsub_pick [8, 7, 6, 5, 4, 3, 2, 1, 0] rfl rfl) ?_
  refine t_Mo_reach_122 (((w.1 59 b.toNatClampNeg) - (w.1 59 a.toNatClampNeg)).toInt64) (((w.1 60 b.toNatClampNeg) - (w.1 60 a.toNatClampNeg)).toInt64) (((w.1 59 c.toNatClampNeg) - (w.1 59 a.toNatClampNeg)).toInt64) (((w.1 60 c.toNatClampNeg) - (w.1 60 a.toNatClampNeg)).toInt64) (((((w.1 59 b.toNatClampNeg) - (w.1 59 a.toNatClampNeg)).toInt64) * (((w.1 59 c.toNatClampNeg) - (w.1 59 a.toNatClampNeg)).toInt64)) + ((((w.1 60 b.toNatClampNeg) - (w.1 60 a.toNatClampNeg)).toInt64) * (((w.1 60 c.toNatClampNeg) - (w.1 60 a.toNatClampNeg)).toInt64))) (((((w.1 59 b.toNatClampNeg) - (w.1 59 a.toNatClampNeg)).toInt64) * (((w.1 59 b.toNatClampNeg) - (w.1 59 a.toNatClampNeg)).toInt64)) + ((((w.1 60 b.toNatClampNeg) - (w.1 60 a.toNatClampNeg)).toInt64) * (((w.1 60 b.toNatClampNeg) - (w.1 60 a.toNatClampNeg)).toInt64))) (((w.1 59 c.toNatClampNeg) - (w.1 59 b.toNatClampNeg)).toInt64) (((w.1 60 c.toNatClampNeg) - (w.1 60 b.toNatClampNeg)).toInt64) w   (by omega) ?_
  refine zeS [(0, .ref 54), (12, .long (((((w.1 59 b.toNatClampNeg) - (w.1 59 a.toNatClampNeg)).toInt64) * (((w.1 59 c.toNatClampNeg) - (w.1 59 a.toNatClampNeg)).toInt64)) + ((((w.1 60 b.toNatClampNeg) - (w.1 60 a.toNatClampNeg)).toInt64) * (((w.1 60 c.toNatClampNeg) - (w.1 60 a.toNatClampNeg)).toInt64)))), (14, .long (((((w.1 59 b.toNatClampNeg) - (w.1 59 a.toNatClampNeg)).toInt64) * (((w.1 59 b.toNatClampNeg) - (w.1 59 a.toNatClampNeg)).toInt64)) + ((((w.1 60 b.toNatClampNeg) - (w.1 60 a.toNatClampNeg)).toInt64) * (((w.1 60 b.toNatClampNeg) - (w.1 60 a.toNatClampNeg)).toInt64)))), (20, .long ((g_Mo_reach_122 (((w.1 59 b.toNatClampNeg) - (w.1 59 a.toNatClampNeg)).toInt64) (((w.1 60 b.toNatClampNeg) - (w.1 60 a.toNatClampNeg)).toInt64) (((w.1 59 c.toNatClampNeg) - (w.1 59 a.toNatClampNeg)).toInt64) (((w.1 60 c.toNatClampNeg) - (w.1 60 a.toNatClampNeg)).toInt64) (((((w.1 59 b.toNatClampNeg) - (w.1 59 a.toNatClampNeg)).toInt64) * (((w.1 59 c.toNatClampNeg) - (w.1 59 a.toNatClampNeg)).toInt64)) + ((((w.1 60 b.toNatClampNeg) - (w.1 60 a.toNatClampNeg)).toInt64) * (((w.1 60 c.toNatClampNeg) - (w.1 60 a.toNatClampNeg)).toInt64))) (((((w.1 59 b.toNatClampNeg) - (w.1 59 a.toNatClampNeg)).toInt64) * (((w.1 59 b.toNatClampNeg) - (w.1 59 a.toNatClampNeg)).toInt64)) + ((((w.1 60 b.toNatClampNeg) - (w.1 60 a.toNatClampNeg)).toInt64) * (((w.1 60 b.toNatClampNeg) - (w.1 60 a.toNatClampNeg)).toInt64))) (((w.1 59 c.toNatClampNeg) - (w.1 59 b.toNatClampNeg)).toInt64) (((w.1 60 c.toNatClampNeg) - (w.1 60 b.toNatClampNeg)).toInt64)  w ).2))] (zsub_pick [0, 5, 6, 9] rfl rfl) ?_
  refine t_Mo_reach_190 (((((w.1 59 b.toNatClampNeg) - (w.1 59 a.toNatClampNeg)).toInt64) * (((w.1 59 c.toNatClampNeg) - (w.1 59 a.toNatClampNeg)).toInt64)) + ((((w.1 60 b.toNatClampNeg) - (w.1 60 a.toNatClampNeg)).toInt64) * (((w.1 60 c.toNatClampNeg) - (w.1 60 a.toNatClampNeg)).toInt64))) (((((w.1 59 b.toNatClampNeg) - (w.1 59 a.toNatClampNeg)).toInt64) * (((w.1 59 b.toNatClampNeg) - (w.1 59 a.toNatClampNeg)).toInt64)) + ((((w.1 60 b.toNatClampNeg) - (w.1 60 a.toNatClampNeg)).toInt64) * (((w.1 60 b.toNatClampNeg) - (w.1 60 a.toNatClampNeg)).toInt64))) ((g_Mo_reach_122 (((w.1 59 b.toNatClampNeg) - (w.1 59 a.toNatClampNeg)).toInt64) (((w.1 60 b.toNatClampNeg) - (w.1 60 a.toNatClampNeg)).toInt64) (((w.1 59 c.toNatClampNeg) - (w.1 59 a.toNatClampNeg)).toInt64) (((w.1 60 c.toNatClampNeg) - (w.1 60 a.toNatClampNeg)).toInt64) (((((w.1 59 b.toNatClampNeg) - (w.1 59 a.toNatClampNeg)).toInt64) * (((w.1 59 c.toNatClampNeg) - (w.1 59 a.toNatClampNeg)).toInt64)) + ((((w.1 60 b.toNatClampNeg) - (w.1 60 a.toNatClampNeg)).toInt64) * (((w.1 60 c.toNatClampNeg) - (w.1 60 a.toNatClampNeg)).toInt64))) (((((w.1 59 b.toNatClampNeg) - (w.1 59 a.toNatClampNeg)).toInt64) * (((w.1 59 b.toNatClampNeg) - (w.1 59 a.toNatClampNeg)).toInt64)) + ((((w.1 60 b.toNatClampNeg) - (w.1 60 a.toNatClampNeg)).toInt64) * (((w.1 60 b.toNatClampNeg) - (w.1 60 a.toNatClampNeg)).toInt64))) (((w.1 59 c.toNatClampNeg) - (w.1 59 b.toNatClampNeg)).toInt64) (((w.1 60 c.toNatClampNeg) - (w.1 60 b.toNatClampNeg)).toInt64)  w ).2) ((g_Mo_reach_122 (((w.1 59 b.toNatClampNeg) - (w.1 59 a.toNatClampNeg)).toInt64) (((w.1 60 b.toNatClampNeg) - (w.1 60 a.toNatClampNeg)).toInt64) (((w.1 59 c.toNatClampNeg) - (w.1 59 a.toNatClampNeg)).toInt64) (((w.1 60 c.toNatClampNeg) - (w.1 60 a.toNatClampNeg)).toInt64) (((((w.1 59 b.toNatClampNeg) - (w.1 59 a.toNatClampNeg)).toInt64) * (((w.1 59 c.toNatClampNeg) - (w.1 59 a.toNatClampNeg)).toInt64)) + ((((w.1 60 b.toNatClampNeg) - (w.1 60 a.toNatClampNeg)).toInt64) * (((w.1 60 c.toNatClampNeg) - (w.1 60 a.toNatClampNeg)).toInt64))) (((((w.1 59 b.toNatClampNeg) - (w.1 59 a.toNatClampNeg)).toInt64) * (((w.1 59 b.toNatClampNeg) - (w.1 59 a.toNatClampNeg)).toInt64)) + ((((w.1 60 b.toNatClampNeg) - (w.1 60 a.toNatClampNeg)).toInt64) * (((w.1 60 b.toNatClampNeg) - (w.1 60 a.toNatClampNeg)).toInt64))) (((w.1 59 c.toNatClampNeg) - (w.1 59 b.toNatClampNeg)).toInt64) (((w.1 60 c.toNatClampNeg) - (w.1 60 b.toNatClampNeg)).toInt64)  w ).1)   (by omega) ?_
  refine zeS [(0, .ref 54), (20, .long ((g_Mo_reach_122 (((w.1 59 b.toNatClampNeg) - (w.1 59 a.toNatClampNeg)).toInt64) (((w.1 60 b.toNatClampNeg) - (w.1 60 a.toNatClampNeg)).toInt64) (((w.1 59 c.toNatClampNeg) - (w.1 59 a.toNatClampNeg)).toInt64) (((w.1 60 c.toNatClampNeg) - (w.1 60 a.toNatClampNeg)).toInt64) (((((w.1 59 b.toNatClampNeg) - (w.1 59 a.toNatClampNeg)).toInt64) * (((w.1 59 c.toNatClampNeg) - (w.1 59 a.toNatClampNeg)).toInt64)) + ((((w.1 60 b.toNatClampNeg) - (w.1 60 a.toNatClampNeg)).toInt64) * (((w.1 60 c.toNatClampNeg) - (w.1 60 a.toNatClampNeg)).toInt64))) (((((w.1 59 b.toNatClampNeg) - (w.1 59 a.toNatClampNeg)).toInt64) * (((w.1 59 b.toNatClampNeg) - (w.1 59 a.toNatClampNeg)).toInt64)) + ((((w.1 60 b.toNatClampNeg) - (w.1 60 a.toNatClampNeg)).toInt64) * (((w.1 60 b.toNatClampNeg) - (w.1 60 a.toNatClampNeg)).toInt64))) (((w.1 59 c.toNatClampNeg) - (w.1 59 b.toNatClampNeg)).toInt64) (((w.1 60 c.toNatClampNeg) - (w.1 60 b.toNatClampNeg)).toInt64)  w ).2)), (22, .long ((g_Mo_reach_190 (((((w.1 59 b.toNatClampNeg) - (w.1 59 a.toNatClampNeg)).toInt64) * (((w.1 59 c.toNatClampNeg) - (w.1 59 a.toNatClampNeg)).toInt64)) + ((((w.1 60 b.toNatClampNeg) - (w.1 60 a.toNatClampNeg)).toInt64) * (((w.1 60 c.toNatClampNeg) - (w.1 60 a.toNatClampNeg)).toInt64))) (((((w.1 59 b.toNatClampNeg) - (w.1 59 a.toNatClampNeg)).toInt64) * (((w.1 59 b.toNatClampNeg) - (w.1 59 a.toNatClampNeg)).toInt64)) + ((((w.1 60 b.toNatClampNeg) - (w.1 60 a.toNatClampNeg)).toInt64) * (((w.1 60 b.toNatClampNeg) - (w.1 60 a.toNatClampNeg)).toInt64))) ((g_Mo_reach_122 (((w.1 59 b.toNatClampNeg) - (w.1 59 a.toNatClampNeg)).toInt64) (((w.1 60 b.toNatClampNeg) - (w.1 60 a.toNatClampNeg)).toInt64) (((w.1 59 c.toNatClampNeg) - (w.1 59 a.toNatClampNeg)).toInt64) (((w.1 60 c.toNatClampNeg) - (w.1 60 a.toNatClampNeg)).toInt64) (((((w.1 59 b.toNatClampNeg) - (w.1 59 a.toNatClampNeg)).toInt64) * (((w.1 59 c.toNatClampNeg) - (w.1 59 a.toNatClampNeg)).toInt64)) + ((((w.1 60 b.toNatClampNeg) - (w.1 60 a.toNatClampNeg)).toInt64) * (((w.1 60 c.toNatClampNeg) - (w.1 60 a.toNatClampNeg)).toInt64))) (((((w.1 59 b.toNatClampNeg) - (w.1 59 a.toNatClampNeg)).toInt64) * (((w.1 59 b.toNatClampNeg) - (w.1 59 a.toNatClampNeg)).toInt64)) + ((((w.1 60 b.toNatClampNeg) - (w.1 60 a.toNatClampNeg)).toInt64) * (((w.1 60 b.toNatClampNeg) - (w.1 60 a.toNatClampNeg)).toInt64))) (((w.1 59 c.toNatClampNeg) - (w.1 59 b.toNatClampNeg)).toInt64) (((w.1 60 c.toNatClampNeg) - (w.1 60 b.toNatClampNeg)).toInt64)  w ).2)  ((g_Mo_reach_122 (((w.1 59 b.toNatClampNeg) - (w.1 59 a.toNatClampNeg)).toInt64) (((w.1 60 b.toNatClampNeg) - (w.1 60 a.toNatClampNeg)).toInt64) (((w.1 59 c.toNatClampNeg) - (w.1 59 a.toNatClampNeg)).toInt64) (((w.1 60 c.toNatClampNeg) - (w.1 60 a.toNatClampNeg)).toInt64) (((((w.1 59 b.toNatClampNeg) - (w.1 59 a.toNatClampNeg)).toInt64) * (((w.1 59 c.toNatClampNeg) - (w.1 59 a.toNatClampNeg)).toInt64)) + ((((w.1 60 b.toNatClampNeg) - (w.1 60 a.toNatClampNeg)).toInt64) * (((w.1 60 c.toNatClampNeg) - (w.1 60 a.toNatClampNeg)).toInt64))) (((((w.1 59 b.toNatClampNeg) - (w.1 59 a.toNatClampNeg)).toInt64) * (((w.1 59 b.toNatClampNeg) - (w.1 59 a.toNatClampNeg)).toInt64)) + ((((w.1 60 b.toNatClampNeg) - (w.1 60 a.toNatClampNeg)).toInt64) * (((w.1 60 b.toNatClampNeg) - (w.1 60 a.toNatClampNeg)).toInt64))) (((w.1 59 c.toNatClampNeg) - (w.1 59 b.toNatClampNeg)).toInt64) (((w.1 60 c.toNatClampNeg) - (w.1 60 b.toNatClampNeg)).toInt64)  w ).1) ).2))] (zsub_pick [0, 3, 4] rfl rfl) ?_
  refine t_Mo_reach_213 ((g_Mo_reach_122 (((w.1 59 b.toNatClampNeg) - (w.1 59 a.toNatClampNeg)).toInt64) (((w.1 60 b.toNatClampNeg) - (w.1 60 a.toNatClampNeg)).toInt64) (((w.1 59 c.toNatClampNeg) - (w.1 59 a.toNatClampNeg)).toInt64) (((w.1 60 c.toNatClampNeg) - (w.1 60 a.toNatClampNeg)).toInt64) (((((w.1 59 b.toNatClampNeg) - (w.1 59 a.toNatClampNeg)).toInt64) * (((w.1 59 c.toNatClampNeg) - (w.1 59 a.toNatClampNeg)).toInt64)) + ((((w.1 60 b.toNatClampNeg) - (w.1 60 a.toNatClampNeg)).toInt64) * (((w.1 60 c.toNatClampNeg) - (w.1 60 a.toNatClampNeg)).toInt64))) (((((w.1 59 b.toNatClampNeg) - (w.1 59 a.toNatClampNeg)).toInt64) * (((w.1 59 b.toNatClampNeg) - (w.1 59 a.toNatClampNeg)).toInt64)) + ((((w.1 60 b.toNatClampNeg) - (w.1 60 a.toNatClampNeg)).toInt64) * (((w.1 60 b.toNatClampNeg) - (w.1 60 a.toNatClampNeg)).toInt64))) (((w.1 59 c.toNatClampNeg) - (w.1 59 b.toNatClampNeg)).toInt64) (((w.1 60 c.toNatClampNeg) - (w.1 60 b.toNatClampNeg)).toInt64)  w ).2) ((g_Mo_reach_190 (((((w.1 59 b.toNatClampNeg) - (w.1 59 a.toNatClampNeg)).toInt64) * (((w.1 59 c.toNatClampNeg) - (w.1 59 a.toNatClampNeg)).toInt64)) + ((((w.1 60 b.toNatClampNeg) - (w.1 60 a.toNatClampNeg)).toInt64) * (((w.1 60 c.toNatClampNeg) - (w.1 60 a.toNatClampNeg)).toInt64))) (((((w.1 59 b.toNatClampNeg) - (w.1 59 a.toNatClampNeg)).toInt64) * (((w.1 59 b.toNatClampNeg) - (w.1 59 a.toNatClampNeg)).toInt64)) + ((((w.1 60 b.toNatClampNeg) - (w.1 60 a.toNatClampNeg)).toInt64) * (((w.1 60 b.toNatClampNeg) - (w.1 60 a.toNatClampNeg)).toInt64))) ((g_Mo_reach_122 (((w.1 59 b.toNatClampNeg) - (w.1 59 a.toNatClampNeg)).toInt64) (((w.1 60 b.toNatClampNeg) - (w.1 60 a.toNatClampNeg)).toInt64) (((w.1 59 c.toNatClampNeg) - (w.1 59 a.toNatClampNeg)).toInt64) (((w.1 60 c.toNatClampNeg) - (w.1 60 a.toNatClampNeg)).toInt64) (((((w.1 59 b.toNatClampNeg) - (w.1 59 a.toNatClampNeg)).toInt64) * (((w.1 59 c.toNatClampNeg) - (w.1 59 a.toNatClampNeg)).toInt64)) + ((((w.1 60 b.toNatClampNeg) - (w.1 60 a.toNatClampNeg)).toInt64) * (((w.1 60 c.toNatClampNeg) - (w.1 60 a.toNatClampNeg)).toInt64))) (((((w.1 59 b.toNatClampNeg) - (w.1 59 a.toNatClampNeg)).toInt64) * (((w.1 59 b.toNatClampNeg) - (w.1 59 a.toNatClampNeg)).toInt64)) + ((((w.1 60 b.toNatClampNeg) - (w.1 60 a.toNatClampNeg)).toInt64) * (((w.1 60 b.toNatClampNeg) - (w.1 60 a.toNatClampNeg)).toInt64))) (((w.1 59 c.toNatClampNeg) - (w.1 59 b.toNatClampNeg)).toInt64) (((w.1 60 c.toNatClampNeg) - (w.1 60 b.toNatClampNeg)).toInt64)  w ).2)  ((g_Mo_reach_122 (((w.1 59 b.toNatClampNeg) - (w.1 59 a.toNatClampNeg)).toInt64) (((w.1 60 b.toNatClampNeg) - (w.1 60 a.toNatClampNeg)).toInt64) (((w.1 59 c.toNatClampNeg) - (w.1 59 a.toNatClampNeg)).toInt64) (((w.1 60 c.toNatClampNeg) - (w.1 60 a.toNatClampNeg)).toInt64) (((((w.1 59 b.toNatClampNeg) - (w.1 59 a.toNatClampNeg)).toInt64) * (((w.1 59 c.toNatClampNeg) - (w.1 59 a.toNatClampNeg)).toInt64)) + ((((w.1 60 b.toNatClampNeg) - (w.1 60 a.toNatClampNeg)).toInt64) * (((w.1 60 c.toNatClampNeg) - (w.1 60 a.toNatClampNeg)).toInt64))) (((((w.1 59 b.toNatClampNeg) - (w.1 59 a.toNatClampNeg)).toInt64) * (((w.1 59 b.toNatClampNeg) - (w.1 59 a.toNatClampNeg)).toInt64)) + ((((w.1 60 b.toNatClampNeg) - (w.1 60 a.toNatClampNeg)).toInt64) * (((w.1 60 b.toNatClampNeg) - (w.1 60 a.toNatClampNeg)).toInt64))) (((w.1 59 c.toNatClampNeg) - (w.1 59 b.toNatClampNeg)).toInt64) (((w.1 60 c.toNatClampNeg) - (w.1 60 b.toNatClampNeg)).toInt64)  w ).1) ).2) ((g_Mo_reach_190 (((((w.1 59 b.toNatClampNeg) - (w.1 59 a.toNatClampNeg)).toInt64) * (((w.1 59 c.toNatClampNeg) - (w.1 59 a.toNatClampNeg)).toInt64)) + ((((w.1 60 b.toNatClampNeg) - (w.1 60 a.toNatClampNeg)).toInt64) * (((w.1 60 c.toNatClampNeg) - (w.1 60 a.toNatClampNeg)).toInt64))) (((((w.1 59 b.toNatClampNeg) - (w.1 59 a.toNatClampNeg)).toInt64) * (((w.1 59 b.toNatClampNeg) - (w.1 59 a.toNatClampNeg)).toInt64)) + ((((w.1 60 b.toNatClampNeg) - (w.1 60 a.toNatClampNeg)).toInt64) * (((w.1 60 b.toNatClampNeg) - (w.1 60 a.toNatClampNeg)).toInt64))) ((g_Mo_reach_122 (((w.1 59 b.toNatClampNeg) - (w.1 59 a.toNatClampNeg)).toInt64) (((w.1 60 b.toNatClampNeg) - (w.1 60 a.toNatClampNeg)).toInt64) (((w.1 59 c.toNatClampNeg) - (w.1 59 a.toNatClampNeg)).toInt64) (((w.1 60 c.toNatClampNeg) - (w.1 60 a.toNatClampNeg)).toInt64) (((((w.1 59 b.toNatClampNeg) - (w.1 59 a.toNatClampNeg)).toInt64) * (((w.1 59 c.toNatClampNeg) - (w.1 59 a.toNatClampNeg)).toInt64)) + ((((w.1 60 b.toNatClampNeg) - (w.1 60 a.toNatClampNeg)).toInt64) * (((w.1 60 c.toNatClampNeg) - (w.1 60 a.toNatClampNeg)).toInt64))) (((((w.1 59 b.toNatClampNeg) - (w.1 59 a.toNatClampNeg)).toInt64) * (((w.1 59 b.toNatClampNeg) - (w.1 59 a.toNatClampNeg)).toInt64)) + ((((w.1 60 b.toNatClampNeg) - (w.1 60 a.toNatClampNeg)).toInt64) * (((w.1 60 b.toNatClampNeg) - (w.1 60 a.toNatClampNeg)).toInt64))) (((w.1 59 c.toNatClampNeg) - (w.1 59 b.toNatClampNeg)).toInt64) (((w.1 60 c.toNatClampNeg) - (w.1 60 b.toNatClampNeg)).toInt64)  w ).2)  ((g_Mo_reach_122 (((w.1 59 b.toNatClampNeg) - (w.1 59 a.toNatClampNeg)).toInt64) (((w.1 60 b.toNatClampNeg) - (w.1 60 a.toNatClampNeg)).toInt64) (((w.1 59 c.toNatClampNeg) - (w.1 59 a.toNatClampNeg)).toInt64) (((w.1 60 c.toNatClampNeg) - (w.1 60 a.toNatClampNeg)).toInt64) (((((w.1 59 b.toNatClampNeg) - (w.1 59 a.toNatClampNeg)).toInt64) * (((w.1 59 c.toNatClampNeg) - (w.1 59 a.toNatClampNeg)).toInt64)) + ((((w.1 60 b.toNatClampNeg) - (w.1 60 a.toNatClampNeg)).toInt64) * (((w.1 60 c.toNatClampNeg) - (w.1 60 a.toNatClampNeg)).toInt64))) (((((w.1 59 b.toNatClampNeg) - (w.1 59 a.toNatClampNeg)).toInt64) * (((w.1 59 b.toNatClampNeg) - (w.1 59 a.toNatClampNeg)).toInt64)) + ((((w.1 60 b.toNatClampNeg) - (w.1 60 a.toNatClampNeg)).toInt64) * (((w.1 60 b.toNatClampNeg) - (w.1 60 a.toNatClampNeg)).toInt64))) (((w.1 59 c.toNatClampNeg) - (w.1 59 b.toNatClampNeg)).toInt64) (((w.1 60 c.toNatClampNeg) - (w.1 60 b.toNatClampNeg)).toInt64)  w ).1) ).1)   (by omega) ?_
  exact zer rfl rfl
end
