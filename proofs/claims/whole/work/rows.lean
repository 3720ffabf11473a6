section
-- ===== PART A: goes FIRST, ahead of the names: the tables' words, and 'selects' of the private methods out of them =====
/-- a private method of a class that the tables say can be made, by its rows of tables_1 -/
def lw_okq (q : MethodName × Nat) : Prop := (q.1.cls ≠ "java/lang/invoke/MethodHandle" ∧ q.1.cls ≠ "java/lang/invoke/VarHandle") ∧ Cond.instantiable q.1.cls q.2 ∈ tables_1 ∧ Cond.privateMethod q.1 ∈ tables_1 ∧ Cond.instanceMethod q.1 ∈ tables_1
theorem lw_p0 : lw_okq (⟨"SpatialTables$Geometry", "hasEqualNeighbours", "()Z"⟩, 4) := ⟨⟨by decide +kernel, by decide +kernel⟩, List.mem_of_getElem? (i := 176) (by decide +kernel), List.mem_of_getElem? (i := 247) (by decide +kernel), List.mem_of_getElem? (i := 248) (by decide +kernel)⟩
theorem lw_p1 : lw_okq (⟨"SpatialTables$Geometry", "touchesItself", "()Z"⟩, 4) := ⟨⟨by decide +kernel, by decide +kernel⟩, List.mem_of_getElem? (i := 176) (by decide +kernel), List.mem_of_getElem? (i := 259) (by decide +kernel), List.mem_of_getElem? (i := 260) (by decide +kernel)⟩
theorem lw_p2 : lw_okq (⟨"SpatialTables$Geometry", "mayNotMeetAsTheyDo", "(II)Z"⟩, 4) := ⟨⟨by decide +kernel, by decide +kernel⟩, List.mem_of_getElem? (i := 176) (by decide +kernel), List.mem_of_getElem? (i := 263) (by decide +kernel), List.mem_of_getElem? (i := 264) (by decide +kernel)⟩
theorem lw_p3 : lw_okq (⟨"SpatialTables$Geometry", "foldsBack", "(II)Z"⟩, 4) := ⟨⟨by decide +kernel, by decide +kernel⟩, List.mem_of_getElem? (i := 176) (by decide +kernel), List.mem_of_getElem? (i := 267) (by decide +kernel), List.mem_of_getElem? (i := 268) (by decide +kernel)⟩
theorem lw_p4 : lw_okq (⟨"SpatialTables$Geometry", "turn", "(III)I"⟩, 4) := ⟨⟨by decide +kernel, by decide +kernel⟩, List.mem_of_getElem? (i := 176) (by decide +kernel), List.mem_of_getElem? (i := 275) (by decide +kernel), List.mem_of_getElem? (i := 276) (by decide +kernel)⟩
theorem lw_p5 : lw_okq (⟨"SpatialTables$Geometry", "isBeside", "(ILSpatialTables$Geometry;I)Z"⟩, 4) := ⟨⟨by decide +kernel, by decide +kernel⟩, List.mem_of_getElem? (i := 176) (by decide +kernel), List.mem_of_getElem? (i := 282) (by decide +kernel), List.mem_of_getElem? (i := 283) (by decide +kernel)⟩
theorem lw_p6 : lw_okq (⟨"SpatialTables$Index", "newNode", "()I"⟩, 6) := ⟨⟨by decide +kernel, by decide +kernel⟩, List.mem_of_getElem? (i := 84) (by decide +kernel), List.mem_of_getElem? (i := 310) (by decide +kernel), List.mem_of_getElem? (i := 311) (by decide +kernel)⟩
theorem lw_p7 : lw_okq (⟨"SpatialTables$Index", "stretch", "(ILSpatialTables$Bound;)V"⟩, 6) := ⟨⟨by decide +kernel, by decide +kernel⟩, List.mem_of_getElem? (i := 84) (by decide +kernel), List.mem_of_getElem? (i := 314) (by decide +kernel), List.mem_of_getElem? (i := 315) (by decide +kernel)⟩
theorem lw_p8 : lw_okq (⟨"SpatialTables$Index", "partOf", "(II)I"⟩, 6) := ⟨⟨by decide +kernel, by decide +kernel⟩, List.mem_of_getElem? (i := 84) (by decide +kernel), List.mem_of_getElem? (i := 328) (by decide +kernel), List.mem_of_getElem? (i := 329) (by decide +kernel)⟩
theorem lw_p9 : lw_okq (⟨"SpatialTables", "placeOf", "(II)LSpatialTables$Geometry;"⟩, 13) := ⟨⟨by decide +kernel, by decide +kernel⟩, List.mem_of_getElem? (i := 15) (by decide +kernel), List.mem_of_getElem? (i := 336) (by decide +kernel), List.mem_of_getElem? (i := 337) (by decide +kernel)⟩
theorem lw_p10 : lw_okq (⟨"SpatialTables", "clearAnswers", "()V"⟩, 13) := ⟨⟨by decide +kernel, by decide +kernel⟩, List.mem_of_getElem? (i := 15) (by decide +kernel), List.mem_of_getElem? (i := 358) (by decide +kernel), List.mem_of_getElem? (i := 359) (by decide +kernel)⟩
theorem lw_p11 : lw_okq (⟨"SpatialTables", "searchReads", "(LSpatialTables$Geometry;II)I"⟩, 13) := ⟨⟨by decide +kernel, by decide +kernel⟩, List.mem_of_getElem? (i := 15) (by decide +kernel), List.mem_of_getElem? (i := 362) (by decide +kernel), List.mem_of_getElem? (i := 363) (by decide +kernel)⟩
theorem lw_p12 : lw_okq (⟨"SpatialTables", "readsWithin", "(LSpatialTables$Bound;ILSpatialTables$Distance;)I"⟩, 13) := ⟨⟨by decide +kernel, by decide +kernel⟩, List.mem_of_getElem? (i := 15) (by decide +kernel), List.mem_of_getElem? (i := 380) (by decide +kernel), List.mem_of_getElem? (i := 381) (by decide +kernel)⟩
theorem lw_p13 : lw_okq (⟨"SpatialTables", "rowsFound", "(LSpatialTables$Geometry;II)I"⟩, 13) := ⟨⟨by decide +kernel, by decide +kernel⟩, List.mem_of_getElem? (i := 15) (by decide +kernel), List.mem_of_getElem? (i := 409) (by decide +kernel), List.mem_of_getElem? (i := 410) (by decide +kernel)⟩
theorem lw_p14 : lw_okq (⟨"SpatialTables$Distance", "lessenBySides", "(LSpatialTables$Geometry;ILSpatialTables$Geometry;I)V"⟩, 2) := ⟨⟨by decide +kernel, by decide +kernel⟩, List.mem_of_getElem? (i := 57) (by decide +kernel), List.mem_of_getElem? (i := 425) (by decide +kernel), List.mem_of_getElem? (i := 426) (by decide +kernel)⟩
theorem lw_p15 : lw_okq (⟨"SpatialTables$Distance", "lessenByEnd", "(LSpatialTables$Geometry;ILSpatialTables$Geometry;I)V"⟩, 2) := ⟨⟨by decide +kernel, by decide +kernel⟩, List.mem_of_getElem? (i := 57) (by decide +kernel), List.mem_of_getElem? (i := 430) (by decide +kernel), List.mem_of_getElem? (i := 431) (by decide +kernel)⟩
def lw_privs_1 : List (MethodName × Nat) := [(⟨"SpatialTables$Geometry", "hasEqualNeighbours", "()Z"⟩, 4), (⟨"SpatialTables$Geometry", "touchesItself", "()Z"⟩, 4), (⟨"SpatialTables$Geometry", "mayNotMeetAsTheyDo", "(II)Z"⟩, 4), (⟨"SpatialTables$Geometry", "foldsBack", "(II)Z"⟩, 4), (⟨"SpatialTables$Geometry", "turn", "(III)I"⟩, 4), (⟨"SpatialTables$Geometry", "isBeside", "(ILSpatialTables$Geometry;I)Z"⟩, 4), (⟨"SpatialTables$Index", "newNode", "()I"⟩, 6), (⟨"SpatialTables$Index", "stretch", "(ILSpatialTables$Bound;)V"⟩, 6), (⟨"SpatialTables$Index", "partOf", "(II)I"⟩, 6), (⟨"SpatialTables", "placeOf", "(II)LSpatialTables$Geometry;"⟩, 13), (⟨"SpatialTables", "clearAnswers", "()V"⟩, 13), (⟨"SpatialTables", "searchReads", "(LSpatialTables$Geometry;II)I"⟩, 13), (⟨"SpatialTables", "readsWithin", "(LSpatialTables$Bound;ILSpatialTables$Distance;)I"⟩, 13), (⟨"SpatialTables", "rowsFound", "(LSpatialTables$Geometry;II)I"⟩, 13), (⟨"SpatialTables$Distance", "lessenBySides", "(LSpatialTables$Geometry;ILSpatialTables$Geometry;I)V"⟩, 2), (⟨"SpatialTables$Distance", "lessenByEnd", "(LSpatialTables$Geometry;ILSpatialTables$Geometry;I)V"⟩, 2)]
theorem lw_r1 : ∀ q ∈ lw_privs_1, lw_okq q := List.forall_mem_cons.mpr ⟨lw_p0, List.forall_mem_cons.mpr ⟨lw_p1, List.forall_mem_cons.mpr ⟨lw_p2, List.forall_mem_cons.mpr ⟨lw_p3, List.forall_mem_cons.mpr ⟨lw_p4, List.forall_mem_cons.mpr ⟨lw_p5, List.forall_mem_cons.mpr ⟨lw_p6, List.forall_mem_cons.mpr ⟨lw_p7, List.forall_mem_cons.mpr ⟨lw_p8, List.forall_mem_cons.mpr ⟨lw_p9, List.forall_mem_cons.mpr ⟨lw_p10, List.forall_mem_cons.mpr ⟨lw_p11, List.forall_mem_cons.mpr ⟨lw_p12, List.forall_mem_cons.mpr ⟨lw_p13, List.forall_mem_cons.mpr ⟨lw_p14, List.forall_mem_cons.mpr ⟨lw_p15, fun _ h => absurd h List.not_mem_nil⟩⟩⟩⟩⟩⟩⟩⟩⟩⟩⟩⟩⟩⟩⟩⟩
theorem lw_p16 : lw_okq (⟨"SpatialTables$Distance", "lessen", "(JJ)V"⟩, 2) := ⟨⟨by decide +kernel, by decide +kernel⟩, List.mem_of_getElem? (i := 57) (by decide +kernel), List.mem_of_getElem? (i := 435) (by decide +kernel), List.mem_of_getElem? (i := 436) (by decide +kernel)⟩
theorem lw_p17 : lw_okq (⟨"SpatialTables", "addAnswer", "(I)V"⟩, 13) := ⟨⟨by decide +kernel, by decide +kernel⟩, List.mem_of_getElem? (i := 15) (by decide +kernel), List.mem_of_getElem? (i := 450) (by decide +kernel), List.mem_of_getElem? (i := 451) (by decide +kernel)⟩
theorem lw_p18 : lw_okq (⟨"SpatialTables", "orderByDistance", "(LSpatialTables$Geometry;LSpatialTables$Table;)I"⟩, 13) := ⟨⟨by decide +kernel, by decide +kernel⟩, List.mem_of_getElem? (i := 15) (by decide +kernel), List.mem_of_getElem? (i := 458) (by decide +kernel), List.mem_of_getElem? (i := 459) (by decide +kernel)⟩
theorem lw_p19 : lw_okq (⟨"SpatialTables", "putInOrder", "(II)V"⟩, 13) := ⟨⟨by decide +kernel, by decide +kernel⟩, List.mem_of_getElem? (i := 15) (by decide +kernel), List.mem_of_getElem? (i := 462) (by decide +kernel), List.mem_of_getElem? (i := 463) (by decide +kernel)⟩
theorem lw_p20 : lw_okq (⟨"SpatialTables", "addPairs", "(II)V"⟩, 13) := ⟨⟨by decide +kernel, by decide +kernel⟩, List.mem_of_getElem? (i := 15) (by decide +kernel), List.mem_of_getElem? (i := 478) (by decide +kernel), List.mem_of_getElem? (i := 479) (by decide +kernel)⟩
theorem lw_p21 : lw_okq (⟨"SpatialTables", "changedPages", "()I"⟩, 13) := ⟨⟨by decide +kernel, by decide +kernel⟩, List.mem_of_getElem? (i := 15) (by decide +kernel), List.mem_of_getElem? (i := 514) (by decide +kernel), List.mem_of_getElem? (i := 515) (by decide +kernel)⟩
theorem lw_p22 : lw_okq (⟨"SpatialTables", "pagesWithRows", "()I"⟩, 13) := ⟨⟨by decide +kernel, by decide +kernel⟩, List.mem_of_getElem? (i := 15) (by decide +kernel), List.mem_of_getElem? (i := 531) (by decide +kernel), List.mem_of_getElem? (i := 532) (by decide +kernel)⟩
theorem lw_p23 : lw_okq (⟨"SpatialTables$Frames", "takenFrames", "()I"⟩, 1) := ⟨⟨by decide +kernel, by decide +kernel⟩, List.mem_of_getElem? (i := 27) (by decide +kernel), List.mem_of_getElem? (i := 539) (by decide +kernel), List.mem_of_getElem? (i := 540) (by decide +kernel)⟩
theorem lw_p24 : lw_okq (⟨"SpatialTables", "keepPresentTables", "()V"⟩, 13) := ⟨⟨by decide +kernel, by decide +kernel⟩, List.mem_of_getElem? (i := 15) (by decide +kernel), List.mem_of_getElem? (i := 552) (by decide +kernel), List.mem_of_getElem? (i := 553) (by decide +kernel)⟩
theorem lw_p25 : lw_okq (⟨"SpatialTablesModel", "fault", "(I)I"⟩, 26) := ⟨⟨by decide +kernel, by decide +kernel⟩, List.mem_of_getElem? (i := 578) (by decide +kernel), List.mem_of_getElem? (i := 673) (by decide +kernel), List.mem_of_getElem? (i := 674) (by decide +kernel)⟩
theorem lw_p26 : lw_okq (⟨"SpatialTablesModel", "clash", "(II)Z"⟩, 26) := ⟨⟨by decide +kernel, by decide +kernel⟩, List.mem_of_getElem? (i := 578) (by decide +kernel), List.mem_of_getElem? (i := 677) (by decide +kernel), List.mem_of_getElem? (i := 678) (by decide +kernel)⟩
theorem lw_p27 : lw_okq (⟨"SpatialTablesModel", "stuck", "(III)Z"⟩, 26) := ⟨⟨by decide +kernel, by decide +kernel⟩, List.mem_of_getElem? (i := 578) (by decide +kernel), List.mem_of_getElem? (i := 681) (by decide +kernel), List.mem_of_getElem? (i := 682) (by decide +kernel)⟩
theorem lw_p28 : lw_okq (⟨"SpatialTablesModel", "apart", "(IIII)Z"⟩, 26) := ⟨⟨by decide +kernel, by decide +kernel⟩, List.mem_of_getElem? (i := 578) (by decide +kernel), List.mem_of_getElem? (i := 694) (by decide +kernel), List.mem_of_getElem? (i := 695) (by decide +kernel)⟩
theorem lw_p29 : lw_okq (⟨"SpatialTablesModel", "bind", "(I)V"⟩, 26) := ⟨⟨by decide +kernel, by decide +kernel⟩, List.mem_of_getElem? (i := 578) (by decide +kernel), List.mem_of_getElem? (i := 698) (by decide +kernel), List.mem_of_getElem? (i := 699) (by decide +kernel)⟩
theorem lw_p30 : lw_okq (⟨"SpatialTablesModel", "size", "(I)I"⟩, 26) := ⟨⟨by decide +kernel, by decide +kernel⟩, List.mem_of_getElem? (i := 578) (by decide +kernel), List.mem_of_getElem? (i := 709) (by decide +kernel), List.mem_of_getElem? (i := 710) (by decide +kernel)⟩
theorem lw_p31 : lw_okq (⟨"SpatialTablesModel", "copyShape", "(II)V"⟩, 26) := ⟨⟨by decide +kernel, by decide +kernel⟩, List.mem_of_getElem? (i := 578) (by decide +kernel), List.mem_of_getElem? (i := 713) (by decide +kernel), List.mem_of_getElem? (i := 714) (by decide +kernel)⟩
def lw_privs_2 : List (MethodName × Nat) := [(⟨"SpatialTables$Distance", "lessen", "(JJ)V"⟩, 2), (⟨"SpatialTables", "addAnswer", "(I)V"⟩, 13), (⟨"SpatialTables", "orderByDistance", "(LSpatialTables$Geometry;LSpatialTables$Table;)I"⟩, 13), (⟨"SpatialTables", "putInOrder", "(II)V"⟩, 13), (⟨"SpatialTables", "addPairs", "(II)V"⟩, 13), (⟨"SpatialTables", "changedPages", "()I"⟩, 13), (⟨"SpatialTables", "pagesWithRows", "()I"⟩, 13), (⟨"SpatialTables$Frames", "takenFrames", "()I"⟩, 1), (⟨"SpatialTables", "keepPresentTables", "()V"⟩, 13), (⟨"SpatialTablesModel", "fault", "(I)I"⟩, 26), (⟨"SpatialTablesModel", "clash", "(II)Z"⟩, 26), (⟨"SpatialTablesModel", "stuck", "(III)Z"⟩, 26), (⟨"SpatialTablesModel", "apart", "(IIII)Z"⟩, 26), (⟨"SpatialTablesModel", "bind", "(I)V"⟩, 26), (⟨"SpatialTablesModel", "size", "(I)I"⟩, 26), (⟨"SpatialTablesModel", "copyShape", "(II)V"⟩, 26)]
theorem lw_r2 : ∀ q ∈ lw_privs_2, lw_okq q := List.forall_mem_cons.mpr ⟨lw_p16, List.forall_mem_cons.mpr ⟨lw_p17, List.forall_mem_cons.mpr ⟨lw_p18, List.forall_mem_cons.mpr ⟨lw_p19, List.forall_mem_cons.mpr ⟨lw_p20, List.forall_mem_cons.mpr ⟨lw_p21, List.forall_mem_cons.mpr ⟨lw_p22, List.forall_mem_cons.mpr ⟨lw_p23, List.forall_mem_cons.mpr ⟨lw_p24, List.forall_mem_cons.mpr ⟨lw_p25, List.forall_mem_cons.mpr ⟨lw_p26, List.forall_mem_cons.mpr ⟨lw_p27, List.forall_mem_cons.mpr ⟨lw_p28, List.forall_mem_cons.mpr ⟨lw_p29, List.forall_mem_cons.mpr ⟨lw_p30, List.forall_mem_cons.mpr ⟨lw_p31, fun _ h => absurd h List.not_mem_nil⟩⟩⟩⟩⟩⟩⟩⟩⟩⟩⟩⟩⟩⟩⟩⟩
theorem lw_p32 : lw_okq (⟨"SpatialTablesModel", "slot", "(II)I"⟩, 26) := ⟨⟨by decide +kernel, by decide +kernel⟩, List.mem_of_getElem? (i := 578) (by decide +kernel), List.mem_of_getElem? (i := 721) (by decide +kernel), List.mem_of_getElem? (i := 722) (by decide +kernel)⟩
theorem lw_p33 : lw_okq (⟨"SpatialTablesModel", "finds", "(III)Z"⟩, 26) := ⟨⟨by decide +kernel, by decide +kernel⟩, List.mem_of_getElem? (i := 578) (by decide +kernel), List.mem_of_getElem? (i := 733) (by decide +kernel), List.mem_of_getElem? (i := 734) (by decide +kernel)⟩
theorem lw_p34 : lw_okq (⟨"SpatialTablesModel", "measureOut", "(II)V"⟩, 26) := ⟨⟨by decide +kernel, by decide +kernel⟩, List.mem_of_getElem? (i := 578) (by decide +kernel), List.mem_of_getElem? (i := 737) (by decide +kernel), List.mem_of_getElem? (i := 738) (by decide +kernel)⟩
theorem lw_p35 : lw_okq (⟨"SpatialTablesModel", "meet", "(II)Z"⟩, 26) := ⟨⟨by decide +kernel, by decide +kernel⟩, List.mem_of_getElem? (i := 578) (by decide +kernel), List.mem_of_getElem? (i := 741) (by decide +kernel), List.mem_of_getElem? (i := 742) (by decide +kernel)⟩
theorem lw_p36 : lw_okq (⟨"SpatialTablesModel", "sides", "(I)I"⟩, 26) := ⟨⟨by decide +kernel, by decide +kernel⟩, List.mem_of_getElem? (i := 578) (by decide +kernel), List.mem_of_getElem? (i := 745) (by decide +kernel), List.mem_of_getElem? (i := 746) (by decide +kernel)⟩
theorem lw_p37 : lw_okq (⟨"SpatialTablesModel", "corner", "(III)I"⟩, 26) := ⟨⟨by decide +kernel, by decide +kernel⟩, List.mem_of_getElem? (i := 578) (by decide +kernel), List.mem_of_getElem? (i := 749) (by decide +kernel), List.mem_of_getElem? (i := 750) (by decide +kernel)⟩
theorem lw_p38 : lw_okq (⟨"SpatialTablesModel", "touching", "(IIII)Z"⟩, 26) := ⟨⟨by decide +kernel, by decide +kernel⟩, List.mem_of_getElem? (i := 578) (by decide +kernel), List.mem_of_getElem? (i := 753) (by decide +kernel), List.mem_of_getElem? (i := 754) (by decide +kernel)⟩
theorem lw_p39 : lw_okq (⟨"SpatialTablesModel", "lies", "(III)Z"⟩, 26) := ⟨⟨by decide +kernel, by decide +kernel⟩, List.mem_of_getElem? (i := 578) (by decide +kernel), List.mem_of_getElem? (i := 757) (by decide +kernel), List.mem_of_getElem? (i := 758) (by decide +kernel)⟩
theorem lw_p40 : lw_okq (⟨"SpatialTablesModel", "turn", "(III)J"⟩, 26) := ⟨⟨by decide +kernel, by decide +kernel⟩, List.mem_of_getElem? (i := 578) (by decide +kernel), List.mem_of_getElem? (i := 761) (by decide +kernel), List.mem_of_getElem? (i := 762) (by decide +kernel)⟩
theorem lw_p41 : lw_okq (⟨"SpatialTablesModel", "within", "(II)Z"⟩, 26) := ⟨⟨by decide +kernel, by decide +kernel⟩, List.mem_of_getElem? (i := 578) (by decide +kernel), List.mem_of_getElem? (i := 765) (by decide +kernel), List.mem_of_getElem? (i := 766) (by decide +kernel)⟩
theorem lw_p42 : lw_okq (⟨"SpatialTablesModel", "reach", "(III)V"⟩, 26) := ⟨⟨by decide +kernel, by decide +kernel⟩, List.mem_of_getElem? (i := 578) (by decide +kernel), List.mem_of_getElem? (i := 770) (by decide +kernel), List.mem_of_getElem? (i := 771) (by decide +kernel)⟩
theorem lw_p43 : lw_okq (⟨"SpatialTablesModel", "searchReads", "(III)I"⟩, 26) := ⟨⟨by decide +kernel, by decide +kernel⟩, List.mem_of_getElem? (i := 578) (by decide +kernel), List.mem_of_getElem? (i := 774) (by decide +kernel), List.mem_of_getElem? (i := 775) (by decide +kernel)⟩
theorem lw_p44 : lw_okq (⟨"SpatialTablesModel", "readBy", "(IIJJ)I"⟩, 26) := ⟨⟨by decide +kernel, by decide +kernel⟩, List.mem_of_getElem? (i := 578) (by decide +kernel), List.mem_of_getElem? (i := 778) (by decide +kernel), List.mem_of_getElem? (i := 779) (by decide +kernel)⟩
theorem lw_p45 : lw_okq (⟨"SpatialTablesModel", "around", "(I)V"⟩, 26) := ⟨⟨by decide +kernel, by decide +kernel⟩, List.mem_of_getElem? (i := 578) (by decide +kernel), List.mem_of_getElem? (i := 782) (by decide +kernel), List.mem_of_getElem? (i := 783) (by decide +kernel)⟩
theorem lw_p46 : lw_okq (⟨"SpatialTablesModel", "close", "(IJJ)Z"⟩, 26) := ⟨⟨by decide +kernel, by decide +kernel⟩, List.mem_of_getElem? (i := 578) (by decide +kernel), List.mem_of_getElem? (i := 786) (by decide +kernel), List.mem_of_getElem? (i := 787) (by decide +kernel)⟩
theorem lw_p47 : lw_okq (⟨"SpatialTablesModel", "home", "(I)I"⟩, 26) := ⟨⟨by decide +kernel, by decide +kernel⟩, List.mem_of_getElem? (i := 578) (by decide +kernel), List.mem_of_getElem? (i := 793) (by decide +kernel), List.mem_of_getElem? (i := 794) (by decide +kernel)⟩
def lw_privs_3 : List (MethodName × Nat) := [(⟨"SpatialTablesModel", "slot", "(II)I"⟩, 26), (⟨"SpatialTablesModel", "finds", "(III)Z"⟩, 26), (⟨"SpatialTablesModel", "measureOut", "(II)V"⟩, 26), (⟨"SpatialTablesModel", "meet", "(II)Z"⟩, 26), (⟨"SpatialTablesModel", "sides", "(I)I"⟩, 26), (⟨"SpatialTablesModel", "corner", "(III)I"⟩, 26), (⟨"SpatialTablesModel", "touching", "(IIII)Z"⟩, 26), (⟨"SpatialTablesModel", "lies", "(III)Z"⟩, 26), (⟨"SpatialTablesModel", "turn", "(III)J"⟩, 26), (⟨"SpatialTablesModel", "within", "(II)Z"⟩, 26), (⟨"SpatialTablesModel", "reach", "(III)V"⟩, 26), (⟨"SpatialTablesModel", "searchReads", "(III)I"⟩, 26), (⟨"SpatialTablesModel", "readBy", "(IIJJ)I"⟩, 26), (⟨"SpatialTablesModel", "around", "(I)V"⟩, 26), (⟨"SpatialTablesModel", "close", "(IJJ)Z"⟩, 26), (⟨"SpatialTablesModel", "home", "(I)I"⟩, 26)]
theorem lw_r3 : ∀ q ∈ lw_privs_3, lw_okq q := List.forall_mem_cons.mpr ⟨lw_p32, List.forall_mem_cons.mpr ⟨lw_p33, List.forall_mem_cons.mpr ⟨lw_p34, List.forall_mem_cons.mpr ⟨lw_p35, List.forall_mem_cons.mpr ⟨lw_p36, List.forall_mem_cons.mpr ⟨lw_p37, List.forall_mem_cons.mpr ⟨lw_p38, List.forall_mem_cons.mpr ⟨lw_p39, List.forall_mem_cons.mpr ⟨lw_p40, List.forall_mem_cons.mpr ⟨lw_p41, List.forall_mem_cons.mpr ⟨lw_p42, List.forall_mem_cons.mpr ⟨lw_p43, List.forall_mem_cons.mpr ⟨lw_p44, List.forall_mem_cons.mpr ⟨lw_p45, List.forall_mem_cons.mpr ⟨lw_p46, List.forall_mem_cons.mpr ⟨lw_p47, fun _ h => absurd h List.not_mem_nil⟩⟩⟩⟩⟩⟩⟩⟩⟩⟩⟩⟩⟩⟩⟩⟩
theorem lw_p48 : lw_okq (⟨"SpatialTablesModel", "foremost", "(II)Z"⟩, 26) := ⟨⟨by decide +kernel, by decide +kernel⟩, List.mem_of_getElem? (i := 578) (by decide +kernel), List.mem_of_getElem? (i := 797) (by decide +kernel), List.mem_of_getElem? (i := 798) (by decide +kernel)⟩
theorem lw_p49 : lw_okq (⟨"SpatialTablesModel", "shares", "(III)Z"⟩, 26) := ⟨⟨by decide +kernel, by decide +kernel⟩, List.mem_of_getElem? (i := 578) (by decide +kernel), List.mem_of_getElem? (i := 801) (by decide +kernel), List.mem_of_getElem? (i := 802) (by decide +kernel)⟩
theorem lw_p50 : lw_okq (⟨"SpatialTablesModel", "nodeBound", "(II)V"⟩, 26) := ⟨⟨by decide +kernel, by decide +kernel⟩, List.mem_of_getElem? (i := 578) (by decide +kernel), List.mem_of_getElem? (i := 805) (by decide +kernel), List.mem_of_getElem? (i := 806) (by decide +kernel)⟩
theorem lw_p51 : lw_okq (⟨"SpatialTablesModel", "nearer", "(II)Z"⟩, 26) := ⟨⟨by decide +kernel, by decide +kernel⟩, List.mem_of_getElem? (i := 578) (by decide +kernel), List.mem_of_getElem? (i := 813) (by decide +kernel), List.mem_of_getElem? (i := 814) (by decide +kernel)⟩
theorem lw_p52 : lw_okq (⟨"SpatialTablesModel", "changed", "(I)Z"⟩, 26) := ⟨⟨by decide +kernel, by decide +kernel⟩, List.mem_of_getElem? (i := 578) (by decide +kernel), List.mem_of_getElem? (i := 849) (by decide +kernel), List.mem_of_getElem? (i := 850) (by decide +kernel)⟩
theorem lw_p53 : lw_okq (⟨"SpatialTablesModel", "sameRow", "(II)Z"⟩, 26) := ⟨⟨by decide +kernel, by decide +kernel⟩, List.mem_of_getElem? (i := 578) (by decide +kernel), List.mem_of_getElem? (i := 853) (by decide +kernel), List.mem_of_getElem? (i := 854) (by decide +kernel)⟩
theorem lw_p54 : lw_okq (⟨"SpatialTablesModel", "filled", "(I)Z"⟩, 26) := ⟨⟨by decide +kernel, by decide +kernel⟩, List.mem_of_getElem? (i := 578) (by decide +kernel), List.mem_of_getElem? (i := 857) (by decide +kernel), List.mem_of_getElem? (i := 858) (by decide +kernel)⟩
theorem lw_p55 : lw_okq (⟨"SpatialTablesModel", "write", "(I)Z"⟩, 26) := ⟨⟨by decide +kernel, by decide +kernel⟩, List.mem_of_getElem? (i := 578) (by decide +kernel), List.mem_of_getElem? (i := 861) (by decide +kernel), List.mem_of_getElem? (i := 862) (by decide +kernel)⟩
theorem lw_p56 : lw_okq (⟨"SpatialTablesModel", "isFree", "(I)Z"⟩, 26) := ⟨⟨by decide +kernel, by decide +kernel⟩, List.mem_of_getElem? (i := 578) (by decide +kernel), List.mem_of_getElem? (i := 865) (by decide +kernel), List.mem_of_getElem? (i := 866) (by decide +kernel)⟩
theorem lw_p57 : lw_okq (⟨"SpatialTablesModel", "copyRow", "(II)V"⟩, 26) := ⟨⟨by decide +kernel, by decide +kernel⟩, List.mem_of_getElem? (i := 578) (by decide +kernel), List.mem_of_getElem? (i := 877) (by decide +kernel), List.mem_of_getElem? (i := 878) (by decide +kernel)⟩
def lw_privs_4 : List (MethodName × Nat) := [(⟨"SpatialTablesModel", "foremost", "(II)Z"⟩, 26), (⟨"SpatialTablesModel", "shares", "(III)Z"⟩, 26), (⟨"SpatialTablesModel", "nodeBound", "(II)V"⟩, 26), (⟨"SpatialTablesModel", "nearer", "(II)Z"⟩, 26), (⟨"SpatialTablesModel", "changed", "(I)Z"⟩, 26), (⟨"SpatialTablesModel", "sameRow", "(II)Z"⟩, 26), (⟨"SpatialTablesModel", "filled", "(I)Z"⟩, 26), (⟨"SpatialTablesModel", "write", "(I)Z"⟩, 26), (⟨"SpatialTablesModel", "isFree", "(I)Z"⟩, 26), (⟨"SpatialTablesModel", "copyRow", "(II)V"⟩, 26)]
theorem lw_r4 : ∀ q ∈ lw_privs_4, lw_okq q := List.forall_mem_cons.mpr ⟨lw_p48, List.forall_mem_cons.mpr ⟨lw_p49, List.forall_mem_cons.mpr ⟨lw_p50, List.forall_mem_cons.mpr ⟨lw_p51, List.forall_mem_cons.mpr ⟨lw_p52, List.forall_mem_cons.mpr ⟨lw_p53, List.forall_mem_cons.mpr ⟨lw_p54, List.forall_mem_cons.mpr ⟨lw_p55, List.forall_mem_cons.mpr ⟨lw_p56, List.forall_mem_cons.mpr ⟨lw_p57, fun _ h => absurd h List.not_mem_nil⟩⟩⟩⟩⟩⟩⟩⟩⟩⟩
def lw_privs : List (MethodName × Nat) := lw_privs_1 ++ (lw_privs_2 ++ (lw_privs_3 ++ (lw_privs_4)))
def lw_tbl : List Cond := k2_sels lw_privs ++ tables_1
theorem lw_privs_ok : ∀ q ∈ lw_privs, lw_okq q := by
  show ∀ q ∈ lw_privs_1 ++ (lw_privs_2 ++ (lw_privs_3 ++ (lw_privs_4))), lw_okq q
  exact List.forall_mem_append.mpr ⟨lw_r1, List.forall_mem_append.mpr ⟨lw_r2, List.forall_mem_append.mpr ⟨lw_r3, lw_r4⟩⟩⟩
end
section
-- printed by wip/whole/gen_m.py out of the claim: classes, fields, methods by number
/-- the words but those of private methods -/
def zpriv (w : Cond) : Bool := match w with
  | .privateMethod _ => true
  | _ => false
def zlw : List Cond := lw_tbl.filter (fun w => !zpriv w)
theorem zmm {w : Cond} {k : Nat} (h : lw_tbl[k]? = some w) (hp : (!zpriv w) = true) : w ∈ zlw := List.mem_filter.mpr ⟨List.mem_of_getElem? h, hp⟩
def R_La : String := "SpatialTablesLaw"
def R_ST : String := "SpatialTables"
def R_Fr : String := "SpatialTables$Frames"
def R_Ar : String := "java/util/Arrays"
def R_Dr : String := "SpatialTables$Draft"
def R_Di : String := "SpatialTables$Distance"
def R_Ta : String := "SpatialTables$Table"
def R_In : String := "SpatialTables$Index"
def R_Mo : String := "SpatialTablesModel"
def R_Ge : String := "SpatialTables$Geometry"
def R_Ma : String := "java/lang/Math"
def R_Sy : String := "java/lang/System"
def R_Bo : String := "SpatialTables$Bound"
def R_Ig : String := "java/lang/Integer"
def R_Ob : String := "java/lang/Object"
def R_AI : String := "[I"
def T_ST : u_T := fun k => match k with
  | 0 => ("SpatialTables", "present", "[LSpatialTables$Table;", true)
  | 1 => ("SpatialTables", "committed", "[LSpatialTables$Table;", true)
  | 2 => ("SpatialTables", "indexes", "[LSpatialTables$Index;", true)
  | 3 => ("SpatialTables", "frames", "LSpatialTables$Frames;", true)
  | 4 => ("SpatialTables", "draft", "LSpatialTables$Draft;", true)
  | 5 => ("SpatialTables", "focus", "LSpatialTables$Geometry;", false)
  | 6 => ("SpatialTables", "answers", "[I", true)
  | 7 => ("SpatialTables", "answerCount", "I", false)
  | 8 => ("SpatialTables", "readCount", "I", false)
  | 9 => ("SpatialTables", "measured", "LSpatialTables$Distance;", true)
  | 10 => ("SpatialTables", "reach", "LSpatialTables$Distance;", true)
  | 11 => ("SpatialTables", "distances", "[LSpatialTables$Distance;", true)
  | _ => ("SpatialTables", "order", "[I", true)
def ty_ST : Nat → FieldType := fun k => match k with
  | 0 => .array (.object "SpatialTables$Table")
  | 1 => .array (.object "SpatialTables$Table")
  | 2 => .array (.object "SpatialTables$Index")
  | 3 => .object "SpatialTables$Frames"
  | 4 => .object "SpatialTables$Draft"
  | 5 => .object "SpatialTables$Geometry"
  | 6 => .array .int
  | 7 => .int
  | 8 => .int
  | 9 => .object "SpatialTables$Distance"
  | 10 => .object "SpatialTables$Distance"
  | 11 => .array (.object "SpatialTables$Distance")
  | _ => .array .int
def df_ST : List Value := [.null, .null, .null, .null, .null, .null, .null, .int 0, .int 0, .null, .null, .null, .null]
theorem nm_ST : ∀ a, a < 13 → ∀ b, b < 13 → a ≠ b → (T_ST a).2.1 ≠ (T_ST b).2.1 := by decide +kernel
theorem tk_ST : ∀ k, k < 13 → parseFieldDescriptor (T_ST k).2.2.1 = some (ty_ST k) := by decide +kernel
theorem in_ST : ∀ w ∈ u_ws R_ST T_ST 13, w ∈ zlw := by decide +kernel
theorem dv_ST : ∀ j, j < 13 → defaultValue (ty_ST j) = vp_V df_ST j := by decide +kernel
theorem iw_ST : Cond.instantiable R_ST 13 ∈ zlw ∧ Cond.initialized R_ST ∈ zlw := ⟨zmm (k := 73) (by decide +kernel) rfl, zmm (k := 59) (by decide +kernel) rfl⟩
def T_Fr : u_T := fun k => match k with
  | _ => ("SpatialTables$Frames", "places", "[I", true)
def ty_Fr : Nat → FieldType := fun k => match k with
  | _ => .array .int
def df_Fr : List Value := [.null]
theorem nm_Fr : ∀ a, a < 1 → ∀ b, b < 1 → a ≠ b → (T_Fr a).2.1 ≠ (T_Fr b).2.1 := by decide +kernel
theorem tk_Fr : ∀ k, k < 1 → parseFieldDescriptor (T_Fr k).2.2.1 = some (ty_Fr k) := by decide +kernel
theorem in_Fr : ∀ w ∈ u_ws R_Fr T_Fr 1, w ∈ zlw := by decide +kernel
theorem dv_Fr : ∀ j, j < 1 → defaultValue (ty_Fr j) = vp_V df_Fr j := by decide +kernel
theorem iw_Fr : Cond.instantiable R_Fr 1 ∈ zlw ∧ Cond.initialized R_Fr ∈ zlw := ⟨zmm (k := 85) (by decide +kernel) rfl, zmm (k := 60) (by decide +kernel) rfl⟩
def T_Dr : u_T := fun k => match k with
  | 0 => ("SpatialTables$Draft", "xs", "[I", true)
  | 1 => ("SpatialTables$Draft", "ys", "[I", true)
  | _ => ("SpatialTables$Draft", "size", "I", false)
def ty_Dr : Nat → FieldType := fun k => match k with
  | 0 => .array .int
  | 1 => .array .int
  | _ => .int
def df_Dr : List Value := [.null, .null, .int 0]
theorem nm_Dr : ∀ a, a < 3 → ∀ b, b < 3 → a ≠ b → (T_Dr a).2.1 ≠ (T_Dr b).2.1 := by decide +kernel
theorem tk_Dr : ∀ k, k < 3 → parseFieldDescriptor (T_Dr k).2.2.1 = some (ty_Dr k) := by decide +kernel
theorem in_Dr : ∀ w ∈ u_ws R_Dr T_Dr 3, w ∈ zlw := by decide +kernel
theorem dv_Dr : ∀ j, j < 3 → defaultValue (ty_Dr j) = vp_V df_Dr j := by decide +kernel
theorem iw_Dr : Cond.instantiable R_Dr 3 ∈ zlw ∧ Cond.initialized R_Dr ∈ zlw := ⟨zmm (k := 99) (by decide +kernel) rfl, zmm (k := 62) (by decide +kernel) rfl⟩
def T_Di : u_T := fun k => match k with
  | 0 => ("SpatialTables$Distance", "top", "J", false)
  | _ => ("SpatialTables$Distance", "bottom", "J", false)
def ty_Di : Nat → FieldType := fun k => match k with
  | 0 => .long
  | _ => .long
def df_Di : List Value := [.long 0, .long 0]
theorem nm_Di : ∀ a, a < 2 → ∀ b, b < 2 → a ≠ b → (T_Di a).2.1 ≠ (T_Di b).2.1 := by decide +kernel
theorem tk_Di : ∀ k, k < 2 → parseFieldDescriptor (T_Di k).2.2.1 = some (ty_Di k) := by decide +kernel
theorem in_Di : ∀ w ∈ u_ws R_Di T_Di 2, w ∈ zlw := by decide +kernel
theorem dv_Di : ∀ j, j < 2 → defaultValue (ty_Di j) = vp_V df_Di j := by decide +kernel
theorem iw_Di : Cond.instantiable R_Di 2 ∈ zlw ∧ Cond.initialized R_Di ∈ zlw := ⟨zmm (k := 115) (by decide +kernel) rfl, zmm (k := 63) (by decide +kernel) rfl⟩
def T_Ta : u_T := fun k => match k with
  | 0 => ("SpatialTables$Table", "amounts", "[I", true)
  | _ => ("SpatialTables$Table", "places", "[LSpatialTables$Geometry;", true)
def ty_Ta : Nat → FieldType := fun k => match k with
  | 0 => .array .int
  | _ => .array (.object "SpatialTables$Geometry")
def df_Ta : List Value := [.null, .null]
theorem nm_Ta : ∀ a, a < 2 → ∀ b, b < 2 → a ≠ b → (T_Ta a).2.1 ≠ (T_Ta b).2.1 := by decide +kernel
theorem tk_Ta : ∀ k, k < 2 → parseFieldDescriptor (T_Ta k).2.2.1 = some (ty_Ta k) := by decide +kernel
theorem in_Ta : ∀ w ∈ u_ws R_Ta T_Ta 2, w ∈ zlw := by decide +kernel
theorem dv_Ta : ∀ j, j < 2 → defaultValue (ty_Ta j) = vp_V df_Ta j := by decide +kernel
theorem iw_Ta : Cond.instantiable R_Ta 2 ∈ zlw ∧ Cond.initialized R_Ta ∈ zlw := ⟨zmm (k := 128) (by decide +kernel) rfl, zmm (k := 64) (by decide +kernel) rfl⟩
def T_In : u_T := fun k => match k with
  | 0 => ("SpatialTables$Index", "parts", "[I", true)
  | 1 => ("SpatialTables$Index", "x0", "[I", true)
  | 2 => ("SpatialTables$Index", "y0", "[I", true)
  | 3 => ("SpatialTables$Index", "x1", "[I", true)
  | 4 => ("SpatialTables$Index", "y1", "[I", true)
  | _ => ("SpatialTables$Index", "size", "I", false)
def ty_In : Nat → FieldType := fun k => match k with
  | 0 => .array .int
  | 1 => .array .int
  | 2 => .array .int
  | 3 => .array .int
  | 4 => .array .int
  | _ => .int
def df_In : List Value := [.null, .null, .null, .null, .null, .int 0]
theorem nm_In : ∀ a, a < 6 → ∀ b, b < 6 → a ≠ b → (T_In a).2.1 ≠ (T_In b).2.1 := by decide +kernel
theorem tk_In : ∀ k, k < 6 → parseFieldDescriptor (T_In k).2.2.1 = some (ty_In k) := by decide +kernel
theorem in_In : ∀ w ∈ u_ws R_In T_In 6, w ∈ zlw := by decide +kernel
theorem dv_In : ∀ j, j < 6 → defaultValue (ty_In j) = vp_V df_In j := by decide +kernel
theorem iw_In : Cond.instantiable R_In 6 ∈ zlw ∧ Cond.initialized R_In ∈ zlw := ⟨zmm (k := 142) (by decide +kernel) rfl, zmm (k := 65) (by decide +kernel) rfl⟩
def T_Ge : u_T := fun k => match k with
  | 0 => ("SpatialTables$Geometry", "kind", "I", true)
  | 1 => ("SpatialTables$Geometry", "xs", "[I", true)
  | 2 => ("SpatialTables$Geometry", "ys", "[I", true)
  | _ => ("SpatialTables$Geometry", "bound", "LSpatialTables$Bound;", true)
def ty_Ge : Nat → FieldType := fun k => match k with
  | 0 => .int
  | 1 => .array .int
  | 2 => .array .int
  | _ => .object "SpatialTables$Bound"
def df_Ge : List Value := [.int 0, .null, .null, .null]
theorem nm_Ge : ∀ a, a < 4 → ∀ b, b < 4 → a ≠ b → (T_Ge a).2.1 ≠ (T_Ge b).2.1 := by decide +kernel
theorem tk_Ge : ∀ k, k < 4 → parseFieldDescriptor (T_Ge k).2.2.1 = some (ty_Ge k) := by decide +kernel
theorem in_Ge : ∀ w ∈ u_ws R_Ge T_Ge 4, w ∈ zlw := by decide +kernel
theorem dv_Ge : ∀ j, j < 4 → defaultValue (ty_Ge j) = vp_V df_Ge j := by decide +kernel
theorem iw_Ge : Cond.instantiable R_Ge 4 ∈ zlw ∧ Cond.initialized R_Ge ∈ zlw := ⟨zmm (k := 234) (by decide +kernel) rfl, zmm (k := 67) (by decide +kernel) rfl⟩
def T_Bo : u_T := fun k => match k with
  | 0 => ("SpatialTables$Bound", "x0", "I", true)
  | 1 => ("SpatialTables$Bound", "y0", "I", true)
  | 2 => ("SpatialTables$Bound", "x1", "I", true)
  | _ => ("SpatialTables$Bound", "y1", "I", true)
def ty_Bo : Nat → FieldType := fun k => match k with
  | 0 => .int
  | 1 => .int
  | 2 => .int
  | _ => .int
def df_Bo : List Value := [.int 0, .int 0, .int 0, .int 0]
theorem nm_Bo : ∀ a, a < 4 → ∀ b, b < 4 → a ≠ b → (T_Bo a).2.1 ≠ (T_Bo b).2.1 := by decide +kernel
theorem tk_Bo : ∀ k, k < 4 → parseFieldDescriptor (T_Bo k).2.2.1 = some (ty_Bo k) := by decide +kernel
theorem in_Bo : ∀ w ∈ u_ws R_Bo T_Bo 4, w ∈ zlw := by decide +kernel
theorem dv_Bo : ∀ j, j < 4 → defaultValue (ty_Bo j) = vp_V df_Bo j := by decide +kernel
theorem iw_Bo : Cond.instantiable R_Bo 4 ∈ zlw ∧ Cond.initialized R_Bo ∈ zlw := ⟨zmm (k := 256) (by decide +kernel) rfl, zmm (k := 70) (by decide +kernel) rfl⟩
def T_Mo : u_T := fun k => match k with
  | 0 => ("SpatialTablesModel", "there", "[Z", true)
  | 1 => ("SpatialTablesModel", "worth", "[I", true)
  | 2 => ("SpatialTablesModel", "sort", "[I", true)
  | 3 => ("SpatialTablesModel", "many", "[I", true)
  | 4 => ("SpatialTablesModel", "xs", "[I", true)
  | 5 => ("SpatialTablesModel", "ys", "[I", true)
  | 6 => ("SpatialTablesModel", "left", "[I", true)
  | 7 => ("SpatialTablesModel", "right", "[I", true)
  | 8 => ("SpatialTablesModel", "low", "[I", true)
  | 9 => ("SpatialTablesModel", "high", "[I", true)
  | 10 => ("SpatialTablesModel", "drafted", "I", false)
  | 11 => ("SpatialTablesModel", "draftX", "[I", true)
  | 12 => ("SpatialTablesModel", "draftY", "[I", true)
  | 13 => ("SpatialTablesModel", "top", "J", false)
  | 14 => ("SpatialTablesModel", "under", "J", false)
  | 15 => ("SpatialTablesModel", "tops", "[J", true)
  | 16 => ("SpatialTablesModel", "unders", "[J", true)
  | 17 => ("SpatialTablesModel", "x0", "I", false)
  | 18 => ("SpatialTablesModel", "x1", "I", false)
  | 19 => ("SpatialTablesModel", "y0", "I", false)
  | 20 => ("SpatialTablesModel", "y1", "I", false)
  | 21 => ("SpatialTablesModel", "results", "I", false)
  | 22 => ("SpatialTablesModel", "reading", "I", false)
  | 23 => ("SpatialTablesModel", "found", "[I", true)
  | 24 => ("SpatialTablesModel", "place", "[I", true)
  | _ => ("SpatialTablesModel", "fresh", "[I", true)
def ty_Mo : Nat → FieldType := fun k => match k with
  | 0 => .array .boolean
  | 1 => .array .int
  | 2 => .array .int
  | 3 => .array .int
  | 4 => .array .int
  | 5 => .array .int
  | 6 => .array .int
  | 7 => .array .int
  | 8 => .array .int
  | 9 => .array .int
  | 10 => .int
  | 11 => .array .int
  | 12 => .array .int
  | 13 => .long
  | 14 => .long
  | 15 => .array .long
  | 16 => .array .long
  | 17 => .int
  | 18 => .int
  | 19 => .int
  | 20 => .int
  | 21 => .int
  | 22 => .int
  | 23 => .array .int
  | 24 => .array .int
  | _ => .array .int
def df_Mo : List Value := [.null, .null, .null, .null, .null, .null, .null, .null, .null, .null, .int 0, .null, .null, .long 0, .long 0, .null, .null, .int 0, .int 0, .int 0, .int 0, .int 0, .int 0, .null, .null, .null]
theorem nm_Mo : ∀ a, a < 26 → ∀ b, b < 26 → a ≠ b → (T_Mo a).2.1 ≠ (T_Mo b).2.1 := by decide +kernel
theorem tk_Mo : ∀ k, k < 26 → parseFieldDescriptor (T_Mo k).2.2.1 = some (ty_Mo k) := by decide +kernel
theorem in_Mo : ∀ w ∈ u_ws R_Mo T_Mo 26, w ∈ zlw := by decide +kernel
theorem dv_Mo : ∀ j, j < 26 → defaultValue (ty_Mo j) = vp_V df_Mo j := by decide +kernel
theorem iw_Mo : Cond.instantiable R_Mo 26 ∈ zlw ∧ Cond.initialized R_Mo ∈ zlw := ⟨zmm (k := 636) (by decide +kernel) rfl, zmm (k := 66) (by decide +kernel) rfl⟩
abbrev zcl : List vw_C := [(R_ST, T_ST, 13), (R_Fr, T_Fr, 1), (R_Dr, T_Dr, 3), (R_Di, T_Di, 2), (R_Ta, T_Ta, 2), (R_In, T_In, 6), (R_Ge, T_Ge, 4), (R_Bo, T_Bo, 4), (R_Mo, T_Mo, 26)]
def zty (a : Nat) : Nat → FieldType := match a with
  | 0 => ty_ST
  | 1 => ty_Fr
  | 2 => ty_Dr
  | 3 => ty_Di
  | 4 => ty_Ta
  | 5 => ty_In
  | 6 => ty_Ge
  | 7 => ty_Bo
  | 8 => ty_Mo
  | _ => fun _ => .int
def zdf (a : Nat) : List Value := match a with
  | 0 => df_ST
  | 1 => df_Fr
  | 2 => df_Dr
  | 3 => df_Di
  | 4 => df_Ta
  | 5 => df_In
  | 6 => df_Ge
  | 7 => df_Bo
  | 8 => df_Mo
  | _ => []
theorem zcl_ok (a : Nat) {C : vw_C} (h : zcl[a]? = some C) : (∀ w ∈ u_ws C.1 C.2.1 C.2.2, w ∈ zlw) ∧ (∀ k, k < C.2.2 → parseFieldDescriptor (C.2.1 k).2.2.1 = some (zty a k)) ∧ (∀ x, x < C.2.2 → ∀ y, y < C.2.2 → x ≠ y → (C.2.1 x).2.1 ≠ (C.2.1 y).2.1) ∧ Cond.instantiable C.1 C.2.2 ∈ zlw ∧ Cond.initialized C.1 ∈ zlw ∧ (zdf a).length = C.2.2 ∧ (∀ j, j < C.2.2 → defaultValue (zty a j) = vp_V (zdf a) j) := by
  match a, h with
  | 0, h => obtain rfl := Option.some.inj (h : some (R_ST, T_ST, 13) = some C); exact ⟨in_ST, tk_ST, nm_ST, iw_ST.1, iw_ST.2, rfl, dv_ST⟩
  | 1, h => obtain rfl := Option.some.inj (h : some (R_Fr, T_Fr, 1) = some C); exact ⟨in_Fr, tk_Fr, nm_Fr, iw_Fr.1, iw_Fr.2, rfl, dv_Fr⟩
  | 2, h => obtain rfl := Option.some.inj (h : some (R_Dr, T_Dr, 3) = some C); exact ⟨in_Dr, tk_Dr, nm_Dr, iw_Dr.1, iw_Dr.2, rfl, dv_Dr⟩
  | 3, h => obtain rfl := Option.some.inj (h : some (R_Di, T_Di, 2) = some C); exact ⟨in_Di, tk_Di, nm_Di, iw_Di.1, iw_Di.2, rfl, dv_Di⟩
  | 4, h => obtain rfl := Option.some.inj (h : some (R_Ta, T_Ta, 2) = some C); exact ⟨in_Ta, tk_Ta, nm_Ta, iw_Ta.1, iw_Ta.2, rfl, dv_Ta⟩
  | 5, h => obtain rfl := Option.some.inj (h : some (R_In, T_In, 6) = some C); exact ⟨in_In, tk_In, nm_In, iw_In.1, iw_In.2, rfl, dv_In⟩
  | 6, h => obtain rfl := Option.some.inj (h : some (R_Ge, T_Ge, 4) = some C); exact ⟨in_Ge, tk_Ge, nm_Ge, iw_Ge.1, iw_Ge.2, rfl, dv_Ge⟩
  | 7, h => obtain rfl := Option.some.inj (h : some (R_Bo, T_Bo, 4) = some C); exact ⟨in_Bo, tk_Bo, nm_Bo, iw_Bo.1, iw_Bo.2, rfl, dv_Bo⟩
  | 8, h => obtain rfl := Option.some.inj (h : some (R_Mo, T_Mo, 26) = some C); exact ⟨in_Mo, tk_Mo, nm_Mo, iw_Mo.1, iw_Mo.2, rfl, dv_Mo⟩
  | n + 9, h => exact absurd h (by simp [zcl])
def zNT : Nat := 7
def ztys (tc : Nat → ClassId) : List (ClassId × FieldType) := [(tc 0, .int), (tc 1, .boolean), (tc 2, .long), (tc 3, .object R_Ta), (tc 4, .object R_In), (tc 5, .object R_Di), (tc 6, .object R_Ge)]
def zte (t : Nat) : Option Nat := match t with
  | 3 => some 4
  | 4 => some 5
  | 5 => some 3
  | 6 => some 6
  | _ => none
theorem ao_Ta : Cond.arrayOver (.object R_Ta) ∈ zlw := zmm (k := 81) (by decide +kernel) rfl
theorem ao_In : Cond.arrayOver (.object R_In) ∈ zlw := zmm (k := 83) (by decide +kernel) rfl
theorem ao_Di : Cond.arrayOver (.object R_Di) ∈ zlw := zmm (k := 127) (by decide +kernel) rfl
theorem ao_Ge : Cond.arrayOver (.object R_Ge) ∈ zlw := zmm (k := 134) (by decide +kernel) rfl
theorem zw_aci : Cond.arrayClass (newarray.typeOf .int) ∈ zlw := zmm (k := 97) (by decide +kernel) rfl
theorem zw_acz : Cond.arrayClass (newarray.typeOf .boolean) ∈ zlw := zmm (k := 720) (by decide +kernel) rfl
theorem zw_acj : Cond.arrayClass (newarray.typeOf .long) ∈ zlw := zmm (k := 721) (by decide +kernel) rfl
theorem zte_ok {t c : Nat} (h : zte t = some c) : ∃ C, zcl[c]? = some C ∧ Cond.arrayOver (.object C.1) ∈ zlw ∧ ∀ tc, (ztys tc)[t]? = some (tc t, .object C.1) := by
  match t, h with
  | 0, h => exact absurd h (by simp [zte])
  | 1, h => exact absurd h (by simp [zte])
  | 2, h => exact absurd h (by simp [zte])
  | 3, h => obtain rfl := Option.some.inj (h : some 4 = some c); exact ⟨(R_Ta, T_Ta, 2), rfl, ao_Ta, fun _ => rfl⟩
  | 4, h => obtain rfl := Option.some.inj (h : some 5 = some c); exact ⟨(R_In, T_In, 6), rfl, ao_In, fun _ => rfl⟩
  | 5, h => obtain rfl := Option.some.inj (h : some 3 = some c); exact ⟨(R_Di, T_Di, 2), rfl, ao_Di, fun _ => rfl⟩
  | 6, h => obtain rfl := Option.some.inj (h : some 6 = some c); exact ⟨(R_Ge, T_Ge, 4), rfl, ao_Ge, fun _ => rfl⟩
  | n + 7, h => exact absurd h (by simp [zte])
theorem ztys_ok {t : Nat} (h : t < zNT) (tc : Nat → ClassId) : ∃ ty, (ztys tc)[t]? = some (tc t, ty) := by
  match t, h with
  | 0, _ => exact ⟨_, rfl⟩
  | 1, _ => exact ⟨_, rfl⟩
  | 2, _ => exact ⟨_, rfl⟩
  | 3, _ => exact ⟨_, rfl⟩
  | 4, _ => exact ⟨_, rfl⟩
  | 5, _ => exact ⟨_, rfl⟩
  | 6, _ => exact ⟨_, rfl⟩
  | n + 7, h => exact absurd h (by unfold zNT; omega)
def y_ST_init : MethodName := ⟨R_ST, "<init>", "()V"⟩
def y_Fr_init : MethodName := ⟨R_Fr, "<init>", "()V"⟩
def y_Ar_fill : MethodName := ⟨R_Ar, "fill", "([II)V"⟩
def y_Dr_init : MethodName := ⟨R_Dr, "<init>", "()V"⟩
def y_Di_init : MethodName := ⟨R_Di, "<init>", "()V"⟩
def y_Ta_init : MethodName := ⟨R_Ta, "<init>", "()V"⟩
def y_In_init : MethodName := ⟨R_In, "<init>", "()V"⟩
def y_ST_vertex : MethodName := ⟨R_ST, "vertex", "(II)I"⟩
def y_Dr_append : MethodName := ⟨R_Dr, "append", "(II)I"⟩
def y_Dr_isCoordinate : MethodName := ⟨R_Dr, "isCoordinate", "(I)Z"⟩
def y_ST_shape : MethodName := ⟨R_ST, "shape", "(I)I"⟩
def y_Dr_hasCountFor : MethodName := ⟨R_Dr, "hasCountFor", "(I)Z"⟩
def y_Dr_clear : MethodName := ⟨R_Dr, "clear", "()V"⟩
def y_Dr_drawn : MethodName := ⟨R_Dr, "drawn", "(I)LSpatialTables$Geometry;"⟩
def y_Ar_copyOf : MethodName := ⟨R_Ar, "copyOf", "([II)[I"⟩
def y_Ge_init : MethodName := ⟨R_Ge, "<init>", "(I[I[I)V"⟩
def y_Bo_init : MethodName := ⟨R_Bo, "<init>", "([I[I)V"⟩
def y_Ge_fault : MethodName := ⟨R_Ge, "fault", "()I"⟩
def y_Ge_hasEqualNeighbours : MethodName := ⟨R_Ge, "hasEqualNeighbours", "()Z"⟩
def y_Ge_sides : MethodName := ⟨R_Ge, "sides", "()I"⟩
def y_Ge_end : MethodName := ⟨R_Ge, "end", "(I)I"⟩
def y_Ge_touchesItself : MethodName := ⟨R_Ge, "touchesItself", "()Z"⟩
def y_Ge_mayNotMeetAsTheyDo : MethodName := ⟨R_Ge, "mayNotMeetAsTheyDo", "(II)Z"⟩
def y_Ge_foldsBack : MethodName := ⟨R_Ge, "foldsBack", "(II)Z"⟩
def y_Ge_sideMeets : MethodName := ⟨R_Ge, "sideMeets", "(ILSpatialTables$Geometry;I)Z"⟩
def y_Ge_turn : MethodName := ⟨R_Ge, "turn", "(III)I"⟩
def y_Ge_areOpposite : MethodName := ⟨R_Ge, "areOpposite", "(II)Z"⟩
def y_Ge_isBeside : MethodName := ⟨R_Ge, "isBeside", "(ILSpatialTables$Geometry;I)Z"⟩
def y_Ge_isBetween : MethodName := ⟨R_Ge, "isBetween", "(III)Z"⟩
def y_ST_insert : MethodName := ⟨R_ST, "insert", "(II)I"⟩
def y_ST_isTable : MethodName := ⟨R_ST, "isTable", "(I)Z"⟩
def y_Ta_leastFreeRow : MethodName := ⟨R_Ta, "leastFreeRow", "()I"⟩
def y_Ta_put : MethodName := ⟨R_Ta, "put", "(IILSpatialTables$Geometry;)V"⟩
def y_In_add : MethodName := ⟨R_In, "add", "(LSpatialTables$Bound;)V"⟩
def y_In_newNode : MethodName := ⟨R_In, "newNode", "()I"⟩
def y_In_stretch : MethodName := ⟨R_In, "stretch", "(ILSpatialTables$Bound;)V"⟩
def y_Bo_homeLevel : MethodName := ⟨R_Bo, "homeLevel", "()I"⟩
def y_Bo_quarter : MethodName := ⟨R_Bo, "quarter", "(I)I"⟩
def y_In_partOf : MethodName := ⟨R_In, "partOf", "(II)I"⟩
def y_ST_delete : MethodName := ⟨R_ST, "delete", "(II)Z"⟩
def y_ST_placeOf : MethodName := ⟨R_ST, "placeOf", "(II)LSpatialTables$Geometry;"⟩
def y_Ta_placeAt : MethodName := ⟨R_Ta, "placeAt", "(I)LSpatialTables$Geometry;"⟩
def y_In_rebuild : MethodName := ⟨R_In, "rebuild", "(LSpatialTables$Table;)V"⟩
def y_ST_update : MethodName := ⟨R_ST, "update", "(IIIZ)Z"⟩
def y_ST_select : MethodName := ⟨R_ST, "select", "(IIII)I"⟩
def y_ST_clearAnswers : MethodName := ⟨R_ST, "clearAnswers", "()V"⟩
def y_ST_searchReads : MethodName := ⟨R_ST, "searchReads", "(LSpatialTables$Geometry;II)I"⟩
def y_Ta_rowBits : MethodName := ⟨R_Ta, "rowBits", "()I"⟩
def y_Ig_bitCount : MethodName := ⟨R_Ig, "bitCount", "(I)I"⟩
def y_Di_become : MethodName := ⟨R_Di, "become", "(JJ)V"⟩
def y_ST_readsWithin : MethodName := ⟨R_ST, "readsWithin", "(LSpatialTables$Bound;ILSpatialTables$Distance;)I"⟩
def y_In_countWithin : MethodName := ⟨R_In, "countWithin", "(LSpatialTables$Bound;LSpatialTables$Distance;)I"⟩
def y_Bo_gapToRectangle : MethodName := ⟨R_Bo, "gapToRectangle", "(IIII)I"⟩
def y_Bo_apart : MethodName := ⟨R_Bo, "apart", "(IIII)I"⟩
def y_Di_isAtLeast : MethodName := ⟨R_Di, "isAtLeast", "(I)Z"⟩
def y_Ta_countWithin : MethodName := ⟨R_Ta, "countWithin", "(LSpatialTables$Bound;LSpatialTables$Distance;)I"⟩
def y_Bo_gapTo : MethodName := ⟨R_Bo, "gapTo", "(LSpatialTables$Bound;)I"⟩
def y_ST_rowsFound : MethodName := ⟨R_ST, "rowsFound", "(LSpatialTables$Geometry;II)I"⟩
def y_Di_between : MethodName := ⟨R_Di, "between", "(LSpatialTables$Geometry;LSpatialTables$Geometry;)V"⟩
def y_Ge_encloses : MethodName := ⟨R_Ge, "encloses", "(II)Z"⟩
def y_Di_lessenBySides : MethodName := ⟨R_Di, "lessenBySides", "(LSpatialTables$Geometry;ILSpatialTables$Geometry;I)V"⟩
def y_Di_lessenByEnd : MethodName := ⟨R_Di, "lessenByEnd", "(LSpatialTables$Geometry;ILSpatialTables$Geometry;I)V"⟩
def y_Di_lessen : MethodName := ⟨R_Di, "lessen", "(JJ)V"⟩
def y_Di_isAtMost : MethodName := ⟨R_Di, "isAtMost", "(I)Z"⟩
def y_Ta_amountOf : MethodName := ⟨R_Ta, "amountOf", "(I)I"⟩
def y_ST_hasBit : MethodName := ⟨R_ST, "hasBit", "(II)Z"⟩
def y_ST_addAnswer : MethodName := ⟨R_ST, "addAnswer", "(I)V"⟩
def y_ST_nearest : MethodName := ⟨R_ST, "nearest", "(II)I"⟩
def y_ST_orderByDistance : MethodName := ⟨R_ST, "orderByDistance", "(LSpatialTables$Geometry;LSpatialTables$Table;)I"⟩
def y_ST_putInOrder : MethodName := ⟨R_ST, "putInOrder", "(II)V"⟩
def y_Di_isBelow : MethodName := ⟨R_Di, "isBelow", "(LSpatialTables$Distance;)Z"⟩
def y_In_size : MethodName := ⟨R_In, "size", "()I"⟩
def y_ST_join : MethodName := ⟨R_ST, "join", "(I)I"⟩
def y_ST_addPairs : MethodName := ⟨R_ST, "addPairs", "(II)V"⟩
def y_ST_result : MethodName := ⟨R_ST, "result", "(I)I"⟩
def y_ST_reads : MethodName := ⟨R_ST, "reads", "()I"⟩
def y_ST_measure : MethodName := ⟨R_ST, "measure", "(II)I"⟩
def y_Di_wholePart : MethodName := ⟨R_Di, "wholePart", "()I"⟩
def y_ST_value : MethodName := ⟨R_ST, "value", "(II)I"⟩
def y_ST_rows : MethodName := ⟨R_ST, "rows", "(I)I"⟩
def y_ST_nodes : MethodName := ⟨R_ST, "nodes", "(I)I"⟩
def y_ST_commit : MethodName := ⟨R_ST, "commit", "(I)I"⟩
def y_ST_changedPages : MethodName := ⟨R_ST, "changedPages", "()I"⟩
def y_Ta_hasSameRow : MethodName := ⟨R_Ta, "hasSameRow", "(LSpatialTables$Table;I)Z"⟩
def y_Ge_isSameAs : MethodName := ⟨R_Ge, "isSameAs", "(LSpatialTables$Geometry;)Z"⟩
def y_ST_pageBit : MethodName := ⟨R_ST, "pageBit", "(II)I"⟩
def y_ST_pagesWithRows : MethodName := ⟨R_ST, "pagesWithRows", "()I"⟩
def y_Fr_countFree : MethodName := ⟨R_Fr, "countFree", "()I"⟩
def y_Fr_takenFrames : MethodName := ⟨R_Fr, "takenFrames", "()I"⟩
def y_Fr_switchTo : MethodName := ⟨R_Fr, "switchTo", "(II)V"⟩
def y_Fr_leastFree : MethodName := ⟨R_Fr, "leastFree", "(I)I"⟩
def y_ST_keepPresentTables : MethodName := ⟨R_ST, "keepPresentTables", "()V"⟩
def y_Ta_copy : MethodName := ⟨R_Ta, "copy", "(LSpatialTables$Table;)V"⟩
def y_ST_crash : MethodName := ⟨R_ST, "crash", "()V"⟩
def y_ST_rollback : MethodName := ⟨R_ST, "rollback", "()V"⟩
def y_ST_frame : MethodName := ⟨R_ST, "frame", "(I)I"⟩
def y_Fr_frameOf : MethodName := ⟨R_Fr, "frameOf", "(I)I"⟩
def y_Mo_init : MethodName := ⟨R_Mo, "<init>", "()V"⟩
def y_Mo_vertex : MethodName := ⟨R_Mo, "vertex", "(II)I"⟩
def y_Mo_shape : MethodName := ⟨R_Mo, "shape", "(I)I"⟩
def y_Mo_fault : MethodName := ⟨R_Mo, "fault", "(I)I"⟩
def y_Mo_clash : MethodName := ⟨R_Mo, "clash", "(II)Z"⟩
def y_Mo_stuck : MethodName := ⟨R_Mo, "stuck", "(III)Z"⟩
def y_Mo_cross : MethodName := ⟨R_Mo, "cross", "(IIIIII)J"⟩
def y_Mo_on : MethodName := ⟨R_Mo, "on", "(IIIIII)Z"⟩
def y_Mo_between : MethodName := ⟨R_Mo, "between", "(III)Z"⟩
def y_Mo_apart : MethodName := ⟨R_Mo, "apart", "(IIII)Z"⟩
def y_Mo_bind : MethodName := ⟨R_Mo, "bind", "(I)V"⟩
def y_Mo_insert : MethodName := ⟨R_Mo, "insert", "(II)I"⟩
def y_Mo_isTable : MethodName := ⟨R_Mo, "isTable", "(I)Z"⟩
def y_Mo_size : MethodName := ⟨R_Mo, "size", "(I)I"⟩
def y_Mo_copyShape : MethodName := ⟨R_Mo, "copyShape", "(II)V"⟩
def y_Mo_delete : MethodName := ⟨R_Mo, "delete", "(II)Z"⟩
def y_Mo_slot : MethodName := ⟨R_Mo, "slot", "(II)I"⟩
def y_Mo_update : MethodName := ⟨R_Mo, "update", "(IIIZ)Z"⟩
def y_Mo_select : MethodName := ⟨R_Mo, "select", "(IIII)I"⟩
def y_Mo_finds : MethodName := ⟨R_Mo, "finds", "(III)Z"⟩
def y_Mo_measureOut : MethodName := ⟨R_Mo, "measureOut", "(II)V"⟩
def y_Mo_meet : MethodName := ⟨R_Mo, "meet", "(II)Z"⟩
def y_Mo_sides : MethodName := ⟨R_Mo, "sides", "(I)I"⟩
def y_Mo_corner : MethodName := ⟨R_Mo, "corner", "(III)I"⟩
def y_Mo_touching : MethodName := ⟨R_Mo, "touching", "(IIII)Z"⟩
def y_Mo_lies : MethodName := ⟨R_Mo, "lies", "(III)Z"⟩
def y_Mo_turn : MethodName := ⟨R_Mo, "turn", "(III)J"⟩
def y_Mo_within : MethodName := ⟨R_Mo, "within", "(II)Z"⟩
def y_Mo_reach : MethodName := ⟨R_Mo, "reach", "(III)V"⟩
def y_Mo_searchReads : MethodName := ⟨R_Mo, "searchReads", "(III)I"⟩
def y_Mo_readBy : MethodName := ⟨R_Mo, "readBy", "(IIJJ)I"⟩
def y_Mo_around : MethodName := ⟨R_Mo, "around", "(I)V"⟩
def y_Mo_close : MethodName := ⟨R_Mo, "close", "(IJJ)Z"⟩
def y_Mo_gap : MethodName := ⟨R_Mo, "gap", "(IIII)J"⟩
def y_Mo_home : MethodName := ⟨R_Mo, "home", "(I)I"⟩
def y_Mo_foremost : MethodName := ⟨R_Mo, "foremost", "(II)Z"⟩
def y_Mo_shares : MethodName := ⟨R_Mo, "shares", "(III)Z"⟩
def y_Mo_nodeBound : MethodName := ⟨R_Mo, "nodeBound", "(II)V"⟩
def y_Mo_nearest : MethodName := ⟨R_Mo, "nearest", "(II)I"⟩
def y_Mo_nearer : MethodName := ⟨R_Mo, "nearer", "(II)Z"⟩
def y_Mo_join : MethodName := ⟨R_Mo, "join", "(I)I"⟩
def y_Mo_result : MethodName := ⟨R_Mo, "result", "(I)I"⟩
def y_Mo_reads : MethodName := ⟨R_Mo, "reads", "()I"⟩
def y_Mo_measure : MethodName := ⟨R_Mo, "measure", "(II)I"⟩
def y_Mo_value : MethodName := ⟨R_Mo, "value", "(II)I"⟩
def y_Mo_rows : MethodName := ⟨R_Mo, "rows", "(I)I"⟩
def y_Mo_nodes : MethodName := ⟨R_Mo, "nodes", "(I)I"⟩
def y_Mo_commit : MethodName := ⟨R_Mo, "commit", "(I)I"⟩
def y_Mo_changed : MethodName := ⟨R_Mo, "changed", "(I)Z"⟩
def y_Mo_sameRow : MethodName := ⟨R_Mo, "sameRow", "(II)Z"⟩
def y_Mo_filled : MethodName := ⟨R_Mo, "filled", "(I)Z"⟩
def y_Mo_write : MethodName := ⟨R_Mo, "write", "(I)Z"⟩
def y_Mo_isFree : MethodName := ⟨R_Mo, "isFree", "(I)Z"⟩
def y_Mo_crash : MethodName := ⟨R_Mo, "crash", "()V"⟩
def y_Mo_rollback : MethodName := ⟨R_Mo, "rollback", "()V"⟩
def y_Mo_copyRow : MethodName := ⟨R_Mo, "copyRow", "(II)V"⟩
def y_Mo_frame : MethodName := ⟨R_Mo, "frame", "(I)I"⟩
def zyn : List MethodName := [y_ST_init, y_Fr_init, y_Ar_fill, y_Dr_init, y_Di_init, y_Ta_init, y_In_init, y_ST_vertex, y_Dr_append, y_Dr_isCoordinate, y_ST_shape, y_Dr_hasCountFor, y_Dr_clear, y_Dr_drawn, y_Ar_copyOf, y_Ge_init, y_Bo_init, y_Ge_fault, y_Ge_hasEqualNeighbours, y_Ge_sides, y_Ge_end, y_Ge_touchesItself, y_Ge_mayNotMeetAsTheyDo, y_Ge_foldsBack, y_Ge_sideMeets, y_Ge_turn, y_Ge_areOpposite, y_Ge_isBeside, y_Ge_isBetween, y_ST_insert, y_ST_isTable, y_Ta_leastFreeRow, y_Ta_put, y_In_add, y_In_newNode, y_In_stretch, y_Bo_homeLevel, y_Bo_quarter, y_In_partOf, y_ST_delete, y_ST_placeOf, y_Ta_placeAt, y_In_rebuild, y_ST_update, y_ST_select, y_ST_clearAnswers, y_ST_searchReads, y_Ta_rowBits, y_Ig_bitCount, y_Di_become, y_ST_readsWithin, y_In_countWithin, y_Bo_gapToRectangle, y_Bo_apart, y_Di_isAtLeast, y_Ta_countWithin, y_Bo_gapTo, y_ST_rowsFound, y_Di_between, y_Ge_encloses, y_Di_lessenBySides, y_Di_lessenByEnd, y_Di_lessen, y_Di_isAtMost, y_Ta_amountOf, y_ST_hasBit, y_ST_addAnswer, y_ST_nearest, y_ST_orderByDistance, y_ST_putInOrder, y_Di_isBelow, y_In_size, y_ST_join, y_ST_addPairs, y_ST_result, y_ST_reads, y_ST_measure, y_Di_wholePart, y_ST_value, y_ST_rows, y_ST_nodes, y_ST_commit, y_ST_changedPages, y_Ta_hasSameRow, y_Ge_isSameAs, y_ST_pageBit, y_ST_pagesWithRows, y_Fr_countFree, y_Fr_takenFrames, y_Fr_switchTo, y_Fr_leastFree, y_ST_keepPresentTables, y_Ta_copy, y_ST_crash, y_ST_rollback, y_ST_frame, y_Fr_frameOf, y_Mo_init, y_Mo_vertex, y_Mo_shape, y_Mo_fault, y_Mo_clash, y_Mo_stuck, y_Mo_cross, y_Mo_on, y_Mo_between, y_Mo_apart, y_Mo_bind, y_Mo_insert, y_Mo_isTable, y_Mo_size, y_Mo_copyShape, y_Mo_delete, y_Mo_slot, y_Mo_update, y_Mo_select, y_Mo_finds, y_Mo_measureOut, y_Mo_meet, y_Mo_sides, y_Mo_corner, y_Mo_touching, y_Mo_lies, y_Mo_turn, y_Mo_within, y_Mo_reach, y_Mo_searchReads, y_Mo_readBy, y_Mo_around, y_Mo_close, y_Mo_gap, y_Mo_home, y_Mo_foremost, y_Mo_shares, y_Mo_nodeBound, y_Mo_nearest, y_Mo_nearer, y_Mo_join, y_Mo_result, y_Mo_reads, y_Mo_measure, y_Mo_value, y_Mo_rows, y_Mo_nodes, y_Mo_commit, y_Mo_changed, y_Mo_sameRow, y_Mo_filled, y_Mo_write, y_Mo_isFree, y_Mo_crash, y_Mo_rollback, y_Mo_copyRow, y_Mo_frame]
end
section
-- an abstract machine of my own: numbered cells, frames with a list of locals and a stack; references are numbers of cells
abbrev zC : Type := (Nat × List Value) ⊕ (Nat × List Value)
/-- the script, where it is read -/
abbrev zX : Type := Option (Nat × (Nat → Int32))
abbrev zS : Type := Nat × List (Nat × Value) × List Value
/-- an instruction and what it links: place, instruction, length, two numbers, a word's place, a constant -/
abbrev zE : Type := Nat × Jvm.ClassFile.Instr × Nat × Nat × Nat × Nat × Value
/-- a method: name, code, locals, answer, number of parameters, the words' places, kind (0 static, 1 virtual, 2 constructor), instructions in groups -/
abbrev zM : Type := MethodName × ByteArray × Nat × Option FieldType × Nat × (Nat × Nat × Nat × Nat) × Nat × List (Nat × List zE)
/-- the heap, and how many slots have been made -/
abbrev zH : Type := List zC × Nat
def mY (M : zM) : MethodName := M.1
def mC (M : zM) : ByteArray := M.2.1
def mL (M : zM) : Nat := M.2.2.1
def mR (M : zM) : Option FieldType := M.2.2.2.1
def mN (M : zM) : Nat := M.2.2.2.2.1
def mW (M : zM) : Nat × Nat × Nat × Nat := M.2.2.2.2.2.1
def mK (M : zM) : Nat := M.2.2.2.2.2.2.1
def mT (M : zM) : List (Nat × List zE) := M.2.2.2.2.2.2.2
def xP (x : zE) : Nat := x.1
def xI (x : zE) : Jvm.ClassFile.Instr := x.2.1
def xN (x : zE) : Nat := x.2.2.1
def xA (x : zE) : Nat := x.2.2.2.1
def xB (x : zE) : Nat := x.2.2.2.2.1
def xW (x : zE) : Nat := x.2.2.2.2.2.1
def xV (x : zE) : Value := x.2.2.2.2.2.2
def zgl (lv : List (Nat × Value)) (i : Nat) : Option Value := match lv with
  | [] => none
  | q :: r => match Nat.beq q.1 i with
    | true => some q.2
    | false => zgl r i
def zst (lv : List (Nat × Value)) (i : Nat) (v : Value) : List (Nat × Value) := (i, v) :: lv.filter (fun q => !(q.1 == i) && !(q.1 + 1 == i && q.2.category == 2))
def zst2 (lv : List (Nat × Value)) (i : Nat) (v : Value) : List (Nat × Value) := (i, v) :: lv.filter (fun q => !(q.1 == i) && (!(q.1 == i + 1) && !(q.1 + 1 == i && q.2.category == 2)))
def ztg (pc : Nat) (off : Int) : Option Nat := match Int.add (Int.ofNat pc) off with
  | .ofNat t => some t
  | .negSucc _ => none
def zlen (i : Jvm.ClassFile.Instr) (n : Nat) : Nat := match i with
  | .aload _ => 2
  | .astore _ => 2
  | .iload _ => 2
  | .istore _ => 2
  | .lload _ => 2
  | .lstore _ => 2
  | .bipush _ => 2
  | .ldc _ => 2
  | .newarray _ => 2
  | .sipush _ => 3
  | .ldc_w _ => 3
  | .ldc2_w _ => 3
  | .iinc _ _ => 3
  | .ifCond _ _ => 3
  | .if_icmp _ _ => 3
  | .ifnull _ => 3
  | .ifnonnull _ => 3
  | .goto _ => 3
  | .getfield _ => 3
  | .putfield _ => 3
  | .invokevirtual _ => 3
  | .invokespecial _ => 3
  | .invokestatic _ => 3
  | .new _ => 3
  | .anewarray _ => 3
  | .checkcast _ => 3
  | .tableswitch _ _ _ _ => n
  | _ => 1
def zlk (t : List zE) (pc : Nat) : Option zE := match t with
  | [] => none
  | x :: r => match Nat.beq x.1 pc with
    | true => some x
    | false => zlk r pc
def zlk2 (t : List (Nat × List zE)) (pc : Nat) : Option zE := match t with
  | [] => none
  | c :: r => match Nat.ble pc c.1 with
    | true => zlk c.2 pc
    | false => zlk2 r pc
def zc (c : Jvm.ClassFile.Cond) (x y : Int32) : Bool := match c with
  | .eq => decide (x = y)
  | .ne => decide (¬ x = y)
  | .lt => decide (x < y)
  | .ge => decide (y ≤ x)
  | .gt => decide (y < x)
  | .le => decide (x ≤ y)
def zi1 (pc : Nat) (lv : List (Nat × Value)) (st : List Value) (f : Int32 → Value) : Option zS := match st with
  | .int x :: r => some (pc, lv, f x :: r)
  | _ => none
def zi2 (pc : Nat) (lv : List (Nat × Value)) (st : List Value) (f : Int32 → Int32 → Value) : Option zS := match st with
  | .int y :: .int x :: r => some (pc, lv, f x y :: r)
  | _ => none
def zl1 (pc : Nat) (lv : List (Nat × Value)) (st : List Value) (f : Int64 → Value) : Option zS := match st with
  | .long x :: r => some (pc, lv, f x :: r)
  | _ => none
def zl2 (pc : Nat) (lv : List (Nat × Value)) (st : List Value) (f : Int64 → Int64 → Value) : Option zS := match st with
  | .long y :: .long x :: r => some (pc, lv, f x y :: r)
  | _ => none
def zbr (c : Bool) (pc : Nat) (off : Int) (lv : List (Nat × Value)) (r : List Value) : Option zS := match ztg pc off with
  | none => none
  | some t => match c with
    | true => some (t, lv, r)
    | false => some (pc + 3, lv, r)
def zb1 (c : Int32 → Bool) (pc : Nat) (off : Int) (lv : List (Nat × Value)) (st : List Value) : Option zS := match st with
  | .int x :: r => zbr (c x) pc off lv r
  | _ => none
def zb2 (c : Int32 → Int32 → Bool) (pc : Nat) (off : Int) (lv : List (Nat × Value)) (st : List Value) : Option zS := match st with
  | .int y :: .int x :: r => zbr (c x y) pc off lv r
  | _ => none
def zbn (n : Bool) (pc : Nat) (off : Int) (lv : List (Nat × Value)) (st : List Value) : Option zS := match st with
  | .null :: r => zbr n pc off lv r
  | .ref _ :: r => zbr (!n) pc off lv r
  | _ => none
def zld (k : Nat) (pc : Nat) (lv : List (Nat × Value)) (st : List Value) (i : Nat) : Option zS := match zgl lv i with
  | some (.int x) => match k with
    | 0 => some (pc, lv, .int x :: st)
    | _ => none
  | some (.long x) => match k with
    | 1 => some (pc, lv, .long x :: st)
    | _ => none
  | some (.ref x) => match k with
    | 2 => some (pc, lv, .ref x :: st)
    | _ => none
  | some .null => match k with
    | 2 => some (pc, lv, .null :: st)
    | _ => none
  | some (.retAddr x) => match k with
    | 2 => some (pc, lv, .retAddr x :: st)
    | _ => none
  | _ => none
def zsi (pc : Nat) (lv : List (Nat × Value)) (st : List Value) (i : Nat) : Option zS := match st with
  | .int x :: r => some (pc, zst lv i (.int x), r)
  | _ => none
def zsl (pc : Nat) (lv : List (Nat × Value)) (st : List Value) (i : Nat) : Option zS := match st with
  | .long x :: r => some (pc, zst2 lv i (.long x), r)
  | _ => none
def zsa (pc : Nat) (lv : List (Nat × Value)) (st : List Value) (i : Nat) : Option zS := match st with
  | .ref x :: r => some (pc, zst lv i (.ref x), r)
  | .null :: r => some (pc, zst lv i .null, r)
  | _ => none
def zinc (pc : Nat) (lv : List (Nat × Value)) (st : List Value) (i : Nat) (n : Int) : Option zS := match zgl lv i with
  | some (.int x) => some (pc, zst lv i (.int (x + Int32.ofInt n)), st)
  | _ => none
def zone (v : Value) : Bool := match v with
  | .long _ => false
  | .double _ => false
  | _ => true
def zd0 (pc : Nat) (lv : List (Nat × Value)) (st : List Value) : Option zS := match st with
  | v :: r => match zone v with
    | true => some (pc, lv, v :: v :: r)
    | false => none
  | _ => none
def zdx1 (pc : Nat) (lv : List (Nat × Value)) (st : List Value) : Option zS := match st with
  | v :: w :: r => match zone v && zone w with
    | true => some (pc, lv, v :: w :: v :: r)
    | false => none
  | _ => none
def zdx2 (pc : Nat) (lv : List (Nat × Value)) (st : List Value) : Option zS := match st with
  | v :: w :: u :: r => match zone v && (zone w && zone u) with
    | true => some (pc, lv, v :: w :: u :: v :: r)
    | false => none
  | _ => none
def zd2 (pc : Nat) (lv : List (Nat × Value)) (st : List Value) : Option zS := match st with
  | v :: w :: r => match zone v && zone w with
    | true => some (pc, lv, v :: w :: v :: w :: r)
    | false => none
  | _ => none
def zpo (pc : Nat) (lv : List (Nat × Value)) (st : List Value) : Option zS := match st with
  | v :: r => match zone v with
    | true => some (pc, lv, r)
    | false => none
  | _ => none
def zki (pc : Nat) (lv : List (Nat × Value)) (st : List Value) (v : Value) : Option zS := match v with
  | .int x => some (pc, lv, .int x :: st)
  | _ => none
def zkl (pc : Nat) (lv : List (Nat × Value)) (st : List Value) (v : Value) : Option zS := match v with
  | .long x => some (pc, lv, .long x :: st)
  | _ => none
/-- division: the divisor isn't 0 -/
def zdv (pc : Nat) (lv : List (Nat × Value)) (st : List Value) (f : Int32 → Int32 → Value) : Option zS := match st with
  | .int y :: .int x :: r => match decide (y = 0) with
    | true => none
    | false => some (pc, lv, f x y :: r)
  | _ => none
def zdvl (pc : Nat) (lv : List (Nat × Value)) (st : List Value) (f : Int64 → Int64 → Value) : Option zS := match st with
  | .long y :: .long x :: r => match decide (y = 0) with
    | true => none
    | false => some (pc, lv, f x y :: r)
  | _ => none
def zgo (pc : Nat) (off : Int) (lv : List (Nat × Value)) (st : List Value) : Option zS := match ztg pc off with
  | none => none
  | some t => some (t, lv, st)
def ztsw (pc : Nat) (d lo hi : Int) (offs : Array Int) (lv : List (Nat × Value)) (st : List Value) : Option zS := match st with
  | .int x :: r => match decide (x.toInt < lo) || decide (hi < x.toInt) with
    | true => zgo pc d lv r
    | false => match offs[(x.toInt - lo).toNat]? with
      | some off => zgo pc off lv r
      | none => none
  | _ => none
/-- a step that neither reads nor writes the heap -/
def zp (i : Jvm.ClassFile.Instr) (kv : Value) (pc : Nat) (lv : List (Nat × Value)) (st : List Value) : Option zS := match i with
  | .iconst n => some (pc + 1, lv, .int (Int32.ofInt n) :: st)
  | .bipush n => some (pc + 2, lv, .int (Int8.ofInt n).toInt32 :: st)
  | .sipush n => some (pc + 3, lv, .int (Int16.ofInt n).toInt32 :: st)
  | .lconst n => some (pc + 1, lv, .long (Int64.ofNat n.val) :: st)
  | .aconst_null => some (pc + 1, lv, .null :: st)
  | .ldc _ => zki (pc + 2) lv st kv
  | .ldc_w _ => zki (pc + 3) lv st kv
  | .ldc2_w _ => zkl (pc + 3) lv st kv
  | .iload k => zld 0 (pc + 2) lv st k
  | .iload_n k => zld 0 (pc + 1) lv st k.val
  | .lload k => zld 1 (pc + 2) lv st k
  | .lload_n k => zld 1 (pc + 1) lv st k.val
  | .aload k => zld 2 (pc + 2) lv st k
  | .aload_n k => zld 2 (pc + 1) lv st k.val
  | .istore k => zsi (pc + 2) lv st k
  | .istore_n k => zsi (pc + 1) lv st k.val
  | .lstore k => zsl (pc + 2) lv st k
  | .lstore_n k => zsl (pc + 1) lv st k.val
  | .astore k => zsa (pc + 2) lv st k
  | .astore_n k => zsa (pc + 1) lv st k.val
  | .iinc k n => zinc (pc + 3) lv st k n
  | .iadd => zi2 (pc + 1) lv st (fun x y => .int (x + y))
  | .isub => zi2 (pc + 1) lv st (fun x y => .int (x - y))
  | .imul => zi2 (pc + 1) lv st (fun x y => .int (x * y))
  | .iand => zi2 (pc + 1) lv st (fun x y => .int (x &&& y))
  | .ior => zi2 (pc + 1) lv st (fun x y => .int (x ||| y))
  | .ixor => zi2 (pc + 1) lv st (fun x y => .int (x ^^^ y))
  | .ishl => zi2 (pc + 1) lv st (fun x y => .int (x <<< (y &&& 31)))
  | .ishr => zi2 (pc + 1) lv st (fun x y => .int (x >>> (y &&& 31)))
  | .iushr => zi2 (pc + 1) lv st (fun x y => .int (x.toUInt32 >>> (y.toUInt32 &&& Int32.toUInt32 31)).toInt32)
  | .idiv => zdv (pc + 1) lv st (fun x y => .int (x / y))
  | .irem => zdv (pc + 1) lv st (fun x y => .int (x - x / y * y))
  | .ineg => zi1 (pc + 1) lv st (fun x => .int (-x))
  | .i2l => zi1 (pc + 1) lv st (fun x => .long x.toInt64)
  | .i2b => zi1 (pc + 1) lv st (fun x => .int x.toInt8.toInt32)
  | .ladd => zl2 (pc + 1) lv st (fun x y => .long (x + y))
  | .lsub => zl2 (pc + 1) lv st (fun x y => .long (x - y))
  | .lmul => zl2 (pc + 1) lv st (fun x y => .long (x * y))
  | .land => zl2 (pc + 1) lv st (fun x y => .long (x &&& y))
  | .lor => zl2 (pc + 1) lv st (fun x y => .long (x ||| y))
  | .ldiv => zdvl (pc + 1) lv st (fun x y => .long (x / y))
  | .lrem => zdvl (pc + 1) lv st (fun x y => .long (x - x / y * y))
  | .lneg => zl1 (pc + 1) lv st (fun x => .long (-x))
  | .l2i => zl1 (pc + 1) lv st (fun x => .int x.toInt32)
  | .lcmp => zl2 (pc + 1) lv st (fun x y => .int (lg_cmp x y))
  | .dup => zd0 (pc + 1) lv st
  | .dup_x1 => zdx1 (pc + 1) lv st
  | .dup_x2 => zdx2 (pc + 1) lv st
  | .dup2 => zd2 (pc + 1) lv st
  | .pop => zpo (pc + 1) lv st
  | .goto off => zgo pc off lv st
  | .ifCond c off => zb1 (fun x => zc c x 0) pc off lv st
  | .if_icmp c off => zb2 (fun x y => zc c x y) pc off lv st
  | .ifnull off => zbn true pc off lv st
  | .ifnonnull off => zbn false pc off lv st
  | .tableswitch d lo hi offs => ztsw pc d lo hi offs lv st
  | _ => none
def zfit (ty : FieldType) (v : Value) : Bool := match ty with
  | .int => match v with
    | .int _ => true
    | _ => false
  | .long => match v with
    | .long _ => true
    | _ => false
  | .boolean => match v with
    | .int k => decide (k = 0) || decide (k = 1)
    | _ => false
  | .object _ => match v with
    | .null => true
    | .ref _ => true
    | _ => false
  | .array _ => match v with
    | .null => true
    | .ref _ => true
    | _ => false
  | _ => false
def zrt (t : Nat) : Bool := match zte t with
  | some _ => true
  | none => false
def zin (j : Int32) (n : Nat) : Bool := decide (¬ (j < 0 ∨ n ≤ j.toNatClampNeg))
def zgf (a b : Nat) (h : List zC) (pc : Nat) (lv : List (Nat × Value)) (st : List Value) : Option zS := match st with
  | .ref k :: r => match h[k]? with
    | some (.inr o) => match Nat.beq o.1 a with
      | true => match o.2[b]? with
        | some v => some (pc, lv, v :: r)
        | none => none
      | false => none
    | _ => none
  | _ => none
def zal (t0 : Nat → Bool) (xs : zX) (h : List zC) (pc : Nat) (lv : List (Nat × Value)) (st : List Value) : Option zS := match st with
  | .int j :: .ref k :: r => match h[k]? with
    | some (.inl q) => match t0 q.1 && zin j q.2.length with
      | true => match q.2[j.toNatClampNeg]? with
        | some v => some (pc, lv, v :: r)
        | none => none
      | false => none
    | _ => none
  | .int j :: .retAddr _ :: r => match xs with
    | some x => match t0 0 && zin j x.1 with
      | true => some (pc, lv, .int (x.2 j.toNatClampNeg) :: r)
      | false => none
    | none => none
  | _ => none
def zle (xs : zX) (h : List zC) (pc : Nat) (lv : List (Nat × Value)) (st : List Value) : Option zS := match st with
  | .ref k :: r => match h[k]? with
    | some (.inl q) => match Nat.blt q.1 zNT with
      | true => some (pc, lv, .int (Int32.ofNat q.2.length) :: r)
      | false => none
    | _ => none
  | .retAddr _ :: r => match xs with
    | some x => some (pc, lv, .int (Int32.ofNat x.1) :: r)
    | none => none
  | _ => none
/-- a cast of an int array to its own class -/
def zcc (h : List zC) (pc : Nat) (lv : List (Nat × Value)) (st : List Value) : Option zS := match st with
  | .ref k :: r => match h[k]? with
    | some (.inl q) => match Nat.beq q.1 0 with
      | true => some (pc, lv, .ref k :: r)
      | false => none
    | _ => none
  | _ => none
/-- a step that reads the heap -/
def zr (i : Jvm.ClassFile.Instr) (a b : Nat) (xs : zX) (h : List zC) (pc : Nat) (lv : List (Nat × Value)) (st : List Value) : Option zS := match i with
  | .getfield _ => zgf a b h (pc + 3) lv st
  | .iaload => zal (fun t => Nat.beq t 0) xs h (pc + 1) lv st
  | .aaload => zal zrt xs h (pc + 1) lv st
  | .baload => zal (fun t => Nat.beq t 1) xs h (pc + 1) lv st
  | .laload => zal (fun t => Nat.beq t 2) xs h (pc + 1) lv st
  | .arraylength => zle xs h (pc + 1) lv st
  | .checkcast _ => zcc h (pc + 3) lv st
  | _ => none
def zpf (a b : Nat) (h : List zC) (pc : Nat) (lv : List (Nat × Value)) (st : List Value) : Option (zS × List zC) := match st with
  | v :: .ref k :: r => match h[k]? with
    | some (.inr o) => match Nat.beq o.1 a && (Nat.blt b o.2.length && zfit (zty a b) v) with
      | true => some ((pc, lv, r), h.set k (.inr (o.1, o.2.set b v)))
      | false => none
    | _ => none
  | _ => none
def zis (h : List zC) (pc : Nat) (lv : List (Nat × Value)) (st : List Value) : Option (zS × List zC) := match st with
  | .int x :: .int j :: .ref k :: r => match h[k]? with
    | some (.inl q) => match Nat.beq q.1 0 && zin j q.2.length with
      | true => some ((pc, lv, r), h.set k (.inl (q.1, q.2.set j.toNatClampNeg (.int x))))
      | false => none
    | _ => none
  | _ => none
def zbs (h : List zC) (pc : Nat) (lv : List (Nat × Value)) (st : List Value) : Option (zS × List zC) := match st with
  | .int x :: .int j :: .ref k :: r => match h[k]? with
    | some (.inl q) => match Nat.beq q.1 1 && zin j q.2.length with
      | true => some ((pc, lv, r), h.set k (.inl (q.1, q.2.set j.toNatClampNeg (.int (x &&& 1)))))
      | false => none
    | _ => none
  | _ => none
def zls (h : List zC) (pc : Nat) (lv : List (Nat × Value)) (st : List Value) : Option (zS × List zC) := match st with
  | .long x :: .int j :: .ref k :: r => match h[k]? with
    | some (.inl q) => match Nat.beq q.1 2 && zin j q.2.length with
      | true => some ((pc, lv, r), h.set k (.inl (q.1, q.2.set j.toNatClampNeg (.long x))))
      | false => none
    | _ => none
  | _ => none
def zes (h : List zC) (t : Nat) (v : Value) : Bool := match v with
  | .null => zrt t
  | .ref u => match h[u]? with
    | some (.inr o) => match zte t with
      | some c => Nat.beq c o.1
      | none => false
    | _ => false
  | _ => false
def zas (h : List zC) (pc : Nat) (lv : List (Nat × Value)) (st : List Value) : Option (zS × List zC) := match st with
  | v :: .int j :: .ref k :: r => match h[k]? with
    | some (.inl q) => match zes h q.1 v && zin j q.2.length with
      | true => some ((pc, lv, r), h.set k (.inl (q.1, q.2.set j.toNatClampNeg v)))
      | false => none
    | _ => none
  | _ => none
/-- a step that writes the heap -/
def zw (i : Jvm.ClassFile.Instr) (a b : Nat) (h : List zC) (pc : Nat) (lv : List (Nat × Value)) (st : List Value) : Option (zS × List zC) := match i with
  | .putfield _ => zpf a b h (pc + 3) lv st
  | .iastore => zis h (pc + 1) lv st
  | .aastore => zas h (pc + 1) lv st
  | .bastore => zbs h (pc + 1) lv st
  | .lastore => zls h (pc + 1) lv st
  | _ => none
def zna (a : Nat) (d : Value) (h : zH) (pc : Nat) (lv : List (Nat × Value)) (st : List Value) : Option (zS × zH) := match st with
  | .int n :: r => match decide (¬ n < 0) && Nat.ble (n.toNatClampNeg * 8) 536870912 with
    | true => some ((pc, lv, .ref h.1.length :: r), (h.1 ++ [.inl (a, List.replicate n.toNatClampNeg d)], h.2 + n.toNatClampNeg))
    | false => none
  | _ => none
/-- a step that makes a cell -/
def zn (i : Jvm.ClassFile.Instr) (a : Nat) (h : zH) (pc : Nat) (lv : List (Nat × Value)) (st : List Value) : Option (zS × zH) := match i with
  | .new _ => some ((pc + 3, lv, .ref h.1.length :: st), (h.1 ++ [.inr (a, zdf a)], h.2 + (zdf a).length))
  | .newarray t => match t with
    | .int => zna a (.int 0) h (pc + 2) lv st
    | .boolean => zna a (.int 0) h (pc + 2) lv st
    | .long => zna a (.long 0) h (pc + 2) lv st
    | _ => none
  | .anewarray _ => zna a .null h (pc + 3) lv st
  | _ => none
def zpop (n : Nat) (st : List Value) : Option (List Value × List Value) := match n with
  | 0 => some ([], st)
  | n + 1 => match st with
    | [] => none
    | v :: r => match zpop n r with
      | some q => some (q.1 ++ [v], q.2)
      | none => none
def zcat (st : List Value) : Nat := (st.map fun v => v.category).sum
def zrc (k cx : Nat) (as : List Value) (h : List zC) : Bool := match k with
  | 0 => true
  | 1 => match as with
    | .ref u :: _ => match h[u]? with
      | some (.inr o) => Nat.beq o.1 cx
      | _ => false
    | _ => false
  | _ => match as with
    | .ref _ :: _ => true
    | _ => false
def zco (k : Nat) (n : Nat) : Nat := match k with
  | 0 => n
  | _ => n + 1
/-- a call of a method of the table -/
def zcm (mt : List zM) (call : Nat → List Value → zH → Option (Option Value × zH)) (kind a : Nat) (h : zH) (pc : Nat) (lv : List (Nat × Value)) (st : List Value) : Option (zS × zH) := match mt[a]? with
  | none => none
  | some M => match zpop (zco kind (mN M)) st with
    | none => none
    | some q => match Nat.beq (mK M) kind && (zrc kind (mW M).2.2.2 q.1 h.1 && Nat.ble (zcat q.2) 8) with
      | false => none
      | true => match call a q.1 h with
        | none => none
        | some r => match Nat.ble h.1.length r.2.1.length && Nat.ble h.2 r.2.2 with
          | false => none
          | true => some ((pc, lv, r.1.toList ++ q.2), r.2)
/-- Object's constructor -/
def zoi (fr lo : Nat) (h : zH) (pc : Nat) (lv : List (Nat × Value)) (st : List Value) : Option (zS × zH) := match st with
  | .ref _ :: r => match Nat.ble 1 fr && Nat.ble (zcat r + 12) lo with
    | true => some ((pc, lv, r), h)
    | false => none
  | _ => none
/-- Math.min, Math.max -/
def zmx (f : Int32 → Int32 → Int32) (fr lo : Nat) (h : zH) (pc : Nat) (lv : List (Nat × Value)) (st : List Value) : Option (zS × zH) := match st with
  | .int y :: .int x :: r => match Nat.ble 1 fr && Nat.ble (zcat r + 13) lo with
    | true => some ((pc, lv, .int (f x y) :: r), h)
    | false => none
  | _ => none
def zisI (v : Value) : Bool := match v with
  | .int _ => true
  | _ => false
def zcp (src dst : List Value) (sp dp n : Nat) : List Value := dst.take dp ++ ((src.drop sp).take n ++ dst.drop (dp + n))
/-- System.arraycopy of int arrays -/
def zac (fr lo : Nat) (h : zH) (pc : Nat) (lv : List (Nat × Value)) (st : List Value) : Option (zS × zH) := match st with
  | .int n :: .int dp :: .ref d :: .int sp :: .ref s :: r => match h.1[s]? with
    | some (.inl p) => match h.1[d]? with
      | some (.inl q) => match (Nat.ble 1 fr && Nat.ble (zcat r + 18) lo) && ((Nat.beq p.1 0 && Nat.beq q.1 0) && ((decide (¬ sp < 0) && (decide (¬ dp < 0) && decide (¬ n < 0))) && (Nat.ble (sp.toNatClampNeg + n.toNatClampNeg) p.2.length && (Nat.ble (dp.toNatClampNeg + n.toNatClampNeg) q.2.length && p.2.all zisI)))) with
        | true => some ((pc, lv, r), (h.1.set d (.inl (0, zcp p.2 q.2 sp.toNatClampNeg dp.toNatClampNeg n.toNatClampNeg)), h.2))
        | false => none
      | _ => none
    | _ => none
  | _ => none
/-- the clone of an int array -/
def zcn (fr lo : Nat) (h : zH) (pc : Nat) (lv : List (Nat × Value)) (st : List Value) : Option (zS × zH) := match st with
  | .ref k :: r => match h.1[k]? with
    | some (.inl q) => match (Nat.ble 1 fr && Nat.ble (zcat r + 14) lo) && (Nat.beq q.1 0 && q.2.all zisI) with
      | true => some ((pc, lv, .ref h.1.length :: r), (h.1 ++ [.inl (0, q.2)], h.2 + q.2.length))
      | false => none
    | _ => none
  | _ => none
def zk (mt : List zM) (call : Nat → List Value → zH → Option (Option Value × zH)) (fr lo : Nat) (i : Jvm.ClassFile.Instr) (a b : Nat) (h : zH) (pc : Nat) (lv : List (Nat × Value)) (st : List Value) : Option (zS × zH) := match i with
  | .invokestatic _ => match b with
    | 0 => zcm mt call 0 a h (pc + 3) lv st
    | 3 => zmx (fun x y => if y < x then y else x) fr lo h (pc + 3) lv st
    | 4 => zmx (fun x y => if x < y then y else x) fr lo h (pc + 3) lv st
    | 5 => zac fr lo h (pc + 3) lv st
    | _ => none
  | .invokevirtual _ => match b with
    | 0 => zcm mt call 1 a h (pc + 3) lv st
    | 1 => zcn fr lo h (pc + 3) lv st
    | _ => none
  | .invokespecial _ => match b with
    | 0 => zcm mt call 2 a h (pc + 3) lv st
    | 1 => zcm mt call 2 a h (pc + 3) lv st
    | 2 => zoi fr lo h (pc + 3) lv st
    | _ => none
  | _ => none
def zstep (mt : List zM) (call : Nat → List Value → zH → Option (Option Value × zH)) (fr lo : Nat) (xs : zX) (x : zE) (s : zS) (h : zH) : Option (zS × zH) := match zp (xI x) (xV x) s.1 s.2.1 s.2.2 with
  | some s' => some (s', h)
  | none => match zr (xI x) (xA x) (xB x) xs h.1 s.1 s.2.1 s.2.2 with
    | some s' => some (s', h)
    | none => match zw (xI x) (xA x) (xB x) h.1 s.1 s.2.1 s.2.2 with
      | some q => some (q.1, (q.2, h.2))
      | none => match zn (xI x) (xA x) h s.1 s.2.1 s.2.2 with
        | some q => some q
        | none => zk mt call fr lo (xI x) (xA x) (xB x) h s.1 s.2.1 s.2.2
def zre (ret : Option FieldType) (i : Jvm.ClassFile.Instr) (st : List Value) : Option (Option Value) := match i with
  | .return_ => match ret, st with
    | none, [] => some none
    | _, _ => none
  | .ireturn => match ret, st with
    | some ty, [.int v] => match zfit ty (.int v) with
      | true => some (some (.int v))
      | false => none
    | _, _ => none
  | .lreturn => match ret, st with
    | some .long, [.long v] => some (some (.long v))
    | _, _ => none
  | .areturn => match ret, st with
    | some (.object _), [.null] => some (some .null)
    | some (.object _), [.ref k] => some (some (.ref k))
    | some (.array _), [.null] => some (some .null)
    | some (.array _), [.ref k] => some (some (.ref k))
    | _, _ => none
  | _ => none
def zloop (mt : List zM) (call : Nat → List Value → zH → Option (Option Value × zH)) (fr lo : Nat) (xs : zX) (M : zM) : Nat → zS → zH → Option (Option Value × zH)
  | 0, _, _ => none
  | f + 1, s, h => match zlk2 (mT M) s.1 with
    | none => none
    | some x => match zre (mR M) (xI x) s.2.2 with
      | some r => some (r, h)
      | none => match zstep mt call fr lo xs x s h with
        | none => none
        | some q => zloop mt call fr lo xs M f q.1 q.2
def zbody (mt : List zM) (call : Nat → List Value → zH → Option (Option Value × zH)) (fr lo : Nat) (xs : zX) (f a : Nat) (as : List Value) (h : zH) : Option (Option Value × zH) := match mt[a]? with
  | none => none
  | some M => match Nat.ble (zcat as) (mL M) with
    | true => zloop mt call fr lo xs M f (0, lv_args 0 as, []) h
    | false => none
/-- a call with room for frames and locals -/
def zcall (mt : List zM) (f : Nat) : Nat → Nat → Nat → List Value → zH → Option (Option Value × zH)
  | 0, lo, a, as, h => zbody mt (fun _ _ _ => none) 0 lo none f a as h
  | fr + 1, lo, a, as, h => zbody mt (fun a' as' h' => match mt[a']? with
      | none => none
      | some M' => match Nat.ble (19 + mL M') lo with
        | true => zcall mt f fr (lo - (19 + mL M')) a' as' h'
        | false => none) (fr + 1) lo none f a as h
/-- what an instruction links is a word of the tables -/
def zlF (own : String) (i a b w : Nat) : Bool := match zcl[a]? with
  | some C => Nat.blt b C.2.2 && decide (lw_tbl[w]? = some (Cond.fieldLink own i (C.2.1 b).1 (C.2.1 b).2.1 (C.2.1 b).2.2.1))
  | none => false
def zlP (own : String) (ini : Bool) (a b : Nat) : Bool := match zcl[a]? with
  | some C => !(C.2.1 b).2.2.2 || (ini && decide ((C.2.1 b).1 = own))
  | none => false
def zlN (own : String) (i a w : Nat) : Bool := match zcl[a]? with
  | some C => decide (lw_tbl[w]? = some (Cond.classLink own i C.1))
  | none => false
def zlM (own : String) (i a w : Nat) : Bool := match zyn[a]? with
  | some y => decide (lw_tbl[w]? = some (Cond.methodLink own i y))
  | none => false
def zlMN (own : String) (i a w : Nat) : Bool := match zyn[a]? with
  | some y => decide (lw_tbl[w]? = some (Cond.methodLinkNest own i y R_ST))
  | none => false
def zlMO (own : String) (i w : Nat) : Bool := decide (lw_tbl[w]? = some (Cond.methodLink own i Lib.objectInit))
def zlnk (own : String) (nL : Nat) (ini : Bool) (i : Jvm.ClassFile.Instr) (a b w : Nat) (v : Value) : Bool := match i with
  | .istore k => Nat.blt k nL
  | .istore_n k => Nat.blt k.val nL
  | .astore k => Nat.blt k nL
  | .astore_n k => Nat.blt k.val nL
  | .lstore k => Nat.blt (k + 1) nL
  | .lstore_n k => Nat.blt (k.val + 1) nL
  | .iinc k _ => Nat.blt k nL
  | .ldc k => match v with
    | .int x => decide (lw_tbl[w]? = some (Cond.constant own k x))
    | _ => false
  | .ldc_w k => match v with
    | .int x => decide (lw_tbl[w]? = some (Cond.constant own k x))
    | _ => false
  | .ldc2_w k => match v with
    | .long x => decide (lw_tbl[w]? = some (Cond.constantLong own k x))
    | _ => false
  | .getfield k => zlF own k a b w
  | .putfield k => zlF own k a b w && zlP own ini a b
  | .new k => zlN own k a w
  | .newarray t => match t with
    | .int => Nat.beq a 0
    | .boolean => Nat.beq a 1
    | .long => Nat.beq a 2
    | _ => false
  | .anewarray k => match zte a with
    | some c => zlN own k c w
    | none => false
  | .invokestatic k => match b with
    | 0 => zlM own k a w
    | 3 => decide (lw_tbl[w]? = some (Cond.methodLink own k Lib.Math.min.name))
    | 4 => decide (lw_tbl[w]? = some (Cond.methodLink own k Lib.Math.max.name))
    | 5 => decide (lw_tbl[w]? = some (Cond.methodLink own k arraycopyName))
    | _ => true
  | .invokevirtual k => match b with
    | 0 => zlM own k a w
    | 1 => decide (lw_tbl[w]? = some (Cond.methodLink own k ⟨"[I", "clone", "()Ljava/lang/Object;"⟩))
    | _ => true
  | .checkcast k => decide (lw_tbl[w]? = some (Cond.classLink own k "[I"))
  | .invokespecial k => match b with
    | 0 => zlM own k a w
    | 1 => zlMN own k a w
    | 2 => zlMO own k w
    | _ => true
  | _ => true
def zxo (own : String) (cc : ByteArray) (nL : Nat) (ini : Bool) (x : zE) : Bool := decide (decode cc (xP x) = .ok (xI x, zlen (xI x) (xN x))) && zlnk own nL ini (xI x) (xA x) (xB x) (xW x) (xV x)
end
section
-- what the abstract machine does, the machine does: values, locals, cells
theorem znq {α : Type} {q : α} {P : Prop} (h : (none : Option α) = some q) : P := by cases h
def zt (sa b : Nat) (v : Value) : Value := match v with
  | .ref i => .ref (b + i)
  | .retAddr _ => .ref sa
  | w => w
theorem zt_cat (sa b : Nat) (v : Value) : (zt sa b v).category = v.category := by cases v <;> rfl
def ztl (sa b : Nat) (q : Nat × Value) : Nat × Value := (q.1, zt sa b q.2)
theorem zgl_mem {i : Nat} {v : Value} : ∀ {lv : List (Nat × Value)}, zgl lv i = some v → (i, v) ∈ lv
  | [], h => by cases h
  | q :: r, h => by
    unfold zgl at h
    cases hq : Nat.beq q.1 i with
    | true =>
      rw [hq] at h
      have e1 : q.1 = i := Nat.eq_of_beq_eq_true hq
      have e2 : q.2 = v := Option.some.inj h
      rw [← e1, ← e2]
      exact List.mem_cons_self
    | false =>
      rw [hq] at h
      exact List.mem_cons_of_mem _ (zgl_mem h)
theorem zgl_at {sa b nL i : Nat} {ls : Array Slot} {lv : List (Nat × Value)} {v : Value} (hl : lv_has ls nL (lv.map (ztl sa b))) (h : zgl lv i = some v) : ls[i]? = some (.val (zt sa b v)) :=
  hl.2.2 (i, zt sa b v) (List.mem_map.mpr ⟨(i, v), zgl_mem h, rfl⟩)
theorem zst_map (sa b : Nat) (lv : List (Nat × Value)) (i : Nat) (v : Value) : (i, zt sa b v) :: (lv.map (ztl sa b)).filter (fun q => !(q.1 == i) && !(q.1 + 1 == i && q.2.category == 2)) = (zst lv i v).map (ztl sa b) := by
  have h : (lv.map (ztl sa b)).filter (fun q => !(q.1 == i) && !(q.1 + 1 == i && q.2.category == 2)) = (lv.filter (fun q => !(q.1 == i) && !(q.1 + 1 == i && q.2.category == 2))).map (ztl sa b) := by
    rw [List.filter_map]
    congr 1
    apply List.filter_congr
    intro q _
    simp [ztl, zt_cat]
  rw [h]
  rfl
theorem zst2_map (sa b : Nat) (lv : List (Nat × Value)) (i : Nat) (v : Value) : (i, zt sa b v) :: (lv.map (ztl sa b)).filter (fun q => !(q.1 == i) && (!(q.1 == i + 1) && !(q.1 + 1 == i && q.2.category == 2))) = (zst2 lv i v).map (ztl sa b) := by
  have h : (lv.map (ztl sa b)).filter (fun q => !(q.1 == i) && (!(q.1 == i + 1) && !(q.1 + 1 == i && q.2.category == 2))) = (lv.filter (fun q => !(q.1 == i) && (!(q.1 == i + 1) && !(q.1 + 1 == i && q.2.category == 2)))).map (ztl sa b) := by
    rw [List.filter_map]
    congr 1
    apply List.filter_congr
    intro q _
    simp [ztl, zt_cat]
  rw [h]
  rfl
theorem ztg_eq {pc t : Nat} {off : Int} (h : ztg pc off = some t) : (pc : Int) + off = (t : Int) := by
  unfold ztg at h
  cases hi : Int.add (Int.ofNat pc) off with
  | ofNat k =>
    rw [hi] at h
    have e : k = t := Option.some.inj h
    rw [← e]
    exact hi
  | negSucc k =>
    rw [hi] at h
    cases h
theorem zi1_inv {pc : Nat} {lv : List (Nat × Value)} {st : List Value} {f : Int32 → Value} {q : zS} (h : zi1 pc lv st f = some q) : ∃ x r, st = .int x :: r ∧ q = (pc, lv, f x :: r) := by
  unfold zi1 at h
  split at h
  · exact ⟨_, _, rfl, (Option.some.inj h).symm⟩
  · cases h
theorem zi2_inv {pc : Nat} {lv : List (Nat × Value)} {st : List Value} {f : Int32 → Int32 → Value} {q : zS} (h : zi2 pc lv st f = some q) : ∃ x y r, st = .int y :: .int x :: r ∧ q = (pc, lv, f x y :: r) := by
  unfold zi2 at h
  split at h
  · exact ⟨_, _, _, rfl, (Option.some.inj h).symm⟩
  · cases h
theorem zl1_inv {pc : Nat} {lv : List (Nat × Value)} {st : List Value} {f : Int64 → Value} {q : zS} (h : zl1 pc lv st f = some q) : ∃ x r, st = .long x :: r ∧ q = (pc, lv, f x :: r) := by
  unfold zl1 at h
  split at h
  · exact ⟨_, _, rfl, (Option.some.inj h).symm⟩
  · cases h
theorem zl2_inv {pc : Nat} {lv : List (Nat × Value)} {st : List Value} {f : Int64 → Int64 → Value} {q : zS} (h : zl2 pc lv st f = some q) : ∃ x y r, st = .long y :: .long x :: r ∧ q = (pc, lv, f x y :: r) := by
  unfold zl2 at h
  split at h
  · exact ⟨_, _, _, rfl, (Option.some.inj h).symm⟩
  · cases h
theorem zdv_inv {pc : Nat} {lv : List (Nat × Value)} {st : List Value} {f : Int32 → Int32 → Value} {q : zS} (h : zdv pc lv st f = some q) : ∃ x y r, st = .int y :: .int x :: r ∧ ¬ y = 0 ∧ q = (pc, lv, f x y :: r) := by
  unfold zdv at h
  split at h
  · split at h
    · cases h
    · next hd => exact ⟨_, _, _, rfl, of_decide_eq_false hd, (Option.some.inj h).symm⟩
  · cases h
theorem zdvl_inv {pc : Nat} {lv : List (Nat × Value)} {st : List Value} {f : Int64 → Int64 → Value} {q : zS} (h : zdvl pc lv st f = some q) : ∃ x y r, st = .long y :: .long x :: r ∧ ¬ y = 0 ∧ q = (pc, lv, f x y :: r) := by
  unfold zdvl at h
  split at h
  · split at h
    · cases h
    · next hd => exact ⟨_, _, _, rfl, of_decide_eq_false hd, (Option.some.inj h).symm⟩
  · cases h
theorem zbr_inv {c : Bool} {pc : Nat} {off : Int} {lv : List (Nat × Value)} {r : List Value} {q : zS} (h : zbr c pc off lv r = some q) : ∃ t : Nat, (pc : Int) + off = (t : Int) ∧ ((c = true ∧ q = (t, lv, r)) ∨ (c = false ∧ q = (pc + 3, lv, r))) := by
  unfold zbr at h
  split at h
  · cases h
  · next t ht =>
    refine ⟨t, ztg_eq ht, ?_⟩
    split at h
    · exact Or.inl ⟨rfl, (Option.some.inj h).symm⟩
    · exact Or.inr ⟨rfl, (Option.some.inj h).symm⟩
theorem zb1_inv {c : Int32 → Bool} {pc : Nat} {off : Int} {lv : List (Nat × Value)} {st : List Value} {q : zS} (h : zb1 c pc off lv st = some q) : ∃ x r, st = .int x :: r ∧ zbr (c x) pc off lv r = some q := by
  unfold zb1 at h
  split at h
  · exact ⟨_, _, rfl, h⟩
  · cases h
theorem zb2_inv {c : Int32 → Int32 → Bool} {pc : Nat} {off : Int} {lv : List (Nat × Value)} {st : List Value} {q : zS} (h : zb2 c pc off lv st = some q) : ∃ x y r, st = .int y :: .int x :: r ∧ zbr (c x y) pc off lv r = some q := by
  unfold zb2 at h
  split at h
  · exact ⟨_, _, _, rfl, h⟩
  · cases h
theorem zbn_inv {n : Bool} {pc : Nat} {off : Int} {lv : List (Nat × Value)} {st : List Value} {q : zS} (h : zbn n pc off lv st = some q) : ∃ r, (st = .null :: r ∧ zbr n pc off lv r = some q) ∨ ∃ k, st = .ref k :: r ∧ zbr (!n) pc off lv r = some q := by
  unfold zbn at h
  split at h
  · exact ⟨_, Or.inl ⟨rfl, h⟩⟩
  · exact ⟨_, Or.inr ⟨_, rfl, h⟩⟩
  · cases h
theorem zgo_inv {pc : Nat} {off : Int} {lv : List (Nat × Value)} {st : List Value} {q : zS} (h : zgo pc off lv st = some q) : ∃ t : Nat, (pc : Int) + off = (t : Int) ∧ q = (t, lv, st) := by
  unfold zgo at h
  split at h
  · cases h
  · next t ht => exact ⟨t, ztg_eq ht, (Option.some.inj h).symm⟩
theorem zld0_inv {pc i : Nat} {lv : List (Nat × Value)} {st : List Value} {q : zS} (h : zld 0 pc lv st i = some q) : ∃ x, zgl lv i = some (.int x) ∧ q = (pc, lv, .int x :: st) := by
  unfold zld at h
  split at h
  · next x hx => exact ⟨x, hx, (Option.some.inj h).symm⟩
  all_goals cases h
theorem zld1_inv {pc i : Nat} {lv : List (Nat × Value)} {st : List Value} {q : zS} (h : zld 1 pc lv st i = some q) : ∃ x, zgl lv i = some (.long x) ∧ q = (pc, lv, .long x :: st) := by
  unfold zld at h
  split at h
  · cases h
  · next x hx => exact ⟨x, hx, (Option.some.inj h).symm⟩
  all_goals cases h
theorem zld2_inv {pc i : Nat} {lv : List (Nat × Value)} {st : List Value} {q : zS} (h : zld 2 pc lv st i = some q) : ∃ v, zgl lv i = some v ∧ q = (pc, lv, v :: st) ∧ ((∃ x, v = .ref x) ∨ v = .null ∨ ∃ x, v = .retAddr x) := by
  unfold zld at h
  split at h
  · cases h
  · cases h
  · next x hx => exact ⟨_, hx, (Option.some.inj h).symm, Or.inl ⟨x, rfl⟩⟩
  · next hx => exact ⟨_, hx, (Option.some.inj h).symm, Or.inr (Or.inl rfl)⟩
  · next x hx => exact ⟨_, hx, (Option.some.inj h).symm, Or.inr (Or.inr ⟨x, rfl⟩)⟩
  · cases h
theorem zsi_inv {pc i : Nat} {lv : List (Nat × Value)} {st : List Value} {q : zS} (h : zsi pc lv st i = some q) : ∃ x r, st = .int x :: r ∧ q = (pc, zst lv i (.int x), r) := by
  unfold zsi at h
  split at h
  · exact ⟨_, _, rfl, (Option.some.inj h).symm⟩
  · cases h
theorem zsl_inv {pc i : Nat} {lv : List (Nat × Value)} {st : List Value} {q : zS} (h : zsl pc lv st i = some q) : ∃ x r, st = .long x :: r ∧ q = (pc, zst2 lv i (.long x), r) := by
  unfold zsl at h
  split at h
  · exact ⟨_, _, rfl, (Option.some.inj h).symm⟩
  · cases h
theorem zsa_inv {pc i : Nat} {lv : List (Nat × Value)} {st : List Value} {q : zS} (h : zsa pc lv st i = some q) : ∃ r, (∃ x, st = .ref x :: r ∧ q = (pc, zst lv i (.ref x), r)) ∨ (st = .null :: r ∧ q = (pc, zst lv i .null, r)) := by
  unfold zsa at h
  split at h
  · exact ⟨_, Or.inl ⟨_, rfl, (Option.some.inj h).symm⟩⟩
  · exact ⟨_, Or.inr ⟨rfl, (Option.some.inj h).symm⟩⟩
  · cases h
theorem zinc_inv {pc i : Nat} {n : Int} {lv : List (Nat × Value)} {st : List Value} {q : zS} (h : zinc pc lv st i n = some q) : ∃ x, zgl lv i = some (.int x) ∧ q = (pc, zst lv i (.int (x + Int32.ofInt n)), st) := by
  unfold zinc at h
  split at h
  · next x hx => exact ⟨x, hx, (Option.some.inj h).symm⟩
  · cases h
theorem zone_cat {sa b : Nat} {v : Value} (h : zone v = true) : (zt sa b v).category = 1 := by
  cases v <;> first | rfl | cases h
theorem zd0_inv {pc : Nat} {lv : List (Nat × Value)} {st : List Value} {q : zS} (h : zd0 pc lv st = some q) : ∃ v r, st = v :: r ∧ zone v = true ∧ q = (pc, lv, v :: v :: r) := by
  unfold zd0 at h
  split at h
  · split at h
    · next hv => exact ⟨_, _, rfl, hv, (Option.some.inj h).symm⟩
    · cases h
  · cases h
theorem zpo_inv {pc : Nat} {lv : List (Nat × Value)} {st : List Value} {q : zS} (h : zpo pc lv st = some q) : ∃ v r, st = v :: r ∧ zone v = true ∧ q = (pc, lv, r) := by
  unfold zpo at h
  split at h
  · split at h
    · next hv => exact ⟨_, _, rfl, hv, (Option.some.inj h).symm⟩
    · cases h
  · cases h
theorem zdx1_inv {pc : Nat} {lv : List (Nat × Value)} {st : List Value} {q : zS} (h : zdx1 pc lv st = some q) : ∃ v w r, st = v :: w :: r ∧ zone v = true ∧ zone w = true ∧ q = (pc, lv, v :: w :: v :: r) := by
  unfold zdx1 at h
  split at h
  · split at h
    · next hv => exact ⟨_, _, _, rfl, (Bool.and_eq_true_iff.mp hv).1, (Bool.and_eq_true_iff.mp hv).2, (Option.some.inj h).symm⟩
    · cases h
  · cases h
theorem zd2_inv {pc : Nat} {lv : List (Nat × Value)} {st : List Value} {q : zS} (h : zd2 pc lv st = some q) : ∃ v w r, st = v :: w :: r ∧ zone v = true ∧ zone w = true ∧ q = (pc, lv, v :: w :: v :: w :: r) := by
  unfold zd2 at h
  split at h
  · split at h
    · next hv => exact ⟨_, _, _, rfl, (Bool.and_eq_true_iff.mp hv).1, (Bool.and_eq_true_iff.mp hv).2, (Option.some.inj h).symm⟩
    · cases h
  · cases h
theorem zdx2_inv {pc : Nat} {lv : List (Nat × Value)} {st : List Value} {q : zS} (h : zdx2 pc lv st = some q) : ∃ v w u r, st = v :: w :: u :: r ∧ zone v = true ∧ zone w = true ∧ zone u = true ∧ q = (pc, lv, v :: w :: u :: v :: r) := by
  unfold zdx2 at h
  split at h
  · split at h
    · next hv =>
      have h1 := Bool.and_eq_true_iff.mp hv
      have h2 := Bool.and_eq_true_iff.mp h1.2
      exact ⟨_, _, _, _, rfl, h1.1, h2.1, h2.2, (Option.some.inj h).symm⟩
    · cases h
  · cases h
theorem zki_inv {pc : Nat} {lv : List (Nat × Value)} {st : List Value} {v : Value} {q : zS} (h : zki pc lv st v = some q) : ∃ x, v = .int x ∧ q = (pc, lv, .int x :: st) := by
  unfold zki at h
  split at h
  · exact ⟨_, rfl, (Option.some.inj h).symm⟩
  · cases h
theorem zkl_inv {pc : Nat} {lv : List (Nat × Value)} {st : List Value} {v : Value} {q : zS} (h : zkl pc lv st v = some q) : ∃ x, v = .long x ∧ q = (pc, lv, .long x :: st) := by
  unfold zkl at h
  split at h
  · exact ⟨_, rfl, (Option.some.inj h).symm⟩
  · cases h
theorem ztsw_inv {pc : Nat} {d lo hi : Int} {offs : Array Int} {lv : List (Nat × Value)} {st : List Value} {q : zS} (h : ztsw pc d lo hi offs lv st = some q) :
    ∃ x r, st = .int x :: r ∧ (((x.toInt < lo ∨ hi < x.toInt) ∧ zgo pc d lv r = some q) ∨ (¬ x.toInt < lo ∧ ¬ hi < x.toInt ∧ ∃ off, offs[(x.toInt - lo).toNat]? = some off ∧ zgo pc off lv r = some q)) := by
  unfold ztsw at h
  split at h
  · next x r =>
    refine ⟨x, r, rfl, ?_⟩
    split at h
    · next hc =>
      rcases Bool.or_eq_true_iff.mp hc with hc | hc
      · exact Or.inl ⟨Or.inl (of_decide_eq_true hc), h⟩
      · exact Or.inl ⟨Or.inr (of_decide_eq_true hc), h⟩
    · next hc =>
      have h2 := Bool.or_eq_false_iff.mp hc
      split at h
      · next off ho => exact Or.inr ⟨of_decide_eq_false h2.1, of_decide_eq_false h2.2, off, ho, h⟩
      · cases h
  · cases h
end
section
theorem zdf_map (sa b a : Nat) {C : vw_C} (h : zcl[a]? = some C) : (zdf a).map (zt sa b) = zdf a := by
  match a, h with
  | 0, _ => rfl
  | 1, _ => rfl
  | 2, _ => rfl
  | 3, _ => rfl
  | 4, _ => rfl
  | 5, _ => rfl
  | 6, _ => rfl
  | 7, _ => rfl
  | 8, _ => rfl
  | n + 9, h => exact absurd h (by simp [zcl])
end
section
-- steps that leave the heap alone
section ZP
variable {p : Program} {l : Launch} {e : Env} {R : Room} {s : State} {m : MethodId} {args : Array Value} {below : List Frame} {meth : Method} {c : Code} {H : Heap} {locs : List Loc} {cells slots : Nat} {Q : State → Prop}
variable {cc : ByteArray} {own : String} {sa b nL pc n a0 b0 w0 : Nat} {ini : Bool} {kv : Value} {lv : List (Nat × Value)} {st : List Value} {ls : Array Slot} {q : zS}
set_option maxHeartbeats 4000000 in
theorem zp_s {i : Jvm.ClassFile.Instr} (hx : p.tables.exec = Jvm.exec) (hb : c.code = cc) (hown : s.vm.findClass own = some m.cls) (hts : ∀ w ∈ zlw, w.before args s = true)
    (hd : decode cc pc = .ok (i, zlen i n)) (hk : zlnk own nL ini i a0 b0 w0 kv = true) (hl : lv_has ls nL (lv.map (ztl sa b))) (h : zp i kv pc lv st = some q)
    (kk : ∀ ls', lv_has ls' nL (q.2.1.map (ztl sa b)) → W p l e R s m args below meth c H locs cells slots Q (F0 m q.1 ls' (q.2.2.map (zt sa b)))) :
    W p l e R s m args below meth c H locs cells slots Q (F0 m pc ls (st.map (zt sa b))) := by
  cases i with
  | iconst k => obtain rfl := Option.some.inj h; exact lv_iconst hx hb hd rfl (kk ls hl)
  | bipush k => obtain rfl := Option.some.inj h; exact lv_bipush hx hb hd rfl (kk ls hl)
  | sipush k => obtain rfl := Option.some.inj h; exact lv_sipush hx hb hd rfl (kk ls hl)
  | lconst k => obtain rfl := Option.some.inj h; exact lv_lconst hx hb hd rfl (kk ls hl)
  | aconst_null => obtain rfl := Option.some.inj h; exact lv_null hx hb hd (kk ls hl)
  | ldc k =>
    obtain ⟨x, rfl, rfl⟩ := zki_inv h
    have hk : decide (lw_tbl[w0]? = some (Cond.constant own k x)) = true := hk
    exact lv_ldc hx hb hown (hts _ (zmm (of_decide_eq_true hk) rfl)) hd (kk ls hl)
  | ldc_w k =>
    obtain ⟨x, rfl, rfl⟩ := zki_inv h
    have hk : decide (lw_tbl[w0]? = some (Cond.constant own k x)) = true := hk
    exact lv_ldcw hx hb hown (hts _ (zmm (of_decide_eq_true hk) rfl)) hd (kk ls hl)
  | ldc2_w k =>
    obtain ⟨x, rfl, rfl⟩ := zkl_inv h
    have hk : decide (lw_tbl[w0]? = some (Cond.constantLong own k x)) = true := hk
    exact lv_ldc2 hx hb hown (hts _ (zmm (of_decide_eq_true hk) rfl)) hd (kk ls hl)
  | iload k => obtain ⟨x, hg, rfl⟩ := zld0_inv h; exact lv_iload hx hb hd (zgl_at hl hg) (kk ls hl)
  | iload_n k => obtain ⟨x, hg, rfl⟩ := zld0_inv h; exact lv_iload_n hx hb hd rfl (zgl_at hl hg) (kk ls hl)
  | lload k => obtain ⟨x, hg, rfl⟩ := zld1_inv h; exact lv_lload hx hb hd (zgl_at hl hg) (kk ls hl)
  | lload_n k => obtain ⟨x, hg, rfl⟩ := zld1_inv h; exact lv_lload_n hx hb hd rfl (zgl_at hl hg) (kk ls hl)
  | aload k =>
    obtain ⟨v, hg, rfl, hv⟩ := zld2_inv h
    rcases hv with ⟨x, rfl⟩ | rfl | ⟨x, rfl⟩
    · exact lv_aload hx hb hd (zgl_at hl hg) (kk ls hl)
    · exact lv_aloadN hx hb hd (zgl_at hl hg) (kk ls hl)
    · exact lv_aload hx hb hd (zgl_at hl hg) (kk ls hl)
  | aload_n k =>
    obtain ⟨v, hg, rfl, hv⟩ := zld2_inv h
    rcases hv with ⟨x, rfl⟩ | rfl | ⟨x, rfl⟩
    · exact lv_aload_n hx hb hd rfl (zgl_at hl hg) (kk ls hl)
    · exact lv_aload_nN hx hb hd rfl (zgl_at hl hg) (kk ls hl)
    · exact lv_aload_n hx hb hd rfl (zgl_at hl hg) (kk ls hl)
  | istore k => obtain ⟨x, r, rfl, rfl⟩ := zsi_inv h; exact lv_istore hx hb hd hl (Nat.le_of_ble_eq_true hk) (zst_map sa b lv k (.int x)) kk
  | istore_n k => obtain ⟨x, r, rfl, rfl⟩ := zsi_inv h; exact lv_istore_n hx hb hd rfl hl (Nat.le_of_ble_eq_true hk) (zst_map sa b lv k.val (.int x)) kk
  | lstore k => obtain ⟨x, r, rfl, rfl⟩ := zsl_inv h; exact lv_lstore hx hb hd hl (Nat.le_of_ble_eq_true hk) (zst2_map sa b lv k (.long x)) kk
  | lstore_n k => obtain ⟨x, r, rfl, rfl⟩ := zsl_inv h; exact lv_lstore_n hx hb hd rfl hl (Nat.le_of_ble_eq_true hk) (zst2_map sa b lv k.val (.long x)) kk
  | astore k =>
    obtain ⟨r, hq⟩ := zsa_inv h
    rcases hq with ⟨x, rfl, rfl⟩ | ⟨rfl, rfl⟩
    · exact lv_astore hx hb hd hl (Nat.le_of_ble_eq_true hk) (zst_map sa b lv k (.ref x)) kk
    · exact lv_astoreN hx hb hd hl (Nat.le_of_ble_eq_true hk) (zst_map sa b lv k .null) kk
  | astore_n k =>
    obtain ⟨r, hq⟩ := zsa_inv h
    rcases hq with ⟨x, rfl, rfl⟩ | ⟨rfl, rfl⟩
    · exact lv_astore_n hx hb hd rfl hl (Nat.le_of_ble_eq_true hk) (zst_map sa b lv k.val (.ref x)) kk
    · exact lv_astore_nN hx hb hd rfl hl (Nat.le_of_ble_eq_true hk) (zst_map sa b lv k.val .null) kk
  | iinc k d =>
    obtain ⟨x, hg, rfl⟩ := zinc_inv h
    obtain ⟨k0, hk0⟩ := List.getElem?_of_mem (List.mem_map.mpr ⟨(k, .int x), zgl_mem hg, rfl⟩ : (k, Value.int x) ∈ lv.map (ztl sa b))
    exact lv_iinc hx hb hd hl hk0 rfl (Nat.le_of_ble_eq_true hk) (zst_map sa b lv k (.int (x + Int32.ofInt d))) kk
  | iadd => obtain ⟨x, y, r, rfl, rfl⟩ := zi2_inv h; exact lv_iadd hx hb hd (kk ls hl)
  | isub => obtain ⟨x, y, r, rfl, rfl⟩ := zi2_inv h; exact lv_isub hx hb hd (kk ls hl)
  | imul => obtain ⟨x, y, r, rfl, rfl⟩ := zi2_inv h; exact lv_imul hx hb hd (kk ls hl)
  | iand => obtain ⟨x, y, r, rfl, rfl⟩ := zi2_inv h; exact lv_iand hx hb hd (kk ls hl)
  | ior => obtain ⟨x, y, r, rfl, rfl⟩ := zi2_inv h; exact lv_ior hx hb hd (kk ls hl)
  | ixor => obtain ⟨x, y, r, rfl, rfl⟩ := zi2_inv h; exact lv_ixor hx hb hd (kk ls hl)
  | ishl => obtain ⟨x, y, r, rfl, rfl⟩ := zi2_inv h; exact lv_ishl hx hb hd (kk ls hl)
  | ishr => obtain ⟨x, y, r, rfl, rfl⟩ := zi2_inv h; exact lv_ishr hx hb hd (kk ls hl)
  | iushr => obtain ⟨x, y, r, rfl, rfl⟩ := zi2_inv h; exact lv_iushr hx hb hd rfl (kk ls hl)
  | ladd => obtain ⟨x, y, r, rfl, rfl⟩ := zl2_inv h; exact lv_ladd hx hb hd (kk ls hl)
  | lsub => obtain ⟨x, y, r, rfl, rfl⟩ := zl2_inv h; exact lv_lsub hx hb hd (kk ls hl)
  | lmul => obtain ⟨x, y, r, rfl, rfl⟩ := zl2_inv h; exact lv_lmul hx hb hd (kk ls hl)
  | land => obtain ⟨x, y, r, rfl, rfl⟩ := zl2_inv h; exact lv_land hx hb hd (kk ls hl)
  | lor => obtain ⟨x, y, r, rfl, rfl⟩ := zl2_inv h; exact lv_lor hx hb hd (kk ls hl)
  | lcmp => obtain ⟨x, y, r, rfl, rfl⟩ := zl2_inv h; exact W.lcmp hx hb hd (kk ls hl)
  | idiv => obtain ⟨x, y, r, rfl, hne, rfl⟩ := zdv_inv h; exact lv_idiv hx hb hd hne (kk ls hl)
  | irem => obtain ⟨x, y, r, rfl, hne, rfl⟩ := zdv_inv h; exact lv_irem hx hb hd hne (kk ls hl)
  | ldiv => obtain ⟨x, y, r, rfl, hne, rfl⟩ := zdvl_inv h; exact lv_ldiv hx hb hd hne (kk ls hl)
  | lrem => obtain ⟨x, y, r, rfl, hne, rfl⟩ := zdvl_inv h; exact lv_lrem hx hb hd hne (kk ls hl)
  | ineg => obtain ⟨x, r, rfl, rfl⟩ := zi1_inv h; exact lv_ineg hx hb hd (kk ls hl)
  | i2l => obtain ⟨x, r, rfl, rfl⟩ := zi1_inv h; exact lv_i2l hx hb hd rfl (kk ls hl)
  | i2b => obtain ⟨x, r, rfl, rfl⟩ := zi1_inv h; exact lv_i2b hx hb hd rfl (kk ls hl)
  | lneg => obtain ⟨x, r, rfl, rfl⟩ := zl1_inv h; exact lv_lneg hx hb hd (kk ls hl)
  | l2i => obtain ⟨x, r, rfl, rfl⟩ := zl1_inv h; exact lv_l2i hx hb hd rfl (kk ls hl)
  | dup => obtain ⟨v, r, rfl, hv, rfl⟩ := zd0_inv h; exact lv_dup hx hb hd (zone_cat hv) (kk ls hl)
  | dup_x1 => obtain ⟨v, w, r, rfl, hv, hw, rfl⟩ := zdx1_inv h; exact lv_dup_x1 hx hb hd (zone_cat hv) (zone_cat hw) (kk ls hl)
  | dup_x2 => obtain ⟨v, w, u, r, rfl, hv, hw, hu, rfl⟩ := zdx2_inv h; exact lv_dup_x2 hx hb hd (zone_cat hv) (zone_cat hw) (zone_cat hu) (kk ls hl)
  | dup2 => obtain ⟨v, w, r, rfl, hv, hw, rfl⟩ := zd2_inv h; exact lv_dup2_11 hx hb hd (zone_cat hv) (zone_cat hw) (kk ls hl)
  | pop => obtain ⟨v, r, rfl, hv, rfl⟩ := zpo_inv h; exact lv_pop hx hb hd (zone_cat hv) (kk ls hl)
  | goto off => obtain ⟨t, ht, rfl⟩ := zgo_inv h; exact lv_goto hx hb hd ht (kk ls hl)
  | ifCond cnd off =>
    obtain ⟨x, r, rfl, hz⟩ := zb1_inv h
    obtain ⟨t, ht, hq⟩ := zbr_inv hz
    cases cnd
    · refine lv_if_eq hx hb hd ht (fun hc => ?_) (fun hc => ?_) <;> rcases hq with ⟨hT, rfl⟩ | ⟨hT, rfl⟩ <;> first | exact kk ls hl | exact absurd hc (of_decide_eq_false hT) | exact absurd (of_decide_eq_true hT) hc | exact absurd hc (of_decide_eq_true hT)
    · refine lv_if_ne hx hb hd ht (fun hc => ?_) (fun hc => ?_) <;> rcases hq with ⟨hT, rfl⟩ | ⟨hT, rfl⟩ <;> first | exact kk ls hl | exact absurd hc (of_decide_eq_false hT) | exact absurd (of_decide_eq_true hT) hc | exact absurd hc (of_decide_eq_true hT)
    · refine lv_if_lt hx hb hd ht (fun hc => ?_) (fun hc => ?_) <;> rcases hq with ⟨hT, rfl⟩ | ⟨hT, rfl⟩ <;> first | exact kk ls hl | exact absurd hc (of_decide_eq_false hT) | exact absurd (of_decide_eq_true hT) hc | exact absurd hc (of_decide_eq_true hT)
    · refine lv_if_ge hx hb hd ht (fun hc => ?_) (fun hc => ?_) <;> rcases hq with ⟨hT, rfl⟩ | ⟨hT, rfl⟩ <;> first | exact kk ls hl | exact absurd hc (of_decide_eq_false hT) | exact absurd (of_decide_eq_true hT) hc | exact absurd hc (of_decide_eq_true hT)
    · refine lv_if_gt hx hb hd ht (fun hc => ?_) (fun hc => ?_) <;> rcases hq with ⟨hT, rfl⟩ | ⟨hT, rfl⟩ <;> first | exact kk ls hl | exact absurd hc (of_decide_eq_false hT) | exact absurd (of_decide_eq_true hT) hc | exact absurd hc (of_decide_eq_true hT)
    · refine lv_if_le hx hb hd ht (fun hc => ?_) (fun hc => ?_) <;> rcases hq with ⟨hT, rfl⟩ | ⟨hT, rfl⟩ <;> first | exact kk ls hl | exact absurd hc (of_decide_eq_false hT) | exact absurd (of_decide_eq_true hT) hc | exact absurd hc (of_decide_eq_true hT)
  | if_icmp cnd off =>
    obtain ⟨x, y, r, rfl, hz⟩ := zb2_inv h
    obtain ⟨t, ht, hq⟩ := zbr_inv hz
    cases cnd
    · refine lv_icmp_eq hx hb hd ht (fun hc => ?_) (fun hc => ?_) <;> rcases hq with ⟨hT, rfl⟩ | ⟨hT, rfl⟩ <;> first | exact kk ls hl | exact absurd hc (of_decide_eq_false hT) | exact absurd (of_decide_eq_true hT) hc | exact absurd hc (of_decide_eq_true hT)
    · refine lv_icmp_ne hx hb hd ht (fun hc => ?_) (fun hc => ?_) <;> rcases hq with ⟨hT, rfl⟩ | ⟨hT, rfl⟩ <;> first | exact kk ls hl | exact absurd hc (of_decide_eq_false hT) | exact absurd (of_decide_eq_true hT) hc | exact absurd hc (of_decide_eq_true hT)
    · refine lv_icmp_lt hx hb hd ht (fun hc => ?_) (fun hc => ?_) <;> rcases hq with ⟨hT, rfl⟩ | ⟨hT, rfl⟩ <;> first | exact kk ls hl | exact absurd hc (of_decide_eq_false hT) | exact absurd (of_decide_eq_true hT) hc | exact absurd hc (of_decide_eq_true hT)
    · refine lv_icmp_ge hx hb hd ht (fun hc => ?_) (fun hc => ?_) <;> rcases hq with ⟨hT, rfl⟩ | ⟨hT, rfl⟩ <;> first | exact kk ls hl | exact absurd hc (of_decide_eq_false hT) | exact absurd (of_decide_eq_true hT) hc | exact absurd hc (of_decide_eq_true hT)
    · refine lv_icmp_gt hx hb hd ht (fun hc => ?_) (fun hc => ?_) <;> rcases hq with ⟨hT, rfl⟩ | ⟨hT, rfl⟩ <;> first | exact kk ls hl | exact absurd hc (of_decide_eq_false hT) | exact absurd (of_decide_eq_true hT) hc | exact absurd hc (of_decide_eq_true hT)
    · refine lv_icmp_le hx hb hd ht (fun hc => ?_) (fun hc => ?_) <;> rcases hq with ⟨hT, rfl⟩ | ⟨hT, rfl⟩ <;> first | exact kk ls hl | exact absurd hc (of_decide_eq_false hT) | exact absurd (of_decide_eq_true hT) hc | exact absurd hc (of_decide_eq_true hT)
  | ifnull off =>
    obtain ⟨r, hq⟩ := zbn_inv h
    rcases hq with ⟨rfl, hz⟩ | ⟨k, rfl, hz⟩ <;> obtain ⟨t, ht, hq⟩ := zbr_inv hz <;> rcases hq with ⟨hT, rfl⟩ | ⟨hT, rfl⟩
    · exact lv_ifnullN hx hb hd ht (kk ls hl)
    · cases hT
    · cases hT
    · exact lv_ifnull hx hb hd (kk ls hl)
  | ifnonnull off =>
    obtain ⟨r, hq⟩ := zbn_inv h
    rcases hq with ⟨rfl, hz⟩ | ⟨k, rfl, hz⟩ <;> obtain ⟨t, ht, hq⟩ := zbr_inv hz <;> rcases hq with ⟨hT, rfl⟩ | ⟨hT, rfl⟩
    · cases hT
    · exact lv_ifnonnullN hx hb hd (kk ls hl)
    · exact lv_ifnonnull hx hb hd ht (kk ls hl)
    · cases hT
  | tableswitch d lo hi offs =>
    obtain ⟨x, r, rfl, hq⟩ := ztsw_inv h
    rcases hq with ⟨ho, hg⟩ | ⟨h1, h2, off, ho, hg⟩
    · obtain ⟨t, ht, rfl⟩ := zgo_inv hg; exact lv_tableOut hx hb hd ho ht (kk ls hl)
    · obtain ⟨t, ht, rfl⟩ := zgo_inv hg; exact lv_tableIn hx hb hd h1 h2 ho ht (kk ls hl)
  | _ => exact znq h
end ZP
end
section
-- the heap of the abstract machine lies in the heap from b on
def zat (D : va_G) (tc : Nat → ClassId) (sa b k : Nat) (e : zC) (H : Heap) : Prop := match e with
  | .inl q => H[b + k]? = some (arrV (tc q.1) q.2.length (fun j => zt sa b (q.2.getD j .null)))
  | .inr o => va_at D zcl (b + k, .inr (o.1, o.2.map (zt sa b))) H
theorem zat.kept {D : va_G} {tc : Nat → ClassId} {sa b k : Nat} {e : zC} {H H1 : Heap} (h : zat D tc sa b k e H) (hq : H1[b + k]? = H[b + k]?) : zat D tc sa b k e H1 := by
  cases e with
  | inl q => exact hq.trans h
  | inr o => exact va_at.kept (q := (b + k, .inr (o.1, o.2.map (zt sa b)))) h hq
def zR (D : va_G) (tc : Nat → ClassId) (sa b : Nat) (h : List zC) (H : Heap) : Prop := H.size = b + h.length ∧ ∀ (k : Nat) (e : zC), h[k]? = some e → zat D tc sa b k e H
theorem zR.set {D : va_G} {tc : Nat → ClassId} {sa b k : Nat} {h : List zC} {e0 e : zC} {H H1 : Heap} (hR : zR D tc sa b h H) (hk : h[k]? = some e0) (z : H1.size = H.size) (oq : ∀ q : Nat, q ≠ b + k → H1[q]? = H[q]?) (he : zat D tc sa b k e H1) : zR D tc sa b (h.set k e) H1 := by
  refine ⟨by rw [z, hR.1, List.length_set], fun j x hj => ?_⟩
  by_cases hjk : j = k
  · rw [hjk] at hj ⊢
    rw [List.getElem?_set_self (List.getElem?_eq_some_iff.mp hk).1] at hj
    rw [← Option.some.inj hj]
    exact he
  · rw [List.getElem?_set_ne (Ne.symm hjk)] at hj
    exact (hR.2 j x hj).kept (oq _ (by omega))
theorem zR.push {D : va_G} {tc : Nat → ClassId} {sa b : Nat} {h : List zC} {e : zC} {H H1 : Heap} (hR : zR D tc sa b h H) (z : H1.size = H.size + 1) (oq : ∀ q : Nat, q < H.size → H1[q]? = H[q]?) (he : zat D tc sa b h.length e H1) : zR D tc sa b (h ++ [e]) H1 := by
  refine ⟨by rw [z, hR.1, List.length_append]; rfl, fun j x hj => ?_⟩
  by_cases hl : j < h.length
  · rw [List.getElem?_append_left hl] at hj
    exact (hR.2 j x hj).kept (oq _ (by rw [hR.1]; omega))
  · have hj2 : j < (h ++ [e]).length := (List.getElem?_eq_some_iff.mp hj).1
    rw [List.length_append] at hj2
    have hj3 : j = h.length := by simp at hj2; omega
    rw [hj3] at hj ⊢
    rw [List.getElem?_append_right (Nat.le_refl _), Nat.sub_self] at hj
    rw [← Option.some.inj hj]
    exact he
theorem zP1 {D : va_G} {cl : List vw_C} {q : Nat × va_E} {H : Heap} (h : va_at D cl q H) : va_P D cl [q] H := fun k x hk => by
  cases k with
  | zero => rw [← Option.some.inj hk]; exact h
  | succ k => simp at hk
theorem arrV_cg (cA : ClassId) {N : Nat} {f g : Nat → Value} (h : ∀ j, j < N → f j = g j) : arrV cA N f = arrV cA N g := by
  unfold arrV
  congr 2
  funext j
  exact h j.val j.isLt
theorem zt_up (sa b : Nat) (cA : ClassId) (l : List Value) (k : Nat) (v : Value) : arrV cA (l.set k v).length (fun j => zt sa b ((l.set k v).getD j .null)) = (arrV cA l.length (fun j => zt sa b (l.getD j .null))).setSlot k (zt sa b v) := by
  rw [arrV_store, List.length_set]
  apply arrV_cg
  intro j hj
  unfold updV
  by_cases hk : j = k
  · subst hk
    simp [List.getD_eq_getElem?_getD, hj]
  · simp [List.getD_eq_getElem?_getD, List.getElem?_set_ne (Ne.symm hk), hk]
theorem zgd {l : List Value} {k : Nat} {v : Value} (h : l[k]? = some v) : l.getD k .null = v := by
  rw [List.getD_eq_getElem?_getD, h]
  rfl
theorem zgf_inv {a b pc : Nat} {h : List zC} {lv : List (Nat × Value)} {st : List Value} {q : zS} (hz : zgf a b h pc lv st = some q) : ∃ u r fs v, st = .ref u :: r ∧ h[u]? = some (.inr (a, fs)) ∧ fs[b]? = some v ∧ q = (pc, lv, v :: r) := by
  unfold zgf at hz
  split at hz
  · next u r =>
    split at hz
    · next o ho =>
      split at hz
      · next hb =>
        split at hz
        · next v hv =>
          have e : o.1 = a := Nat.eq_of_beq_eq_true hb
          exact ⟨u, r, o.2, v, rfl, by rw [ho, ← e], hv, (Option.some.inj hz).symm⟩
        · cases hz
      · cases hz
    · cases hz
  · cases hz
theorem zal_inv {t0 : Nat → Bool} {xs : zX} {pc : Nat} {h : List zC} {lv : List (Nat × Value)} {st : List Value} {q : zS} (hz : zal t0 xs h pc lv st = some q) :
    (∃ j u r t l v, st = .int j :: .ref u :: r ∧ h[u]? = some (.inl (t, l)) ∧ t0 t = true ∧ ¬ (j < 0 ∨ l.length ≤ j.toNatClampNeg) ∧ l[j.toNatClampNeg]? = some v ∧ q = (pc, lv, v :: r)) ∨
    (∃ j u r x, st = .int j :: .retAddr u :: r ∧ xs = some x ∧ t0 0 = true ∧ ¬ (j < 0 ∨ x.1 ≤ j.toNatClampNeg) ∧ q = (pc, lv, .int (x.2 j.toNatClampNeg) :: r)) := by
  unfold zal at hz
  split at hz
  · next j u r =>
    split at hz
    · next o ho =>
      split at hz
      · next hb =>
        have h2 := Bool.and_eq_true_iff.mp hb
        split at hz
        · next v hv => exact Or.inl ⟨j, u, r, o.1, o.2, v, rfl, ho, h2.1, of_decide_eq_true h2.2, hv, (Option.some.inj hz).symm⟩
        · cases hz
      · cases hz
    · cases hz
  · next j u r =>
    split at hz
    · next x =>
      split at hz
      · next hb =>
        have h2 := Bool.and_eq_true_iff.mp hb
        exact Or.inr ⟨j, u, r, x, rfl, rfl, h2.1, of_decide_eq_true h2.2, (Option.some.inj hz).symm⟩
      · cases hz
    · cases hz
  · cases hz
theorem zle_inv {xs : zX} {pc : Nat} {h : List zC} {lv : List (Nat × Value)} {st : List Value} {q : zS} (hz : zle xs h pc lv st = some q) :
    (∃ u r t l, st = .ref u :: r ∧ h[u]? = some (.inl (t, l)) ∧ t < zNT ∧ q = (pc, lv, .int (Int32.ofNat l.length) :: r)) ∨ (∃ u r x, st = .retAddr u :: r ∧ xs = some x ∧ q = (pc, lv, .int (Int32.ofNat x.1) :: r)) := by
  unfold zle at hz
  split at hz
  · next u r =>
    split at hz
    · next o ho =>
      split at hz
      · next hb => exact Or.inl ⟨u, r, o.1, o.2, rfl, ho, Nat.le_of_ble_eq_true hb, (Option.some.inj hz).symm⟩
      · cases hz
    · cases hz
  · next u r =>
    split at hz
    · next x => exact Or.inr ⟨u, r, x, rfl, rfl, (Option.some.inj hz).symm⟩
    · cases hz
  · cases hz
theorem zcc_inv {pc : Nat} {h : List zC} {lv : List (Nat × Value)} {st : List Value} {q : zS} (hz : zcc h pc lv st = some q) : ∃ k r l, st = .ref k :: r ∧ h[k]? = some (.inl (0, l)) ∧ q = (pc, lv, .ref k :: r) := by
  unfold zcc at hz
  split at hz
  · next k r =>
    split at hz
    · next o ho =>
      split at hz
      · next hb =>
        have e : o.1 = 0 := Nat.eq_of_beq_eq_true hb
        exact ⟨k, r, o.2, rfl, by rw [ho, ← e], (Option.some.inj hz).symm⟩
      · cases hz
    · cases hz
  · cases hz
theorem zlF_inv {own : String} {i a b w : Nat} (h : zlF own i a b w = true) : ∃ C, zcl[a]? = some C ∧ b < C.2.2 ∧ Cond.fieldLink own i (C.2.1 b).1 (C.2.1 b).2.1 (C.2.1 b).2.2.1 ∈ zlw := by
  unfold zlF at h
  split at h
  · next C hC =>
    have h2 := Bool.and_eq_true_iff.mp h
    exact ⟨C, hC, Nat.le_of_ble_eq_true h2.1, zmm (of_decide_eq_true h2.2) rfl⟩
  · cases h
section ZH
variable {p : Program} {l : Launch} {e : Env} {R : Room} {s : State} {m : MethodId} {args : Array Value} {below : List Frame} {meth : Method} {c : Code} {H : Heap} {locs : List Loc} {cells slots : Nat} {Q : State → Prop}
variable {cc : ByteArray} {own : String} {sa b nL pc n a0 b0 w0 : Nat} {ini : Bool} {kv : Value} {lv : List (Nat × Value)} {st : List Value} {ls : Array Slot} {q : zS}
variable {D : va_G} {tc : Nat → ClassId} {h : List zC} {xs : zX}
set_option maxHeartbeats 4000000 in
theorem zr_s {i : Jvm.ClassFile.Instr} (hx : p.tables.exec = Jvm.exec) (hb : c.code = cc) (hown : s.vm.findClass own = some m.cls) (hts : ∀ w ∈ zlw, w.before args s = true) (hK : va_K D zcl (ztys tc) s) (hR : zR D tc sa b h H) (hX : ∀ x, xs = some x → va_X sa x.1 x.2 s H)
    (hd : decode cc pc = .ok (i, zlen i n)) (hk : zlnk own nL ini i a0 b0 w0 kv = true) (hl : lv_has ls nL (lv.map (ztl sa b))) (hz : zr i a0 b0 xs h pc lv st = some q)
    (kk : ∀ ls', lv_has ls' nL (q.2.1.map (ztl sa b)) → W p l e R s m args below meth c H locs cells slots Q (F0 m q.1 ls' (q.2.2.map (zt sa b)))) :
    W p l e R s m args below meth c H locs cells slots Q (F0 m pc ls (st.map (zt sa b))) := by
  cases i with
  | getfield k =>
    obtain ⟨u, r, fs, v, rfl, hu, hv, rfl⟩ := zgf_inv (show zgf a0 b0 h (pc + 3) lv st = some q from hz)
    obtain ⟨C, hC, hbN, hfl⟩ := zlF_inv (show zlF own k a0 b0 w0 = true from hk)
    have hat : va_at D zcl (b + u, .inr (a0, fs.map (zt sa b))) H := hR.2 u _ hu
    exact va_get (D := D) (ci := a0) (C := C.1) (T := C.2.1) (N := C.2.2) hx hb hts (zcl_ok a0 hC).1 hown hK (zP1 hat) 0 rfl hC b0 hbN (hts _ hfl) (fun _ h9 => h9) (v := zt sa b v) (by rw [List.getElem?_map, hv]; rfl) hd (kk ls hl)
  | iaload =>
    rcases zal_inv (show zal (fun t => Nat.beq t 0) xs h (pc + 1) lv st = some q from hz) with ⟨j, u, r, t, l, v, rfl, hu, ht, hin, hv, rfl⟩ | ⟨j, u, r, x, rfl, hxs, ht, hin, rfl⟩
    · obtain rfl : t = 0 := Nat.eq_of_beq_eq_true ht
      have hc : H[b + u]? = some (arrV (tc 0) l.length (fun j => zt sa b (l.getD j .null))) := hR.2 u _ hu
      have hlt : j.toNatClampNeg < l.length := Nat.not_le.mp fun x => hin (Or.inr x)
      exact W.iald (v := zt sa b v) hx hb hc ((hK.2 0 (tc 0, .int) rfl).1 l.length _) (fun x => by cases x) (by rw [arrV_size]; exact hin) (by rw [arrV_read _ _ hlt, zgd hv]) rfl rfl hd (kk ls hl)
    · obtain ⟨scr, h1, h2, h3, h4, h5⟩ := hX x hxs
      have hlt : j.toNatClampNeg < x.1 := Nat.not_le.mp fun y => hin (Or.inr y)
      exact W.iald (v := .int (x.2 j.toNatClampNeg)) hx hb h1 h2 h3 (by rw [h4]; exact hin) (h5 _ hlt) rfl rfl hd (kk ls hl)
  | baload =>
    rcases zal_inv (show zal (fun t => Nat.beq t 1) xs h (pc + 1) lv st = some q from hz) with ⟨j, u, r, t, l, v, rfl, hu, ht, hin, hv, rfl⟩ | ⟨j, u, r, x, rfl, hxs, ht, hin, rfl⟩
    · obtain rfl : t = 1 := Nat.eq_of_beq_eq_true ht
      have hc : H[b + u]? = some (arrV (tc 1) l.length (fun j => zt sa b (l.getD j .null))) := hR.2 u _ hu
      have hlt : j.toNatClampNeg < l.length := Nat.not_le.mp fun x => hin (Or.inr x)
      exact W.zald (v := zt sa b v) hx hb hc ((hK.2 1 (tc 1, .boolean) rfl).1 l.length _) (fun x => by cases x) (by rw [arrV_size]; exact hin) (by rw [arrV_read _ _ hlt, zgd hv]) rfl rfl hd (kk ls hl)
    · cases ht
  | laload =>
    rcases zal_inv (show zal (fun t => Nat.beq t 2) xs h (pc + 1) lv st = some q from hz) with ⟨j, u, r, t, l, v, rfl, hu, ht, hin, hv, rfl⟩ | ⟨j, u, r, x, rfl, hxs, ht, hin, rfl⟩
    · obtain rfl : t = 2 := Nat.eq_of_beq_eq_true ht
      have hc : H[b + u]? = some (arrV (tc 2) l.length (fun j => zt sa b (l.getD j .null))) := hR.2 u _ hu
      have hlt : j.toNatClampNeg < l.length := Nat.not_le.mp fun x => hin (Or.inr x)
      exact W.lald (v := zt sa b v) hx hb hc ((hK.2 2 (tc 2, .long) rfl).1 l.length _) (fun x => by cases x) (by rw [arrV_size]; exact hin) (by rw [arrV_read _ _ hlt, zgd hv]) rfl rfl hd (kk ls hl)
    · cases ht
  | aaload =>
    rcases zal_inv (show zal zrt xs h (pc + 1) lv st = some q from hz) with ⟨j, u, r, t, l, v, rfl, hu, ht, hin, hv, rfl⟩ | ⟨j, u, r, x, rfl, hxs, ht, hin, rfl⟩
    · have hc : H[b + u]? = some (arrV (tc t) l.length (fun j => zt sa b (l.getD j .null))) := hR.2 u _ hu
      have hlt : j.toNatClampNeg < l.length := Nat.not_le.mp fun x => hin (Or.inr x)
      unfold zrt at ht
      split at ht
      · next c hc2 =>
        obtain ⟨C, -, -, hty⟩ := zte_ok hc2
        exact W.aald (v := zt sa b v) (ty := .object C.1) hx hb hc ((hK.2 t _ (hty tc)).1 l.length _) rfl (fun x => by cases x) (by rw [arrV_size]; exact hin) (by rw [arrV_read _ _ hlt, zgd hv]) rfl rfl hd (kk ls hl)
      · cases ht
    · cases ht
  | arraylength =>
    rcases zle_inv (show zle xs h (pc + 1) lv st = some q from hz) with ⟨u, r, t, l, rfl, hu, ht, rfl⟩ | ⟨u, r, x, rfl, hxs, rfl⟩
    · have hc : H[b + u]? = some (arrV (tc t) l.length (fun j => zt sa b (l.getD j .null))) := hR.2 u _ hu
      obtain ⟨ty, hty⟩ := ztys_ok ht tc
      exact W.alen hx hb hc ((hK.2 t _ hty).1 l.length _) (by rw [arrV_size]) rfl rfl hd (kk ls hl)
    · obtain ⟨scr, h1, h2, h3, h4, h5⟩ := hX x hxs
      exact W.alen hx hb h1 h2 (by rw [h4]) rfl rfl hd (kk ls hl)
  | checkcast k =>
    obtain ⟨u, r, l, rfl, hu, rfl⟩ := zcc_inv (show zcc h (pc + 3) lv st = some q from hz)
    have hc : H[b + u]? = some (arrV (tc 0) l.length (fun j => zt sa b (l.getD j .null))) := hR.2 u _ hu
    have hlk : Cond.classLink own k "[I" ∈ zlw := zmm (of_decide_eq_true (show decide (lw_tbl[w0]? = some (Cond.classLink own k "[I")) = true from hk)) rfl
    have hnm : s.vm.findClass "[I" = some (tc 0) := (hK.2 0 (tc 0, .int) rfl).2
    intro T hT X
    obtain ⟨vm', X', step⟩ := X.checkcastYes hx hown (hts _ hlk) (by rw [hT]; exact hc) rfl hnm (va_asg _ _) (g := F0 m pc ls (.ref (b + u) :: r.map (zt sa b))) rfl rfl (by rw [hb]; exact hd)
    obtain ⟨t, a1, b1⟩ := kk ls hl (T.setVm vm') hT X'
    exact ⟨t, step t a1, b1⟩
  | _ => exact znq hz
end ZH
theorem zfit_ok {sa b : Nat} {ty : FieldType} {v : Value} (h : zfit ty v = true) : narrow ty (zt sa b v) = zt sa b v ∧ fits ty (zt sa b v) = true := by
  cases ty with
  | int => cases v <;> first | exact ⟨rfl, rfl⟩ | cases h
  | long => cases v <;> first | exact ⟨rfl, rfl⟩ | cases h
  | object C => cases v <;> first | exact ⟨rfl, rfl⟩ | cases h
  | array C => cases v <;> first | exact ⟨rfl, rfl⟩ | cases h
  | boolean =>
    cases v with
    | int k =>
      have h : (decide (k = 0) || decide (k = 1)) = true := h
      rcases Bool.or_eq_true_iff.mp h with h | h
      · rw [of_decide_eq_true h]; exact ⟨(by decide : narrow .boolean (.int 0) = .int 0), (by decide : fits .boolean (.int 0) = true)⟩
      · rw [of_decide_eq_true h]; exact ⟨(by decide : narrow .boolean (.int 1) = .int 1), (by decide : fits .boolean (.int 1) = true)⟩
    | _ => cases h
  | _ => cases h
theorem zpf_inv {a b pc : Nat} {h : List zC} {lv : List (Nat × Value)} {st : List Value} {q : zS × List zC} (hz : zpf a b h pc lv st = some q) : ∃ v u r fs, st = v :: .ref u :: r ∧ h[u]? = some (.inr (a, fs)) ∧ b < fs.length ∧ zfit (zty a b) v = true ∧ q = ((pc, lv, r), h.set u (.inr (a, fs.set b v))) := by
  unfold zpf at hz
  split at hz
  · next v u r =>
    split at hz
    · next o ho =>
      split at hz
      · next hb =>
        have h2 := Bool.and_eq_true_iff.mp hb
        have h3 := Bool.and_eq_true_iff.mp h2.2
        have e : o.1 = a := Nat.eq_of_beq_eq_true h2.1
        exact ⟨v, u, r, o.2, rfl, by rw [ho, ← e], Nat.le_of_ble_eq_true h3.1, h3.2, by rw [← e]; exact (Option.some.inj hz).symm⟩
      · cases hz
    · cases hz
  · cases hz
theorem zis_inv {pc : Nat} {h : List zC} {lv : List (Nat × Value)} {st : List Value} {q : zS × List zC} (hz : zis h pc lv st = some q) : ∃ x j u r l, st = .int x :: .int j :: .ref u :: r ∧ h[u]? = some (.inl (0, l)) ∧ ¬ (j < 0 ∨ l.length ≤ j.toNatClampNeg) ∧ q = ((pc, lv, r), h.set u (.inl (0, l.set j.toNatClampNeg (.int x)))) := by
  unfold zis at hz
  split at hz
  · next x j u r =>
    split at hz
    · next o ho =>
      split at hz
      · next hb =>
        have h2 := Bool.and_eq_true_iff.mp hb
        have e : o.1 = 0 := Nat.eq_of_beq_eq_true h2.1
        exact ⟨x, j, u, r, o.2, rfl, by rw [ho, ← e], of_decide_eq_true h2.2, by rw [← e]; exact (Option.some.inj hz).symm⟩
      · cases hz
    · cases hz
  · cases hz
theorem zbs_inv {pc : Nat} {h : List zC} {lv : List (Nat × Value)} {st : List Value} {q : zS × List zC} (hz : zbs h pc lv st = some q) : ∃ x j u r l, st = .int x :: .int j :: .ref u :: r ∧ h[u]? = some (.inl (1, l)) ∧ ¬ (j < 0 ∨ l.length ≤ j.toNatClampNeg) ∧ q = ((pc, lv, r), h.set u (.inl (1, l.set j.toNatClampNeg (.int (x &&& 1))))) := by
  unfold zbs at hz
  split at hz
  · next x j u r =>
    split at hz
    · next o ho =>
      split at hz
      · next hb =>
        have h2 := Bool.and_eq_true_iff.mp hb
        have e : o.1 = 1 := Nat.eq_of_beq_eq_true h2.1
        exact ⟨x, j, u, r, o.2, rfl, by rw [ho, ← e], of_decide_eq_true h2.2, by rw [← e]; exact (Option.some.inj hz).symm⟩
      · cases hz
    · cases hz
  · cases hz
theorem zls_inv {pc : Nat} {h : List zC} {lv : List (Nat × Value)} {st : List Value} {q : zS × List zC} (hz : zls h pc lv st = some q) : ∃ x j u r l, st = .long x :: .int j :: .ref u :: r ∧ h[u]? = some (.inl (2, l)) ∧ ¬ (j < 0 ∨ l.length ≤ j.toNatClampNeg) ∧ q = ((pc, lv, r), h.set u (.inl (2, l.set j.toNatClampNeg (.long x)))) := by
  unfold zls at hz
  split at hz
  · next x j u r =>
    split at hz
    · next o ho =>
      split at hz
      · next hb =>
        have h2 := Bool.and_eq_true_iff.mp hb
        have e : o.1 = 2 := Nat.eq_of_beq_eq_true h2.1
        exact ⟨x, j, u, r, o.2, rfl, by rw [ho, ← e], of_decide_eq_true h2.2, by rw [← e]; exact (Option.some.inj hz).symm⟩
      · cases hz
    · cases hz
  · cases hz
theorem zas_inv {pc : Nat} {h : List zC} {lv : List (Nat × Value)} {st : List Value} {q : zS × List zC} (hz : zas h pc lv st = some q) : ∃ v j u r t l, st = v :: .int j :: .ref u :: r ∧ h[u]? = some (.inl (t, l)) ∧ zes h t v = true ∧ ¬ (j < 0 ∨ l.length ≤ j.toNatClampNeg) ∧ q = ((pc, lv, r), h.set u (.inl (t, l.set j.toNatClampNeg v))) := by
  unfold zas at hz
  split at hz
  · next v j u r =>
    split at hz
    · next o ho =>
      split at hz
      · next hb =>
        have h2 := Bool.and_eq_true_iff.mp hb
        exact ⟨v, j, u, r, o.1, o.2, rfl, ho, h2.1, of_decide_eq_true h2.2, (Option.some.inj hz).symm⟩
      · cases hz
    · cases hz
  · cases hz
theorem zes_inv {h : List zC} {t : Nat} {v : Value} (hz : zes h t v = true) : ∃ c, zte t = some c ∧ (v = .null ∨ ∃ u fs, v = .ref u ∧ h[u]? = some (.inr (c, fs))) := by
  unfold zes at hz
  split at hz
  · unfold zrt at hz
    split at hz
    · next c hc => exact ⟨c, hc, Or.inl rfl⟩
    · cases hz
  · next u =>
    split at hz
    · next o ho =>
      split at hz
      · next c hc =>
        have e : c = o.1 := Nat.eq_of_beq_eq_true hz
        exact ⟨c, hc, Or.inr ⟨u, o.2, rfl, by rw [ho, e]⟩⟩
      · cases hz
    · cases hz
  · cases hz
section ZW
variable {p : Program} {l : Launch} {e : Env} {R : Room} {s : State} {m : MethodId} {args : Array Value} {below : List Frame} {meth : Method} {c : Code} {H : Heap} {locs : List Loc} {cells slots : Nat} {Q : State → Prop}
variable {cc : ByteArray} {own : String} {sa b nL pc n a0 b0 w0 : Nat} {ini : Bool} {kv : Value} {lv : List (Nat × Value)} {st : List Value} {ls : Array Slot} {q : zS × List zC}
variable {D : va_G} {tc : Nat → ClassId} {h : List zC}
set_option maxHeartbeats 4000000 in
theorem zpf_s {k u : Nat} {v : Value} {r : List Value} {fs : List Value} {C : vw_C} (hx : p.tables.exec = Jvm.exec) (hb : c.code = cc) (hown : s.vm.findClass own = some m.cls) (hts : ∀ w ∈ zlw, w.before args s = true) (hnm : ini = true → meth.name = "<init>") (hK : va_K D zcl (ztys tc) s)
    (hat : va_at D zcl (b + u, .inr (a0, fs.map (zt sa b))) H) (hC : zcl[a0]? = some C) (hbN : b0 < C.2.2) (hfl : Cond.fieldLink own k (C.2.1 b0).1 (C.2.1 b0).2.1 (C.2.1 b0).2.2.1 ∈ zlw) (hlp : zlP own ini a0 b0 = true) (hbl : b0 < fs.length) (hfit : zfit (zty a0 b0) v = true) (hd : decode cc pc = .ok (.putfield k, 3))
    (kk : ∀ (H' : Heap) (i : Nat), va_at D zcl (b + u, .inr (a0, (fs.set b0 v).map (zt sa b))) H' → H'.size = H.size → (∀ x, x ≠ b + u → H'[x]? = H[x]?) → W p l e R s m args below meth c H' (locs ++ [⟨b + u, i⟩]) cells slots Q (F0 m (pc + 3) ls r)) :
    W p l e R s m args below meth c H locs cells slots Q (F0 m pc ls (zt sa b v :: .ref (b + u) :: r)) := by
  obtain ⟨ok1, ok2, ok3, -⟩ := zcl_ok a0 hC
  have hap := va_apart (own := own) hts ok1 (zty a0) ok2 ok3 hK hC
  obtain ⟨r', h1, cell, q1, q2, q3, q4⟩ := hat
  have hr : r' = C := Option.some.inj (h1.symm.trans hC)
  subst hr
  obtain ⟨hS, hfc, kC, hkC, hkind⟩ := hK.1 a0 _ hC
  obtain ⟨cf, kf, fi, f, hi, hsl⟩ := hS b0 hbN
  have hlay := hts _ (ok1 _ (u_in_lay hbN))
  have hst := (u_facts hfc hkC (u_lays hts ok1 hbN) hi).1
  obtain ⟨hn, hf⟩ := zfit_ok (sa := sa) (b := b) hfit
  have fin : ∀ H' : Heap, H'[b + u]? = some (cell.setSlot (D.2 a0 b0) (zt sa b v)) → va_at D zcl (b + u, .inr (a0, (fs.set b0 v).map (zt sa b))) H' := fun H' e1 => by
    rw [List.map_set]
    exact ⟨_, hC, t_OB.to (V := updV (vp_V (fs.map (zt sa b))) b0 (zt sa b v)) ⟨_, e1, q2, q3, t_set q4 hap hbN _⟩ (fun j _ => vp_updV_set (by rw [List.length_map]; exact hbl) _ j)⟩
  unfold u_lay at hlay
  cases hF : (r'.2.1 b0).2.2.2 with
  | false =>
    rw [if_neg (by rw [hF]; decide)] at hlay
    refine W.putK hx hb (f := f) ⟨hown, hts _ hfl, ⟨_, _, _, hi⟩, hst⟩ (by rw [q2]; exact u_store hfc hkC hkind hlay hi (ok2 b0 hbN) hn hf) q1 q3 (by rw [hsl]; exact k2_hasslot (q4 b0 hbN)) rfl rfl hd fun H' e1 e2 e3 => ?_
    rw [hsl] at e1 ⊢
    exact kk H' _ (fin H' e1) e2 e3
  | true =>
    rw [if_pos hF] at hlay
    have hp : ini = true ∧ (r'.2.1 b0).1 = own := by
      unfold zlP at hlp
      rw [hC] at hlp
      have h2 : (!(r'.2.1 b0).2.2.2 || (ini && decide ((r'.2.1 b0).1 = own))) = true := hlp
      rw [hF] at h2
      have h3 := Bool.and_eq_true_iff.mp (show (ini && decide ((r'.2.1 b0).1 = own)) = true from h2)
      exact ⟨h3.1, of_decide_eq_true h3.2⟩
    have hcf : m.cls = cf := by
      obtain ⟨_, _, c', _, _, _, -, -, hf', -, -, -, hown2, -⟩ := Cond.laysFinal_spec hlay
      have e1 : c' = cf := by have := hi.symm.trans hf'; simp at this; exact this.1.symm
      rw [hp.2] at hown2
      rw [← e1]; exact Option.some.inj (hown.symm.trans hown2)
    refine W.putFinK hx hb hown (hts _ hfl) hi hst hcf (hnm hp.1) (by rw [q2]; exact u_fits hfc hkC hkind (Or.inr hlay) hi (ok2 b0 hbN) hn hf) q1 q3 (by rw [hsl]; exact k2_hasslot (q4 b0 hbN)) rfl rfl hd fun H' e1 e2 e3 => ?_
    rw [hsl] at e1 ⊢
    exact kk H' _ (fin H' e1) e2 e3
set_option maxHeartbeats 4000000 in
theorem zw_s {i : Jvm.ClassFile.Instr} (hx : p.tables.exec = Jvm.exec) (hb : c.code = cc) (hown : s.vm.findClass own = some m.cls) (hts : ∀ w ∈ zlw, w.before args s = true) (hnm : ini = true → meth.name = "<init>") (hK : va_K D zcl (ztys tc) s) (hR : zR D tc sa b h H)
    (hd : decode cc pc = .ok (i, zlen i n)) (hk : zlnk own nL ini i a0 b0 w0 kv = true) (hl : lv_has ls nL (lv.map (ztl sa b))) (hz : zw i a0 b0 h pc lv st = some q)
    (kk : ∀ (H' : Heap) (L : List Loc) (ls' : Array Slot), lv_has ls' nL (q.1.2.1.map (ztl sa b)) → zR D tc sa b q.2 H' → (∀ x, x < b → H'[x]? = H[x]?) → (∀ x ∈ L, b ≤ x.base) → W p l e R s m args below meth c H' (locs ++ L) cells slots Q (F0 m q.1.1 ls' (q.1.2.2.map (zt sa b)))) :
    W p l e R s m args below meth c H locs cells slots Q (F0 m pc ls (st.map (zt sa b))) := by
  have one : ∀ {u k : Nat}, ∀ x ∈ [(⟨b + u, k⟩ : Loc)], b ≤ x.base := fun {u k} x hx => by
    rw [List.mem_singleton.mp hx]; exact Nat.le_add_right b u
  cases i with
  | putfield k =>
    obtain ⟨v, u, r, fs, rfl, hu, hbl, hfit, rfl⟩ := zpf_inv hz
    have hk2 := Bool.and_eq_true_iff.mp (show (zlF own k a0 b0 w0 && zlP own ini a0 b0) = true from hk)
    obtain ⟨C, hC, hbN, hfl⟩ := zlF_inv hk2.1
    have hat : va_at D zcl (b + u, .inr (a0, fs.map (zt sa b))) H := hR.2 u _ hu
    exact zpf_s hx hb hown hts hnm hK hat hC hbN hfl hk2.2 hbl hfit hd (fun H' i h1 h2 h3 => kk H' _ ls hl (hR.set hu h2 h3 h1) (fun x hxb => h3 x (by omega)) one)
  | iastore =>
    obtain ⟨x, j, u, r, l, rfl, hu, hin, rfl⟩ := zis_inv hz
    have hc : H[b + u]? = some (arrV (tc 0) l.length (fun j => zt sa b (l.getD j .null))) := hR.2 u _ hu
    refine W.iast hx hb hc ((hK.2 0 (tc 0, .int) rfl).1 l.length _) (fun x => by cases x) (by rw [arrV_size]; exact hin) rfl rfl hd fun H' e1 z oq => ?_
    refine kk H' _ ls hl (hR.set hu z oq ?_) (fun x hxb => oq x (Nat.ne_of_lt (Nat.lt_of_lt_of_le hxb (Nat.le_add_right b u)))) one
    show H'[b + u]? = some (arrV (tc 0) (l.set j.toNatClampNeg (.int x)).length (fun q => zt sa b ((l.set j.toNatClampNeg (.int x)).getD q .null)))
    rw [zt_up, e1]
    rfl
  | bastore =>
    obtain ⟨x, j, u, r, l, rfl, hu, hin, rfl⟩ := zbs_inv hz
    have hc : H[b + u]? = some (arrV (tc 1) l.length (fun j => zt sa b (l.getD j .null))) := hR.2 u _ hu
    refine W.zast hx hb hc ((hK.2 1 (tc 1, .boolean) rfl).1 l.length _) (fun x => by cases x) (by rw [arrV_size]; exact hin) rfl rfl hd fun H' e1 z oq => ?_
    refine kk H' _ ls hl (hR.set hu z oq ?_) (fun x hxb => oq x (Nat.ne_of_lt (Nat.lt_of_lt_of_le hxb (Nat.le_add_right b u)))) one
    show H'[b + u]? = some (arrV (tc 1) (l.set j.toNatClampNeg (.int (x &&& 1))).length (fun q => zt sa b ((l.set j.toNatClampNeg (.int (x &&& 1))).getD q .null)))
    rw [zt_up, e1]
    rfl
  | lastore =>
    obtain ⟨x, j, u, r, l, rfl, hu, hin, rfl⟩ := zls_inv hz
    have hc : H[b + u]? = some (arrV (tc 2) l.length (fun j => zt sa b (l.getD j .null))) := hR.2 u _ hu
    refine W.last hx hb hc ((hK.2 2 (tc 2, .long) rfl).1 l.length _) (fun x => by cases x) (by rw [arrV_size]; exact hin) rfl rfl hd fun H' e1 z oq => ?_
    refine kk H' _ ls hl (hR.set hu z oq ?_) (fun x hxb => oq x (Nat.ne_of_lt (Nat.lt_of_lt_of_le hxb (Nat.le_add_right b u)))) one
    show H'[b + u]? = some (arrV (tc 2) (l.set j.toNatClampNeg (.long x)).length (fun q => zt sa b ((l.set j.toNatClampNeg (.long x)).getD q .null)))
    rw [zt_up, e1]
    rfl
  | aastore =>
    obtain ⟨v, j, u, r, t, l, rfl, hu, hes, hin, rfl⟩ := zas_inv hz
    have hc : H[b + u]? = some (arrV (tc t) l.length (fun j => zt sa b (l.getD j .null))) := hR.2 u _ hu
    have hlt : j.toNatClampNeg < l.length := Nat.not_le.mp fun x => hin (Or.inr x)
    have h0 : ¬ j < 0 := fun x => hin (Or.inl x)
    obtain ⟨ce, hce, hv⟩ := zes_inv hes
    obtain ⟨C, hC, -, hty⟩ := zte_ok hce
    have fin : ∀ H' : Heap, H'[b + u]? = some ((arrV (tc t) l.length (fun j => zt sa b (l.getD j .null))).setSlot j.toNatClampNeg (zt sa b v)) → zat D tc sa b u (.inl (t, l.set j.toNatClampNeg v)) H' := fun H' e1 => by
      show H'[b + u]? = some (arrV (tc t) (l.set j.toNatClampNeg v).length (fun q => zt sa b ((l.set j.toNatClampNeg v).getD q .null)))
      rw [zt_up, e1]
    rcases hv with rfl | ⟨y, fs, rfl, hy⟩
    · exact va_WaastN (C := C.1) hx hb hc ((hK.2 t _ (hty tc)).1 l.length _) (fun x => by cases x) (by rw [arrV_size]; exact hin) rfl rfl hd fun H' e1 z oq => kk H' _ ls hl (hR.set hu z oq (fin H' e1)) (fun x hxb => oq x (Nat.ne_of_lt (Nat.lt_of_lt_of_le hxb (Nat.le_add_right b u)))) one
    · obtain ⟨r', hr', cellV, g1, g2, g3, -⟩ := (hR.2 y _ hy : va_at D zcl (b + y, .inr (ce, fs.map (zt sa b))) H)
      have hcls := (hK.1 ce C hC).2
      obtain ⟨kA, comp, k1, k2, k3, -⟩ := (hK.2 t _ (hty tc)).2
      have hcomp : comp = D.1 ce := Option.some.inj (k3.symm.trans hcls.1)
      subst hcomp
      obtain ⟨kC, hkC, -⟩ := hcls.2
      exact W.aast hx hb hc (fun x hh => by cases hh) (fun hh => by cases hh) k1 k2 rfl hkC ⟨h0, by rw [arrV_size]; exact hlt⟩ g1 (fun x hh => by rw [g3] at hh; cases hh) (by rw [g2]; exact hkC) (by rw [g2]; exact va_assign hcls) rfl rfl hd fun H' e1 z oq => kk H' _ ls hl (hR.set hu z oq (fin H' e1)) (fun x hxb => oq x (Nat.ne_of_lt (Nat.lt_of_lt_of_le hxb (Nat.le_add_right b u)))) one
  | _ => exact znq hz
end ZW
theorem zrep {sa b : Nat} (cA : ClassId) (n : Nat) (d : Value) : arrV cA (List.replicate n d).length (fun j => zt sa b ((List.replicate n d).getD j .null)) = arrV cA n (fun _ => zt sa b d) := by
  rw [List.length_replicate]
  apply arrV_cg
  intro j hj
  simp [List.getD_eq_getElem?_getD, List.getElem?_replicate, hj]
theorem zdf_t {sa b a : Nat} {C : vw_C} (h : zcl[a]? = some C) : (zdf a).map (zt sa b) = zdf a := zdf_map sa b a h
theorem zna_inv {a pc : Nat} {d : Value} {h : zH} {lv : List (Nat × Value)} {st : List Value} {q : zS × zH} (hz : zna a d h pc lv st = some q) : ∃ n r, st = .int n :: r ∧ ¬ n < 0 ∧ n.toNatClampNeg * 8 ≤ 536870912 ∧ q = ((pc, lv, .ref h.1.length :: r), (h.1 ++ [.inl (a, List.replicate n.toNatClampNeg d)], h.2 + n.toNatClampNeg)) := by
  unfold zna at hz
  split at hz
  · next n r =>
    split at hz
    · next hb =>
      have h2 := Bool.and_eq_true_iff.mp hb
      exact ⟨n, r, rfl, of_decide_eq_true h2.1, Nat.le_of_ble_eq_true h2.2, (Option.some.inj hz).symm⟩
    · cases hz
  · cases hz
theorem zlN_inv {own : String} {i a w : Nat} (h : zlN own i a w = true) : ∃ C, zcl[a]? = some C ∧ Cond.classLink own i C.1 ∈ zlw := by
  unfold zlN at h
  split at h
  · next C hC => exact ⟨C, hC, zmm (of_decide_eq_true h) rfl⟩
  · cases h
section ZN
variable {p : Program} {l : Launch} {e : Env} {R : Room} {s : State} {m : MethodId} {args : Array Value} {below : List Frame} {meth : Method} {c : Code} {H : Heap} {locs : List Loc} {cells slots : Nat} {Q : State → Prop}
variable {cc : ByteArray} {own : String} {sa b nL pc n a0 b0 w0 : Nat} {ini : Bool} {kv : Value} {lv : List (Nat × Value)} {st : List Value} {ls : Array Slot} {q : zS × zH}
variable {D : va_G} {tc : Nat → ClassId} {h : zH}
set_option maxHeartbeats 4000000 in
theorem zn_s {i : Jvm.ClassFile.Instr} (hx : p.tables.exec = Jvm.exec) (hb : c.code = cc) (hown : s.vm.findClass own = some m.cls) (hts : ∀ w ∈ zlw, w.before args s = true) (hK : va_K D zcl (ztys tc) s) (hR : zR D tc sa b h.1 H)
    (hd : decode cc pc = .ok (i, zlen i n)) (hk : zlnk own nL ini i a0 b0 w0 kv = true) (hl : lv_has ls nL (lv.map (ztl sa b))) (hz : zn i a0 h pc lv st = some q)
    (hcl : cells + (q.2.1.length - h.1.length) ≤ R.cells) (hsl : slots + (q.2.2 - h.2) ≤ R.slots)
    (kk : ∀ (H' : Heap) (ls' : Array Slot), lv_has ls' nL (q.1.2.1.map (ztl sa b)) → zR D tc sa b q.2.1 H' → (∀ x, x < b → H'[x]? = H[x]?) → W p l e R s m args below meth c H' locs (cells + (q.2.1.length - h.1.length)) (slots + (q.2.2 - h.2)) Q (F0 m q.1.1 ls' (q.1.2.2.map (zt sa b)))) :
    W p l e R s m args below meth c H locs cells slots Q (F0 m pc ls (st.map (zt sa b))) := by
  cases i with
  | new k =>
    obtain rfl := Option.some.inj hz
    obtain ⟨C, hC, hcw⟩ := zlN_inv (show zlN own k a0 w0 = true from hk)
    obtain ⟨ok1, ok2, ok3, ok4, ok5, ok6, ok7⟩ := zcl_ok a0 hC
    have hKn := hK.1 a0 C hC
    have e1 : (h.1 ++ [(.inr (a0, zdf a0) : zC)]).length - h.1.length = 1 := by simp
    have e2 : h.2 + (zdf a0).length - h.2 = C.2.2 := by rw [ok6]; omega
    have hcl : cells + 1 ≤ R.cells := by rw [← e1]; exact hcl
    have hsl : slots + C.2.2 ≤ R.slots := by rw [← e2]; exact hsl
    refine W.newcK hx hb hown (hts _ hcw) (hts _ ok4) (hts _ ok5) rfl hd hcl hsl hKn.2.1 hR.1 fun H1 kC hkC g1 z1 o1 => ?_
    refine W.cs (cells' := cells + ((h.1 ++ [(.inr (a0, zdf a0) : zC)]).length - h.1.length)) (slots' := slots + (h.2 + (zdf a0).length - h.2)) (by rw [e1]) (by rw [e2]) ?_
    refine kk H1 ls hl (hR.push (by rw [z1, hR.1]) (fun x hxl => o1 x (by rw [← hR.1]; exact hxl)) ?_) (fun x hxb => o1 x (by omega))
    show va_at D zcl (b + h.1.length, .inr (a0, (zdf a0).map (zt sa b))) H1
    rw [zdf_t hC]
    exact ⟨C, hC, (u_born (zty a0) hts ok1 hKn hkC g1 ok2).to ok7⟩
  | newarray t =>
    cases t with
    | int =>
      obtain rfl : a0 = 0 := Nat.eq_of_beq_eq_true (show Nat.beq a0 0 = true from hk)
      obtain ⟨n, r, rfl, hn, hb8, rfl⟩ := zna_inv (show zna 0 (.int 0) h (pc + 2) lv st = some q from hz)
      have e1 : (h.1 ++ [(.inl (0, List.replicate n.toNatClampNeg (.int 0)) : zC)]).length - h.1.length = 1 := by simp
      have e2 : h.2 + n.toNatClampNeg - h.2 = n.toNatClampNeg := by omega
      have hcl : cells + 1 ≤ R.cells := by rw [← e1]; exact hcl
      have hsl : slots + n.toNatClampNeg ≤ R.slots := by rw [← e2]; exact hsl
      refine va_newaK hx hb (hts _ zw_aci) rfl hd rfl hn rfl (by show n.toNatClampNeg * 4 ≤ _; omega) hcl hsl hR.1 fun H1 cA g1 z1 o1 hAr hNm => ?_
      have hcA : cA = tc 0 := Option.some.inj (hNm.symm.trans (hK.2 0 (tc 0, .int) rfl).2)
      refine W.cs (cells' := cells + ((h.1 ++ [(.inl (0, List.replicate n.toNatClampNeg (.int 0)) : zC)]).length - h.1.length)) (slots' := slots + (h.2 + n.toNatClampNeg - h.2)) (by rw [e1]) (by rw [e2]) ?_
      refine kk H1 ls hl (hR.push (by rw [z1, hR.1]) (fun x hxl => o1 x (by rw [← hR.1]; exact hxl)) ?_) (fun x hxb => o1 x (by omega))
      show H1[b + h.1.length]? = some (arrV (tc 0) (List.replicate n.toNatClampNeg (Value.int 0)).length (fun j => zt sa b ((List.replicate n.toNatClampNeg (Value.int 0)).getD j .null)))
      rw [zrep (tc 0) n.toNatClampNeg (.int 0), g1, hcA]
      rfl
    | boolean =>
      obtain rfl : a0 = 1 := Nat.eq_of_beq_eq_true (show Nat.beq a0 1 = true from hk)
      obtain ⟨n, r, rfl, hn, hb8, rfl⟩ := zna_inv (show zna 1 (.int 0) h (pc + 2) lv st = some q from hz)
      have e1 : (h.1 ++ [(.inl (1, List.replicate n.toNatClampNeg (.int 0)) : zC)]).length - h.1.length = 1 := by simp
      have e2 : h.2 + n.toNatClampNeg - h.2 = n.toNatClampNeg := by omega
      have hcl : cells + 1 ≤ R.cells := by rw [← e1]; exact hcl
      have hsl : slots + n.toNatClampNeg ≤ R.slots := by rw [← e2]; exact hsl
      refine va_newaK hx hb (hts _ zw_acz) rfl hd rfl hn rfl (by show n.toNatClampNeg * 1 ≤ _; omega) hcl hsl hR.1 fun H1 cA g1 z1 o1 hAr hNm => ?_
      have hcA : cA = tc 1 := Option.some.inj (hNm.symm.trans (hK.2 1 (tc 1, .boolean) rfl).2)
      refine W.cs (cells' := cells + ((h.1 ++ [(.inl (1, List.replicate n.toNatClampNeg (.int 0)) : zC)]).length - h.1.length)) (slots' := slots + (h.2 + n.toNatClampNeg - h.2)) (by rw [e1]) (by rw [e2]) ?_
      refine kk H1 ls hl (hR.push (by rw [z1, hR.1]) (fun x hxl => o1 x (by rw [← hR.1]; exact hxl)) ?_) (fun x hxb => o1 x (by omega))
      show H1[b + h.1.length]? = some (arrV (tc 1) (List.replicate n.toNatClampNeg (Value.int 0)).length (fun j => zt sa b ((List.replicate n.toNatClampNeg (Value.int 0)).getD j .null)))
      rw [zrep (tc 1) n.toNatClampNeg (.int 0), g1, hcA]
      rfl
    | long =>
      obtain rfl : a0 = 2 := Nat.eq_of_beq_eq_true (show Nat.beq a0 2 = true from hk)
      obtain ⟨n, r, rfl, hn, hb8, rfl⟩ := zna_inv (show zna 2 (.long 0) h (pc + 2) lv st = some q from hz)
      have e1 : (h.1 ++ [(.inl (2, List.replicate n.toNatClampNeg (.long 0)) : zC)]).length - h.1.length = 1 := by simp
      have e2 : h.2 + n.toNatClampNeg - h.2 = n.toNatClampNeg := by omega
      have hcl : cells + 1 ≤ R.cells := by rw [← e1]; exact hcl
      have hsl : slots + n.toNatClampNeg ≤ R.slots := by rw [← e2]; exact hsl
      refine va_newaK hx hb (hts _ zw_acj) rfl hd rfl hn rfl (by show n.toNatClampNeg * 8 ≤ _; omega) hcl hsl hR.1 fun H1 cA g1 z1 o1 hAr hNm => ?_
      have hcA : cA = tc 2 := Option.some.inj (hNm.symm.trans (hK.2 2 (tc 2, .long) rfl).2)
      refine W.cs (cells' := cells + ((h.1 ++ [(.inl (2, List.replicate n.toNatClampNeg (.long 0)) : zC)]).length - h.1.length)) (slots' := slots + (h.2 + n.toNatClampNeg - h.2)) (by rw [e1]) (by rw [e2]) ?_
      refine kk H1 ls hl (hR.push (by rw [z1, hR.1]) (fun x hxl => o1 x (by rw [← hR.1]; exact hxl)) ?_) (fun x hxb => o1 x (by omega))
      show H1[b + h.1.length]? = some (arrV (tc 2) (List.replicate n.toNatClampNeg (Value.long 0)).length (fun j => zt sa b ((List.replicate n.toNatClampNeg (Value.long 0)).getD j .null)))
      rw [zrep (tc 2) n.toNatClampNeg (.long 0), g1, hcA]
      rfl
    | _ => cases hk
  | anewarray k =>
    obtain ⟨n, r, rfl, hn, hb8, rfl⟩ := zna_inv hz
    have hk : (match zte a0 with | some c => zlN own k c w0 | none => false) = true := hk
    split at hk
    · next ce hce =>
      obtain ⟨C, hC, hcw⟩ := zlN_inv hk
      obtain ⟨C', hC', hao, hty⟩ := zte_ok hce
      obtain rfl : C' = C := Option.some.inj (hC'.symm.trans hC)
      have e1 : (h.1 ++ [(.inl (a0, List.replicate n.toNatClampNeg .null) : zC)]).length - h.1.length = 1 := by simp
      have e2 : h.2 + n.toNatClampNeg - h.2 = n.toNatClampNeg := by omega
      have hcl : cells + 1 ≤ R.cells := by rw [← e1]; exact hcl
      have hsl : slots + n.toNatClampNeg ≤ R.slots := by rw [← e2]; exact hsl
      refine W.anew hx hb hown (hts _ hcw) (hts _ hao) rfl hd rfl hn (by omega) hcl hsl fun cA kA comp f1 f2 f3 f4 => ?_
      obtain ⟨kA', comp', k1, k2, k3, k4⟩ := (hK.2 a0 _ (hty tc)).2
      have hcA : cA = tc a0 := Option.some.inj (f1.symm.trans k4)
      refine W.cs (cells' := cells + ((h.1 ++ [(.inl (a0, List.replicate n.toNatClampNeg .null) : zC)]).length - h.1.length)) (slots' := slots + (h.2 + n.toNatClampNeg - h.2)) (by rw [e1]) (by rw [e2]) ?_
      have hstk : (Value.ref H.size :: r.map (zt sa b)) = (Value.ref h.1.length :: r).map (zt sa b) := by rw [hR.1]; rfl
      refine W.eq (g2 := F0 m (pc + 3) ls ((Value.ref h.1.length :: r).map (zt sa b))) (by rw [← hstk]) ?_
      refine kk _ ls hl (hR.push (by rw [Array.size_push]) (fun x hxl => by rw [Array.getElem?_push, if_neg (Nat.ne_of_lt hxl)]) ?_) (fun x hxb => by rw [Array.getElem?_push, if_neg (by rw [hR.1]; omega)])
      show (H.push _)[b + h.1.length]? = some (arrV (tc a0) (List.replicate n.toNatClampNeg Value.null).length (fun j => zt sa b ((List.replicate n.toNatClampNeg Value.null).getD j .null)))
      rw [zrep (tc a0) n.toNatClampNeg .null, ← hR.1, Array.getElem?_push_size, hcA, ← arrV_new]
      rfl
    · cases hk
  | _ => exact znq hz
end ZN
end
section
-- calls, the loop of steps, a whole method
def zws (M : zM) : List Cond := Cond.code (mY M) (mC M) (mL M) (mR M) :: zlw.filter goodWord
/-- words that a method's own word list can't carry: they go with the start's facts -/
def zbad (w : Cond) : Bool := match w with
  | .methodLinkNest _ _ _ _ => true
  | .castable _ _ => true
  | .arrayOver ty => match ty with
    | .object _ => true
    | _ => false
  | _ => false
def zEx (U : State) : Prop := ∀ w ∈ zlw, zbad w = true → w.before #[] U = true
theorem zEx_of {args : Array Value} {s : State} (hts : ∀ w ∈ zlw, w.before args s = true) : zEx s := fun w hw hb => by
  have h := hts w hw
  cases w with
  | methodLinkNest a i x k => exact va_Nw.of rfl h
  | castable a k => exact va_Nw.of rfl h
  | arrayOver ty =>
    cases ty with
    | object C => exact va_AO.of h
    | _ => cases hb
  | _ => cases hb
theorem zEx_use {args : Array Value} {s : State} (hx : zEx s) {w : Cond} (hw : w ∈ zlw) (hb : zbad w = true) : w.before args s = true := by
  have h := hx w hw hb
  cases w with
  | methodLinkNest a i x k => exact va_Nw.use rfl h
  | castable a k => exact va_Nw.use rfl h
  | arrayOver ty =>
    cases ty with
    | object C => exact va_AO.use h
    | _ => cases hb
  | _ => cases hb
theorem zEx_warm {s U : State} (hW : s.WarmedH U.vm) (hx : zEx s) : zEx U := fun w hw hb => by
  have h := hx w hw hb
  cases w with
  | methodLinkNest a i x k => exact va_Nw.warmM hW h
  | castable a k => exact va_Nw.warmC hW h
  | arrayOver ty =>
    cases ty with
    | object C => exact va_AO.moved hW.alike h
    | _ => cases hb
  | _ => cases hb
theorem zEx_same {s U : State} (hv : s.vm = U.vm) (hx : zEx s) : zEx U := fun w hw hb => by
  have h := hx w hw hb
  cases w with
  | methodLinkNest a i x k => exact va_Nw.same rfl hv h
  | castable a k => exact va_Nw.same rfl hv h
  | arrayOver ty =>
    cases ty with
    | object C => exact va_AO.moved (by rw [hv]; exact Vm.Alike.refl U.vm) h
    | _ => cases hb
  | _ => cases hb
/-- what the tables say of a method, and of every instruction of it -/
def zMo (a : Nat) (M : zM) : Prop :=
  zyn[a]? = some (mY M) ∧ Cond.code (mY M) (mC M) (mL M) (mR M) ∈ zlw ∧ Cond.initialized (mY M).cls ∈ zlw ∧
  ((mY M).cls ≠ "java/lang/invoke/MethodHandle" ∧ (mY M).cls ≠ "java/lang/invoke/VarHandle" ∧ (parseMethodDescriptor (mY M).desc).map (fun d => d.parameters.length) = some (mN M)) ∧ plainName (mY M).cls = true ∧
  (mK M = 0 → Cond.static (mY M) ∈ zlw) ∧ (mK M = 1 → Cond.instanceMethod (mY M) ∈ zlw ∧ Cond.selects (mY M).cls (mY M) (mY M) ∈ zlw ∧ ∃ C, zcl[(mW M).2.2.2]? = some C ∧ C.1 = (mY M).cls) ∧
  (mK M = 2 → Cond.instanceMethod (mY M) ∈ zlw ∧ (mY M).name = "<init>" ∧ mR M = none) ∧
  ∀ g ∈ mT M, ∀ x ∈ g.2, zxo (mY M).cls (mC M) (mL M) (Nat.beq (mK M) 2) x = true
def zT (mt : List zM) : Prop := ∀ a M, mt[a]? = some M → zMo a M
def zgood : Prop := ∀ w ∈ zlw, goodWord w = true ∨ zbad w = true
theorem zgi {a : Nat} {M : zM} (hM : zMo a M) : GoodIn zlw (zws M) := fun w hw => by
  rcases List.mem_cons.mp hw with rfl | hw
  · exact ⟨hM.2.1, Or.inl rfl⟩
  · have h := List.mem_filter.mp hw
    exact ⟨h.1, good_of_word h.2⟩
def zPc (D : va_G) (tc : Nat → ClassId) (sa b : Nat) (as : List Value) (h : zH) : Array Value → State → Prop := va_Pc (as.map (zt sa b)) (fun U => zR D tc sa b h.1 U.heap ∧ va_K D zcl (ztys tc) U ∧ zEx U)
def zQc (D : va_G) (tc : Nat → ClassId) (sa b : Nat) (r : Option Value × zH) : Array Value → State → Outcome → State → Prop := fun _ st oc t => oc = .returned (r.1.map (zt sa b)) ∧ zR D tc sa b r.2.1 t.heap ∧ ∀ x : Nat, x < b → t.heap[x]? = st.heap[x]?
theorem zblind {D : va_G} {tc : Nat → ClassId} {sa b : Nat} {as : List Value} {h : zH} : FrameBlind (zPc D tc sa b as h) := fun a U g mk q => by
  obtain ⟨q0, q1, q2, q5⟩ := q
  exact ⟨q0, q1, va_K.moved (u := U) (U := U.calling g mk a) (Vm.Alike.refl U.vm) q2, zEx_same (s := U) (U := U.calling g mk a) rfl q5⟩
def zCal (l : Launch) (mt : List zM) (call : Nat → List Value → zH → Option (Option Value × zH)) (fr lo : Nat) (D : va_G) (tc : Nat → ClassId) (sa b : Nat) : Prop := ∀ (a : Nat) (as : List Value) (h : zH) (r : Option Value × zH) (M : zM), mt[a]? = some M → call a as h = some r →
  ∃ rm : Room, rm.cells = r.2.1.length - h.1.length ∧ rm.slots = r.2.2 - h.2 ∧ rm.frames + 1 ≤ fr ∧ 8 + (mL M + 11) + rm.locals ≤ lo ∧ Met l (mY M) (zws M) rm (zPc D tc sa b as h) (zQc D tc sa b r) rm.cells rm.slots (fun x => b ≤ x)
theorem zpop_inv : ∀ {n : Nat} {st : List Value} {q : List Value × List Value}, zpop n st = some q → q.1.length = n ∧ st = q.1.reverse ++ q.2
  | 0, st, q, h => by
    obtain rfl := Option.some.inj h
    exact ⟨rfl, rfl⟩
  | n + 1, [], q, h => by cases h
  | n + 1, v :: r, q, h => by
    have h : (match zpop n r with | some q => some (q.1 ++ [v], q.2) | none => none) = some q := h
    split at h
    · next q2 hq =>
      obtain ⟨h1, h2⟩ := zpop_inv hq
      obtain rfl := Option.some.inj h
      refine ⟨by simp [h1], ?_⟩
      rw [h2]
      simp
    · cases h
theorem zcm_inv {mt : List zM} {call : Nat → List Value → zH → Option (Option Value × zH)} {kind a pc : Nat} {h : zH} {lv : List (Nat × Value)} {st : List Value} {q : zS × zH} (hz : zcm mt call kind a h pc lv st = some q) :
    ∃ M as rest r, mt[a]? = some M ∧ mK M = kind ∧ as.length = zco kind (mN M) ∧ st = as.reverse ++ rest ∧ zrc kind (mW M).2.2.2 as h.1 = true ∧ zcat rest ≤ 8 ∧ call a as h = some r ∧ h.1.length ≤ r.2.1.length ∧ h.2 ≤ r.2.2 ∧ q = ((pc, lv, r.1.toList ++ rest), r.2) := by
  unfold zcm at hz
  split at hz
  · cases hz
  · next M hM =>
    split at hz
    · cases hz
    · next qq hq =>
      split at hz
      · cases hz
      · next hc =>
        split at hz
        · cases hz
        · next r hr =>
          split at hz
          · cases hz
          · next hm =>
            obtain ⟨g1, g2⟩ := zpop_inv hq
            have h2 := Bool.and_eq_true_iff.mp hc
            have h3 := Bool.and_eq_true_iff.mp h2.2
            have h4 := Bool.and_eq_true_iff.mp hm
            exact ⟨M, qq.1, qq.2, r, hM, Nat.eq_of_beq_eq_true h2.1, g1, g2, h3.1, Nat.le_of_ble_eq_true h3.2, hr, Nat.le_of_ble_eq_true h4.1, Nat.le_of_ble_eq_true h4.2, (Option.some.inj hz).symm⟩
theorem zrc1_inv {cx : Nat} {as : List Value} {hp : List zC} (h : zrc 1 cx as hp = true) : ∃ u as' fs, as = .ref u :: as' ∧ hp[u]? = some (.inr (cx, fs)) := by
  cases as with
  | nil => cases h
  | cons v r =>
    cases v with
    | ref u =>
      have h : (match hp[u]? with | some (.inr o) => Nat.beq o.1 cx | _ => false) = true := h
      split at h
      · next o ho =>
        have e : o.1 = cx := Nat.eq_of_beq_eq_true h
        exact ⟨u, r, o.2, rfl, by rw [ho, ← e]⟩
      · cases h
    | _ => cases h
theorem zrc2_inv {cx : Nat} {as : List Value} {hp : List zC} (h : zrc 2 cx as hp = true) : ∃ u as', as = .ref u :: as' := by
  cases as with
  | nil => cases h
  | cons v r =>
    cases v with
    | ref u => exact ⟨u, r, rfl⟩
    | _ => cases h
theorem zcat_t (sa b : Nat) (st : List Value) : ((st.map (zt sa b)).map fun v => v.category).sum = zcat st := by
  unfold zcat
  rw [List.map_map]
  congr 1
  apply List.map_congr_left
  intro v _
  exact zt_cat sa b v
theorem zoi_inv {fr lo pc : Nat} {h : zH} {lv : List (Nat × Value)} {st : List Value} {q : zS × zH} (hz : zoi fr lo h pc lv st = some q) : ∃ u r, st = .ref u :: r ∧ 1 ≤ fr ∧ zcat r + 12 ≤ lo ∧ q = ((pc, lv, r), h) := by
  unfold zoi at hz
  split at hz
  · next u r =>
    split at hz
    · next hb =>
      have h2 := Bool.and_eq_true_iff.mp hb
      exact ⟨u, r, rfl, Nat.le_of_ble_eq_true h2.1, Nat.le_of_ble_eq_true h2.2, (Option.some.inj hz).symm⟩
    · cases hz
  · cases hz
theorem zmx_inv {f : Int32 → Int32 → Int32} {fr lo pc : Nat} {h : zH} {lv : List (Nat × Value)} {st : List Value} {q : zS × zH} (hz : zmx f fr lo h pc lv st = some q) : ∃ x y r, st = .int y :: .int x :: r ∧ 1 ≤ fr ∧ zcat r + 13 ≤ lo ∧ q = ((pc, lv, .int (f x y) :: r), h) := by
  unfold zmx at hz
  split at hz
  · next y x r =>
    split at hz
    · next hb =>
      have h2 := Bool.and_eq_true_iff.mp hb
      exact ⟨x, y, r, rfl, Nat.le_of_ble_eq_true h2.1, Nat.le_of_ble_eq_true h2.2, (Option.some.inj hz).symm⟩
    · cases hz
  · cases hz
/-- the words of Object's constructor, of Math.min and Math.max -/
def zlib : Prop := (Cond.instanceMethod Lib.objectInit ∈ zlw ∧ Cond.code Lib.objectInit ⟨#[0xb1]⟩ 1 none ∈ zlw) ∧ Cond.initialized "java/lang/Math" ∈ zlw ∧ (Cond.static Lib.Math.min.name ∈ zlw ∧ Cond.code Lib.Math.min.name Lib.Math.min.code 2 (some .int) ∈ zlw) ∧ (Cond.static Lib.Math.max.name ∈ zlw ∧ Cond.code Lib.Math.max.name Lib.Math.max.code 2 (some .int) ∈ zlw) ∧
  (Cond.native arraycopyName ∈ zlw ∧ Cond.static arraycopyName ∈ zlw ∧ Cond.initialized "java/lang/System" ∈ zlw) ∧
  (Cond.sameMethod "[I" "java/lang/Object" "clone" "()Ljava/lang/Object;" ∈ zlw ∧ Cond.native ⟨"java/lang/Object", "clone", "()Ljava/lang/Object;"⟩ ∈ zlw ∧ Cond.instanceMethod ⟨"java/lang/Object", "clone", "()Ljava/lang/Object;"⟩ ∈ zlw ∧ Cond.selects "[I" ⟨"[I", "clone", "()Ljava/lang/Object;"⟩ ⟨"java/lang/Object", "clone", "()Ljava/lang/Object;"⟩ ∈ zlw ∧ Cond.castable "[I" "java/lang/Cloneable" ∈ zlw)
theorem zac_inv {fr lo pc : Nat} {h : zH} {lv : List (Nat × Value)} {st : List Value} {q : zS × zH} (hz : zac fr lo h pc lv st = some q) : ∃ n dp d sp s r p g, st = .int n :: .int dp :: .ref d :: .int sp :: .ref s :: r ∧ h.1[s]? = some (.inl (0, p)) ∧ h.1[d]? = some (.inl (0, g)) ∧ 1 ≤ fr ∧ zcat r + 18 ≤ lo ∧ ¬ sp < 0 ∧ ¬ dp < 0 ∧ ¬ n < 0 ∧ sp.toNatClampNeg + n.toNatClampNeg ≤ p.length ∧ dp.toNatClampNeg + n.toNatClampNeg ≤ g.length ∧ p.all zisI = true ∧
    q = ((pc, lv, r), (h.1.set d (.inl (0, zcp p g sp.toNatClampNeg dp.toNatClampNeg n.toNatClampNeg)), h.2)) := by
  unfold zac at hz
  split at hz
  · next n dp d sp s r =>
    split at hz
    · next p hp =>
      split at hz
      · next g hg =>
        split at hz
        · next hb =>
          have h1 := Bool.and_eq_true_iff.mp hb
          have h2 := Bool.and_eq_true_iff.mp h1.1
          have h3 := Bool.and_eq_true_iff.mp h1.2
          have h4 := Bool.and_eq_true_iff.mp h3.1
          have h5 := Bool.and_eq_true_iff.mp h3.2
          have h6 := Bool.and_eq_true_iff.mp h5.1
          have h7 := Bool.and_eq_true_iff.mp h6.2
          have h8 := Bool.and_eq_true_iff.mp h5.2
          have h9 := Bool.and_eq_true_iff.mp h8.2
          have e1 : p.1 = 0 := Nat.eq_of_beq_eq_true h4.1
          have e2 : g.1 = 0 := Nat.eq_of_beq_eq_true h4.2
          exact ⟨n, dp, d, sp, s, r, p.2, g.2, rfl, by rw [hp, ← e1], by rw [hg, ← e2], Nat.le_of_ble_eq_true h2.1, Nat.le_of_ble_eq_true h2.2, of_decide_eq_true h6.1, of_decide_eq_true h7.1, of_decide_eq_true h7.2, Nat.le_of_ble_eq_true h8.1, Nat.le_of_ble_eq_true h9.1, h9.2, (Option.some.inj hz).symm⟩
        · cases hz
      · cases hz
    · cases hz
  · cases hz
theorem zcn_inv {fr lo pc : Nat} {h : zH} {lv : List (Nat × Value)} {st : List Value} {q : zS × zH} (hz : zcn fr lo h pc lv st = some q) : ∃ k r l, st = .ref k :: r ∧ h.1[k]? = some (.inl (0, l)) ∧ 1 ≤ fr ∧ zcat r + 14 ≤ lo ∧ l.all zisI = true ∧ q = ((pc, lv, .ref h.1.length :: r), (h.1 ++ [.inl (0, l)], h.2 + l.length)) := by
  unfold zcn at hz
  split at hz
  · next k r =>
    split at hz
    · next p hp =>
      split at hz
      · next hb =>
        have h1 := Bool.and_eq_true_iff.mp hb
        have h2 := Bool.and_eq_true_iff.mp h1.1
        have h3 := Bool.and_eq_true_iff.mp h1.2
        have e1 : p.1 = 0 := Nat.eq_of_beq_eq_true h3.1
        exact ⟨k, r, p.2, rfl, by rw [hp, ← e1], Nat.le_of_ble_eq_true h2.1, Nat.le_of_ble_eq_true h2.2, h3.2, (Option.some.inj hz).symm⟩
      · cases hz
    · cases hz
  · cases hz
theorem zcp_len {src dst : List Value} {sp dp n : Nat} (h1 : sp + n ≤ src.length) (h2 : dp + n ≤ dst.length) : (zcp src dst sp dp n).length = dst.length := by
  unfold zcp
  simp
  omega
theorem zcp_get {src dst : List Value} {sp dp n : Nat} (h1 : sp + n ≤ src.length) (h2 : dp + n ≤ dst.length) (j : Nat) : (zcp src dst sp dp n).getD j .null = va_cpy (fun i => src.getD i .null) (fun i => dst.getD i .null) sp dp n j := by
  unfold zcp va_cpy
  simp only [List.getD_eq_getElem?_getD]
  by_cases hj : j < dp
  · rw [List.getElem?_append_left (by rw [List.length_take]; omega), List.getElem?_take_of_lt hj, if_neg (by omega)]
  · rw [List.getElem?_append_right (by rw [List.length_take]; omega)]
    have e : (dst.take dp).length = dp := by rw [List.length_take]; omega
    rw [e]
    by_cases hj2 : j < dp + n
    · rw [if_pos (by omega), List.getElem?_append_left (by rw [List.length_take, List.length_drop]; omega), List.getElem?_take_of_lt (by omega), List.getElem?_drop]
    · have e2 : ((src.drop sp).take n).length = n := by rw [List.length_take, List.length_drop]; omega
      rw [if_neg (by omega), List.getElem?_append_right (by rw [e2]; omega), e2, List.getElem?_drop]
      congr 2
      omega
theorem zisI_ok {l : List Value} (h : l.all zisI = true) {i : Nat} (hi : i < l.length) : ∃ k, l.getD i .null = .int k := by
  have h1 := List.all_eq_true.mp h (l[i]) (List.getElem_mem hi)
  have e : l.getD i .null = l[i] := by simp [List.getD_eq_getElem?_getD, hi]
  rw [e]
  cases hv : l[i] with
  | int k => exact ⟨k, rfl⟩
  | _ => rw [hv] at h1; cases h1
theorem zlM_inv {own : String} {i a w : Nat} {y : MethodName} (hy : zyn[a]? = some y) (h : zlM own i a w = true) : Cond.methodLink own i y ∈ zlw := by
  unfold zlM at h
  rw [hy] at h
  exact zmm (of_decide_eq_true h) rfl
theorem zlMN_inv {own : String} {i a w : Nat} {y : MethodName} (hy : zyn[a]? = some y) (h : zlMN own i a w = true) : Cond.methodLinkNest own i y R_ST ∈ zlw := by
  unfold zlMN at h
  rw [hy] at h
  exact zmm (of_decide_eq_true h) rfl
section ZK
variable {p : Program} {l : Launch} {e : Env} {R : Room} {s : State} {m : MethodId} {args : Array Value} {below : List Frame} {meth : Method} {c : Code} {H : Heap} {locs : List Loc} {cells slots : Nat} {Q : State → Prop}
variable {cc : ByteArray} {own : String} {sa b nL pc n a0 b0 w0 : Nat} {ini : Bool} {kv : Value} {lv : List (Nat × Value)} {st : List Value} {ls : Array Slot} {q : zS × zH}
variable {D : va_G} {tc : Nat → ClassId} {h : zH} {mt : List zM} {call : Nat → List Value → zH → Option (Option Value × zH)} {fr lo : Nat}
theorem zgoe {mc ms : Nat} {r : Option Value × zH} {rest st0 : List Value} {a : Array Value} (hr : va_Run p l e R s m args below meth c H locs cells slots mc ms (F0 m pc ls st0) (rest.map (zt sa b)) (zQc D tc sa b r a) (fun x => b ≤ x))
    (kk : ∀ (H' : Heap) (L : List Loc), zR D tc sa b r.2.1 H' → (∀ x : Nat, x < b → H'[x]? = H[x]?) → (∀ x ∈ L, b ≤ x.base) → W p l e R s m args below meth c H' (locs ++ L) (cells + mc) (slots + ms) Q (F0 m (pc + 3) ls ((r.1.toList ++ rest).map (zt sa b)))) :
    W p l e R s m args below meth c H locs cells slots Q (F0 m pc ls st0) := by
  intro T hT X
  obtain ⟨v, st₀, t, T', L, h0, X', hL, e1, e2, ⟨hv, hRr, hfr⟩, st⟩ := hr T hT X
  obtain rfl : v = r.1.map (zt sa b) := by injection hv
  have hs : (r.1.map (zt sa b)).toList ++ rest.map (zt sa b) = (r.1.toList ++ rest).map (zt sa b) := by
    cases r.1 <;> rfl
  obtain ⟨t2, a1, b1⟩ := kk T'.heap L (by rw [e1]; exact hRr) (fun x hx => by rw [e1, hfr x hx, h0]) hL T' rfl X'
  refine ⟨t2, st t2 ?_, b1⟩
  rw [hs]
  exact a1
set_option maxHeartbeats 4000000 in
theorem zk_s {i : Jvm.ClassFile.Instr} (hx : p.tables.exec = Jvm.exec) (hb : c.code = cc) (hml : c.maxLocals = nL) (hown : s.vm.findClass own = some m.cls) (hts : ∀ w ∈ zlw, w.before args s = true) (hK : va_K D zcl (ztys tc) s) (hR : zR D tc sa b h.1 H)
    (hmt : zT mt) (hg : zgood) (hobj : zlib) (hcal : zCal l mt call fr lo D tc sa b) (hfr : fr ≤ R.frames) (hlo : lo ≤ R.locals)
    (hd : decode cc pc = .ok (i, zlen i n)) (hk : zlnk own nL ini i a0 b0 w0 kv = true) (hl : lv_has ls nL (lv.map (ztl sa b))) (hz : zk mt call fr lo i a0 b0 h pc lv st = some q)
    (hcl : cells + (q.2.1.length - h.1.length) ≤ R.cells) (hsl : slots + (q.2.2 - h.2) ≤ R.slots)
    (kk : ∀ (H' : Heap) (L : List Loc) (ls' : Array Slot), lv_has ls' nL (q.1.2.1.map (ztl sa b)) → zR D tc sa b q.2.1 H' → (∀ x, x < b → H'[x]? = H[x]?) → (∀ x ∈ L, b ≤ x.base) → W p l e R s m args below meth c H' (locs ++ L) (cells + (q.2.1.length - h.1.length)) (slots + (q.2.2 - h.2)) Q (F0 m q.1.1 ls' (q.1.2.2.map (zt sa b)))) :
    W p l e R s m args below meth c H locs cells slots Q (F0 m pc ls (st.map (zt sa b))) := by
  have pre : ∀ (as : List Value) (U : State), U.heap = H → s.WarmedH U.vm → zPc D tc sa b as h (as.map (zt sa b)).toArray U := fun as U hU hW => ⟨rfl, by rw [hU]; exact hR, va_K.moved hW.alike hK, zEx_warm hW (zEx_of hts)⟩
  cases i with
  | invokestatic k =>
    rcases b0 with _ | _ | _ | _ | _ | _ | b0
    · obtain ⟨M, as, rest, r, hM, hki, hlen, rfl, -, hcat, hca, hm1, hm2, rfl⟩ := zcm_inv (show zcm mt call 0 a0 h (pc + 3) lv st = some q from hz)
      obtain ⟨y1, y2, y3, y4, y5, y6, y7, y8, y9⟩ := hmt a0 M hM
      obtain ⟨rm, m1, m2, m3, m4, hMet⟩ := hcal a0 as h r M hM hca
      have hlk := zlM_inv y1 (show zlM own k a0 w0 = true from hk)
      have hrun := va_runS (g := F0 m pc ls ((as.reverse ++ rest).map (zt sa b))) (H := H) (locs := locs) (cells := cells) (slots := slots) (below := below) (e := e) (meth := meth) (As := as.map (zt sa b)) (rest := rest.map (zt sa b)) ⟨hx, hb, hml, hown, hts⟩ hMet
        ⟨callB_of (R := R) (mN M) hts (zgi (hmt a0 M hM)) rfl rfl rfl (hts _ y3) (hts _ hlk) y4 ⟨Nat.le_trans m3 hfr, Nat.le_trans m4 hlo⟩, hts _ (y6 hki)⟩ ⟨zblind, fun U hU hW => pre as U hU hW⟩ rfl (by rw [List.length_map]; exact hlen) hl.1 (by rw [List.map_append, List.map_reverse]) (lv_room (by rw [zcat_t]; exact hcat)) hd ⟨by rw [m1]; exact hcl, by rw [m2]; exact hsl⟩
      refine zgoe hrun fun H' L h1 h2 h3 => ?_
      rw [m1, m2]
      exact kk H' L ls hl h1 h2 h3
    · exact znq hz
    · exact znq hz
    · obtain ⟨x, y, r, rfl, f1, f2, rfl⟩ := zmx_inv (show zmx (fun x y => if y < x then y else x) fr lo h (pc + 3) lv st = some q from hz)
      have hlk : Cond.methodLink own k Lib.Math.min.name ∈ zlw := zmm (of_decide_eq_true (show decide (lw_tbl[w0]? = some (Cond.methodLink own k Lib.Math.min.name)) = true from hk)) rfl
      have h7 := kk H [] ls hl hR (fun _ _ => rfl) (fun x hx => by cases hx)
      rw [List.append_nil] at h7
      have hcl2 : cells + (h.1.length - h.1.length) ≤ R.cells := hcl
      have hsl2 : slots + (h.2 - h.2) ≤ R.slots := hsl
      exact va_mmin hx hb (by rw [hml]; exact hl.1.symm) hown (hts _ hlk) (hts _ hobj.2.2.1.1) (hts _ hobj.2.1) (hts _ hobj.2.2.1.2) (Nat.le_trans f1 hfr) (by rw [zcat_t]; exact Nat.le_trans f2 hlo) (by omega) (by omega) hd (W.cs (cells' := cells + (h.1.length - h.1.length)) (slots' := slots + (h.2 - h.2)) (by omega) (by omega) h7)
    · obtain ⟨x, y, r, rfl, f1, f2, rfl⟩ := zmx_inv (show zmx (fun x y => if x < y then y else x) fr lo h (pc + 3) lv st = some q from hz)
      have hlk : Cond.methodLink own k Lib.Math.max.name ∈ zlw := zmm (of_decide_eq_true (show decide (lw_tbl[w0]? = some (Cond.methodLink own k Lib.Math.max.name)) = true from hk)) rfl
      have h7 := kk H [] ls hl hR (fun _ _ => rfl) (fun x hx => by cases hx)
      rw [List.append_nil] at h7
      have hcl2 : cells + (h.1.length - h.1.length) ≤ R.cells := hcl
      have hsl2 : slots + (h.2 - h.2) ≤ R.slots := hsl
      exact va_mmax hx hb (by rw [hml]; exact hl.1.symm) hown (hts _ hlk) (hts _ hobj.2.2.2.1.1) (hts _ hobj.2.1) (hts _ hobj.2.2.2.1.2) (Nat.le_trans f1 hfr) (by rw [zcat_t]; exact Nat.le_trans f2 hlo) (by omega) (by omega) hd (W.cs (cells' := cells + (h.1.length - h.1.length)) (slots' := slots + (h.2 - h.2)) (by omega) (by omega) h7)
    · obtain ⟨n, dp, d, sp, s0, r, p0, g0, rfl, hs0, hd0, f1, f2, c1, c2, c3, c4, c5, c6, rfl⟩ := zac_inv (show zac fr lo h (pc + 3) lv st = some q from hz)
      have hlk : Cond.methodLink own k arraycopyName ∈ zlw := zmm (of_decide_eq_true (show decide (lw_tbl[w0]? = some (Cond.methodLink own k arraycopyName)) = true from hk)) rfl
      have hc0 : H[b + s0]? = some (arrV (tc 0) p0.length (fun j => zt sa b (p0.getD j .null))) := hR.2 s0 _ hs0
      have hc1 : H[b + d]? = some (arrV (tc 0) g0.length (fun j => zt sa b (g0.getD j .null))) := hR.2 d _ hd0
      have nn : ∀ z : Int32, ¬ z < 0 → z.toInt = (z.toNatClampNeg : Int) := fun z hz => by
        have hz0 : (0 : Int) ≤ z.toInt := by
          have := Int32.not_lt.mp hz
          simpa using Int32.le_iff_toInt_le.mp this
        show z.toInt = ((z.toInt.toNat : Nat) : Int)
        omega
      obtain ⟨-, k0, hk0, cm0, hkk0⟩ := (hK.2 0 (tc 0, .int) rfl).1 p0.length (fun j => zt sa b (p0.getD j .null))
      intro T hT X
      obtain ⟨vm', X', step⟩ := X.arraycopy hx hown (hts _ hlk) (hts _ hobj.2.2.2.2.1.1) (hts _ hobj.2.2.2.2.1.2.1) (hts _ hobj.2.2.2.2.1.2.2) (src := b + s0) (dst := b + d) (cs := arrV (tc 0) p0.length (fun j => zt sa b (p0.getD j .null))) (cd := arrV (tc 0) g0.length (fun j => zt sa b (g0.getD j .null))) (srcPos := sp) (destPos := dp) (n := n) (by rw [hT]; exact hc0) (by rw [hT]; exact hc1)
        (fun _ h => by cases h) (fun _ h => by cases h) (fun h => by cases h) (fun h => by cases h) hk0 hk0 hkk0 hkk0 (by simp) c1 c2 c3
        (by rw [nn sp c1, nn n c3, arrV_size]; omega) (by rw [nn dp c2, nn n c3, arrV_size]; omega)
        (fun vm₁ _ i hi => by
          obtain ⟨kk2, hkk2⟩ := zisI_ok c6 (show sp.toNatClampNeg + i < p0.length by omega)
          have e : (arrV (tc 0) p0.length (fun j => zt sa b (p0.getD j .null))).slots.getD (sp.toNatClampNeg + i) .null = .int kk2 := by
            rw [Array.getD_eq_getD_getElem?, arrV_read _ _ (by omega), hkk2]
            rfl
          rw [e]
          exact ⟨rfl, trivial⟩)
        (g := F0 m pc ls (.int n :: .int dp :: .ref (b + d) :: .int sp :: .ref (b + s0) :: r.map (zt sa b))) rfl (by rw [hml]; exact hl.1) (rest := r.map (zt sa b)) rfl (by rw [hb]; exact hd) (Nat.le_trans f1 hfr)
        (by
          have e := zcat_t sa b r
          show 2 * 0 + ((r.map (zt sa b)).map fun v => v.category).sum + (7 + 11) ≤ R.locals
          omega)
      have e1 : copied (arrV (tc 0) p0.length (fun j => zt sa b (p0.getD j .null))) (arrV (tc 0) g0.length (fun j => zt sa b (g0.getD j .null))) sp dp n = arrV (tc 0) (zcp p0 g0 sp.toNatClampNeg dp.toNatClampNeg n.toNatClampNeg).length (fun j => zt sa b ((zcp p0 g0 sp.toNatClampNeg dp.toNatClampNeg n.toNatClampNeg).getD j .null)) := by
        rw [zcp_len c4 c5]
        refine (va_copied (zt sa b) (tc 0) (tc 0) (fun j => p0.getD j .null) (fun j => g0.getD j .null) c4).trans ?_
        apply arrV_cg
        intro j _
        rw [zcp_get c4 c5]
      rw [e1] at X' step
      have hlt : b + d < T.heap.size := by rw [hT]; exact (Array.getElem?_eq_some_iff.mp hc1).1
      have h7 := kk ((T.setVm vm').setCell (b + d) (arrV (tc 0) (zcp p0 g0 sp.toNatClampNeg dp.toNatClampNeg n.toNatClampNeg).length (fun j => zt sa b ((zcp p0 g0 sp.toNatClampNeg dp.toNatClampNeg n.toNatClampNeg).getD j .null)))).heap (((arrV (tc 0) p0.length (fun j => zt sa b (p0.getD j .null))).stretch sp.toNatClampNeg n.toNatClampNeg).zipIdx.map fun q => (⟨b + d, dp.toNatClampNeg + q.2⟩ : Loc)) ls hl
        (hR.set hd0 (by rw [size_setCell]; show T.heap.size = _; rw [hT]) (fun x hx => by rw [heapAt_setCell_ne _ (Ne.symm hx)]; show T.heap[x]? = _; rw [hT]) (heapAt_setCell_self _ hlt))
        (fun x hxb => by rw [heapAt_setCell_ne _ (Nat.ne_of_gt (Nat.lt_of_lt_of_le hxb (Nat.le_add_right b d)))]; show T.heap[x]? = _; rw [hT])
        (fun x hx => by obtain ⟨z, -, hz⟩ := List.mem_map.mp hx; rw [← hz]; exact Nat.le_add_right b d)
      have hcl2 : cells + (h.1.length - h.1.length) ≤ R.cells := by simpa using hcl
      obtain ⟨t, a1, b1⟩ := (W.cs (cells := cells) (slots := slots) (by simp) (by simp) h7) _ rfl X'
      exact ⟨t, step t a1, b1⟩
    · exact znq hz
  | invokevirtual k =>
    rcases b0 with _ | _ | b0
    · obtain ⟨M, as, rest, r, hM, hki, hlen, rfl, hrc, hcat, hca, hm1, hm2, rfl⟩ := zcm_inv (show zcm mt call 1 a0 h (pc + 3) lv st = some q from hz)
      obtain ⟨y1, y2, y3, y4, y5, y6, y7, y8, y9⟩ := hmt a0 M hM
      obtain ⟨rm, m1, m2, m3, m4, hMet⟩ := hcal a0 as h r M hM hca
      have hlk := zlM_inv y1 (show zlM own k a0 w0 = true from hk)
      obtain ⟨z1, z2, C, z3, z4⟩ := y7 hki
      obtain ⟨u, as', fs, rfl, hu⟩ := zrc1_inv hrc
      have hat : va_at D zcl (b + u, .inr ((mW M).2.2.2, fs.map (zt sa b))) H := hR.2 u _ hu
      have hrec := va_recv hK (zP1 hat) z3 (q0 := 0) rfl
      rw [z4] at hrec
      have hst : ((Value.ref u :: as').reverse ++ rest).map (zt sa b) = (as'.map (zt sa b)).reverse ++ .ref (b + u) :: rest.map (zt sa b) := by simp [zt]
      have hrun := va_runV (g := F0 m pc ls (((Value.ref u :: as').reverse ++ rest).map (zt sa b))) (H := H) (locs := locs) (cells := cells) (slots := slots) (below := below) (e := e) (meth := meth) (b := b + u) (As := as'.map (zt sa b)) (rest := rest.map (zt sa b)) ⟨hx, hb, hml, hown, hts⟩ hMet
        ⟨callB_of (R := R) (mN M) hts (zgi (hmt a0 M hM)) rfl rfl rfl (hts _ y3) (hts _ hlk) y4 ⟨Nat.le_trans m3 hfr, Nat.le_trans m4 hlo⟩, hts _ z1, hts _ z2⟩ ⟨zblind, hrec, fun U hU hW => pre (.ref u :: as') U hU hW⟩ rfl (by rw [List.length_map]; exact Nat.succ.inj hlen) hl.1 hst (lv_room (by rw [zcat_t]; exact hcat)) hd ⟨by rw [m1]; exact hcl, by rw [m2]; exact hsl⟩
      refine zgoe hrun fun H' L h1 h2 h3 => ?_
      rw [m1, m2]
      exact kk H' L ls hl h1 h2 h3
    · obtain ⟨u, r, l0, rfl, hu, f1, f2, f3, rfl⟩ := zcn_inv (show zcn fr lo h (pc + 3) lv st = some q from hz)
      have hlk : Cond.methodLink own k ⟨"[I", "clone", "()Ljava/lang/Object;"⟩ ∈ zlw := zmm (of_decide_eq_true (show decide (lw_tbl[w0]? = some (Cond.methodLink own k ⟨"[I", "clone", "()Ljava/lang/Object;"⟩)) = true from hk)) rfl
      have hc0 : H[b + u]? = some (arrV (tc 0) l0.length (fun j => zt sa b (l0.getD j .null))) := hR.2 u _ hu
      have hnm : s.vm.findClass "[I" = some (tc 0) := (hK.2 0 (tc 0, .int) rfl).2
      obtain ⟨c0, t0', g1, g2, g3⟩ := Cond.castable_spec (hts _ hobj.2.2.2.2.2.2.2.2.2)
      cases hnm.symm.trans g1
      have e1 : (h.1 ++ [(.inl (0, l0) : zC)]).length - h.1.length = 1 := by simp
      have e2 : h.2 + l0.length - h.2 = l0.length := by omega
      have hcl : cells + 1 ≤ R.cells := by rw [← e1]; exact hcl
      have hsl : slots + l0.length ≤ R.slots := by rw [← e2]; exact hsl
      intro T hT X
      obtain ⟨-, kA, hkA, comp, hkind⟩ := State.isArrayOf_alike X.warmed.alike ((hK.2 0 (tc 0, .int) rfl).1 0 (fun _ => .null))
      obtain ⟨-, kS, hkS, compS, hkindS⟩ := (hK.2 0 (tc 0, .int) rfl).1 0 (fun _ => .null)
      obtain ⟨vm', X', step⟩ := X.cloneArray hx hown (hts _ hlk) (hts _ hobj.2.2.2.2.2.1) (hts _ hobj.2.2.2.2.2.2.1) (hts _ hobj.2.2.2.2.2.2.2.1) (hts _ hobj.2.2.2.2.2.2.2.2.1) (a := b + u) (cell := arrV (tc 0) l0.length (fun j => zt sa b (l0.getD j .null))) (by rw [hT]; exact hc0) (fun k h => by cases h) (fun h => by cases h) hnm g2 g3
        (fun i v hv => by
          have hi : i < l0.length := by
            have h9 := (Array.getElem?_eq_some_iff.mp hv).1
            rw [arrV_size] at h9
            exact h9
          obtain ⟨kk2, hkk2⟩ := zisI_ok f3 hi
          rw [arrV_read _ _ hi, hkk2] at hv
          rw [← Option.some.inj hv]
          have hk' : T.vm.classes[tc 0]? = some kA := hkA
          show T.fitsSlot (tc 0) .none i (.int kk2) = true
          simp [State.fitsSlot, State.slotType?, hk', hkind, fits])
        (g := F0 m pc ls (.ref (b + u) :: r.map (zt sa b))) rfl (by rw [hml]; exact hl.1) rfl (by rw [hb]; exact hd) (Nat.le_trans f1 hfr)
        (by
          have e := zcat_t sa b r
          show 2 * 0 + ((r.map (zt sa b)).map fun v => v.category).sum + 14 ≤ R.locals
          omega) hcl (by rw [arrV_size]; exact hsl) (hloader := Vm.clonesLoader_of_array hkS hkindS)
      rw [arrV_size] at X'
      have h7 := kk (H.push (arrV (tc 0) l0.length (fun j => zt sa b (l0.getD j .null)))) [] ls hl (hR.push (by rw [Array.size_push]) (fun x hxl => by rw [Array.getElem?_push, if_neg (Nat.ne_of_lt hxl)]) (by
          show (H.push _)[b + h.1.length]? = some (arrV (tc 0) l0.length (fun j => zt sa b (l0.getD j .null)))
          rw [← hR.1, Array.getElem?_push_size])) (fun x hxb => by rw [Array.getElem?_push, if_neg (by rw [hR.1]; omega)]) (fun x hx => by cases hx)
      rw [List.append_nil] at h7
      obtain ⟨t, a1, b1⟩ := (W.cs (cells := cells + 1) (slots := slots + l0.length) (by rw [e1]) (by rw [e2]) h7) _ (by show T.heap.push _ = _; rw [hT]; rfl) X'
      refine ⟨t, step t ?_, b1⟩
      have e3 : (Value.ref T.heap.size :: r.map (zt sa b)) = (Value.ref h.1.length :: r).map (zt sa b) := by rw [hT, hR.1]; rfl
      rw [e3]
      exact a1
    · exact znq hz
  | invokespecial k =>
    by_cases hb2 : b0 = 2
    · subst hb2
      obtain ⟨u, r, rfl, f1, f2, rfl⟩ := zoi_inv (show zoi fr lo h (pc + 3) lv st = some q from hz)
      have hlk : Cond.methodLink own k Lib.objectInit ∈ zlw := zmm (of_decide_eq_true (show decide (lw_tbl[w0]? = some (Cond.methodLink own k Lib.objectInit)) = true from hk)) rfl
      refine W.objInit hx hb hown (hts _ hlk) (hts _ hobj.1.1) (hts _ hobj.1.2) rfl (by rw [hml]; exact hl.1) rfl hd (Nat.le_trans f1 hfr) ?_ ?_
      · show 2 * (F0 m pc ls ((Value.ref u :: r).map (zt sa b))).monitorRoom + ((r.map (zt sa b)).map fun v => v.category).sum + 12 ≤ R.locals
        rw [zcat_t]
        have h8 : 2 * (F0 m pc ls ((Value.ref u :: r).map (zt sa b))).monitorRoom = 0 := rfl
        omega
      · have h7 := kk H [] ls hl hR (fun _ _ => rfl) (fun x hx => by cases hx)
        rw [List.append_nil] at h7
        refine W.cs (cells' := cells + (h.1.length - h.1.length)) (slots' := slots + (h.2 - h.2)) (by omega) (by omega) ?_
        exact h7
    · have hz2 : zcm mt call 2 a0 h (pc + 3) lv st = some q := by
        rcases b0 with _ | _ | _ | b0
        · exact hz
        · exact hz
        · exact absurd rfl hb2
        · exact znq hz
      obtain ⟨M, as, rest, r, hM, hki, hlen, rfl, hrc, hcat, hca, hm1, hm2, rfl⟩ := zcm_inv hz2
      obtain ⟨y1, y2, y3, y4, y5, y6, y7, y8, y9⟩ := hmt a0 M hM
      obtain ⟨rm, m1, m2, m3, m4, hMet⟩ := hcal a0 as h r M hM hca
      obtain ⟨z1, z2, z3⟩ := y8 hki
      obtain ⟨u, as', rfl⟩ := zrc2_inv hrc
      have hw : zws M = Cond.code (mY M) (mC M) (mL M) none :: zlw.filter goodWord := by unfold zws; rw [z3]
      have hst : ((Value.ref u :: as').reverse ++ rest).map (zt sa b) = (as'.map (zt sa b)).reverse ++ .ref (b + u) :: rest.map (zt sa b) := by simp [zt]
      rcases b0 with _ | _ | _ | b0
      · have hlk := zlM_inv y1 (show zlM own k a0 w0 = true from hk)
        have hrun := va_runI (g := F0 m pc ls (((Value.ref u :: as').reverse ++ rest).map (zt sa b))) (H := H) (locs := locs) (cells := cells) (slots := slots) (below := below) (e := e) (meth := meth) (b := b + u) (As := as'.map (zt sa b)) (rest := rest.map (zt sa b)) ⟨hx, hb, hml, hown, hts⟩ hMet
          ⟨callB_of (R := R) (mN M) hts (zgi (hmt a0 M hM)) hw rfl rfl (hts _ y3) (hts _ hlk) y4 ⟨Nat.le_trans m3 hfr, Nat.le_trans m4 hlo⟩, z2, hts _ z1⟩ ⟨zblind, fun U hU hW => pre (.ref u :: as') U hU hW⟩ rfl (by rw [List.length_map]; exact Nat.succ.inj hlen) hl.1 hst (lv_room (by rw [zcat_t]; exact hcat)) hd ⟨by rw [m1]; exact hcl, by rw [m2]; exact hsl⟩
        refine zgoe hrun fun H' L h1 h2 h3 => ?_
        rw [m1, m2]
        exact kk H' L ls hl h1 h2 h3
      · have hlk := zlMN_inv y1 (show zlMN own k a0 w0 = true from hk)
        have hrun := va_runIN (g := F0 m pc ls (((Value.ref u :: as').reverse ++ rest).map (zt sa b))) (H := H) (locs := locs) (cells := cells) (slots := slots) (below := below) (e := e) (meth := meth) (b := b + u) (As := as'.map (zt sa b)) (rest := rest.map (zt sa b)) ⟨hx, hb, hml, hown, hts⟩ hMet
          ⟨va_cnB (R := R) (mN M) hts (zgi (hmt a0 M hM)) hw rfl rfl (va_Nw.of rfl (hts _ hlk)) (hts _ y3) y4 ⟨Nat.le_trans m3 hfr, Nat.le_trans m4 hlo⟩, z2, hts _ z1⟩ ⟨zblind, fun U hU hW => pre (.ref u :: as') U hU hW⟩ rfl (by rw [List.length_map]; exact Nat.succ.inj hlen) hl.1 hst (lv_room (by rw [zcat_t]; exact hcat)) hd ⟨by rw [m1]; exact hcl, by rw [m2]; exact hsl⟩
        refine zgoe hrun fun H' L h1 h2 h3 => ?_
        rw [m1, m2]
        exact kk H' L ls hl h1 h2 h3
      · exact absurd rfl hb2
      · exact znq hz
  | _ => exact znq hz
end ZK
end
section
-- the loop of steps; a whole method
theorem zw_len {i : Jvm.ClassFile.Instr} {a b pc : Nat} {h : List zC} {lv : List (Nat × Value)} {st : List Value} {q : zS × List zC} (hz : zw i a b h pc lv st = some q) : q.2.length = h.length := by
  cases i with
  | putfield k => obtain ⟨v, u, r, fs, -, -, -, -, rfl⟩ := zpf_inv hz; simp
  | iastore => obtain ⟨x, j, u, r, l, -, -, -, rfl⟩ := zis_inv hz; simp
  | bastore => obtain ⟨x, j, u, r, l, -, -, -, rfl⟩ := zbs_inv hz; simp
  | lastore => obtain ⟨x, j, u, r, l, -, -, -, rfl⟩ := zls_inv hz; simp
  | aastore => obtain ⟨v, j, u, r, t, l, -, -, -, -, rfl⟩ := zas_inv hz; simp
  | _ => exact znq hz
theorem zn_len {i : Jvm.ClassFile.Instr} {a pc : Nat} {h : zH} {lv : List (Nat × Value)} {st : List Value} {q : zS × zH} (hz : zn i a h pc lv st = some q) : h.1.length ≤ q.2.1.length ∧ h.2 ≤ q.2.2 := by
  cases i with
  | new k => obtain rfl := Option.some.inj hz; simp
  | newarray t =>
    cases t with
    | int => obtain ⟨n, r, -, -, -, rfl⟩ := zna_inv (show zna a (.int 0) h (pc + 2) lv st = some q from hz); simp
    | boolean => obtain ⟨n, r, -, -, -, rfl⟩ := zna_inv (show zna a (.int 0) h (pc + 2) lv st = some q from hz); simp
    | long => obtain ⟨n, r, -, -, -, rfl⟩ := zna_inv (show zna a (.long 0) h (pc + 2) lv st = some q from hz); simp
    | _ => exact znq hz
  | anewarray k => obtain ⟨n, r, -, -, -, rfl⟩ := zna_inv hz; simp
  | _ => exact znq hz
theorem zk_len {mt : List zM} {call : Nat → List Value → zH → Option (Option Value × zH)} {fr lo : Nat} {i : Jvm.ClassFile.Instr} {a b pc : Nat} {h : zH} {lv : List (Nat × Value)} {st : List Value} {q : zS × zH} (hz : zk mt call fr lo i a b h pc lv st = some q) : h.1.length ≤ q.2.1.length ∧ h.2 ≤ q.2.2 := by
  have key : ∀ {kind : Nat}, zcm mt call kind a h (pc + 3) lv st = some q → h.1.length ≤ q.2.1.length ∧ h.2 ≤ q.2.2 := fun hz => by
    obtain ⟨M, as, rest, r, -, -, -, -, -, -, -, h1, h2, rfl⟩ := zcm_inv hz
    exact ⟨h1, h2⟩
  cases i with
  | invokestatic k =>
    rcases b with _ | _ | _ | _ | _ | _ | b
    · exact key (show zcm mt call 0 a h (pc + 3) lv st = some q from hz)
    · exact znq hz
    · exact znq hz
    · obtain ⟨x, y, r, -, -, -, rfl⟩ := zmx_inv (show zmx (fun x y => if y < x then y else x) fr lo h (pc + 3) lv st = some q from hz)
      exact ⟨Nat.le_refl _, Nat.le_refl _⟩
    · obtain ⟨x, y, r, -, -, -, rfl⟩ := zmx_inv (show zmx (fun x y => if x < y then y else x) fr lo h (pc + 3) lv st = some q from hz)
      exact ⟨Nat.le_refl _, Nat.le_refl _⟩
    · obtain ⟨n, dp, d, sp, s0, r, p0, g0, -, -, -, -, -, -, -, -, -, -, -, rfl⟩ := zac_inv (show zac fr lo h (pc + 3) lv st = some q from hz)
      simp
    · exact znq hz
  | invokevirtual k =>
    rcases b with _ | _ | b
    · exact key (show zcm mt call 1 a h (pc + 3) lv st = some q from hz)
    · obtain ⟨u, r, l0, -, -, -, -, -, rfl⟩ := zcn_inv (show zcn fr lo h (pc + 3) lv st = some q from hz)
      simp
    · exact znq hz
  | invokespecial k =>
    rcases b with _ | _ | _ | b
    · exact key (show zcm mt call 2 a h (pc + 3) lv st = some q from hz)
    · exact key (show zcm mt call 2 a h (pc + 3) lv st = some q from hz)
    · obtain ⟨u, r, -, -, -, rfl⟩ := zoi_inv (show zoi fr lo h (pc + 3) lv st = some q from hz)
      exact ⟨Nat.le_refl _, Nat.le_refl _⟩
    · exact znq hz
  | _ => exact znq hz
theorem zstep_inv {mt : List zM} {call : Nat → List Value → zH → Option (Option Value × zH)} {fr lo : Nat} {xs : zX} {x : zE} {s : zS} {h : zH} {q : zS × zH} (hz : zstep mt call fr lo xs x s h = some q) :
    (∃ s', zp (xI x) (xV x) s.1 s.2.1 s.2.2 = some s' ∧ q = (s', h)) ∨ (∃ s', zr (xI x) (xA x) (xB x) xs h.1 s.1 s.2.1 s.2.2 = some s' ∧ q = (s', h)) ∨ (∃ y, zw (xI x) (xA x) (xB x) h.1 s.1 s.2.1 s.2.2 = some y ∧ q = (y.1, (y.2, h.2))) ∨ zn (xI x) (xA x) h s.1 s.2.1 s.2.2 = some q ∨ zk mt call fr lo (xI x) (xA x) (xB x) h s.1 s.2.1 s.2.2 = some q := by
  unfold zstep at hz
  split at hz
  · next s' h1 => exact Or.inl ⟨s', h1, (Option.some.inj hz).symm⟩
  · split at hz
    · next s' h1 => exact Or.inr (Or.inl ⟨s', h1, (Option.some.inj hz).symm⟩)
    · split at hz
      · next y h1 => exact Or.inr (Or.inr (Or.inl ⟨y, h1, (Option.some.inj hz).symm⟩))
      · split at hz
        · next y h1 => exact Or.inr (Or.inr (Or.inr (Or.inl (by rw [h1]; exact hz))))
        · exact Or.inr (Or.inr (Or.inr (Or.inr hz)))
theorem zstep_len {mt : List zM} {call : Nat → List Value → zH → Option (Option Value × zH)} {fr lo : Nat} {xs : zX} {x : zE} {s : zS} {h : zH} {q : zS × zH} (hz : zstep mt call fr lo xs x s h = some q) : h.1.length ≤ q.2.1.length ∧ h.2 ≤ q.2.2 := by
  rcases zstep_inv hz with ⟨s', -, rfl⟩ | ⟨s', -, rfl⟩ | ⟨y, h1, rfl⟩ | h1 | h1
  · exact ⟨Nat.le_refl _, Nat.le_refl _⟩
  · exact ⟨Nat.le_refl _, Nat.le_refl _⟩
  · exact ⟨Nat.le_of_eq (zw_len h1).symm, Nat.le_refl _⟩
  · exact zn_len h1
  · exact zk_len h1
theorem zloop_len {mt : List zM} {call : Nat → List Value → zH → Option (Option Value × zH)} {fr lo : Nat} {xs : zX} {M : zM} : ∀ {f : Nat} {s : zS} {h : zH} {r : Option Value × zH}, zloop mt call fr lo xs M f s h = some r → h.1.length ≤ r.2.1.length ∧ h.2 ≤ r.2.2
  | 0, s, h, r, hz => by cases hz
  | f + 1, s, h, r, hz => by
    unfold zloop at hz
    split at hz
    · cases hz
    · split at hz
      · obtain rfl := Option.some.inj hz
        exact ⟨Nat.le_refl _, Nat.le_refl _⟩
      · split at hz
        · cases hz
        · next q hq =>
          have h1 := zstep_len hq
          have h2 := zloop_len hz
          exact ⟨Nat.le_trans h1.1 h2.1, Nat.le_trans h1.2 h2.2⟩
theorem zlk_inv {pc : Nat} {x : zE} : ∀ {t : List zE}, zlk t pc = some x → x ∈ t ∧ xP x = pc
  | [], h => by cases h
  | y :: r, h => by
    unfold zlk at h
    split at h
    · next hq =>
      obtain rfl := Option.some.inj h
      exact ⟨List.mem_cons_self, Nat.eq_of_beq_eq_true hq⟩
    · obtain ⟨h1, h2⟩ := zlk_inv h
      exact ⟨List.mem_cons_of_mem _ h1, h2⟩
theorem zlk2_inv {pc : Nat} {x : zE} : ∀ {t : List (Nat × List zE)}, zlk2 t pc = some x → ∃ g ∈ t, x ∈ g.2 ∧ xP x = pc
  | [], h => by cases h
  | y :: r, h => by
    unfold zlk2 at h
    split at h
    · exact ⟨y, List.mem_cons_self, zlk_inv h⟩
    · obtain ⟨g, h1, h2⟩ := zlk2_inv h
      exact ⟨g, List.mem_cons_of_mem _ h1, h2⟩
section ZL
variable {p : Program} {l : Launch} {e : Env} {R : Room} {s : State} {m : MethodId} {args : Array Value} {below : List Frame} {meth : Method} {c : Code} {Q : State → Prop}
variable {cc : ByteArray} {own : String} {sa b nL : Nat} {ini : Bool} {D : va_G} {tc : Nat → ClassId} {xs : zX} {mt : List zM} {call : Nat → List Value → zH → Option (Option Value × zH)} {fr lo : Nat} {M : zM}
set_option maxHeartbeats 4000000 in
theorem zloop_s (hx : p.tables.exec = Jvm.exec) (hb : c.code = cc) (hml : c.maxLocals = nL) (hown : s.vm.findClass own = some m.cls) (hts : ∀ w ∈ zlw, w.before args s = true) (hnm : ini = true → meth.name = "<init>") (hK : va_K D zcl (ztys tc) s) (hsb : ∀ x, xs = some x → sa < b)
    (hmt : zT mt) (hg : zgood) (hobj : zlib) (hcal : zCal l mt call fr lo D tc sa b) (hfr : fr ≤ R.frames) (hlo : lo ≤ R.locals)
    (hM : ∀ g ∈ mT M, ∀ x ∈ g.2, zxo own cc nL ini x = true) {Cf Sf : Nat} (hCf : Cf ≤ R.cells) (hSf : Sf ≤ R.slots) {r : Option Value × zH} {H0 : Heap}
    (hend : ∀ (pc : Nat) (st : List Value) (ls : Array Slot) (H : Heap) (locs : List Loc) (i : Jvm.ClassFile.Instr) (n : Nat), decode cc pc = .ok (i, zlen i n) → zre (mR M) i st = some r.1 → zR D tc sa b r.2.1 H → (∀ x, x < b → H[x]? = H0[x]?) → (∀ x ∈ locs, b ≤ x.base) → W p l e R s m args below meth c H locs Cf Sf Q (F0 m pc ls (st.map (zt sa b)))) :
    ∀ (f : Nat) (z : zS) (h : zH) (ls : Array Slot) (H : Heap) (locs : List Loc) (cells slots : Nat), zloop mt call fr lo xs M f z h = some r → lv_has ls nL (z.2.1.map (ztl sa b)) → zR D tc sa b h.1 H → (∀ x, xs = some x → va_X sa x.1 x.2 s H) → (∀ x, x < b → H[x]? = H0[x]?) → (∀ x ∈ locs, b ≤ x.base) →
      cells + (r.2.1.length - h.1.length) = Cf → slots + (r.2.2 - h.2) = Sf → W p l e R s m args below meth c H locs cells slots Q (F0 m z.1 ls (z.2.2.map (zt sa b))) := by
  intro f
  induction f with
  | zero => intro z h ls H locs cells slots hz; cases hz
  | succ f ih =>
    intro z h ls H locs cells slots hz hl hR hX hF hL hc1 hc2
    unfold zloop at hz
    split at hz
    · cases hz
    · next x hxk =>
      obtain ⟨g, hgm, hxm, hpc⟩ := zlk2_inv hxk
      have hxo := Bool.and_eq_true_iff.mp (hM g hgm x hxm)
      have hd : decode cc z.1 = .ok (xI x, zlen (xI x) (xN x)) := by rw [← hpc]; exact of_decide_eq_true hxo.1
      have hk := hxo.2
      split at hz
      · next rv hre =>
        obtain rfl := Option.some.inj hz
        refine W.cs (cells' := Cf) (slots' := Sf) (by have e : cells + (h.1.length - h.1.length) = Cf := hc1; omega) (by have e : slots + (h.2 - h.2) = Sf := hc2; omega) ?_
        exact hend z.1 z.2.2 ls H locs (xI x) (xN x) hd hre hR hF hL
      · split at hz
        · cases hz
        · next q hq =>
          have hlen := zstep_len hq
          have hlen2 := zloop_len hz
          have app : ∀ {L : List Loc}, (∀ x ∈ L, b ≤ x.base) → ∀ x ∈ locs ++ L, b ≤ x.base := fun hL2 x hx => by
            rcases List.mem_append.mp hx with h | h
            · exact hL x h
            · exact hL2 x h
          have keep : ∀ {H' : Heap}, (∀ x, x < b → H'[x]? = H[x]?) → ∀ x, xs = some x → va_X sa x.1 x.2 s H' := fun h1 x hxs => (hX x hxs).kept (h1 sa (hsb x hxs))
          rcases zstep_inv hq with ⟨s', h1, rfl⟩ | ⟨s', h1, rfl⟩ | ⟨y, h1, rfl⟩ | h1 | h1
          · exact zp_s hx hb hown hts hd hk hl h1 (fun ls' hl' => ih s' h ls' H locs cells slots hz hl' hR hX hF hL hc1 hc2)
          · exact zr_s hx hb hown hts hK hR hX hd hk hl h1 (fun ls' hl' => ih s' h ls' H locs cells slots hz hl' hR hX hF hL hc1 hc2)
          · refine zw_s hx hb hown hts hnm hK hR hd hk hl h1 (fun H' L ls' hl' hR' hF' hL' => ih y.1 (y.2, h.2) ls' H' (locs ++ L) cells slots hz hl' hR' (keep hF') (fun x hx => (hF' x hx).trans (hF x hx)) (app hL') ?_ hc2)
            show cells + (r.2.1.length - y.2.length) = Cf
            rw [zw_len h1]
            exact hc1
          · refine zn_s hx hb hown hts hK hR hd hk hl h1 (by omega) (by omega) (fun H' ls' hl' hR' hF' => ih q.1 q.2 ls' H' locs _ _ hz hl' hR' (keep hF') (fun x hx => (hF' x hx).trans (hF x hx)) hL (by omega) (by omega))
          · refine zk_s hx hb hml hown hts hK hR hmt hg hobj hcal hfr hlo hd hk hl h1 (by omega) (by omega) (fun H' L ls' hl' hR' hF' hL' => ih q.1 q.2 ls' H' (locs ++ L) _ _ hz hl' hR' (keep hF') (fun x hx => (hF' x hx).trans (hF x hx)) (app hL') (by omega) (by omega))
end ZL
theorem zsl_len (vs : List Value) : (lg_sl vs).length = zcat vs := by
  induction vs with
  | nil => rfl
  | cons v r ih =>
    have h1 : lg_sl (v :: r) = (if v.category = 2 then [Slot.val v, .second] else [.val v]) ++ lg_sl r := by simp [lg_sl]
    have h2 : zcat (v :: r) = v.category + zcat r := by simp [zcat]
    rw [h1, h2, List.length_append, ih]
    cases v <;> rfl
theorem zargs (sa b : Nat) : ∀ (vs : List Value) (i : Nat), lv_args i (vs.map (zt sa b)) = (lv_args i vs).map (ztl sa b)
  | [], _ => rfl
  | v :: r, i => by
    show (i, zt sa b v) :: lv_args (if (zt sa b v).category = 2 then i + 2 else i + 1) (r.map (zt sa b)) = _
    rw [zt_cat, zargs sa b r]
    rfl
theorem zre_s {p : Program} {l : Launch} {e : Env} {R : Room} {s : State} {m : MethodId} {args : Array Value} {below : List Frame} {meth : Method} {c : Code} {cc : ByteArray} {sa b Cf Sf pc n : Nat} {D : va_G} {tc : Nat → ClassId} {H : Heap} {locs : List Loc} {ls : Array Slot} {st : List Value} {i : Jvm.ClassFile.Instr} {ret : Option FieldType} {r : Option Value × zH}
    (hx : p.tables.exec = Jvm.exec) (hb : c.code = cc) (hr : meth.sig.returnType = ret) (hlocks : meth.locks = false) (hd : decode cc pc = .ok (i, zlen i n)) (hz : zre ret i st = some r.1) (hR : zR D tc sa b r.2.1 H) (hF : ∀ x, x < b → H[x]? = s.heap[x]?) (hL : ∀ x ∈ locs, b ≤ x.base) :
    W p l e R s m args below meth c H locs Cf Sf (MQ below (zQc D tc sa b r) args s Cf Sf (fun x => b ≤ x)) (F0 m pc ls (st.map (zt sa b))) := by
  have post : ∀ {v : Option Value}, r.1 = v → ∀ t : State, t.heap = H → s.WarmedH t.vm → zQc D tc sa b r args s (.returned (v.map (zt sa b))) t := fun hv t ht _ => ⟨by rw [hv], by rw [ht]; exact hR, fun x hx => by rw [ht]; exact hF x hx⟩
  cases i with
  | return_ =>
    unfold zre at hz
    dsimp only at hz
    split at hz
    · exact W.vret hx hb hr (post (v := none) (Option.some.inj hz).symm) hL hd hlocks
    · cases hz
  | ireturn =>
    unfold zre at hz
    dsimp only at hz
    split at hz
    · next ty v =>
      split at hz
      · next hf => exact W.zret hx hb hr (zfit_ok (sa := sa) (b := b) hf).1 (post (v := some (.int v)) (Option.some.inj hz).symm) hL hd hlocks
      · cases hz
    · cases hz
  | lreturn =>
    unfold zre at hz
    dsimp only at hz
    split at hz
    · next v => exact W.lret hx hb hr (post (v := some (.long v)) (Option.some.inj hz).symm) hL hd hlocks
    · cases hz
  | areturn =>
    unfold zre at hz
    dsimp only at hz
    split at hz
    · exact W.aret hx hb hr (Or.inl ⟨_, rfl⟩) (Or.inl rfl) (post (v := some .null) (Option.some.inj hz).symm) hL hd hlocks
    · next k => exact W.aret (v := .ref (b + k)) hx hb hr (Or.inl ⟨_, rfl⟩) (Or.inr ⟨_, rfl⟩) (post (v := some (.ref k)) (Option.some.inj hz).symm) hL hd hlocks
    · exact W.aret hx hb hr (Or.inr ⟨_, rfl⟩) (Or.inl rfl) (post (v := some .null) (Option.some.inj hz).symm) hL hd hlocks
    · next k => exact W.aret (v := .ref (b + k)) hx hb hr (Or.inr ⟨_, rfl⟩) (Or.inr ⟨_, rfl⟩) (post (v := some (.ref k)) (Option.some.inj hz).symm) hL hd hlocks
    · cases hz
  | _ => exact znq hz
set_option maxHeartbeats 4000000 in
theorem zbody_s {l : Launch} {sa b : Nat} {D : va_G} {tc : Nat → ClassId} {mt : List zM} {call : Nat → List Value → zH → Option (Option Value × zH)} {fr lo f a : Nat} {as : List Value} {h : zH} {r : Option Value × zH} {M : zM}
    (hmt : zT mt) (hg : zgood) (hobj : zlib) (hcal : zCal l mt call fr lo D tc sa b) (hM : mt[a]? = some M) (hz : zbody mt call fr lo none f a as h = some r) :
    Met l (mY M) (zws M) { frames := fr, cells := r.2.1.length - h.1.length, slots := r.2.2 - h.2, locals := lo } (zPc D tc sa b as h) (zQc D tc sa b r) (r.2.1.length - h.1.length) (r.2.2 - h.2) (fun x => b ≤ x) := by
  obtain ⟨y1, y2, y3, y4, y5, y6, y7, y8, y9⟩ := hmt a M hM
  refine Met.ofW (cc := mC M) (maxL := mL M) (ret := mR M) y5 rfl ?_
  intro p e s m args below meth c s₁ B hml hv
  obtain ⟨rfl, hR, hK, hEx⟩ := hv
  have hx := B.exec
  have hb := B.bytes
  have hr := B.returns
  have hts0 := atoms_spec (ws := zws M) B.pre
  have hts : ∀ w ∈ zlw, w.before (as.map (zt sa b)).toArray s = true := fun w hw => by
    rcases hg w hw with h1 | h1
    · exact hts0 w (List.mem_cons_of_mem _ (List.mem_filter.mpr ⟨hw, h1⟩))
    · exact zEx_use hEx hw h1
  have hown : s.vm.findClass (mY M).cls = some m.cls := findClass_of_methodNamed B.named
  have hlocks := B.notSynchronized
  have hin : meth.name = (mY M).name := (name_of_methodNamed B.named B.method).1
  unfold zbody at hz
  rw [hM] at hz
  dsimp only at hz
  split at hz
  · next hle =>
    have hle2 : zcat as ≤ mL M := Nat.le_of_ble_eq_true hle
    have hl := lv_entry (as.map (zt sa b)) (n := mL M) (by rw [zsl_len]; have e := zcat_t sa b as; unfold zcat; rw [e]; exact hle2)
    rw [lg_entry_eq]
    generalize (lg_sl (as.map (zt sa b)) ++ List.replicate (mL M - (lg_sl (as.map (zt sa b))).length) Slot.unset).toArray = ls at hl ⊢
    rw [zargs] at hl
    exact zloop_s (M := M) (H0 := s.heap) hx hb hml hown hts (fun h => by rw [hin]; exact (y8 (Nat.eq_of_beq_eq_true h)).2.1) hK (fun x hx => by cases hx) hmt hg hobj hcal (Nat.le_refl _) (Nat.le_refl _) y9 (Nat.le_refl _) (Nat.le_refl _)
      (fun pc st ls H locs i n h1 h2 h3 h4 h5 => zre_s hx hb hr hlocks h1 h2 h3 h4 h5) f (0, lv_args 0 as, []) h ls s.heap [] 0 0 hz hl hR (fun x hx => by cases hx) (fun _ _ => rfl) (fun x hx => by cases hx) (Nat.zero_add _) (Nat.zero_add _)
  · cases hz
theorem zcall_s {l : Launch} {sa b : Nat} {D : va_G} {tc : Nat → ClassId} {mt : List zM} {f : Nat} (hmt : zT mt) (hg : zgood) (hobj : zlib) :
    ∀ (fr lo a : Nat) (as : List Value) (h : zH) (r : Option Value × zH) (M : zM), mt[a]? = some M → zcall mt f fr lo a as h = some r →
      Met l (mY M) (zws M) { frames := fr, cells := r.2.1.length - h.1.length, slots := r.2.2 - h.2, locals := lo } (zPc D tc sa b as h) (zQc D tc sa b r) (r.2.1.length - h.1.length) (r.2.2 - h.2) (fun x => b ≤ x) := by
  intro fr
  induction fr with
  | zero =>
    intro lo a as h r M hM hz
    exact zbody_s hmt hg hobj (fun a as h r M _ hc => by cases hc) hM hz
  | succ fr ih =>
    intro lo a as h r M hM hz
    refine zbody_s hmt hg hobj (fun a' as' h' r' M' hM' hc => ?_) hM hz
    rw [hM'] at hc
    dsimp only at hc
    split at hc
    · next hle =>
      have hle2 : 19 + mL M' ≤ lo := Nat.le_of_ble_eq_true hle
      exact ⟨_, rfl, rfl, Nat.le_refl _, by show 8 + (mL M' + 11) + (lo - (19 + mL M')) ≤ lo; omega, ih (lo - (19 + mL M')) a' as' h' r' M' hM' hc⟩
    · cases hc
end
