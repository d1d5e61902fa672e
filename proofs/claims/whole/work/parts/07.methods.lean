set_option maxRecDepth 4000
theorem zt0 {w : Cond} (h : w ∈ k2_sels lw_privs) : w ∈ lw_tbl := List.mem_append_left _ h
theorem zt1 {w : Cond} (h : w ∈ tables_1_1) : w ∈ lw_tbl := List.mem_append_right _ (List.mem_append_left _ h)
theorem zt2 {w : Cond} (h : w ∈ tables_1_2) : w ∈ lw_tbl := List.mem_append_right _ (List.mem_append_right _ (List.mem_append_left _ h))
theorem zt3 {w : Cond} (h : w ∈ tables_1_3) : w ∈ lw_tbl := List.mem_append_right _ (List.mem_append_right _ (List.mem_append_right _ (List.mem_append_left _ h)))
theorem zt4 {w : Cond} (h : w ∈ tables_1_4) : w ∈ lw_tbl := List.mem_append_right _ (List.mem_append_right _ (List.mem_append_right _ (List.mem_append_right _ (List.mem_append_left _ h))))
theorem zt5 {w : Cond} (h : w ∈ tables_1_5) : w ∈ lw_tbl := List.mem_append_right _ (List.mem_append_right _ (List.mem_append_right _ (List.mem_append_right _ (List.mem_append_right _ (List.mem_append_left _ h)))))
theorem zt6 {w : Cond} (h : w ∈ tables_1_6) : w ∈ lw_tbl := List.mem_append_right _ (List.mem_append_right _ (List.mem_append_right _ (List.mem_append_right _ (List.mem_append_right _ (List.mem_append_right _ (List.mem_append_left _ h))))))
theorem zt7 {w : Cond} (h : w ∈ tables_1_7) : w ∈ lw_tbl := List.mem_append_right _ (List.mem_append_right _ (List.mem_append_right _ (List.mem_append_right _ (List.mem_append_right _ (List.mem_append_right _ (List.mem_append_right _ (h)))))))
/-! methods, what the tables say of them, and their links, by program out of the printed names -/
theorem zini_SixWalls : Cond.initialized "SixWalls" ∈ lw_tbl := zt1 (List.mem_of_getElem? (i := 1) rfl)
theorem zini_SixWalls_Cells : Cond.initialized "SixWalls$Cells" ∈ lw_tbl := zt1 (List.mem_of_getElem? (i := 10) rfl)
theorem zini_SixWalls_Comb : Cond.initialized "SixWalls$Comb" ∈ lw_tbl := zt1 (List.mem_of_getElem? (i := 2) rfl)
theorem zini_SixWalls_Families : Cond.initialized "SixWalls$Families" ∈ lw_tbl := zt1 (List.mem_of_getElem? (i := 8) rfl)
theorem zini_SixWalls_History : Cond.initialized "SixWalls$History" ∈ lw_tbl := zt1 (List.mem_of_getElem? (i := 9) rfl)
theorem zini_SixWalls_LawText : Cond.initialized "SixWalls$LawText" ∈ lw_tbl := zt1 (List.mem_of_getElem? (i := 4) rfl)
theorem zini_SixWalls_Masonry : Cond.initialized "SixWalls$Masonry" ∈ lw_tbl := zt1 (List.mem_of_getElem? (i := 6) rfl)
theorem zini_SixWalls_Shelves : Cond.initialized "SixWalls$Shelves" ∈ lw_tbl := zt1 (List.mem_of_getElem? (i := 11) rfl)
theorem zini_SixWalls_Ways : Cond.initialized "SixWalls$Ways" ∈ lw_tbl := zt1 (List.mem_of_getElem? (i := 7) rfl)
theorem zini_SixWalls_Winter : Cond.initialized "SixWalls$Winter" ∈ lw_tbl := zt1 (List.mem_of_getElem? (i := 5) rfl)
theorem zini_SixWallsModel : Cond.initialized "SixWallsModel" ∈ lw_tbl := zt1 (List.mem_of_getElem? (i := 12) rfl)
theorem zini_JInteger : Cond.initialized "java/lang/Integer" ∈ lw_tbl := zt1 (List.mem_of_getElem? (i := 14) rfl)
theorem zini_JLong : Cond.initialized "java/lang/Long" ∈ lw_tbl := zt1 (List.mem_of_getElem? (i := 15) rfl)
theorem zini_JMath : Cond.initialized "java/lang/Math" ∈ lw_tbl := zt1 (List.mem_of_getElem? (i := 3) rfl)
theorem zpn_SixWalls : plainName "SixWalls" = true ∧ ("SixWalls" ≠ "java/lang/invoke/MethodHandle" ∧ "SixWalls" ≠ "java/lang/invoke/VarHandle") := ⟨by decide +kernel, by decide +kernel, by decide +kernel⟩
theorem zpn_SixWalls_Cells : plainName "SixWalls$Cells" = true ∧ ("SixWalls$Cells" ≠ "java/lang/invoke/MethodHandle" ∧ "SixWalls$Cells" ≠ "java/lang/invoke/VarHandle") := ⟨by decide +kernel, by decide +kernel, by decide +kernel⟩
theorem zpn_SixWalls_Comb : plainName "SixWalls$Comb" = true ∧ ("SixWalls$Comb" ≠ "java/lang/invoke/MethodHandle" ∧ "SixWalls$Comb" ≠ "java/lang/invoke/VarHandle") := ⟨by decide +kernel, by decide +kernel, by decide +kernel⟩
theorem zpn_SixWalls_Families : plainName "SixWalls$Families" = true ∧ ("SixWalls$Families" ≠ "java/lang/invoke/MethodHandle" ∧ "SixWalls$Families" ≠ "java/lang/invoke/VarHandle") := ⟨by decide +kernel, by decide +kernel, by decide +kernel⟩
theorem zpn_SixWalls_History : plainName "SixWalls$History" = true ∧ ("SixWalls$History" ≠ "java/lang/invoke/MethodHandle" ∧ "SixWalls$History" ≠ "java/lang/invoke/VarHandle") := ⟨by decide +kernel, by decide +kernel, by decide +kernel⟩
theorem zpn_SixWalls_LawText : plainName "SixWalls$LawText" = true ∧ ("SixWalls$LawText" ≠ "java/lang/invoke/MethodHandle" ∧ "SixWalls$LawText" ≠ "java/lang/invoke/VarHandle") := ⟨by decide +kernel, by decide +kernel, by decide +kernel⟩
theorem zpn_SixWalls_Masonry : plainName "SixWalls$Masonry" = true ∧ ("SixWalls$Masonry" ≠ "java/lang/invoke/MethodHandle" ∧ "SixWalls$Masonry" ≠ "java/lang/invoke/VarHandle") := ⟨by decide +kernel, by decide +kernel, by decide +kernel⟩
theorem zpn_SixWalls_Shelves : plainName "SixWalls$Shelves" = true ∧ ("SixWalls$Shelves" ≠ "java/lang/invoke/MethodHandle" ∧ "SixWalls$Shelves" ≠ "java/lang/invoke/VarHandle") := ⟨by decide +kernel, by decide +kernel, by decide +kernel⟩
theorem zpn_SixWalls_Ways : plainName "SixWalls$Ways" = true ∧ ("SixWalls$Ways" ≠ "java/lang/invoke/MethodHandle" ∧ "SixWalls$Ways" ≠ "java/lang/invoke/VarHandle") := ⟨by decide +kernel, by decide +kernel, by decide +kernel⟩
theorem zpn_SixWalls_Winter : plainName "SixWalls$Winter" = true ∧ ("SixWalls$Winter" ≠ "java/lang/invoke/MethodHandle" ∧ "SixWalls$Winter" ≠ "java/lang/invoke/VarHandle") := ⟨by decide +kernel, by decide +kernel, by decide +kernel⟩
theorem zpn_SixWallsModel : plainName "SixWallsModel" = true ∧ ("SixWallsModel" ≠ "java/lang/invoke/MethodHandle" ∧ "SixWallsModel" ≠ "java/lang/invoke/VarHandle") := ⟨by decide +kernel, by decide +kernel, by decide +kernel⟩
theorem zpn_JInteger : plainName "java/lang/Integer" = true ∧ ("java/lang/Integer" ≠ "java/lang/invoke/MethodHandle" ∧ "java/lang/Integer" ≠ "java/lang/invoke/VarHandle") := ⟨by decide +kernel, by decide +kernel, by decide +kernel⟩
theorem zpn_JLong : plainName "java/lang/Long" = true ∧ ("java/lang/Long" ≠ "java/lang/invoke/MethodHandle" ∧ "java/lang/Long" ≠ "java/lang/invoke/VarHandle") := ⟨by decide +kernel, by decide +kernel, by decide +kernel⟩
theorem zds_0 : (parseMethodDescriptor "()V").map (fun d => d.parameters.length) = some 0 := by decide +kernel
theorem zds_1 : (parseMethodDescriptor "()I").map (fun d => d.parameters.length) = some 0 := by decide +kernel
theorem zds_2 : (parseMethodDescriptor "(I)Z").map (fun d => d.parameters.length) = some 1 := by decide +kernel
theorem zds_3 : (parseMethodDescriptor "(I)I").map (fun d => d.parameters.length) = some 1 := by decide +kernel
theorem zds_4 : (parseMethodDescriptor "(II)Z").map (fun d => d.parameters.length) = some 2 := by decide +kernel
theorem zds_5 : (parseMethodDescriptor "(III)I").map (fun d => d.parameters.length) = some 3 := by decide +kernel
theorem zds_6 : (parseMethodDescriptor "(IIII)I").map (fun d => d.parameters.length) = some 4 := by decide +kernel
theorem zds_7 : (parseMethodDescriptor "(III)V").map (fun d => d.parameters.length) = some 3 := by decide +kernel
theorem zds_8 : (parseMethodDescriptor "(II)I").map (fun d => d.parameters.length) = some 2 := by decide +kernel
theorem zds_9 : (parseMethodDescriptor "(I[I)I").map (fun d => d.parameters.length) = some 2 := by decide +kernel
theorem zds_10 : (parseMethodDescriptor "(III)Z").map (fun d => d.parameters.length) = some 3 := by decide +kernel
theorem zds_11 : (parseMethodDescriptor "(LSixWalls$Comb;)V").map (fun d => d.parameters.length) = some 1 := by decide +kernel
theorem zds_12 : (parseMethodDescriptor "(II)V").map (fun d => d.parameters.length) = some 2 := by decide +kernel
theorem zds_13 : (parseMethodDescriptor "(I)V").map (fun d => d.parameters.length) = some 1 := by decide +kernel
theorem zds_14 : (parseMethodDescriptor "()Z").map (fun d => d.parameters.length) = some 0 := by decide +kernel
theorem zds_15 : (parseMethodDescriptor "(IIII)V").map (fun d => d.parameters.length) = some 4 := by decide +kernel
theorem zds_16 : (parseMethodDescriptor "([I)V").map (fun d => d.parameters.length) = some 1 := by decide +kernel
theorem zds_17 : (parseMethodDescriptor "(IIIII)I").map (fun d => d.parameters.length) = some 5 := by decide +kernel
theorem zds_18 : (parseMethodDescriptor "(IIIIII)I").map (fun d => d.parameters.length) = some 6 := by decide +kernel
theorem zds_19 : (parseMethodDescriptor "([I)I").map (fun d => d.parameters.length) = some 1 := by decide +kernel
theorem zds_20 : (parseMethodDescriptor "(II[I)I").map (fun d => d.parameters.length) = some 3 := by decide +kernel
theorem zds_21 : (parseMethodDescriptor "(III[I)I").map (fun d => d.parameters.length) = some 4 := by decide +kernel
theorem zds_22 : (parseMethodDescriptor "(II)J").map (fun d => d.parameters.length) = some 2 := by decide +kernel
theorem zds_23 : (parseMethodDescriptor "(IIJ)V").map (fun d => d.parameters.length) = some 3 := by decide +kernel
theorem zds_24 : (parseMethodDescriptor "(IIIII)V").map (fun d => d.parameters.length) = some 5 := by decide +kernel
theorem zds_25 : (parseMethodDescriptor "(IJ)J").map (fun d => d.parameters.length) = some 2 := by decide +kernel
theorem zds_26 : (parseMethodDescriptor "()J").map (fun d => d.parameters.length) = some 0 := by decide +kernel
theorem zds_27 : (parseMethodDescriptor "(LSixWalls$Comb;LSixWalls$LawText;)V").map (fun d => d.parameters.length) = some 2 := by decide +kernel
theorem zds_28 : (parseMethodDescriptor "(I)J").map (fun d => d.parameters.length) = some 1 := by decide +kernel
theorem zds_29 : (parseMethodDescriptor "(IIJ)I").map (fun d => d.parameters.length) = some 3 := by decide +kernel
theorem zds_30 : (parseMethodDescriptor "(JJJ)Z").map (fun d => d.parameters.length) = some 3 := by decide +kernel
theorem zds_31 : (parseMethodDescriptor "(JI)Z").map (fun d => d.parameters.length) = some 2 := by decide +kernel
theorem zds_32 : (parseMethodDescriptor "(IZ)V").map (fun d => d.parameters.length) = some 2 := by decide +kernel
theorem zds_33 : (parseMethodDescriptor "(J)I").map (fun d => d.parameters.length) = some 1 := by decide +kernel
theorem okX0_init : zokI mX0_init 0 := ⟨⟨zini_SixWalls_Cells, zt2 (List.mem_of_getElem? (i := 50) rfl), zpn_SixWalls_Cells.1, zpn_SixWalls_Cells.2, zds_0, by decide⟩, zt2 (List.mem_of_getElem? (i := 49) rfl), rfl, rfl⟩
theorem okX0_many : zokV mX0_many 0 := ⟨⟨zini_SixWalls_Cells, zt5 (List.mem_of_getElem? (i := 8) rfl), zpn_SixWalls_Cells.1, zpn_SixWalls_Cells.2, zds_1, by decide⟩, zt5 (List.mem_of_getElem? (i := 6) rfl), zt5 (List.mem_of_getElem? (i := 7) rfl)⟩
theorem okX0_ran : zokV mX0_ran 0 := ⟨⟨zini_SixWalls_Cells, zt5 (List.mem_of_getElem? (i := 12) rfl), zpn_SixWalls_Cells.1, zpn_SixWalls_Cells.2, zds_1, by decide⟩, zt5 (List.mem_of_getElem? (i := 10) rfl), zt5 (List.mem_of_getElem? (i := 11) rfl)⟩
theorem okX0_isKind : zokV mX0_isKind 1 := ⟨⟨zini_SixWalls_Cells, zt4 (List.mem_of_getElem? (i := 111) rfl), zpn_SixWalls_Cells.1, zpn_SixWalls_Cells.2, zds_2, by decide⟩, zt4 (List.mem_of_getElem? (i := 109) rfl), zt4 (List.mem_of_getElem? (i := 110) rfl)⟩
theorem okX0_isBody : zokV mX0_isBody 1 := ⟨⟨zini_SixWalls_Cells, zt4 (List.mem_of_getElem? (i := 129) rfl), zpn_SixWalls_Cells.1, zpn_SixWalls_Cells.2, zds_2, by decide⟩, zt4 (List.mem_of_getElem? (i := 127) rfl), zt4 (List.mem_of_getElem? (i := 128) rfl)⟩
theorem okX0_add : zokV mX0_add 1 := ⟨⟨zini_SixWalls_Cells, zt4 (List.mem_of_getElem? (i := 117) rfl), zpn_SixWalls_Cells.1, zpn_SixWalls_Cells.2, zds_3, by decide⟩, zt4 (List.mem_of_getElem? (i := 115) rfl), zt4 (List.mem_of_getElem? (i := 116) rfl)⟩
theorem okX0_kindOf : zokV mX0_kindOf 1 := ⟨⟨zini_SixWalls_Cells, zt4 (List.mem_of_getElem? (i := 235) rfl), zpn_SixWalls_Cells.1, zpn_SixWalls_Cells.2, zds_3, by decide⟩, zt4 (List.mem_of_getElem? (i := 233) rfl), zt4 (List.mem_of_getElem? (i := 234) rfl)⟩
theorem okX0_isUnder : zokV mX0_isUnder 2 := ⟨⟨zini_SixWalls_Cells, zt4 (List.mem_of_getElem? (i := 231) rfl), zpn_SixWalls_Cells.1, zpn_SixWalls_Cells.2, zds_4, by decide⟩, zt4 (List.mem_of_getElem? (i := 229) rfl), zt4 (List.mem_of_getElem? (i := 230) rfl)⟩
theorem okX0_ranAt : zokV mX0_ranAt 1 := ⟨⟨zini_SixWalls_Cells, zt4 (List.mem_of_getElem? (i := 151) rfl), zpn_SixWalls_Cells.1, zpn_SixWalls_Cells.2, zds_3, by decide⟩, zt4 (List.mem_of_getElem? (i := 149) rfl), zt4 (List.mem_of_getElem? (i := 150) rfl)⟩
theorem okX0_run : zokV mX0_run 3 := ⟨⟨zini_SixWalls_Cells, zt4 (List.mem_of_getElem? (i := 125) rfl), zpn_SixWalls_Cells.1, zpn_SixWalls_Cells.2, zds_5, by decide⟩, zt4 (List.mem_of_getElem? (i := 123) rfl), zt4 (List.mem_of_getElem? (i := 124) rfl)⟩
theorem okX0_own : zokV mX0_own 3 := ⟨⟨zini_SixWalls_Cells, zt4 (List.mem_of_getElem? (i := 143) rfl), zpn_SixWalls_Cells.1, zpn_SixWalls_Cells.2, zds_5, by decide⟩, zt4 (List.mem_of_getElem? (i := 142) rfl), zt0 (List.mem_of_getElem? (i := 28) rfl)⟩
theorem okX0_from : zokV mX0_from 4 := ⟨⟨zini_SixWalls_Cells, zt4 (List.mem_of_getElem? (i := 133) rfl), zpn_SixWalls_Cells.1, zpn_SixWalls_Cells.2, zds_6, by decide⟩, zt4 (List.mem_of_getElem? (i := 132) rfl), zt0 (List.mem_of_getElem? (i := 26) rfl)⟩
theorem okX0_perform : zokV mX0_perform 4 := ⟨⟨zini_SixWalls_Cells, zt4 (List.mem_of_getElem? (i := 139) rfl), zpn_SixWalls_Cells.1, zpn_SixWalls_Cells.2, zds_6, by decide⟩, zt4 (List.mem_of_getElem? (i := 138) rfl), zt0 (List.mem_of_getElem? (i := 27) rfl)⟩
theorem okX1_init : zokI mX1_init 0 := ⟨⟨zini_SixWalls_Comb, zt1 (List.mem_of_getElem? (i := 28) rfl), zpn_SixWalls_Comb.1, zpn_SixWalls_Comb.2, zds_0, by decide⟩, zt1 (List.mem_of_getElem? (i := 27) rfl), rfl, rfl⟩
theorem okX1_layWalls : zokV mX1_layWalls 0 := ⟨⟨zini_SixWalls_Comb, zt1 (List.mem_of_getElem? (i := 33) rfl), zpn_SixWalls_Comb.1, zpn_SixWalls_Comb.2, zds_0, by decide⟩, zt1 (List.mem_of_getElem? (i := 32) rfl), zt0 (List.mem_of_getElem? (i := 0) rfl)⟩
theorem okX1_addSide : zokV mX1_addSide 3 := ⟨⟨zini_SixWalls_Comb, zt1 (List.mem_of_getElem? (i := 43) rfl), zpn_SixWalls_Comb.1, zpn_SixWalls_Comb.2, zds_7, by decide⟩, zt1 (List.mem_of_getElem? (i := 42) rfl), zt0 (List.mem_of_getElem? (i := 1) rfl)⟩
theorem okX1_beside : zokS mX1_beside 2 := ⟨⟨zini_SixWalls_Comb, zt1 (List.mem_of_getElem? (i := 36) rfl), zpn_SixWalls_Comb.1, zpn_SixWalls_Comb.2, zds_4, by decide⟩, zt1 (List.mem_of_getElem? (i := 35) rfl)⟩
theorem okX1_wallBetween : zokV mX1_wallBetween 2 := ⟨⟨zini_SixWalls_Comb, zt2 (List.mem_of_getElem? (i := 134) rfl), zpn_SixWalls_Comb.1, zpn_SixWalls_Comb.2, zds_8, by decide⟩, zt2 (List.mem_of_getElem? (i := 132) rfl), zt2 (List.mem_of_getElem? (i := 133) rfl)⟩
theorem okX1_atEdge : zokV mX1_atEdge 1 := ⟨⟨zini_SixWalls_Comb, zt3 (List.mem_of_getElem? (i := 167) rfl), zpn_SixWalls_Comb.1, zpn_SixWalls_Comb.2, zds_2, by decide⟩, zt3 (List.mem_of_getElem? (i := 165) rfl), zt3 (List.mem_of_getElem? (i := 166) rfl)⟩
theorem okX1_load : zokV mX1_load 2 := ⟨⟨zini_SixWalls_Comb, zt2 (List.mem_of_getElem? (i := 177) rfl), zpn_SixWalls_Comb.1, zpn_SixWalls_Comb.2, zds_9, by decide⟩, zt2 (List.mem_of_getElem? (i := 175) rfl), zt2 (List.mem_of_getElem? (i := 176) rfl)⟩
theorem okX1_fits : zokV mX1_fits 3 := ⟨⟨zini_SixWalls_Comb, zt2 (List.mem_of_getElem? (i := 142) rfl), zpn_SixWalls_Comb.1, zpn_SixWalls_Comb.2, zds_10, by decide⟩, zt2 (List.mem_of_getElem? (i := 140) rfl), zt2 (List.mem_of_getElem? (i := 141) rfl)⟩
theorem okX1_told : zokV mX1_told 2 := ⟨⟨zini_SixWalls_Comb, zt2 (List.mem_of_getElem? (i := 151) rfl), zpn_SixWalls_Comb.1, zpn_SixWalls_Comb.2, zds_8, by decide⟩, zt2 (List.mem_of_getElem? (i := 149) rfl), zt2 (List.mem_of_getElem? (i := 150) rfl)⟩
theorem okX1_tell : zokV mX1_tell 3 := ⟨⟨zini_SixWalls_Comb, zt2 (List.mem_of_getElem? (i := 155) rfl), zpn_SixWalls_Comb.1, zpn_SixWalls_Comb.2, zds_7, by decide⟩, zt2 (List.mem_of_getElem? (i := 153) rfl), zt2 (List.mem_of_getElem? (i := 154) rfl)⟩
theorem okX2_init : zokI mX2_init 1 := ⟨⟨zini_SixWalls_Families, zt2 (List.mem_of_getElem? (i := 3) rfl), zpn_SixWalls_Families.1, zpn_SixWalls_Families.2, zds_11, by decide⟩, zt2 (List.mem_of_getElem? (i := 2) rfl), rfl, rfl⟩
theorem okX2_taker : zokV mX2_taker 1 := ⟨⟨zini_SixWalls_Families, zt4 (List.mem_of_getElem? (i := 37) rfl), zpn_SixWalls_Families.1, zpn_SixWalls_Families.2, zds_3, by decide⟩, zt4 (List.mem_of_getElem? (i := 35) rfl), zt4 (List.mem_of_getElem? (i := 36) rfl)⟩
theorem okX2_takeIn : zokV mX2_takeIn 2 := ⟨⟨zini_SixWalls_Families, zt4 (List.mem_of_getElem? (i := 41) rfl), zpn_SixWalls_Families.1, zpn_SixWalls_Families.2, zds_12, by decide⟩, zt4 (List.mem_of_getElem? (i := 39) rfl), zt4 (List.mem_of_getElem? (i := 40) rfl)⟩
theorem okX2_grow : zokV mX2_grow 2 := ⟨⟨zini_SixWalls_Families, zt4 (List.mem_of_getElem? (i := 54) rfl), zpn_SixWalls_Families.1, zpn_SixWalls_Families.2, zds_12, by decide⟩, zt4 (List.mem_of_getElem? (i := 52) rfl), zt4 (List.mem_of_getElem? (i := 53) rfl)⟩
theorem okX2_befall : zokV mX2_befall 2 := ⟨⟨zini_SixWalls_Families, zt4 (List.mem_of_getElem? (i := 59) rfl), zpn_SixWalls_Families.1, zpn_SixWalls_Families.2, zds_12, by decide⟩, zt4 (List.mem_of_getElem? (i := 58) rfl), zt0 (List.mem_of_getElem? (i := 23) rfl)⟩
theorem okX2_bear : zokV mX2_bear 1 := ⟨⟨zini_SixWalls_Families, zt4 (List.mem_of_getElem? (i := 63) rfl), zpn_SixWalls_Families.1, zpn_SixWalls_Families.2, zds_13, by decide⟩, zt4 (List.mem_of_getElem? (i := 62) rfl), zt0 (List.mem_of_getElem? (i := 24) rfl)⟩
theorem okX2_feud : zokV mX2_feud 1 := ⟨⟨zini_SixWalls_Families, zt4 (List.mem_of_getElem? (i := 67) rfl), zpn_SixWalls_Families.1, zpn_SixWalls_Families.2, zds_13, by decide⟩, zt4 (List.mem_of_getElem? (i := 66) rfl), zt0 (List.mem_of_getElem? (i := 25) rfl)⟩
theorem okX2_keepImage : zokV mX2_keepImage 0 := ⟨⟨zini_SixWalls_Families, zt4 (List.mem_of_getElem? (i := 77) rfl), zpn_SixWalls_Families.1, zpn_SixWalls_Families.2, zds_0, by decide⟩, zt4 (List.mem_of_getElem? (i := 75) rfl), zt4 (List.mem_of_getElem? (i := 76) rfl)⟩
theorem okX2_layBack : zokV mX2_layBack 0 := ⟨⟨zini_SixWalls_Families, zt4 (List.mem_of_getElem? (i := 86) rfl), zpn_SixWalls_Families.1, zpn_SixWalls_Families.2, zds_14, by decide⟩, zt4 (List.mem_of_getElem? (i := 84) rfl), zt4 (List.mem_of_getElem? (i := 85) rfl)⟩
theorem okX3_init : zokI mX3_init 1 := ⟨⟨zini_SixWalls_History, zt2 (List.mem_of_getElem? (i := 22) rfl), zpn_SixWalls_History.1, zpn_SixWalls_History.2, zds_11, by decide⟩, zt2 (List.mem_of_getElem? (i := 21) rfl), rfl, rfl⟩
theorem okX3_record : zokV mX3_record 4 := ⟨⟨zini_SixWalls_History, zt2 (List.mem_of_getElem? (i := 159) rfl), zpn_SixWalls_History.1, zpn_SixWalls_History.2, zds_15, by decide⟩, zt2 (List.mem_of_getElem? (i := 157) rfl), zt2 (List.mem_of_getElem? (i := 158) rfl)⟩
theorem okX3_dropOldest : zokS mX3_dropOldest 1 := ⟨⟨zini_SixWalls_History, zt2 (List.mem_of_getElem? (i := 162) rfl), zpn_SixWalls_History.1, zpn_SixWalls_History.2, zds_16, by decide⟩, zt2 (List.mem_of_getElem? (i := 161) rfl)⟩
theorem okX3_undoable : zokV mX3_undoable 0 := ⟨⟨zini_SixWalls_History, zt5 (List.mem_of_getElem? (i := 4) rfl), zpn_SixWalls_History.1, zpn_SixWalls_History.2, zds_1, by decide⟩, zt5 (List.mem_of_getElem? (i := 2) rfl), zt5 (List.mem_of_getElem? (i := 3) rfl)⟩
theorem okX3_takeBack : zokV mX3_takeBack 0 := ⟨⟨zini_SixWalls_History, zt4 (List.mem_of_getElem? (i := 94) rfl), zpn_SixWalls_History.1, zpn_SixWalls_History.2, zds_1, by decide⟩, zt4 (List.mem_of_getElem? (i := 92) rfl), zt4 (List.mem_of_getElem? (i := 93) rfl)⟩
theorem okX3_doAgain : zokV mX3_doAgain 0 := ⟨⟨zini_SixWalls_History, zt4 (List.mem_of_getElem? (i := 103) rfl), zpn_SixWalls_History.1, zpn_SixWalls_History.2, zds_1, by decide⟩, zt4 (List.mem_of_getElem? (i := 101) rfl), zt4 (List.mem_of_getElem? (i := 102) rfl)⟩
theorem okX4_init : zokI mX4_init 0 := ⟨⟨zini_SixWalls_LawText, zt1 (List.mem_of_getElem? (i := 134) rfl), zpn_SixWalls_LawText.1, zpn_SixWalls_LawText.2, zds_0, by decide⟩, zt1 (List.mem_of_getElem? (i := 133) rfl), rfl, rfl⟩
theorem okX4_take : zokV mX4_take 1 := ⟨⟨zini_SixWalls_LawText, zt3 (List.mem_of_getElem? (i := 6) rfl), zpn_SixWalls_LawText.1, zpn_SixWalls_LawText.2, zds_2, by decide⟩, zt3 (List.mem_of_getElem? (i := 4) rfl), zt3 (List.mem_of_getElem? (i := 5) rfl)⟩
theorem okX4_fed : zokV mX4_fed 0 := ⟨⟨zini_SixWalls_LawText, zt3 (List.mem_of_getElem? (i := 10) rfl), zpn_SixWalls_LawText.1, zpn_SixWalls_LawText.2, zds_1, by decide⟩, zt3 (List.mem_of_getElem? (i := 8) rfl), zt3 (List.mem_of_getElem? (i := 9) rfl)⟩
theorem okX4_isTold : zokV mX4_isTold 0 := ⟨⟨zini_SixWalls_LawText, zt2 (List.mem_of_getElem? (i := 196) rfl), zpn_SixWalls_LawText.1, zpn_SixWalls_LawText.2, zds_14, by decide⟩, zt2 (List.mem_of_getElem? (i := 194) rfl), zt2 (List.mem_of_getElem? (i := 195) rfl)⟩
theorem okX4_read : zokV mX4_read 0 := ⟨⟨zini_SixWalls_LawText, zt3 (List.mem_of_getElem? (i := 18) rfl), zpn_SixWalls_LawText.1, zpn_SixWalls_LawText.2, zds_1, by decide⟩, zt3 (List.mem_of_getElem? (i := 16) rfl), zt3 (List.mem_of_getElem? (i := 17) rfl)⟩
theorem okX4_peek : zokV mX4_peek 0 := ⟨⟨zini_SixWalls_LawText, zt3 (List.mem_of_getElem? (i := 34) rfl), zpn_SixWalls_LawText.1, zpn_SixWalls_LawText.2, zds_1, by decide⟩, zt3 (List.mem_of_getElem? (i := 33) rfl), zt0 (List.mem_of_getElem? (i := 7) rfl)⟩
theorem okX4_emit : zokV mX4_emit 2 := ⟨⟨zini_SixWalls_LawText, zt3 (List.mem_of_getElem? (i := 45) rfl), zpn_SixWalls_LawText.1, zpn_SixWalls_LawText.2, zds_8, by decide⟩, zt3 (List.mem_of_getElem? (i := 44) rfl), zt0 (List.mem_of_getElem? (i := 9) rfl)⟩
theorem okX4_readLine : zokV mX4_readLine 0 := ⟨⟨zini_SixWalls_LawText, zt3 (List.mem_of_getElem? (i := 22) rfl), zpn_SixWalls_LawText.1, zpn_SixWalls_LawText.2, zds_0, by decide⟩, zt3 (List.mem_of_getElem? (i := 21) rfl), zt0 (List.mem_of_getElem? (i := 4) rfl)⟩
theorem okX4_readLevel : zokV mX4_readLevel 2 := ⟨⟨zini_SixWalls_LawText, zt3 (List.mem_of_getElem? (i := 26) rfl), zpn_SixWalls_LawText.1, zpn_SixWalls_LawText.2, zds_12, by decide⟩, zt3 (List.mem_of_getElem? (i := 25) rfl), zt0 (List.mem_of_getElem? (i := 5) rfl)⟩
theorem okX4_levelOf : zokS mX4_levelOf 1 := ⟨⟨zini_SixWalls_LawText, zt2 (List.mem_of_getElem? (i := 210) rfl), zpn_SixWalls_LawText.1, zpn_SixWalls_LawText.2, zds_3, by decide⟩, zt2 (List.mem_of_getElem? (i := 209) rfl)⟩
theorem okX4_readOperand : zokV mX4_readOperand 1 := ⟨⟨zini_SixWalls_LawText, zt3 (List.mem_of_getElem? (i := 30) rfl), zpn_SixWalls_LawText.1, zpn_SixWalls_LawText.2, zds_13, by decide⟩, zt3 (List.mem_of_getElem? (i := 29) rfl), zt0 (List.mem_of_getElem? (i := 6) rfl)⟩
theorem okX4_isDigit : zokS mX4_isDigit 1 := ⟨⟨zini_SixWalls_LawText, zt3 (List.mem_of_getElem? (i := 37) rfl), zpn_SixWalls_LawText.1, zpn_SixWalls_LawText.2, zds_2, by decide⟩, zt3 (List.mem_of_getElem? (i := 36) rfl)⟩
theorem okX4_isName : zokS mX4_isName 1 := ⟨⟨zini_SixWalls_LawText, zt3 (List.mem_of_getElem? (i := 49) rfl), zpn_SixWalls_LawText.1, zpn_SixWalls_LawText.2, zds_2, by decide⟩, zt3 (List.mem_of_getElem? (i := 48) rfl)⟩
theorem okX4_readNumber : zokV mX4_readNumber 0 := ⟨⟨zini_SixWalls_LawText, zt3 (List.mem_of_getElem? (i := 41) rfl), zpn_SixWalls_LawText.1, zpn_SixWalls_LawText.2, zds_0, by decide⟩, zt3 (List.mem_of_getElem? (i := 40) rfl), zt0 (List.mem_of_getElem? (i := 8) rfl)⟩
theorem okX4_worth : zokV mX4_worth 5 := ⟨⟨zini_SixWalls_LawText, zt2 (List.mem_of_getElem? (i := 206) rfl), zpn_SixWalls_LawText.1, zpn_SixWalls_LawText.2, zds_17, by decide⟩, zt2 (List.mem_of_getElem? (i := 204) rfl), zt2 (List.mem_of_getElem? (i := 205) rfl)⟩
theorem okX4_named : zokS mX4_named 6 := ⟨⟨zini_SixWalls_LawText, zt2 (List.mem_of_getElem? (i := 216) rfl), zpn_SixWalls_LawText.1, zpn_SixWalls_LawText.2, zds_18, by decide⟩, zt2 (List.mem_of_getElem? (i := 215) rfl)⟩
theorem okX4_joined : zokS mX4_joined 3 := ⟨⟨zini_SixWalls_LawText, zt2 (List.mem_of_getElem? (i := 213) rfl), zpn_SixWalls_LawText.1, zpn_SixWalls_LawText.2, zds_5, by decide⟩, zt2 (List.mem_of_getElem? (i := 212) rfl)⟩
theorem okX5_init : zokI mX5_init 1 := ⟨⟨zini_SixWalls_Masonry, zt1 (List.mem_of_getElem? (i := 208) rfl), zpn_SixWalls_Masonry.1, zpn_SixWalls_Masonry.2, zds_11, by decide⟩, zt1 (List.mem_of_getElem? (i := 207) rfl), rfl, rfl⟩
theorem okX5_agreed : zokV mX5_agreed 2 := ⟨⟨zini_SixWalls_Masonry, zt2 (List.mem_of_getElem? (i := 187) rfl), zpn_SixWalls_Masonry.1, zpn_SixWalls_Masonry.2, zds_8, by decide⟩, zt2 (List.mem_of_getElem? (i := 185) rfl), zt2 (List.mem_of_getElem? (i := 186) rfl)⟩
theorem okX5_settle : zokV mX5_settle 0 := ⟨⟨zini_SixWalls_Masonry, zt3 (List.mem_of_getElem? (i := 125) rfl), zpn_SixWalls_Masonry.1, zpn_SixWalls_Masonry.2, zds_1, by decide⟩, zt3 (List.mem_of_getElem? (i := 123) rfl), zt3 (List.mem_of_getElem? (i := 124) rfl)⟩
theorem okX5_thickThen : zokV mX5_thickThen 1 := ⟨⟨zini_SixWalls_Masonry, zt3 (List.mem_of_getElem? (i := 139) rfl), zpn_SixWalls_Masonry.1, zpn_SixWalls_Masonry.2, zds_3, by decide⟩, zt3 (List.mem_of_getElem? (i := 137) rfl), zt3 (List.mem_of_getElem? (i := 138) rfl)⟩
theorem okX5_goRound : zokV mX5_goRound 0 := ⟨⟨zini_SixWalls_Masonry, zt3 (List.mem_of_getElem? (i := 131) rfl), zpn_SixWalls_Masonry.1, zpn_SixWalls_Masonry.2, zds_14, by decide⟩, zt3 (List.mem_of_getElem? (i := 130) rfl), zt0 (List.mem_of_getElem? (i := 13) rfl)⟩
theorem okX5_clashes : zokV mX5_clashes 0 := ⟨⟨zini_SixWalls_Masonry, zt3 (List.mem_of_getElem? (i := 230) rfl), zpn_SixWalls_Masonry.1, zpn_SixWalls_Masonry.2, zds_1, by decide⟩, zt3 (List.mem_of_getElem? (i := 228) rfl), zt3 (List.mem_of_getElem? (i := 229) rfl)⟩
theorem okX5_clashesOf : zokV mX5_clashesOf 1 := ⟨⟨zini_SixWalls_Masonry, zt3 (List.mem_of_getElem? (i := 234) rfl), zpn_SixWalls_Masonry.1, zpn_SixWalls_Masonry.2, zds_19, by decide⟩, zt3 (List.mem_of_getElem? (i := 233) rfl), zt0 (List.mem_of_getElem? (i := 20) rfl)⟩
theorem okX5_alike : zokV mX5_alike 3 := ⟨⟨zini_SixWalls_Masonry, zt3 (List.mem_of_getElem? (i := 238) rfl), zpn_SixWalls_Masonry.1, zpn_SixWalls_Masonry.2, zds_20, by decide⟩, zt3 (List.mem_of_getElem? (i := 237) rfl), zt0 (List.mem_of_getElem? (i := 21) rfl)⟩
theorem okX5_alikeIn : zokV mX5_alikeIn 4 := ⟨⟨zini_SixWalls_Masonry, zt4 (List.mem_of_getElem? (i := 2) rfl), zpn_SixWalls_Masonry.1, zpn_SixWalls_Masonry.2, zds_21, by decide⟩, zt4 (List.mem_of_getElem? (i := 1) rfl), zt0 (List.mem_of_getElem? (i := 22) rfl)⟩
theorem okX5_calmest : zokV mX5_calmest 2 := ⟨⟨zini_SixWalls_Masonry, zt4 (List.mem_of_getElem? (i := 10) rfl), zpn_SixWalls_Masonry.1, zpn_SixWalls_Masonry.2, zds_9, by decide⟩, zt4 (List.mem_of_getElem? (i := 8) rfl), zt4 (List.mem_of_getElem? (i := 9) rfl)⟩
theorem okX5_calmed : zokV mX5_calmed 0 := ⟨⟨zini_SixWalls_Masonry, zt4 (List.mem_of_getElem? (i := 6) rfl), zpn_SixWalls_Masonry.1, zpn_SixWalls_Masonry.2, zds_1, by decide⟩, zt4 (List.mem_of_getElem? (i := 4) rfl), zt4 (List.mem_of_getElem? (i := 5) rfl)⟩
theorem okX5_pots : zokV mX5_pots 0 := ⟨⟨zini_SixWalls_Masonry, zt4 (List.mem_of_getElem? (i := 14) rfl), zpn_SixWalls_Masonry.1, zpn_SixWalls_Masonry.2, zds_1, by decide⟩, zt4 (List.mem_of_getElem? (i := 12) rfl), zt4 (List.mem_of_getElem? (i := 13) rfl)⟩
theorem okX6_init : zokI mX6_init 0 := ⟨⟨zini_SixWalls_Shelves, zt2 (List.mem_of_getElem? (i := 72) rfl), zpn_SixWalls_Shelves.1, zpn_SixWalls_Shelves.2, zds_0, by decide⟩, zt2 (List.mem_of_getElem? (i := 71) rfl), rfl, rfl⟩
theorem okX6_isShelf : zokV mX6_isShelf 1 := ⟨⟨zini_SixWalls_Shelves, zt2 (List.mem_of_getElem? (i := 224) rfl), zpn_SixWalls_Shelves.1, zpn_SixWalls_Shelves.2, zds_2, by decide⟩, zt2 (List.mem_of_getElem? (i := 222) rfl), zt2 (List.mem_of_getElem? (i := 223) rfl)⟩
theorem okX6_isSort : zokV mX6_isSort 1 := ⟨⟨zini_SixWalls_Shelves, zt4 (List.mem_of_getElem? (i := 169) rfl), zpn_SixWalls_Shelves.1, zpn_SixWalls_Shelves.2, zds_2, by decide⟩, zt4 (List.mem_of_getElem? (i := 167) rfl), zt4 (List.mem_of_getElem? (i := 168) rfl)⟩
theorem okX6_isBare : zokV mX6_isBare 1 := ⟨⟨zini_SixWalls_Shelves, zt4 (List.mem_of_getElem? (i := 223) rfl), zpn_SixWalls_Shelves.1, zpn_SixWalls_Shelves.2, zds_2, by decide⟩, zt4 (List.mem_of_getElem? (i := 221) rfl), zt4 (List.mem_of_getElem? (i := 222) rfl)⟩
theorem okX6_mayBeBytes : zokV mX6_mayBeBytes 1 := ⟨⟨zini_SixWalls_Shelves, zt2 (List.mem_of_getElem? (i := 228) rfl), zpn_SixWalls_Shelves.1, zpn_SixWalls_Shelves.2, zds_2, by decide⟩, zt2 (List.mem_of_getElem? (i := 226) rfl), zt2 (List.mem_of_getElem? (i := 227) rfl)⟩
theorem okX6_cellOn : zokV mX6_cellOn 1 := ⟨⟨zini_SixWalls_Shelves, zt4 (List.mem_of_getElem? (i := 227) rfl), zpn_SixWalls_Shelves.1, zpn_SixWalls_Shelves.2, zds_3, by decide⟩, zt4 (List.mem_of_getElem? (i := 225) rfl), zt4 (List.mem_of_getElem? (i := 226) rfl)⟩
theorem okX6_hold : zokV mX6_hold 2 := ⟨⟨zini_SixWalls_Shelves, zt4 (List.mem_of_getElem? (i := 161) rfl), zpn_SixWalls_Shelves.1, zpn_SixWalls_Shelves.2, zds_12, by decide⟩, zt4 (List.mem_of_getElem? (i := 159) rfl), zt4 (List.mem_of_getElem? (i := 160) rfl)⟩
theorem okX6_lay : zokV mX6_lay 3 := ⟨⟨zini_SixWalls_Shelves, zt4 (List.mem_of_getElem? (i := 173) rfl), zpn_SixWalls_Shelves.1, zpn_SixWalls_Shelves.2, zds_7, by decide⟩, zt4 (List.mem_of_getElem? (i := 171) rfl), zt4 (List.mem_of_getElem? (i := 172) rfl)⟩
theorem okX6_hasPlace : zokV mX6_hasPlace 2 := ⟨⟨zini_SixWalls_Shelves, zt2 (List.mem_of_getElem? (i := 233) rfl), zpn_SixWalls_Shelves.1, zpn_SixWalls_Shelves.2, zds_4, by decide⟩, zt2 (List.mem_of_getElem? (i := 231) rfl), zt2 (List.mem_of_getElem? (i := 232) rfl)⟩
theorem okX6_hasStretch : zokV mX6_hasStretch 3 := ⟨⟨zini_SixWalls_Shelves, zt4 (List.mem_of_getElem? (i := 210) rfl), zpn_SixWalls_Shelves.1, zpn_SixWalls_Shelves.2, zds_10, by decide⟩, zt4 (List.mem_of_getElem? (i := 208) rfl), zt4 (List.mem_of_getElem? (i := 209) rfl)⟩
theorem okX6_refusalOfRow : zokV mX6_refusalOfRow 1 := ⟨⟨zini_SixWalls_Shelves, zt4 (List.mem_of_getElem? (i := 185) rfl), zpn_SixWalls_Shelves.1, zpn_SixWalls_Shelves.2, zds_3, by decide⟩, zt4 (List.mem_of_getElem? (i := 184) rfl), zt0 (List.mem_of_getElem? (i := 29) rfl)⟩
theorem okX6_refusal : zokV mX6_refusal 2 := ⟨⟨zini_SixWalls_Shelves, zt4 (List.mem_of_getElem? (i := 181) rfl), zpn_SixWalls_Shelves.1, zpn_SixWalls_Shelves.2, zds_8, by decide⟩, zt4 (List.mem_of_getElem? (i := 179) rfl), zt4 (List.mem_of_getElem? (i := 180) rfl)⟩
theorem okX6_refusalOfTwo : zokV mX6_refusalOfTwo 2 := ⟨⟨zini_SixWalls_Shelves, zt4 (List.mem_of_getElem? (i := 206) rfl), zpn_SixWalls_Shelves.1, zpn_SixWalls_Shelves.2, zds_8, by decide⟩, zt4 (List.mem_of_getElem? (i := 204) rfl), zt4 (List.mem_of_getElem? (i := 205) rfl)⟩
theorem okX6_at : zokV mX6_at 2 := ⟨⟨zini_SixWalls_Shelves, zt2 (List.mem_of_getElem? (i := 237) rfl), zpn_SixWalls_Shelves.1, zpn_SixWalls_Shelves.2, zds_22, by decide⟩, zt2 (List.mem_of_getElem? (i := 235) rfl), zt2 (List.mem_of_getElem? (i := 236) rfl)⟩
theorem okX6_set : zokV mX6_set 3 := ⟨⟨zini_SixWalls_Shelves, zt4 (List.mem_of_getElem? (i := 191) rfl), zpn_SixWalls_Shelves.1, zpn_SixWalls_Shelves.2, zds_23, by decide⟩, zt4 (List.mem_of_getElem? (i := 189) rfl), zt4 (List.mem_of_getElem? (i := 190) rfl)⟩
theorem okX6_move : zokV mX6_move 5 := ⟨⟨zini_SixWalls_Shelves, zt4 (List.mem_of_getElem? (i := 214) rfl), zpn_SixWalls_Shelves.1, zpn_SixWalls_Shelves.2, zds_24, by decide⟩, zt4 (List.mem_of_getElem? (i := 212) rfl), zt4 (List.mem_of_getElem? (i := 213) rfl)⟩
theorem okX6_narrowed : zokS mX6_narrowed 2 := ⟨⟨zini_SixWalls_Shelves, zt4 (List.mem_of_getElem? (i := 194) rfl), zpn_SixWalls_Shelves.1, zpn_SixWalls_Shelves.2, zds_25, by decide⟩, zt4 (List.mem_of_getElem? (i := 193) rfl)⟩
theorem okX7_init : zokI mX7_init 1 := ⟨⟨zini_SixWalls_Ways, zt1 (List.mem_of_getElem? (i := 227) rfl), zpn_SixWalls_Ways.1, zpn_SixWalls_Ways.2, zds_11, by decide⟩, zt1 (List.mem_of_getElem? (i := 226) rfl), rfl, rfl⟩
theorem okX7_steps : zokV mX7_steps 2 := ⟨⟨zini_SixWalls_Ways, zt3 (List.mem_of_getElem? (i := 147) rfl), zpn_SixWalls_Ways.1, zpn_SixWalls_Ways.2, zds_8, by decide⟩, zt3 (List.mem_of_getElem? (i := 145) rfl), zt3 (List.mem_of_getElem? (i := 146) rfl)⟩
theorem okX7_besides : zokV mX7_besides 1 := ⟨⟨zini_SixWalls_Ways, zt3 (List.mem_of_getElem? (i := 151) rfl), zpn_SixWalls_Ways.1, zpn_SixWalls_Ways.2, zds_3, by decide⟩, zt3 (List.mem_of_getElem? (i := 150) rfl), zt0 (List.mem_of_getElem? (i := 14) rfl)⟩
theorem okX7_gather : zokV mX7_gather 0 := ⟨⟨zini_SixWalls_Ways, zt3 (List.mem_of_getElem? (i := 163) rfl), zpn_SixWalls_Ways.1, zpn_SixWalls_Ways.2, zds_0, by decide⟩, zt3 (List.mem_of_getElem? (i := 162) rfl), zt0 (List.mem_of_getElem? (i := 15) rfl)⟩
theorem okX7_join : zokV mX7_join 2 := ⟨⟨zini_SixWalls_Ways, zt3 (List.mem_of_getElem? (i := 171) rfl), zpn_SixWalls_Ways.1, zpn_SixWalls_Ways.2, zds_12, by decide⟩, zt3 (List.mem_of_getElem? (i := 170) rfl), zt0 (List.mem_of_getElem? (i := 16) rfl)⟩
theorem okX7_shutIn : zokV mX7_shutIn 0 := ⟨⟨zini_SixWalls_Ways, zt3 (List.mem_of_getElem? (i := 159) rfl), zpn_SixWalls_Ways.1, zpn_SixWalls_Ways.2, zds_1, by decide⟩, zt3 (List.mem_of_getElem? (i := 157) rfl), zt3 (List.mem_of_getElem? (i := 158) rfl)⟩
theorem okX7_friends : zokV mX7_friends 0 := ⟨⟨zini_SixWalls_Ways, zt3 (List.mem_of_getElem? (i := 176) rfl), zpn_SixWalls_Ways.1, zpn_SixWalls_Ways.2, zds_1, by decide⟩, zt3 (List.mem_of_getElem? (i := 174) rfl), zt3 (List.mem_of_getElem? (i := 175) rfl)⟩
theorem okX7_fewestMore : zokV mX7_fewestMore 0 := ⟨⟨zini_SixWalls_Ways, zt3 (List.mem_of_getElem? (i := 185) rfl), zpn_SixWalls_Ways.1, zpn_SixWalls_Ways.2, zds_26, by decide⟩, zt3 (List.mem_of_getElem? (i := 183) rfl), zt3 (List.mem_of_getElem? (i := 184) rfl)⟩
theorem okX7_listen : zokV mX7_listen 1 := ⟨⟨zini_SixWalls_Ways, zt3 (List.mem_of_getElem? (i := 204) rfl), zpn_SixWalls_Ways.1, zpn_SixWalls_Ways.2, zds_13, by decide⟩, zt3 (List.mem_of_getElem? (i := 203) rfl), zt0 (List.mem_of_getElem? (i := 17) rfl)⟩
theorem okX7_pass : zokV mX7_pass 3 := ⟨⟨zini_SixWalls_Ways, zt3 (List.mem_of_getElem? (i := 209) rfl), zpn_SixWalls_Ways.1, zpn_SixWalls_Ways.2, zds_10, by decide⟩, zt3 (List.mem_of_getElem? (i := 208) rfl), zt0 (List.mem_of_getElem? (i := 18) rfl)⟩
theorem okX7_loudness : zokV mX7_loudness 3 := ⟨⟨zini_SixWalls_Ways, zt3 (List.mem_of_getElem? (i := 200) rfl), zpn_SixWalls_Ways.1, zpn_SixWalls_Ways.2, zds_5, by decide⟩, zt3 (List.mem_of_getElem? (i := 198) rfl), zt3 (List.mem_of_getElem? (i := 199) rfl)⟩
theorem okX7_sources : zokV mX7_sources 2 := ⟨⟨zini_SixWalls_Ways, zt3 (List.mem_of_getElem? (i := 218) rfl), zpn_SixWalls_Ways.1, zpn_SixWalls_Ways.2, zds_8, by decide⟩, zt3 (List.mem_of_getElem? (i := 216) rfl), zt3 (List.mem_of_getElem? (i := 217) rfl)⟩
theorem okX7_hearers : zokV mX7_hearers 2 := ⟨⟨zini_SixWalls_Ways, zt3 (List.mem_of_getElem? (i := 222) rfl), zpn_SixWalls_Ways.1, zpn_SixWalls_Ways.2, zds_8, by decide⟩, zt3 (List.mem_of_getElem? (i := 221) rfl), zt0 (List.mem_of_getElem? (i := 19) rfl)⟩
theorem okX8_init : zokI mX8_init 2 := ⟨⟨zini_SixWalls_Winter, zt1 (List.mem_of_getElem? (i := 174) rfl), zpn_SixWalls_Winter.1, zpn_SixWalls_Winter.2, zds_27, by decide⟩, zt1 (List.mem_of_getElem? (i := 173) rfl), rfl, rfl⟩
theorem okX8_flow : zokV mX8_flow 2 := ⟨⟨zini_SixWalls_Winter, zt2 (List.mem_of_getElem? (i := 191) rfl), zpn_SixWalls_Winter.1, zpn_SixWalls_Winter.2, zds_9, by decide⟩, zt2 (List.mem_of_getElem? (i := 189) rfl), zt2 (List.mem_of_getElem? (i := 190) rfl)⟩
theorem okX8_begin : zokV mX8_begin 0 := ⟨⟨zini_SixWalls_Winter, zt3 (List.mem_of_getElem? (i := 64) rfl), zpn_SixWalls_Winter.1, zpn_SixWalls_Winter.2, zds_0, by decide⟩, zt3 (List.mem_of_getElem? (i := 63) rfl), zt0 (List.mem_of_getElem? (i := 10) rfl)⟩
theorem okX8_pass : zokV mX8_pass 0 := ⟨⟨zini_SixWalls_Winter, zt3 (List.mem_of_getElem? (i := 73) rfl), zpn_SixWalls_Winter.1, zpn_SixWalls_Winter.2, zds_14, by decide⟩, zt3 (List.mem_of_getElem? (i := 72) rfl), zt0 (List.mem_of_getElem? (i := 12) rfl)⟩
theorem okX8_passAll : zokV mX8_passAll 1 := ⟨⟨zini_SixWalls_Winter, zt3 (List.mem_of_getElem? (i := 69) rfl), zpn_SixWalls_Winter.1, zpn_SixWalls_Winter.2, zds_13, by decide⟩, zt3 (List.mem_of_getElem? (i := 68) rfl), zt0 (List.mem_of_getElem? (i := 11) rfl)⟩
theorem okX8_think : zokV mX8_think 1 := ⟨⟨zini_SixWalls_Winter, zt3 (List.mem_of_getElem? (i := 60) rfl), zpn_SixWalls_Winter.1, zpn_SixWalls_Winter.2, zds_13, by decide⟩, zt3 (List.mem_of_getElem? (i := 58) rfl), zt3 (List.mem_of_getElem? (i := 59) rfl)⟩
theorem okX8_daysTillStill : zokV mX8_daysTillStill 0 := ⟨⟨zini_SixWalls_Winter, zt3 (List.mem_of_getElem? (i := 89) rfl), zpn_SixWalls_Winter.1, zpn_SixWalls_Winter.2, zds_1, by decide⟩, zt3 (List.mem_of_getElem? (i := 87) rfl), zt3 (List.mem_of_getElem? (i := 88) rfl)⟩
theorem okX8_goneThrough : zokV mX8_goneThrough 2 := ⟨⟨zini_SixWalls_Winter, zt3 (List.mem_of_getElem? (i := 97) rfl), zpn_SixWalls_Winter.1, zpn_SixWalls_Winter.2, zds_8, by decide⟩, zt3 (List.mem_of_getElem? (i := 95) rfl), zt3 (List.mem_of_getElem? (i := 96) rfl)⟩
theorem okX8_fireFor : zokV mX8_fireFor 3 := ⟨⟨zini_SixWalls_Winter, zt3 (List.mem_of_getElem? (i := 105) rfl), zpn_SixWalls_Winter.1, zpn_SixWalls_Winter.2, zds_5, by decide⟩, zt3 (List.mem_of_getElem? (i := 103) rfl), zt3 (List.mem_of_getElem? (i := 104) rfl)⟩
theorem okX8_live : zokV mX8_live 1 := ⟨⟨zini_SixWalls_Winter, zt3 (List.mem_of_getElem? (i := 113) rfl), zpn_SixWalls_Winter.1, zpn_SixWalls_Winter.2, zds_13, by decide⟩, zt3 (List.mem_of_getElem? (i := 111) rfl), zt3 (List.mem_of_getElem? (i := 112) rfl)⟩
theorem okX9_init : zokI mX9_init 0 := ⟨⟨zini_SixWalls, zt1 (List.mem_of_getElem? (i := 20) rfl), zpn_SixWalls.1, zpn_SixWalls.2, zds_0, by decide⟩, zt1 (List.mem_of_getElem? (i := 19) rfl), rfl, rfl⟩
theorem okX9_within : zokS mX9_within 3 := ⟨⟨zini_SixWalls, zt2 (List.mem_of_getElem? (i := 130) rfl), zpn_SixWalls.1, zpn_SixWalls.2, zds_10, by decide⟩, zt2 (List.mem_of_getElem? (i := 129) rfl)⟩
theorem okX9_isHouse : zokS mX9_isHouse 1 := ⟨⟨zini_SixWalls, zt2 (List.mem_of_getElem? (i := 127) rfl), zpn_SixWalls.1, zpn_SixWalls.2, zds_2, by decide⟩, zt2 (List.mem_of_getElem? (i := 126) rfl)⟩
theorem okX9_isWall : zokS mX9_isWall 1 := ⟨⟨zini_SixWalls, zt2 (List.mem_of_getElem? (i := 147) rfl), zpn_SixWalls.1, zpn_SixWalls.2, zds_2, by decide⟩, zt2 (List.mem_of_getElem? (i := 146) rfl)⟩
theorem okX9_isThought : zokS mX9_isThought 1 := ⟨⟨zini_SixWalls, zt3 (List.mem_of_getElem? (i := 56) rfl), zpn_SixWalls.1, zpn_SixWalls.2, zds_2, by decide⟩, zt3 (List.mem_of_getElem? (i := 55) rfl)⟩
theorem okX9_isPair : zokS mX9_isPair 1 := ⟨⟨zini_SixWalls, zt2 (List.mem_of_getElem? (i := 124) rfl), zpn_SixWalls.1, zpn_SixWalls.2, zds_2, by decide⟩, zt2 (List.mem_of_getElem? (i := 123) rfl)⟩
theorem okX9_sum : zokS mX9_sum 1 := ⟨⟨zini_SixWalls, zt3 (List.mem_of_getElem? (i := 77) rfl), zpn_SixWalls.1, zpn_SixWalls.2, zds_19, by decide⟩, zt3 (List.mem_of_getElem? (i := 76) rfl)⟩
theorem okX9_wall : zokV mX9_wall 1 := ⟨⟨zini_SixWalls, zt2 (List.mem_of_getElem? (i := 121) rfl), zpn_SixWalls.1, zpn_SixWalls.2, zds_3, by decide⟩, zt2 (List.mem_of_getElem? (i := 119) rfl), zt2 (List.mem_of_getElem? (i := 120) rfl)⟩
theorem okX9_mend : zokV mX9_mend 3 := ⟨⟨zini_SixWalls, zt2 (List.mem_of_getElem? (i := 138) rfl), zpn_SixWalls.1, zpn_SixWalls.2, zds_5, by decide⟩, zt2 (List.mem_of_getElem? (i := 136) rfl), zt2 (List.mem_of_getElem? (i := 137) rfl)⟩
theorem okX9_of : zokV mX9_of 2 := ⟨⟨zini_SixWalls, zt2 (List.mem_of_getElem? (i := 169) rfl), zpn_SixWalls.1, zpn_SixWalls.2, zds_8, by decide⟩, zt2 (List.mem_of_getElem? (i := 167) rfl), zt2 (List.mem_of_getElem? (i := 168) rfl)⟩
theorem okX9_ofHouse : zokV mX9_ofHouse 2 := ⟨⟨zini_SixWalls, zt2 (List.mem_of_getElem? (i := 173) rfl), zpn_SixWalls.1, zpn_SixWalls.2, zds_8, by decide⟩, zt2 (List.mem_of_getElem? (i := 172) rfl), zt0 (List.mem_of_getElem? (i := 2) rfl)⟩
theorem okX9_ofWall : zokV mX9_ofWall 2 := ⟨⟨zini_SixWalls, zt2 (List.mem_of_getElem? (i := 183) rfl), zpn_SixWalls.1, zpn_SixWalls.2, zds_8, by decide⟩, zt2 (List.mem_of_getElem? (i := 182) rfl), zt0 (List.mem_of_getElem? (i := 3) rfl)⟩
theorem okX9_fires : zokV mX9_fires 3 := ⟨⟨zini_SixWalls, zt2 (List.mem_of_getElem? (i := 220) rfl), zpn_SixWalls.1, zpn_SixWalls.2, zds_5, by decide⟩, zt2 (List.mem_of_getElem? (i := 218) rfl), zt2 (List.mem_of_getElem? (i := 219) rfl)⟩
theorem okX9_feed : zokV mX9_feed 1 := ⟨⟨zini_SixWalls, zt3 (List.mem_of_getElem? (i := 2) rfl), zpn_SixWalls.1, zpn_SixWalls.2, zds_3, by decide⟩, zt3 (List.mem_of_getElem? (i := 0) rfl), zt3 (List.mem_of_getElem? (i := 1) rfl)⟩
theorem okX9_law : zokV mX9_law 0 := ⟨⟨zini_SixWalls, zt3 (List.mem_of_getElem? (i := 14) rfl), zpn_SixWalls.1, zpn_SixWalls.2, zds_1, by decide⟩, zt3 (List.mem_of_getElem? (i := 12) rfl), zt3 (List.mem_of_getElem? (i := 13) rfl)⟩
theorem okX9_warmth : zokV mX9_warmth 2 := ⟨⟨zini_SixWalls, zt3 (List.mem_of_getElem? (i := 53) rfl), zpn_SixWalls.1, zpn_SixWalls.2, zds_8, by decide⟩, zt3 (List.mem_of_getElem? (i := 51) rfl), zt3 (List.mem_of_getElem? (i := 52) rfl)⟩
theorem okX9_cold : zokV mX9_cold 2 := ⟨⟨zini_SixWalls, zt3 (List.mem_of_getElem? (i := 81) rfl), zpn_SixWalls.1, zpn_SixWalls.2, zds_8, by decide⟩, zt3 (List.mem_of_getElem? (i := 79) rfl), zt3 (List.mem_of_getElem? (i := 80) rfl)⟩
theorem okX9_still : zokV mX9_still 0 := ⟨⟨zini_SixWalls, zt3 (List.mem_of_getElem? (i := 85) rfl), zpn_SixWalls.1, zpn_SixWalls.2, zds_1, by decide⟩, zt3 (List.mem_of_getElem? (i := 83) rfl), zt3 (List.mem_of_getElem? (i := 84) rfl)⟩
theorem okX9_gave : zokV mX9_gave 2 := ⟨⟨zini_SixWalls, zt3 (List.mem_of_getElem? (i := 93) rfl), zpn_SixWalls.1, zpn_SixWalls.2, zds_8, by decide⟩, zt3 (List.mem_of_getElem? (i := 91) rfl), zt3 (List.mem_of_getElem? (i := 92) rfl)⟩
theorem okX9_leastFire : zokV mX9_leastFire 2 := ⟨⟨zini_SixWalls, zt3 (List.mem_of_getElem? (i := 101) rfl), zpn_SixWalls.1, zpn_SixWalls.2, zds_8, by decide⟩, zt3 (List.mem_of_getElem? (i := 99) rfl), zt3 (List.mem_of_getElem? (i := 100) rfl)⟩
theorem okX9_days : zokV mX9_days 1 := ⟨⟨zini_SixWalls, zt3 (List.mem_of_getElem? (i := 109) rfl), zpn_SixWalls.1, zpn_SixWalls.2, zds_3, by decide⟩, zt3 (List.mem_of_getElem? (i := 107) rfl), zt3 (List.mem_of_getElem? (i := 108) rfl)⟩
theorem okX9_led : zokV mX9_led 1 := ⟨⟨zini_SixWalls, zt3 (List.mem_of_getElem? (i := 117) rfl), zpn_SixWalls.1, zpn_SixWalls.2, zds_3, by decide⟩, zt3 (List.mem_of_getElem? (i := 115) rfl), zt3 (List.mem_of_getElem? (i := 116) rfl)⟩
theorem okX9_rounds : zokV mX9_rounds 1 := ⟨⟨zini_SixWalls, zt3 (List.mem_of_getElem? (i := 121) rfl), zpn_SixWalls.1, zpn_SixWalls.2, zds_3, by decide⟩, zt3 (List.mem_of_getElem? (i := 119) rfl), zt3 (List.mem_of_getElem? (i := 120) rfl)⟩
theorem okX9_way : zokV mX9_way 1 := ⟨⟨zini_SixWalls, zt3 (List.mem_of_getElem? (i := 143) rfl), zpn_SixWalls.1, zpn_SixWalls.2, zds_3, by decide⟩, zt3 (List.mem_of_getElem? (i := 141) rfl), zt3 (List.mem_of_getElem? (i := 142) rfl)⟩
theorem okX9_doors : zokV mX9_doors 1 := ⟨⟨zini_SixWalls, zt3 (List.mem_of_getElem? (i := 155) rfl), zpn_SixWalls.1, zpn_SixWalls.2, zds_3, by decide⟩, zt3 (List.mem_of_getElem? (i := 153) rfl), zt3 (List.mem_of_getElem? (i := 154) rfl)⟩
theorem okX9_opened : zokV mX9_opened 1 := ⟨⟨zini_SixWalls, zt3 (List.mem_of_getElem? (i := 180) rfl), zpn_SixWalls.1, zpn_SixWalls.2, zds_28, by decide⟩, zt3 (List.mem_of_getElem? (i := 178) rfl), zt3 (List.mem_of_getElem? (i := 179) rfl)⟩
theorem okX9_heard : zokV mX9_heard 2 := ⟨⟨zini_SixWalls, zt3 (List.mem_of_getElem? (i := 196) rfl), zpn_SixWalls.1, zpn_SixWalls.2, zds_8, by decide⟩, zt3 (List.mem_of_getElem? (i := 194) rfl), zt3 (List.mem_of_getElem? (i := 195) rfl)⟩
theorem okX9_whose : zokV mX9_whose 2 := ⟨⟨zini_SixWalls, zt3 (List.mem_of_getElem? (i := 213) rfl), zpn_SixWalls.1, zpn_SixWalls.2, zds_8, by decide⟩, zt3 (List.mem_of_getElem? (i := 211) rfl), zt3 (List.mem_of_getElem? (i := 212) rfl)⟩
theorem okX9_colours : zokV mX9_colours 1 := ⟨⟨zini_SixWalls, zt3 (List.mem_of_getElem? (i := 226) rfl), zpn_SixWalls.1, zpn_SixWalls.2, zds_3, by decide⟩, zt3 (List.mem_of_getElem? (i := 224) rfl), zt3 (List.mem_of_getElem? (i := 225) rfl)⟩
theorem okX9_paint : zokV mX9_paint 1 := ⟨⟨zini_SixWalls, zt4 (List.mem_of_getElem? (i := 24) rfl), zpn_SixWalls.1, zpn_SixWalls.2, zds_3, by decide⟩, zt4 (List.mem_of_getElem? (i := 22) rfl), zt4 (List.mem_of_getElem? (i := 23) rfl)⟩
theorem okX9_empty : zokV mX9_empty 1 := ⟨⟨zini_SixWalls, zt4 (List.mem_of_getElem? (i := 29) rfl), zpn_SixWalls.1, zpn_SixWalls.2, zds_3, by decide⟩, zt4 (List.mem_of_getElem? (i := 27) rfl), zt4 (List.mem_of_getElem? (i := 28) rfl)⟩
theorem okX9_takes : zokV mX9_takes 2 := ⟨⟨zini_SixWalls, zt4 (List.mem_of_getElem? (i := 33) rfl), zpn_SixWalls.1, zpn_SixWalls.2, zds_8, by decide⟩, zt4 (List.mem_of_getElem? (i := 31) rfl), zt4 (List.mem_of_getElem? (i := 32) rfl)⟩
theorem okX9_where : zokV mX9_where 1 := ⟨⟨zini_SixWalls, zt4 (List.mem_of_getElem? (i := 46) rfl), zpn_SixWalls.1, zpn_SixWalls.2, zds_3, by decide⟩, zt4 (List.mem_of_getElem? (i := 44) rfl), zt4 (List.mem_of_getElem? (i := 45) rfl)⟩
theorem okX9_years : zokV mX9_years 2 := ⟨⟨zini_SixWalls, zt4 (List.mem_of_getElem? (i := 50) rfl), zpn_SixWalls.1, zpn_SixWalls.2, zds_8, by decide⟩, zt4 (List.mem_of_getElem? (i := 48) rfl), zt4 (List.mem_of_getElem? (i := 49) rfl)⟩
theorem okX9_image : zokV mX9_image 0 := ⟨⟨zini_SixWalls, zt4 (List.mem_of_getElem? (i := 73) rfl), zpn_SixWalls.1, zpn_SixWalls.2, zds_1, by decide⟩, zt4 (List.mem_of_getElem? (i := 71) rfl), zt4 (List.mem_of_getElem? (i := 72) rfl)⟩
theorem okX9_back : zokV mX9_back 0 := ⟨⟨zini_SixWalls, zt4 (List.mem_of_getElem? (i := 82) rfl), zpn_SixWalls.1, zpn_SixWalls.2, zds_1, by decide⟩, zt4 (List.mem_of_getElem? (i := 80) rfl), zt4 (List.mem_of_getElem? (i := 81) rfl)⟩
theorem okX9_undo : zokV mX9_undo 0 := ⟨⟨zini_SixWalls, zt4 (List.mem_of_getElem? (i := 90) rfl), zpn_SixWalls.1, zpn_SixWalls.2, zds_1, by decide⟩, zt4 (List.mem_of_getElem? (i := 88) rfl), zt4 (List.mem_of_getElem? (i := 89) rfl)⟩
theorem okX9_redo : zokV mX9_redo 0 := ⟨⟨zini_SixWalls, zt4 (List.mem_of_getElem? (i := 99) rfl), zpn_SixWalls.1, zpn_SixWalls.2, zds_1, by decide⟩, zt4 (List.mem_of_getElem? (i := 97) rfl), zt4 (List.mem_of_getElem? (i := 98) rfl)⟩
theorem okX9_body : zokV mX9_body 1 := ⟨⟨zini_SixWalls, zt4 (List.mem_of_getElem? (i := 107) rfl), zpn_SixWalls.1, zpn_SixWalls.2, zds_3, by decide⟩, zt4 (List.mem_of_getElem? (i := 105) rfl), zt4 (List.mem_of_getElem? (i := 106) rfl)⟩
theorem okX9_act : zokV mX9_act 3 := ⟨⟨zini_SixWalls, zt4 (List.mem_of_getElem? (i := 121) rfl), zpn_SixWalls.1, zpn_SixWalls.2, zds_5, by decide⟩, zt4 (List.mem_of_getElem? (i := 119) rfl), zt4 (List.mem_of_getElem? (i := 120) rfl)⟩
theorem okX9_trace : zokV mX9_trace 1 := ⟨⟨zini_SixWalls, zt4 (List.mem_of_getElem? (i := 147) rfl), zpn_SixWalls.1, zpn_SixWalls.2, zds_3, by decide⟩, zt4 (List.mem_of_getElem? (i := 145) rfl), zt4 (List.mem_of_getElem? (i := 146) rfl)⟩
theorem okX9_keep : zokV mX9_keep 2 := ⟨⟨zini_SixWalls, zt4 (List.mem_of_getElem? (i := 156) rfl), zpn_SixWalls.1, zpn_SixWalls.2, zds_8, by decide⟩, zt4 (List.mem_of_getElem? (i := 154) rfl), zt4 (List.mem_of_getElem? (i := 155) rfl)⟩
theorem okX9_row : zokV mX9_row 3 := ⟨⟨zini_SixWalls, zt4 (List.mem_of_getElem? (i := 165) rfl), zpn_SixWalls.1, zpn_SixWalls.2, zds_5, by decide⟩, zt4 (List.mem_of_getElem? (i := 163) rfl), zt4 (List.mem_of_getElem? (i := 164) rfl)⟩
theorem okX9_put : zokV mX9_put 3 := ⟨⟨zini_SixWalls, zt4 (List.mem_of_getElem? (i := 177) rfl), zpn_SixWalls.1, zpn_SixWalls.2, zds_29, by decide⟩, zt4 (List.mem_of_getElem? (i := 175) rfl), zt4 (List.mem_of_getElem? (i := 176) rfl)⟩
theorem okX9_element : zokV mX9_element 2 := ⟨⟨zini_SixWalls, zt4 (List.mem_of_getElem? (i := 198) rfl), zpn_SixWalls.1, zpn_SixWalls.2, zds_22, by decide⟩, zt4 (List.mem_of_getElem? (i := 196) rfl), zt4 (List.mem_of_getElem? (i := 197) rfl)⟩
theorem okX9_shift : zokV mX9_shift 5 := ⟨⟨zini_SixWalls, zt4 (List.mem_of_getElem? (i := 202) rfl), zpn_SixWalls.1, zpn_SixWalls.2, zds_17, by decide⟩, zt4 (List.mem_of_getElem? (i := 200) rfl), zt4 (List.mem_of_getElem? (i := 201) rfl)⟩
theorem okX9_taken : zokV mX9_taken 2 := ⟨⟨zini_SixWalls, zt4 (List.mem_of_getElem? (i := 219) rfl), zpn_SixWalls.1, zpn_SixWalls.2, zds_8, by decide⟩, zt4 (List.mem_of_getElem? (i := 217) rfl), zt4 (List.mem_of_getElem? (i := 218) rfl)⟩
theorem okX9_count : zokV mX9_count 1 := ⟨⟨zini_SixWalls, zt5 (List.mem_of_getElem? (i := 0) rfl), zpn_SixWalls.1, zpn_SixWalls.2, zds_3, by decide⟩, zt4 (List.mem_of_getElem? (i := 238) rfl), zt4 (List.mem_of_getElem? (i := 239) rfl)⟩
theorem okX10_within : zokS mX10_within 3 := ⟨⟨zini_SixWallsModel, zt5 (List.mem_of_getElem? (i := 177) rfl), zpn_SixWallsModel.1, zpn_SixWallsModel.2, zds_30, by decide⟩, zt5 (List.mem_of_getElem? (i := 176) rfl)⟩
theorem okX10_isIn : zokS mX10_isIn 2 := ⟨⟨zini_SixWallsModel, zt6 (List.mem_of_getElem? (i := 138) rfl), zpn_SixWallsModel.1, zpn_SixWallsModel.2, zds_31, by decide⟩, zt6 (List.mem_of_getElem? (i := 137) rfl)⟩
theorem okX10_init : zokI mX10_init 0 := ⟨⟨zini_SixWallsModel, zt5 (List.mem_of_getElem? (i := 17) rfl), zpn_SixWallsModel.1, zpn_SixWallsModel.2, zds_0, by decide⟩, zt5 (List.mem_of_getElem? (i := 16) rfl), rfl, rfl⟩
theorem okX10_becomes : zokV mX10_becomes 2 := ⟨⟨zini_SixWallsModel, zt5 (List.mem_of_getElem? (i := 190) rfl), zpn_SixWallsModel.1, zpn_SixWallsModel.2, zds_8, by decide⟩, zt5 (List.mem_of_getElem? (i := 189) rfl), zt0 (List.mem_of_getElem? (i := 31) rfl)⟩
theorem okX10_undo : zokV mX10_undo 0 := ⟨⟨zini_SixWallsModel, zt5 (List.mem_of_getElem? (i := 159) rfl), zpn_SixWallsModel.1, zpn_SixWallsModel.2, zds_1, by decide⟩, zt5 (List.mem_of_getElem? (i := 157) rfl), zt5 (List.mem_of_getElem? (i := 158) rfl)⟩
theorem okX10_redo : zokV mX10_redo 0 := ⟨⟨zini_SixWallsModel, zt5 (List.mem_of_getElem? (i := 163) rfl), zpn_SixWallsModel.1, zpn_SixWallsModel.2, zds_1, by decide⟩, zt5 (List.mem_of_getElem? (i := 161) rfl), zt5 (List.mem_of_getElem? (i := 162) rfl)⟩
theorem okX10_isHouse : zokS mX10_isHouse 1 := ⟨⟨zini_SixWallsModel, zt5 (List.mem_of_getElem? (i := 173) rfl), zpn_SixWallsModel.1, zpn_SixWallsModel.2, zds_2, by decide⟩, zt5 (List.mem_of_getElem? (i := 172) rfl)⟩
theorem okX10_isWall : zokS mX10_isWall 1 := ⟨⟨zini_SixWallsModel, zt5 (List.mem_of_getElem? (i := 193) rfl), zpn_SixWallsModel.1, zpn_SixWallsModel.2, zds_2, by decide⟩, zt5 (List.mem_of_getElem? (i := 192) rfl)⟩
theorem okX10_areNeighbours : zokS mX10_areNeighbours 2 := ⟨⟨zini_SixWallsModel, zt5 (List.mem_of_getElem? (i := 21) rfl), zpn_SixWallsModel.1, zpn_SixWallsModel.2, zds_4, by decide⟩, zt5 (List.mem_of_getElem? (i := 20) rfl)⟩
theorem okX10_wallOf : zokV mX10_wallOf 2 := ⟨⟨zini_SixWallsModel, zt5 (List.mem_of_getElem? (i := 181) rfl), zpn_SixWallsModel.1, zpn_SixWallsModel.2, zds_8, by decide⟩, zt5 (List.mem_of_getElem? (i := 180) rfl), zt0 (List.mem_of_getElem? (i := 30) rfl)⟩
theorem okX10_isAb : zokS mX10_isAb 1 := ⟨⟨zini_SixWallsModel, zt5 (List.mem_of_getElem? (i := 170) rfl), zpn_SixWallsModel.1, zpn_SixWallsModel.2, zds_2, by decide⟩, zt5 (List.mem_of_getElem? (i := 169) rfl)⟩
theorem okX10_wall : zokV mX10_wall 1 := ⟨⟨zini_SixWallsModel, zt5 (List.mem_of_getElem? (i := 167) rfl), zpn_SixWallsModel.1, zpn_SixWallsModel.2, zds_3, by decide⟩, zt5 (List.mem_of_getElem? (i := 165) rfl), zt5 (List.mem_of_getElem? (i := 166) rfl)⟩
theorem okX10_mend : zokV mX10_mend 3 := ⟨⟨zini_SixWallsModel, zt5 (List.mem_of_getElem? (i := 185) rfl), zpn_SixWallsModel.1, zpn_SixWallsModel.2, zds_5, by decide⟩, zt5 (List.mem_of_getElem? (i := 183) rfl), zt5 (List.mem_of_getElem? (i := 184) rfl)⟩
theorem okX10_neighboursOf : zokV mX10_neighboursOf 1 := ⟨⟨zini_SixWallsModel, zt5 (List.mem_of_getElem? (i := 209) rfl), zpn_SixWallsModel.1, zpn_SixWallsModel.2, zds_3, by decide⟩, zt5 (List.mem_of_getElem? (i := 208) rfl), zt0 (List.mem_of_getElem? (i := 33) rfl)⟩
theorem okX10_agreedOf : zokV mX10_agreedOf 1 := ⟨⟨zini_SixWallsModel, zt5 (List.mem_of_getElem? (i := 227) rfl), zpn_SixWallsModel.1, zpn_SixWallsModel.2, zds_3, by decide⟩, zt5 (List.mem_of_getElem? (i := 226) rfl), zt0 (List.mem_of_getElem? (i := 37) rfl)⟩
theorem okX10_ofHouse : zokV mX10_ofHouse 2 := ⟨⟨zini_SixWallsModel, zt5 (List.mem_of_getElem? (i := 205) rfl), zpn_SixWallsModel.1, zpn_SixWallsModel.2, zds_8, by decide⟩, zt5 (List.mem_of_getElem? (i := 204) rfl), zt0 (List.mem_of_getElem? (i := 32) rfl)⟩
theorem okX10_ofWall : zokV mX10_ofWall 2 := ⟨⟨zini_SixWallsModel, zt5 (List.mem_of_getElem? (i := 223) rfl), zpn_SixWallsModel.1, zpn_SixWallsModel.2, zds_8, by decide⟩, zt5 (List.mem_of_getElem? (i := 222) rfl), zt0 (List.mem_of_getElem? (i := 36) rfl)⟩
theorem okX10_of : zokV mX10_of 2 := ⟨⟨zini_SixWallsModel, zt5 (List.mem_of_getElem? (i := 201) rfl), zpn_SixWallsModel.1, zpn_SixWallsModel.2, zds_8, by decide⟩, zt5 (List.mem_of_getElem? (i := 199) rfl), zt5 (List.mem_of_getElem? (i := 200) rfl)⟩
theorem okX10_fires : zokV mX10_fires 3 := ⟨⟨zini_SixWallsModel, zt6 (List.mem_of_getElem? (i := 48) rfl), zpn_SixWallsModel.1, zpn_SixWallsModel.2, zds_5, by decide⟩, zt6 (List.mem_of_getElem? (i := 46) rfl), zt6 (List.mem_of_getElem? (i := 47) rfl)⟩
theorem okX10_feed : zokV mX10_feed 1 := ⟨⟨zini_SixWallsModel, zt6 (List.mem_of_getElem? (i := 56) rfl), zpn_SixWallsModel.1, zpn_SixWallsModel.2, zds_3, by decide⟩, zt6 (List.mem_of_getElem? (i := 54) rfl), zt6 (List.mem_of_getElem? (i := 55) rfl)⟩
theorem okX10_byteAt : zokV mX10_byteAt 0 := ⟨⟨zini_SixWallsModel, zt6 (List.mem_of_getElem? (i := 31) rfl), zpn_SixWallsModel.1, zpn_SixWallsModel.2, zds_1, by decide⟩, zt6 (List.mem_of_getElem? (i := 30) rfl), zt0 (List.mem_of_getElem? (i := 48) rfl)⟩
theorem okX10_wrong : zokV mX10_wrong 0 := ⟨⟨zini_SixWallsModel, zt6 (List.mem_of_getElem? (i := 35) rfl), zpn_SixWallsModel.1, zpn_SixWallsModel.2, zds_1, by decide⟩, zt6 (List.mem_of_getElem? (i := 34) rfl), zt0 (List.mem_of_getElem? (i := 49) rfl)⟩
theorem okX10_takesByte : zokV mX10_takesByte 1 := ⟨⟨zini_SixWallsModel, zt6 (List.mem_of_getElem? (i := 39) rfl), zpn_SixWallsModel.1, zpn_SixWallsModel.2, zds_2, by decide⟩, zt6 (List.mem_of_getElem? (i := 38) rfl), zt0 (List.mem_of_getElem? (i := 50) rfl)⟩
theorem okX10_either : zokV mX10_either 0 := ⟨⟨zini_SixWallsModel, zt6 (List.mem_of_getElem? (i := 7) rfl), zpn_SixWallsModel.1, zpn_SixWallsModel.2, zds_1, by decide⟩, zt6 (List.mem_of_getElem? (i := 6) rfl), zt0 (List.mem_of_getElem? (i := 42) rfl)⟩
theorem okX10_both : zokV mX10_both 0 := ⟨⟨zini_SixWallsModel, zt6 (List.mem_of_getElem? (i := 11) rfl), zpn_SixWallsModel.1, zpn_SixWallsModel.2, zds_1, by decide⟩, zt6 (List.mem_of_getElem? (i := 10) rfl), zt0 (List.mem_of_getElem? (i := 43) rfl)⟩
theorem okX10_compared : zokV mX10_compared 0 := ⟨⟨zini_SixWallsModel, zt6 (List.mem_of_getElem? (i := 15) rfl), zpn_SixWallsModel.1, zpn_SixWallsModel.2, zds_1, by decide⟩, zt6 (List.mem_of_getElem? (i := 14) rfl), zt0 (List.mem_of_getElem? (i := 44) rfl)⟩
theorem okX10_sums : zokV mX10_sums 0 := ⟨⟨zini_SixWallsModel, zt6 (List.mem_of_getElem? (i := 19) rfl), zpn_SixWallsModel.1, zpn_SixWallsModel.2, zds_1, by decide⟩, zt6 (List.mem_of_getElem? (i := 18) rfl), zt0 (List.mem_of_getElem? (i := 45) rfl)⟩
theorem okX10_product : zokV mX10_product 0 := ⟨⟨zini_SixWallsModel, zt6 (List.mem_of_getElem? (i := 23) rfl), zpn_SixWallsModel.1, zpn_SixWallsModel.2, zds_1, by decide⟩, zt6 (List.mem_of_getElem? (i := 22) rfl), zt0 (List.mem_of_getElem? (i := 46) rfl)⟩
theorem okX10_nameOf : zokS mX10_nameOf 1 := ⟨⟨zini_SixWallsModel, zt6 (List.mem_of_getElem? (i := 42) rfl), zpn_SixWallsModel.1, zpn_SixWallsModel.2, zds_3, by decide⟩, zt6 (List.mem_of_getElem? (i := 41) rfl)⟩
theorem okX10_oneOf : zokV mX10_oneOf 0 := ⟨⟨zini_SixWallsModel, zt6 (List.mem_of_getElem? (i := 27) rfl), zpn_SixWallsModel.1, zpn_SixWallsModel.2, zds_1, by decide⟩, zt6 (List.mem_of_getElem? (i := 26) rfl), zt0 (List.mem_of_getElem? (i := 47) rfl)⟩
theorem okX10_workOut : zokV mX10_workOut 2 := ⟨⟨zini_SixWallsModel, zt6 (List.mem_of_getElem? (i := 3) rfl), zpn_SixWallsModel.1, zpn_SixWallsModel.2, zds_8, by decide⟩, zt6 (List.mem_of_getElem? (i := 2) rfl), zt0 (List.mem_of_getElem? (i := 41) rfl)⟩
theorem okX10_law : zokV mX10_law 0 := ⟨⟨zini_SixWallsModel, zt6 (List.mem_of_getElem? (i := 61) rfl), zpn_SixWallsModel.1, zpn_SixWallsModel.2, zds_1, by decide⟩, zt6 (List.mem_of_getElem? (i := 59) rfl), zt6 (List.mem_of_getElem? (i := 60) rfl)⟩
theorem okX10_begins1 : zokV mX10_begins1 0 := ⟨⟨zini_SixWallsModel, zt5 (List.mem_of_getElem? (i := 231) rfl), zpn_SixWallsModel.1, zpn_SixWallsModel.2, zds_0, by decide⟩, zt5 (List.mem_of_getElem? (i := 230) rfl), zt0 (List.mem_of_getElem? (i := 38) rfl)⟩
theorem okX10_throughOf : zokV mX10_throughOf 3 := ⟨⟨zini_SixWallsModel, zt5 (List.mem_of_getElem? (i := 239) rfl), zpn_SixWallsModel.1, zpn_SixWallsModel.2, zds_5, by decide⟩, zt5 (List.mem_of_getElem? (i := 238) rfl), zt0 (List.mem_of_getElem? (i := 40) rfl)⟩
theorem okX10_flowOf : zokV mX10_flowOf 1 := ⟨⟨zini_SixWallsModel, zt5 (List.mem_of_getElem? (i := 235) rfl), zpn_SixWallsModel.1, zpn_SixWallsModel.2, zds_3, by decide⟩, zt5 (List.mem_of_getElem? (i := 234) rfl), zt0 (List.mem_of_getElem? (i := 39) rfl)⟩
theorem okX10_dayGoes : zokV mX10_dayGoes 0 := ⟨⟨zini_SixWallsModel, zt6 (List.mem_of_getElem? (i := 74) rfl), zpn_SixWallsModel.1, zpn_SixWallsModel.2, zds_14, by decide⟩, zt6 (List.mem_of_getElem? (i := 73) rfl), zt0 (List.mem_of_getElem? (i := 52) rfl)⟩
theorem okX10_winter : zokV mX10_winter 1 := ⟨⟨zini_SixWallsModel, zt6 (List.mem_of_getElem? (i := 70) rfl), zpn_SixWallsModel.1, zpn_SixWallsModel.2, zds_13, by decide⟩, zt6 (List.mem_of_getElem? (i := 69) rfl), zt0 (List.mem_of_getElem? (i := 51) rfl)⟩
theorem okX10_allThen : zokV mX10_allThen 0 := ⟨⟨zini_SixWallsModel, zt6 (List.mem_of_getElem? (i := 78) rfl), zpn_SixWallsModel.1, zpn_SixWallsModel.2, zds_1, by decide⟩, zt6 (List.mem_of_getElem? (i := 77) rfl), zt0 (List.mem_of_getElem? (i := 53) rfl)⟩
theorem okX10_warmth : zokV mX10_warmth 2 := ⟨⟨zini_SixWallsModel, zt6 (List.mem_of_getElem? (i := 65) rfl), zpn_SixWallsModel.1, zpn_SixWallsModel.2, zds_8, by decide⟩, zt6 (List.mem_of_getElem? (i := 63) rfl), zt6 (List.mem_of_getElem? (i := 64) rfl)⟩
theorem okX10_cold : zokV mX10_cold 2 := ⟨⟨zini_SixWallsModel, zt6 (List.mem_of_getElem? (i := 82) rfl), zpn_SixWallsModel.1, zpn_SixWallsModel.2, zds_8, by decide⟩, zt6 (List.mem_of_getElem? (i := 80) rfl), zt6 (List.mem_of_getElem? (i := 81) rfl)⟩
theorem okX10_still : zokV mX10_still 0 := ⟨⟨zini_SixWallsModel, zt6 (List.mem_of_getElem? (i := 87) rfl), zpn_SixWallsModel.1, zpn_SixWallsModel.2, zds_1, by decide⟩, zt6 (List.mem_of_getElem? (i := 85) rfl), zt6 (List.mem_of_getElem? (i := 86) rfl)⟩
theorem okX10_gave : zokV mX10_gave 2 := ⟨⟨zini_SixWallsModel, zt6 (List.mem_of_getElem? (i := 91) rfl), zpn_SixWallsModel.1, zpn_SixWallsModel.2, zds_8, by decide⟩, zt6 (List.mem_of_getElem? (i := 89) rfl), zt6 (List.mem_of_getElem? (i := 90) rfl)⟩
theorem okX10_leastFire : zokV mX10_leastFire 2 := ⟨⟨zini_SixWallsModel, zt6 (List.mem_of_getElem? (i := 95) rfl), zpn_SixWallsModel.1, zpn_SixWallsModel.2, zds_8, by decide⟩, zt6 (List.mem_of_getElem? (i := 93) rfl), zt6 (List.mem_of_getElem? (i := 94) rfl)⟩
theorem okX10_days : zokV mX10_days 1 := ⟨⟨zini_SixWallsModel, zt6 (List.mem_of_getElem? (i := 99) rfl), zpn_SixWallsModel.1, zpn_SixWallsModel.2, zds_3, by decide⟩, zt6 (List.mem_of_getElem? (i := 97) rfl), zt6 (List.mem_of_getElem? (i := 98) rfl)⟩
theorem okX10_led : zokV mX10_led 1 := ⟨⟨zini_SixWallsModel, zt6 (List.mem_of_getElem? (i := 103) rfl), zpn_SixWallsModel.1, zpn_SixWallsModel.2, zds_3, by decide⟩, zt6 (List.mem_of_getElem? (i := 101) rfl), zt6 (List.mem_of_getElem? (i := 102) rfl)⟩
theorem okX10_asksThick : zokV mX10_asksThick 0 := ⟨⟨zini_SixWallsModel, zt5 (List.mem_of_getElem? (i := 213) rfl), zpn_SixWallsModel.1, zpn_SixWallsModel.2, zds_0, by decide⟩, zt5 (List.mem_of_getElem? (i := 212) rfl), zt0 (List.mem_of_getElem? (i := 34) rfl)⟩
theorem okX10_borne : zokV mX10_borne 1 := ⟨⟨zini_SixWallsModel, zt5 (List.mem_of_getElem? (i := 217) rfl), zpn_SixWallsModel.1, zpn_SixWallsModel.2, zds_3, by decide⟩, zt5 (List.mem_of_getElem? (i := 216) rfl), zt0 (List.mem_of_getElem? (i := 35) rfl)⟩
theorem okX10_roundGoes : zokV mX10_roundGoes 0 := ⟨⟨zini_SixWallsModel, zt6 (List.mem_of_getElem? (i := 111) rfl), zpn_SixWallsModel.1, zpn_SixWallsModel.2, zds_14, by decide⟩, zt6 (List.mem_of_getElem? (i := 110) rfl), zt0 (List.mem_of_getElem? (i := 54) rfl)⟩
theorem okX10_rounds : zokV mX10_rounds 1 := ⟨⟨zini_SixWallsModel, zt6 (List.mem_of_getElem? (i := 107) rfl), zpn_SixWallsModel.1, zpn_SixWallsModel.2, zds_3, by decide⟩, zt6 (List.mem_of_getElem? (i := 105) rfl), zt6 (List.mem_of_getElem? (i := 106) rfl)⟩
theorem okX10_measures : zokV mX10_measures 2 := ⟨⟨zini_SixWallsModel, zt6 (List.mem_of_getElem? (i := 119) rfl), zpn_SixWallsModel.1, zpn_SixWallsModel.2, zds_32, by decide⟩, zt6 (List.mem_of_getElem? (i := 118) rfl), zt0 (List.mem_of_getElem? (i := 55) rfl)⟩
theorem okX10_comesTo : zokV mX10_comesTo 2 := ⟨⟨zini_SixWallsModel, zt6 (List.mem_of_getElem? (i := 123) rfl), zpn_SixWallsModel.1, zpn_SixWallsModel.2, zds_4, by decide⟩, zt6 (List.mem_of_getElem? (i := 122) rfl), zt0 (List.mem_of_getElem? (i := 56) rfl)⟩
theorem okX10_way : zokV mX10_way 1 := ⟨⟨zini_SixWallsModel, zt6 (List.mem_of_getElem? (i := 115) rfl), zpn_SixWallsModel.1, zpn_SixWallsModel.2, zds_3, by decide⟩, zt6 (List.mem_of_getElem? (i := 113) rfl), zt6 (List.mem_of_getElem? (i := 114) rfl)⟩
theorem okX10_outWith : zokV mX10_outWith 1 := ⟨⟨zini_SixWallsModel, zt6 (List.mem_of_getElem? (i := 135) rfl), zpn_SixWallsModel.1, zpn_SixWallsModel.2, zds_33, by decide⟩, zt6 (List.mem_of_getElem? (i := 134) rfl), zt0 (List.mem_of_getElem? (i := 58) rfl)⟩
theorem okX10_livedIn : zokV mX10_livedIn 0 := ⟨⟨zini_SixWallsModel, zt6 (List.mem_of_getElem? (i := 131) rfl), zpn_SixWallsModel.1, zpn_SixWallsModel.2, zds_1, by decide⟩, zt6 (List.mem_of_getElem? (i := 130) rfl), zt0 (List.mem_of_getElem? (i := 57) rfl)⟩
theorem okX10_bitsOf : zokS mX10_bitsOf 1 := ⟨⟨zini_SixWallsModel, zt6 (List.mem_of_getElem? (i := 141) rfl), zpn_SixWallsModel.1, zpn_SixWallsModel.2, zds_33, by decide⟩, zt6 (List.mem_of_getElem? (i := 140) rfl)⟩
theorem okX10_doors : zokV mX10_doors 1 := ⟨⟨zini_SixWallsModel, zt6 (List.mem_of_getElem? (i := 127) rfl), zpn_SixWallsModel.1, zpn_SixWallsModel.2, zds_3, by decide⟩, zt6 (List.mem_of_getElem? (i := 125) rfl), zt6 (List.mem_of_getElem? (i := 126) rfl)⟩
theorem okX10_opens : zokV mX10_opens 3 := ⟨⟨zini_SixWallsModel, zt6 (List.mem_of_getElem? (i := 151) rfl), zpn_SixWallsModel.1, zpn_SixWallsModel.2, zds_23, by decide⟩, zt6 (List.mem_of_getElem? (i := 150) rfl), zt0 (List.mem_of_getElem? (i := 59) rfl)⟩
theorem okX10_opened : zokV mX10_opened 1 := ⟨⟨zini_SixWallsModel, zt6 (List.mem_of_getElem? (i := 145) rfl), zpn_SixWallsModel.1, zpn_SixWallsModel.2, zds_28, by decide⟩, zt6 (List.mem_of_getElem? (i := 143) rfl), zt6 (List.mem_of_getElem? (i := 144) rfl)⟩
theorem okX10_heard : zokV mX10_heard 2 := ⟨⟨zini_SixWallsModel, zt6 (List.mem_of_getElem? (i := 155) rfl), zpn_SixWallsModel.1, zpn_SixWallsModel.2, zds_8, by decide⟩, zt6 (List.mem_of_getElem? (i := 153) rfl), zt6 (List.mem_of_getElem? (i := 154) rfl)⟩
theorem okX10_whose : zokV mX10_whose 2 := ⟨⟨zini_SixWallsModel, zt6 (List.mem_of_getElem? (i := 159) rfl), zpn_SixWallsModel.1, zpn_SixWallsModel.2, zds_8, by decide⟩, zt6 (List.mem_of_getElem? (i := 157) rfl), zt6 (List.mem_of_getElem? (i := 158) rfl)⟩
theorem okX10_asksColours : zokV mX10_asksColours 0 := ⟨⟨zini_SixWallsModel, zt6 (List.mem_of_getElem? (i := 168) rfl), zpn_SixWallsModel.1, zpn_SixWallsModel.2, zds_0, by decide⟩, zt6 (List.mem_of_getElem? (i := 167) rfl), zt0 (List.mem_of_getElem? (i := 60) rfl)⟩
theorem okX10_clashes : zokV mX10_clashes 0 := ⟨⟨zini_SixWallsModel, zt6 (List.mem_of_getElem? (i := 176) rfl), zpn_SixWallsModel.1, zpn_SixWallsModel.2, zds_1, by decide⟩, zt6 (List.mem_of_getElem? (i := 175) rfl), zt0 (List.mem_of_getElem? (i := 62) rfl)⟩
theorem okX10_bestColour : zokV mX10_bestColour 1 := ⟨⟨zini_SixWallsModel, zt6 (List.mem_of_getElem? (i := 172) rfl), zpn_SixWallsModel.1, zpn_SixWallsModel.2, zds_3, by decide⟩, zt6 (List.mem_of_getElem? (i := 171) rfl), zt0 (List.mem_of_getElem? (i := 61) rfl)⟩
theorem okX10_paint : zokV mX10_paint 1 := ⟨⟨zini_SixWallsModel, zt6 (List.mem_of_getElem? (i := 164) rfl), zpn_SixWallsModel.1, zpn_SixWallsModel.2, zds_3, by decide⟩, zt6 (List.mem_of_getElem? (i := 162) rfl), zt6 (List.mem_of_getElem? (i := 163) rfl)⟩
theorem okX10_colours : zokV mX10_colours 1 := ⟨⟨zini_SixWallsModel, zt6 (List.mem_of_getElem? (i := 180) rfl), zpn_SixWallsModel.1, zpn_SixWallsModel.2, zds_3, by decide⟩, zt6 (List.mem_of_getElem? (i := 178) rfl), zt6 (List.mem_of_getElem? (i := 179) rfl)⟩
theorem okX10_empty : zokV mX10_empty 1 := ⟨⟨zini_SixWallsModel, zt6 (List.mem_of_getElem? (i := 184) rfl), zpn_SixWallsModel.1, zpn_SixWallsModel.2, zds_3, by decide⟩, zt6 (List.mem_of_getElem? (i := 182) rfl), zt6 (List.mem_of_getElem? (i := 183) rfl)⟩
theorem okX10_whoTakes : zokV mX10_whoTakes 1 := ⟨⟨zini_SixWallsModel, zt6 (List.mem_of_getElem? (i := 192) rfl), zpn_SixWallsModel.1, zpn_SixWallsModel.2, zds_3, by decide⟩, zt6 (List.mem_of_getElem? (i := 191) rfl), zt0 (List.mem_of_getElem? (i := 63) rfl)⟩
theorem okX10_takes : zokV mX10_takes 2 := ⟨⟨zini_SixWallsModel, zt6 (List.mem_of_getElem? (i := 188) rfl), zpn_SixWallsModel.1, zpn_SixWallsModel.2, zds_8, by decide⟩, zt6 (List.mem_of_getElem? (i := 186) rfl), zt6 (List.mem_of_getElem? (i := 187) rfl)⟩
theorem okX10_where : zokV mX10_where 1 := ⟨⟨zini_SixWallsModel, zt6 (List.mem_of_getElem? (i := 196) rfl), zpn_SixWallsModel.1, zpn_SixWallsModel.2, zds_3, by decide⟩, zt6 (List.mem_of_getElem? (i := 194) rfl), zt6 (List.mem_of_getElem? (i := 195) rfl)⟩
theorem okX10_isBorn : zokV mX10_isBorn 1 := ⟨⟨zini_SixWallsModel, zt6 (List.mem_of_getElem? (i := 205) rfl), zpn_SixWallsModel.1, zpn_SixWallsModel.2, zds_13, by decide⟩, zt6 (List.mem_of_getElem? (i := 204) rfl), zt0 (List.mem_of_getElem? (i := 64) rfl)⟩
theorem okX10_feuds : zokV mX10_feuds 1 := ⟨⟨zini_SixWallsModel, zt6 (List.mem_of_getElem? (i := 209) rfl), zpn_SixWallsModel.1, zpn_SixWallsModel.2, zds_13, by decide⟩, zt6 (List.mem_of_getElem? (i := 208) rfl), zt0 (List.mem_of_getElem? (i := 65) rfl)⟩
theorem okX10_years : zokV mX10_years 2 := ⟨⟨zini_SixWallsModel, zt6 (List.mem_of_getElem? (i := 200) rfl), zpn_SixWallsModel.1, zpn_SixWallsModel.2, zds_8, by decide⟩, zt6 (List.mem_of_getElem? (i := 198) rfl), zt6 (List.mem_of_getElem? (i := 199) rfl)⟩
theorem okX10_allWarmth : zokV mX10_allWarmth 0 := ⟨⟨zini_SixWallsModel, zt6 (List.mem_of_getElem? (i := 217) rfl), zpn_SixWallsModel.1, zpn_SixWallsModel.2, zds_1, by decide⟩, zt6 (List.mem_of_getElem? (i := 216) rfl), zt0 (List.mem_of_getElem? (i := 66) rfl)⟩
theorem okX10_image : zokV mX10_image 0 := ⟨⟨zini_SixWallsModel, zt6 (List.mem_of_getElem? (i := 213) rfl), zpn_SixWallsModel.1, zpn_SixWallsModel.2, zds_1, by decide⟩, zt6 (List.mem_of_getElem? (i := 211) rfl), zt6 (List.mem_of_getElem? (i := 212) rfl)⟩
theorem okX10_back : zokV mX10_back 0 := ⟨⟨zini_SixWallsModel, zt6 (List.mem_of_getElem? (i := 221) rfl), zpn_SixWallsModel.1, zpn_SixWallsModel.2, zds_1, by decide⟩, zt6 (List.mem_of_getElem? (i := 219) rfl), zt6 (List.mem_of_getElem? (i := 220) rfl)⟩
theorem okX10_doorMany : zokV mX10_doorMany 0 := ⟨⟨zini_SixWallsModel, zt7 (List.mem_of_getElem? (i := 65) rfl), zpn_SixWallsModel.1, zpn_SixWallsModel.2, zds_1, by decide⟩, zt7 (List.mem_of_getElem? (i := 64) rfl), zt0 (List.mem_of_getElem? (i := 75) rfl)⟩
theorem okX10_isBody : zokV mX10_isBody 1 := ⟨⟨zini_SixWallsModel, zt6 (List.mem_of_getElem? (i := 234) rfl), zpn_SixWallsModel.1, zpn_SixWallsModel.2, zds_2, by decide⟩, zt6 (List.mem_of_getElem? (i := 233) rfl), zt0 (List.mem_of_getElem? (i := 67) rfl)⟩
theorem okX10_kindOf : zokV mX10_kindOf 1 := ⟨⟨zini_SixWallsModel, zt7 (List.mem_of_getElem? (i := 54) rfl), zpn_SixWallsModel.1, zpn_SixWallsModel.2, zds_3, by decide⟩, zt7 (List.mem_of_getElem? (i := 53) rfl), zt0 (List.mem_of_getElem? (i := 74) rfl)⟩
theorem okX10_body : zokV mX10_body 1 := ⟨⟨zini_SixWallsModel, zt6 (List.mem_of_getElem? (i := 225) rfl), zpn_SixWallsModel.1, zpn_SixWallsModel.2, zds_3, by decide⟩, zt6 (List.mem_of_getElem? (i := 223) rfl), zt6 (List.mem_of_getElem? (i := 224) rfl)⟩
theorem okX10_above : zokS mX10_above 1 := ⟨⟨zini_SixWallsModel, zt7 (List.mem_of_getElem? (i := 57) rfl), zpn_SixWallsModel.1, zpn_SixWallsModel.2, zds_3, by decide⟩, zt7 (List.mem_of_getElem? (i := 56) rfl)⟩
theorem okX10_begins : zokV mX10_begins 1 := ⟨⟨zini_SixWallsModel, zt7 (List.mem_of_getElem? (i := 2) rfl), zpn_SixWallsModel.1, zpn_SixWallsModel.2, zds_13, by decide⟩, zt7 (List.mem_of_getElem? (i := 1) rfl), zt0 (List.mem_of_getElem? (i := 69) rfl)⟩
theorem okX10_warmsAs : zokV mX10_warmsAs 2 := ⟨⟨zini_SixWallsModel, zt6 (List.mem_of_getElem? (i := 238) rfl), zpn_SixWallsModel.1, zpn_SixWallsModel.2, zds_8, by decide⟩, zt6 (List.mem_of_getElem? (i := 237) rfl), zt0 (List.mem_of_getElem? (i := 68) rfl)⟩
theorem okX10_wallsAs : zokV mX10_wallsAs 2 := ⟨⟨zini_SixWallsModel, zt7 (List.mem_of_getElem? (i := 6) rfl), zpn_SixWallsModel.1, zpn_SixWallsModel.2, zds_8, by decide⟩, zt7 (List.mem_of_getElem? (i := 5) rfl), zt0 (List.mem_of_getElem? (i := 70) rfl)⟩
theorem okX10_pipesAs : zokV mX10_pipesAs 2 := ⟨⟨zini_SixWallsModel, zt7 (List.mem_of_getElem? (i := 10) rfl), zpn_SixWallsModel.1, zpn_SixWallsModel.2, zds_8, by decide⟩, zt7 (List.mem_of_getElem? (i := 9) rfl), zt0 (List.mem_of_getElem? (i := 71) rfl)⟩
theorem okX10_tellsAs : zokV mX10_tellsAs 2 := ⟨⟨zini_SixWallsModel, zt7 (List.mem_of_getElem? (i := 14) rfl), zpn_SixWallsModel.1, zpn_SixWallsModel.2, zds_8, by decide⟩, zt7 (List.mem_of_getElem? (i := 13) rfl), zt0 (List.mem_of_getElem? (i := 72) rfl)⟩
theorem okX10_act : zokV mX10_act 3 := ⟨⟨zini_SixWallsModel, zt6 (List.mem_of_getElem? (i := 230) rfl), zpn_SixWallsModel.1, zpn_SixWallsModel.2, zds_5, by decide⟩, zt6 (List.mem_of_getElem? (i := 228) rfl), zt6 (List.mem_of_getElem? (i := 229) rfl)⟩
theorem okX10_trace : zokV mX10_trace 1 := ⟨⟨zini_SixWallsModel, zt7 (List.mem_of_getElem? (i := 18) rfl), zpn_SixWallsModel.1, zpn_SixWallsModel.2, zds_3, by decide⟩, zt7 (List.mem_of_getElem? (i := 16) rfl), zt7 (List.mem_of_getElem? (i := 17) rfl)⟩
theorem okX10_isShelf : zokS mX10_isShelf 1 := ⟨⟨zini_SixWallsModel, zt6 (List.mem_of_getElem? (i := 51) rfl), zpn_SixWallsModel.1, zpn_SixWallsModel.2, zds_2, by decide⟩, zt6 (List.mem_of_getElem? (i := 50) rfl)⟩
theorem okX10_keep : zokV mX10_keep 2 := ⟨⟨zini_SixWallsModel, zt7 (List.mem_of_getElem? (i := 22) rfl), zpn_SixWallsModel.1, zpn_SixWallsModel.2, zds_8, by decide⟩, zt7 (List.mem_of_getElem? (i := 20) rfl), zt7 (List.mem_of_getElem? (i := 21) rfl)⟩
theorem okX10_row : zokV mX10_row 3 := ⟨⟨zini_SixWallsModel, zt7 (List.mem_of_getElem? (i := 26) rfl), zpn_SixWallsModel.1, zpn_SixWallsModel.2, zds_5, by decide⟩, zt7 (List.mem_of_getElem? (i := 24) rfl), zt7 (List.mem_of_getElem? (i := 25) rfl)⟩
theorem okX10_refusal : zokV mX10_refusal 2 := ⟨⟨zini_SixWallsModel, zt7 (List.mem_of_getElem? (i := 35) rfl), zpn_SixWallsModel.1, zpn_SixWallsModel.2, zds_8, by decide⟩, zt7 (List.mem_of_getElem? (i := 34) rfl), zt0 (List.mem_of_getElem? (i := 73) rfl)⟩
theorem okX10_asSort : zokS mX10_asSort 2 := ⟨⟨zini_SixWallsModel, zt7 (List.mem_of_getElem? (i := 38) rfl), zpn_SixWallsModel.1, zpn_SixWallsModel.2, zds_25, by decide⟩, zt7 (List.mem_of_getElem? (i := 37) rfl)⟩
theorem okX10_put : zokV mX10_put 3 := ⟨⟨zini_SixWallsModel, zt7 (List.mem_of_getElem? (i := 31) rfl), zpn_SixWallsModel.1, zpn_SixWallsModel.2, zds_29, by decide⟩, zt7 (List.mem_of_getElem? (i := 29) rfl), zt7 (List.mem_of_getElem? (i := 30) rfl)⟩
theorem okX10_element : zokV mX10_element 2 := ⟨⟨zini_SixWallsModel, zt7 (List.mem_of_getElem? (i := 42) rfl), zpn_SixWallsModel.1, zpn_SixWallsModel.2, zds_22, by decide⟩, zt7 (List.mem_of_getElem? (i := 40) rfl), zt7 (List.mem_of_getElem? (i := 41) rfl)⟩
theorem okX10_shift : zokV mX10_shift 5 := ⟨⟨zini_SixWallsModel, zt7 (List.mem_of_getElem? (i := 46) rfl), zpn_SixWallsModel.1, zpn_SixWallsModel.2, zds_17, by decide⟩, zt7 (List.mem_of_getElem? (i := 44) rfl), zt7 (List.mem_of_getElem? (i := 45) rfl)⟩
theorem okX10_taken : zokV mX10_taken 2 := ⟨⟨zini_SixWallsModel, zt7 (List.mem_of_getElem? (i := 50) rfl), zpn_SixWallsModel.1, zpn_SixWallsModel.2, zds_8, by decide⟩, zt7 (List.mem_of_getElem? (i := 48) rfl), zt7 (List.mem_of_getElem? (i := 49) rfl)⟩
theorem okX10_count : zokV mX10_count 1 := ⟨⟨zini_SixWallsModel, zt7 (List.mem_of_getElem? (i := 61) rfl), zpn_SixWallsModel.1, zpn_SixWallsModel.2, zds_3, by decide⟩, zt7 (List.mem_of_getElem? (i := 59) rfl), zt7 (List.mem_of_getElem? (i := 60) rfl)⟩
theorem okJ6_compare_7cf53 : zokS mJ6_compare_7cf53 2 := ⟨⟨zini_JInteger, zt3 (List.mem_of_getElem? (i := 135) rfl), zpn_JInteger.1, zpn_JInteger.2, zds_8, by decide⟩, zt3 (List.mem_of_getElem? (i := 134) rfl)⟩
theorem okJ6_bitCount_0f7a4 : zokS mJ6_bitCount_0f7a4 1 := ⟨⟨zini_JInteger, zt4 (List.mem_of_getElem? (i := 17) rfl), zpn_JInteger.1, zpn_JInteger.2, zds_3, by decide⟩, zt4 (List.mem_of_getElem? (i := 16) rfl)⟩
theorem okJ13_bitCount_95d88 : zokS mJ13_bitCount_95d88 1 := ⟨⟨zini_JLong, zt3 (List.mem_of_getElem? (i := 189) rfl), zpn_JLong.1, zpn_JLong.2, zds_33, by decide⟩, zt3 (List.mem_of_getElem? (i := 188) rfl)⟩
theorem cl_SixWallsLaw_7 : Cond.classLink "SixWallsLaw" 7 "SixWalls" ∈ lw_tbl := zt1 (List.mem_of_getElem? (i := 16) rfl)
theorem zins_SixWalls : Cond.instantiable "SixWalls" 9 ∈ lw_tbl := zt1 (List.mem_of_getElem? (i := 17) rfl)
theorem ml_SixWallsLaw_9 : Cond.methodLink "SixWallsLaw" 9 ⟨"SixWalls", "<init>", "()V"⟩ ∈ lw_tbl := zt1 (List.mem_of_getElem? (i := 18) rfl)
theorem ml_SixWalls_1 : Cond.methodLink "SixWalls" 1 ⟨"java/lang/Object", "<init>", "()V"⟩ ∈ lw_tbl := zt1 (List.mem_of_getElem? (i := 21) rfl)
theorem cl_SixWalls_7 : Cond.classLink "SixWalls" 7 "SixWalls$Comb" ∈ lw_tbl := zt1 (List.mem_of_getElem? (i := 24) rfl)
theorem zins_SixWalls_Comb : Cond.instantiable "SixWalls$Comb" 14 ∈ lw_tbl := zt1 (List.mem_of_getElem? (i := 25) rfl)
theorem ml_SixWalls_9 : Cond.methodLink "SixWalls" 9 ⟨"SixWalls$Comb", "<init>", "()V"⟩ ∈ lw_tbl := zt1 (List.mem_of_getElem? (i := 26) rfl)
theorem ml_SixWalls_Comb_3 : Cond.methodLink "SixWalls$Comb" 3 ⟨"java/lang/Object", "<init>", "()V"⟩ ∈ lw_tbl := zt1 (List.mem_of_getElem? (i := 29) rfl)
theorem ml_SixWalls_Comb_55 : Cond.methodLink "SixWalls$Comb" 55 ⟨"SixWalls$Comb", "layWalls", "()V"⟩ ∈ lw_tbl := zt1 (List.mem_of_getElem? (i := 30) rfl)
theorem ml_SixWalls_Comb_58 : Cond.methodLink "SixWalls$Comb" 58 ⟨"SixWalls$Comb", "beside", "(II)Z"⟩ ∈ lw_tbl := zt1 (List.mem_of_getElem? (i := 34) rfl)
theorem ml_SixWalls_Comb_66 : Cond.methodLink "SixWalls$Comb" 66 ⟨"java/lang/Math", "abs", "(I)I"⟩ ∈ lw_tbl := zt1 (List.mem_of_getElem? (i := 37) rfl)
theorem ml_SixWalls_Comb_62 : Cond.methodLink "SixWalls$Comb" 62 ⟨"SixWalls$Comb", "addSide", "(III)V"⟩ ∈ lw_tbl := zt1 (List.mem_of_getElem? (i := 40) rfl)
theorem fl_SixWalls_Comb_9 : Cond.fieldLink "SixWalls$Comb" 9 "SixWalls$Comb" "low" "[I" ∈ lw_tbl := zt1 (List.mem_of_getElem? (i := 44) rfl)
theorem fl_SixWalls_Masonry_25 : Cond.fieldLink "SixWalls$Masonry" 25 "SixWalls$Comb" "low" "[I" ∈ lw_tbl := zt1 (List.mem_of_getElem? (i := 45) rfl)
theorem fl_SixWalls_Winter_39 : Cond.fieldLink "SixWalls$Winter" 39 "SixWalls$Comb" "low" "[I" ∈ lw_tbl := zt1 (List.mem_of_getElem? (i := 46) rfl)
theorem fl_SixWalls_Ways_31 : Cond.fieldLink "SixWalls$Ways" 31 "SixWalls$Comb" "low" "[I" ∈ lw_tbl := zt1 (List.mem_of_getElem? (i := 47) rfl)
theorem fl_SixWalls_151 : Cond.fieldLink "SixWalls" 151 "SixWalls$Comb" "low" "[I" ∈ lw_tbl := zt1 (List.mem_of_getElem? (i := 48) rfl)
theorem fl_SixWalls_Comb_15 : Cond.fieldLink "SixWalls$Comb" 15 "SixWalls$Comb" "high" "[I" ∈ lw_tbl := zt1 (List.mem_of_getElem? (i := 49) rfl)
theorem fl_SixWalls_Masonry_30 : Cond.fieldLink "SixWalls$Masonry" 30 "SixWalls$Comb" "high" "[I" ∈ lw_tbl := zt1 (List.mem_of_getElem? (i := 50) rfl)
theorem fl_SixWalls_Winter_44 : Cond.fieldLink "SixWalls$Winter" 44 "SixWalls$Comb" "high" "[I" ∈ lw_tbl := zt1 (List.mem_of_getElem? (i := 51) rfl)
theorem fl_SixWalls_Ways_34 : Cond.fieldLink "SixWalls$Ways" 34 "SixWalls$Comb" "high" "[I" ∈ lw_tbl := zt1 (List.mem_of_getElem? (i := 52) rfl)
theorem fl_SixWalls_154 : Cond.fieldLink "SixWalls" 154 "SixWalls$Comb" "high" "[I" ∈ lw_tbl := zt1 (List.mem_of_getElem? (i := 53) rfl)
theorem fl_SixWalls_Comb_18 : Cond.fieldLink "SixWalls$Comb" 18 "SixWalls$Comb" "sides" "[I" ∈ lw_tbl := zt1 (List.mem_of_getElem? (i := 54) rfl)
theorem fl_SixWalls_Families_26 : Cond.fieldLink "SixWalls$Families" 26 "SixWalls$Comb" "sides" "[I" ∈ lw_tbl := zt1 (List.mem_of_getElem? (i := 55) rfl)
theorem fl_SixWalls_Winter_91 : Cond.fieldLink "SixWalls$Winter" 91 "SixWalls$Comb" "sides" "[I" ∈ lw_tbl := zt1 (List.mem_of_getElem? (i := 56) rfl)
theorem fl_SixWalls_Masonry_81 : Cond.fieldLink "SixWalls$Masonry" 81 "SixWalls$Comb" "sides" "[I" ∈ lw_tbl := zt1 (List.mem_of_getElem? (i := 57) rfl)
theorem fl_SixWalls_135 : Cond.fieldLink "SixWalls" 135 "SixWalls$Comb" "sides" "[I" ∈ lw_tbl := zt1 (List.mem_of_getElem? (i := 58) rfl)
theorem fl_SixWalls_Comb_21 : Cond.fieldLink "SixWalls$Comb" 21 "SixWalls$Comb" "wallAt" "[I" ∈ lw_tbl := zt1 (List.mem_of_getElem? (i := 59) rfl)
theorem fl_SixWalls_Families_70 : Cond.fieldLink "SixWalls$Families" 70 "SixWalls$Comb" "wallAt" "[I" ∈ lw_tbl := zt1 (List.mem_of_getElem? (i := 60) rfl)
theorem fl_SixWalls_Masonry_84 : Cond.fieldLink "SixWalls$Masonry" 84 "SixWalls$Comb" "wallAt" "[I" ∈ lw_tbl := zt1 (List.mem_of_getElem? (i := 61) rfl)
theorem fl_SixWalls_Comb_24 : Cond.fieldLink "SixWalls$Comb" 24 "SixWalls$Comb" "nextAt" "[I" ∈ lw_tbl := zt1 (List.mem_of_getElem? (i := 62) rfl)
theorem fl_SixWalls_Families_31 : Cond.fieldLink "SixWalls$Families" 31 "SixWalls$Comb" "nextAt" "[I" ∈ lw_tbl := zt1 (List.mem_of_getElem? (i := 63) rfl)
theorem fl_SixWalls_Comb_27 : Cond.fieldLink "SixWalls$Comb" 27 "SixWalls$Comb" "lived" "[I" ∈ lw_tbl := zt1 (List.mem_of_getElem? (i := 64) rfl)
theorem fl_SixWalls_Masonry_33 : Cond.fieldLink "SixWalls$Masonry" 33 "SixWalls$Comb" "lived" "[I" ∈ lw_tbl := zt1 (List.mem_of_getElem? (i := 65) rfl)
theorem fl_SixWalls_Families_34 : Cond.fieldLink "SixWalls$Families" 34 "SixWalls$Comb" "lived" "[I" ∈ lw_tbl := zt1 (List.mem_of_getElem? (i := 66) rfl)
theorem fl_SixWalls_Ways_54 : Cond.fieldLink "SixWalls$Ways" 54 "SixWalls$Comb" "lived" "[I" ∈ lw_tbl := zt1 (List.mem_of_getElem? (i := 67) rfl)
theorem fl_SixWalls_132 : Cond.fieldLink "SixWalls" 132 "SixWalls$Comb" "lived" "[I" ∈ lw_tbl := zt1 (List.mem_of_getElem? (i := 68) rfl)
theorem fl_SixWalls_Comb_30 : Cond.fieldLink "SixWalls$Comb" 30 "SixWalls$Comb" "fire" "[I" ∈ lw_tbl := zt1 (List.mem_of_getElem? (i := 69) rfl)
theorem fl_SixWalls_Winter_85 : Cond.fieldLink "SixWalls$Winter" 85 "SixWalls$Comb" "fire" "[I" ∈ lw_tbl := zt1 (List.mem_of_getElem? (i := 70) rfl)
theorem fl_SixWalls_Families_59 : Cond.fieldLink "SixWalls$Families" 59 "SixWalls$Comb" "fire" "[I" ∈ lw_tbl := zt1 (List.mem_of_getElem? (i := 71) rfl)
theorem fl_SixWalls_122 : Cond.fieldLink "SixWalls" 122 "SixWalls$Comb" "fire" "[I" ∈ lw_tbl := zt1 (List.mem_of_getElem? (i := 72) rfl)
theorem fl_SixWalls_Comb_33 : Cond.fieldLink "SixWalls$Comb" 33 "SixWalls$Comb" "warm" "[I" ∈ lw_tbl := zt1 (List.mem_of_getElem? (i := 73) rfl)
theorem fl_SixWalls_Winter_76 : Cond.fieldLink "SixWalls$Winter" 76 "SixWalls$Comb" "warm" "[I" ∈ lw_tbl := zt1 (List.mem_of_getElem? (i := 74) rfl)
theorem fl_SixWalls_Families_73 : Cond.fieldLink "SixWalls$Families" 73 "SixWalls$Comb" "warm" "[I" ∈ lw_tbl := zt1 (List.mem_of_getElem? (i := 75) rfl)
theorem fl_SixWalls_129 : Cond.fieldLink "SixWalls" 129 "SixWalls$Comb" "warm" "[I" ∈ lw_tbl := zt1 (List.mem_of_getElem? (i := 76) rfl)
theorem fl_SixWalls_Comb_36 : Cond.fieldLink "SixWalls$Comb" 36 "SixWalls$Comb" "want" "[I" ∈ lw_tbl := zt1 (List.mem_of_getElem? (i := 77) rfl)
theorem fl_SixWalls_Masonry_36 : Cond.fieldLink "SixWalls$Masonry" 36 "SixWalls$Comb" "want" "[I" ∈ lw_tbl := zt1 (List.mem_of_getElem? (i := 78) rfl)
theorem fl_SixWalls_Families_37 : Cond.fieldLink "SixWalls$Families" 37 "SixWalls$Comb" "want" "[I" ∈ lw_tbl := zt1 (List.mem_of_getElem? (i := 79) rfl)
theorem fl_SixWalls_126 : Cond.fieldLink "SixWalls" 126 "SixWalls$Comb" "want" "[I" ∈ lw_tbl := zt1 (List.mem_of_getElem? (i := 80) rfl)
theorem fl_SixWalls_Comb_39 : Cond.fieldLink "SixWalls$Comb" 39 "SixWalls$Comb" "thick" "[I" ∈ lw_tbl := zt1 (List.mem_of_getElem? (i := 81) rfl)
theorem fl_SixWalls_Winter_53 : Cond.fieldLink "SixWalls$Winter" 53 "SixWalls$Comb" "thick" "[I" ∈ lw_tbl := zt1 (List.mem_of_getElem? (i := 82) rfl)
theorem fl_SixWalls_Masonry_39 : Cond.fieldLink "SixWalls$Masonry" 39 "SixWalls$Comb" "thick" "[I" ∈ lw_tbl := zt1 (List.mem_of_getElem? (i := 83) rfl)
theorem fl_SixWalls_Ways_59 : Cond.fieldLink "SixWalls$Ways" 59 "SixWalls$Comb" "thick" "[I" ∈ lw_tbl := zt1 (List.mem_of_getElem? (i := 84) rfl)
theorem fl_SixWalls_138 : Cond.fieldLink "SixWalls" 138 "SixWalls$Comb" "thick" "[I" ∈ lw_tbl := zt1 (List.mem_of_getElem? (i := 85) rfl)
theorem fl_SixWalls_Comb_42 : Cond.fieldLink "SixWalls$Comb" 42 "SixWalls$Comb" "door" "[I" ∈ lw_tbl := zt1 (List.mem_of_getElem? (i := 86) rfl)
theorem fl_SixWalls_Winter_56 : Cond.fieldLink "SixWalls$Winter" 56 "SixWalls$Comb" "door" "[I" ∈ lw_tbl := zt1 (List.mem_of_getElem? (i := 87) rfl)
theorem fl_SixWalls_Ways_26 : Cond.fieldLink "SixWalls$Ways" 26 "SixWalls$Comb" "door" "[I" ∈ lw_tbl := zt1 (List.mem_of_getElem? (i := 88) rfl)
theorem fl_SixWalls_Families_44 : Cond.fieldLink "SixWalls$Families" 44 "SixWalls$Comb" "door" "[I" ∈ lw_tbl := zt1 (List.mem_of_getElem? (i := 89) rfl)
theorem fl_SixWalls_145 : Cond.fieldLink "SixWalls" 145 "SixWalls$Comb" "door" "[I" ∈ lw_tbl := zt1 (List.mem_of_getElem? (i := 90) rfl)
theorem fl_SixWalls_Comb_45 : Cond.fieldLink "SixWalls$Comb" 45 "SixWalls$Comb" "colour" "[I" ∈ lw_tbl := zt1 (List.mem_of_getElem? (i := 91) rfl)
theorem fl_SixWalls_Masonry_66 : Cond.fieldLink "SixWalls$Masonry" 66 "SixWalls$Comb" "colour" "[I" ∈ lw_tbl := zt1 (List.mem_of_getElem? (i := 92) rfl)
theorem fl_SixWalls_148 : Cond.fieldLink "SixWalls" 148 "SixWalls$Comb" "colour" "[I" ∈ lw_tbl := zt1 (List.mem_of_getElem? (i := 93) rfl)
theorem fl_SixWalls_Comb_48 : Cond.fieldLink "SixWalls$Comb" 48 "SixWalls$Comb" "frost" "I" ∈ lw_tbl := zt1 (List.mem_of_getElem? (i := 94) rfl)
theorem fl_SixWalls_Winter_88 : Cond.fieldLink "SixWalls$Winter" 88 "SixWalls$Comb" "frost" "I" ∈ lw_tbl := zt1 (List.mem_of_getElem? (i := 95) rfl)
theorem fl_SixWalls_115 : Cond.fieldLink "SixWalls" 115 "SixWalls$Comb" "frost" "I" ∈ lw_tbl := zt1 (List.mem_of_getElem? (i := 96) rfl)
theorem fl_SixWalls_Comb_52 : Cond.fieldLink "SixWalls$Comb" 52 "SixWalls$Comb" "bear" "I" ∈ lw_tbl := zt1 (List.mem_of_getElem? (i := 97) rfl)
theorem fl_SixWalls_Masonry_62 : Cond.fieldLink "SixWalls$Masonry" 62 "SixWalls$Comb" "bear" "I" ∈ lw_tbl := zt1 (List.mem_of_getElem? (i := 98) rfl)
theorem fl_SixWalls_119 : Cond.fieldLink "SixWalls" 119 "SixWalls$Comb" "bear" "I" ∈ lw_tbl := zt1 (List.mem_of_getElem? (i := 99) rfl)
theorem cl_SixWalls_16 : Cond.classLink "SixWalls" 16 "SixWalls$LawText" ∈ lw_tbl := zt1 (List.mem_of_getElem? (i := 130) rfl)
theorem zins_SixWalls_LawText : Cond.instantiable "SixWalls$LawText" 11 ∈ lw_tbl := zt1 (List.mem_of_getElem? (i := 131) rfl)
theorem mn_SixWalls_18 : Cond.methodLinkNest "SixWalls" 18 ⟨"SixWalls$LawText", "<init>", "()V"⟩ "SixWalls" ∈ lw_tbl := zt1 (List.mem_of_getElem? (i := 132) rfl)
theorem ml_SixWalls_LawText_1 : Cond.methodLink "SixWalls$LawText" 1 ⟨"java/lang/Object", "<init>", "()V"⟩ ∈ lw_tbl := zt1 (List.mem_of_getElem? (i := 135) rfl)
theorem fl_SixWalls_LawText_9 : Cond.fieldLink "SixWalls$LawText" 9 "SixWalls$LawText" "tape" "[I" ∈ lw_tbl := zt1 (List.mem_of_getElem? (i := 136) rfl)
theorem fl_SixWalls_LawText_13 : Cond.fieldLink "SixWalls$LawText" 13 "SixWalls$LawText" "fed" "I" ∈ lw_tbl := zt1 (List.mem_of_getElem? (i := 137) rfl)
theorem fl_SixWalls_LawText_17 : Cond.fieldLink "SixWalls$LawText" 17 "SixWalls$LawText" "at" "I" ∈ lw_tbl := zt1 (List.mem_of_getElem? (i := 138) rfl)
theorem fl_SixWalls_LawText_20 : Cond.fieldLink "SixWalls$LawText" 20 "SixWalls$LawText" "wrong" "Z" ∈ lw_tbl := zt1 (List.mem_of_getElem? (i := 139) rfl)
theorem fl_SixWalls_LawText_24 : Cond.fieldLink "SixWalls$LawText" 24 "SixWalls$LawText" "signs" "[I" ∈ lw_tbl := zt1 (List.mem_of_getElem? (i := 140) rfl)
theorem fl_SixWalls_LawText_27 : Cond.fieldLink "SixWalls$LawText" 27 "SixWalls$LawText" "numbers" "[I" ∈ lw_tbl := zt1 (List.mem_of_getElem? (i := 141) rfl)
theorem fl_SixWalls_LawText_30 : Cond.fieldLink "SixWalls$LawText" 30 "SixWalls$LawText" "size" "I" ∈ lw_tbl := zt1 (List.mem_of_getElem? (i := 142) rfl)
theorem fl_SixWalls_LawText_33 : Cond.fieldLink "SixWalls$LawText" 33 "SixWalls$LawText" "newSigns" "[I" ∈ lw_tbl := zt1 (List.mem_of_getElem? (i := 143) rfl)
theorem fl_SixWalls_LawText_36 : Cond.fieldLink "SixWalls$LawText" 36 "SixWalls$LawText" "newNumbers" "[I" ∈ lw_tbl := zt1 (List.mem_of_getElem? (i := 144) rfl)
theorem fl_SixWalls_LawText_39 : Cond.fieldLink "SixWalls$LawText" 39 "SixWalls$LawText" "newSize" "I" ∈ lw_tbl := zt1 (List.mem_of_getElem? (i := 145) rfl)
theorem fl_SixWalls_LawText_42 : Cond.fieldLink "SixWalls$LawText" 42 "SixWalls$LawText" "stack" "[I" ∈ lw_tbl := zt1 (List.mem_of_getElem? (i := 146) rfl)
theorem cl_SixWalls_23 : Cond.classLink "SixWalls" 23 "SixWalls$Winter" ∈ lw_tbl := zt1 (List.mem_of_getElem? (i := 170) rfl)
theorem zins_SixWalls_Winter : Cond.instantiable "SixWalls$Winter" 8 ∈ lw_tbl := zt1 (List.mem_of_getElem? (i := 171) rfl)
theorem ml_SixWalls_25 : Cond.methodLink "SixWalls" 25 ⟨"SixWalls$Winter", "<init>", "(LSixWalls$Comb;LSixWalls$LawText;)V"⟩ ∈ lw_tbl := zt1 (List.mem_of_getElem? (i := 172) rfl)
theorem ml_SixWalls_Winter_3 : Cond.methodLink "SixWalls$Winter" 3 ⟨"java/lang/Object", "<init>", "()V"⟩ ∈ lw_tbl := zt1 (List.mem_of_getElem? (i := 175) rfl)
theorem fl_SixWalls_Winter_31 : Cond.fieldLink "SixWalls$Winter" 31 "SixWalls$Winter" "comb" "LSixWalls$Comb;" ∈ lw_tbl := zt1 (List.mem_of_getElem? (i := 176) rfl)
theorem fl_SixWalls_Winter_35 : Cond.fieldLink "SixWalls$Winter" 35 "SixWalls$Winter" "text" "LSixWalls$LawText;" ∈ lw_tbl := zt1 (List.mem_of_getElem? (i := 177) rfl)
theorem fl_SixWalls_Winter_9 : Cond.fieldLink "SixWalls$Winter" 9 "SixWalls$Winter" "thought" "[I" ∈ lw_tbl := zt1 (List.mem_of_getElem? (i := 178) rfl)
theorem fl_SixWalls_201 : Cond.fieldLink "SixWalls" 201 "SixWalls$Winter" "thought" "[I" ∈ lw_tbl := zt1 (List.mem_of_getElem? (i := 179) rfl)
theorem fl_SixWalls_Winter_15 : Cond.fieldLink "SixWalls$Winter" 15 "SixWalls$Winter" "hearth" "[I" ∈ lw_tbl := zt1 (List.mem_of_getElem? (i := 180) rfl)
theorem fl_SixWalls_Winter_18 : Cond.fieldLink "SixWalls$Winter" 18 "SixWalls$Winter" "went" "[I" ∈ lw_tbl := zt1 (List.mem_of_getElem? (i := 181) rfl)
theorem fl_SixWalls_Winter_21 : Cond.fieldLink "SixWalls$Winter" 21 "SixWalls$Winter" "gain" "[I" ∈ lw_tbl := zt1 (List.mem_of_getElem? (i := 182) rfl)
theorem fl_SixWalls_Winter_24 : Cond.fieldLink "SixWalls$Winter" 24 "SixWalls$Winter" "latest" "[I" ∈ lw_tbl := zt1 (List.mem_of_getElem? (i := 183) rfl)
theorem fl_SixWalls_224 : Cond.fieldLink "SixWalls" 224 "SixWalls$Winter" "latest" "[I" ∈ lw_tbl := zt1 (List.mem_of_getElem? (i := 184) rfl)
theorem fl_SixWalls_Winter_27 : Cond.fieldLink "SixWalls$Winter" 27 "SixWalls$Winter" "passed" "I" ∈ lw_tbl := zt1 (List.mem_of_getElem? (i := 185) rfl)
theorem fl_SixWalls_221 : Cond.fieldLink "SixWalls" 221 "SixWalls$Winter" "passed" "I" ∈ lw_tbl := zt1 (List.mem_of_getElem? (i := 186) rfl)
theorem cl_SixWalls_32 : Cond.classLink "SixWalls" 32 "SixWalls$Masonry" ∈ lw_tbl := zt1 (List.mem_of_getElem? (i := 204) rfl)
theorem zins_SixWalls_Masonry : Cond.instantiable "SixWalls$Masonry" 4 ∈ lw_tbl := zt1 (List.mem_of_getElem? (i := 205) rfl)
theorem ml_SixWalls_34 : Cond.methodLink "SixWalls" 34 ⟨"SixWalls$Masonry", "<init>", "(LSixWalls$Comb;)V"⟩ ∈ lw_tbl := zt1 (List.mem_of_getElem? (i := 206) rfl)
theorem ml_SixWalls_Masonry_3 : Cond.methodLink "SixWalls$Masonry" 3 ⟨"java/lang/Object", "<init>", "()V"⟩ ∈ lw_tbl := zt1 (List.mem_of_getElem? (i := 209) rfl)
theorem fl_SixWalls_Masonry_21 : Cond.fieldLink "SixWalls$Masonry" 21 "SixWalls$Masonry" "comb" "LSixWalls$Comb;" ∈ lw_tbl := zt1 (List.mem_of_getElem? (i := 210) rfl)
theorem fl_SixWalls_Masonry_9 : Cond.fieldLink "SixWalls$Masonry" 9 "SixWalls$Masonry" "thick" "[I" ∈ lw_tbl := zt1 (List.mem_of_getElem? (i := 211) rfl)
theorem fl_SixWalls_Masonry_15 : Cond.fieldLink "SixWalls$Masonry" 15 "SixWalls$Masonry" "load" "[I" ∈ lw_tbl := zt1 (List.mem_of_getElem? (i := 212) rfl)
theorem fl_SixWalls_Masonry_18 : Cond.fieldLink "SixWalls$Masonry" 18 "SixWalls$Masonry" "paints" "[I" ∈ lw_tbl := zt1 (List.mem_of_getElem? (i := 213) rfl)
theorem cl_SixWalls_41 : Cond.classLink "SixWalls" 41 "SixWalls$Ways" ∈ lw_tbl := zt1 (List.mem_of_getElem? (i := 223) rfl)
theorem zins_SixWalls_Ways : Cond.instantiable "SixWalls$Ways" 3 ∈ lw_tbl := zt1 (List.mem_of_getElem? (i := 224) rfl)
theorem ml_SixWalls_43 : Cond.methodLink "SixWalls" 43 ⟨"SixWalls$Ways", "<init>", "(LSixWalls$Comb;)V"⟩ ∈ lw_tbl := zt1 (List.mem_of_getElem? (i := 225) rfl)
theorem ml_SixWalls_Ways_3 : Cond.methodLink "SixWalls$Ways" 3 ⟨"java/lang/Object", "<init>", "()V"⟩ ∈ lw_tbl := zt1 (List.mem_of_getElem? (i := 228) rfl)
theorem fl_SixWalls_Ways_18 : Cond.fieldLink "SixWalls$Ways" 18 "SixWalls$Ways" "comb" "LSixWalls$Comb;" ∈ lw_tbl := zt1 (List.mem_of_getElem? (i := 229) rfl)
theorem fl_SixWalls_Ways_9 : Cond.fieldLink "SixWalls$Ways" 9 "SixWalls$Ways" "company" "[I" ∈ lw_tbl := zt1 (List.mem_of_getElem? (i := 230) rfl)
theorem fl_SixWalls_Ways_15 : Cond.fieldLink "SixWalls$Ways" 15 "SixWalls$Ways" "loss" "[I" ∈ lw_tbl := zt1 (List.mem_of_getElem? (i := 231) rfl)
theorem cl_SixWalls_48 : Cond.classLink "SixWalls" 48 "SixWalls$Families" ∈ lw_tbl := zt1 (List.mem_of_getElem? (i := 239) rfl)
theorem zins_SixWalls_Families : Cond.instantiable "SixWalls$Families" 4 ∈ lw_tbl := zt2 (List.mem_of_getElem? (i := 0) rfl)
theorem ml_SixWalls_50 : Cond.methodLink "SixWalls" 50 ⟨"SixWalls$Families", "<init>", "(LSixWalls$Comb;)V"⟩ ∈ lw_tbl := zt2 (List.mem_of_getElem? (i := 1) rfl)
theorem ml_SixWalls_Families_3 : Cond.methodLink "SixWalls$Families" 3 ⟨"java/lang/Object", "<init>", "()V"⟩ ∈ lw_tbl := zt2 (List.mem_of_getElem? (i := 4) rfl)
theorem fl_SixWalls_Families_22 : Cond.fieldLink "SixWalls$Families" 22 "SixWalls$Families" "comb" "LSixWalls$Comb;" ∈ lw_tbl := zt2 (List.mem_of_getElem? (i := 5) rfl)
theorem fl_SixWalls_Families_9 : Cond.fieldLink "SixWalls$Families" 9 "SixWalls$Families" "imageWarm" "[I" ∈ lw_tbl := zt2 (List.mem_of_getElem? (i := 6) rfl)
theorem fl_SixWalls_Families_15 : Cond.fieldLink "SixWalls$Families" 15 "SixWalls$Families" "imageLived" "[I" ∈ lw_tbl := zt2 (List.mem_of_getElem? (i := 7) rfl)
theorem fl_SixWalls_Families_18 : Cond.fieldLink "SixWalls$Families" 18 "SixWalls$Families" "imaged" "Z" ∈ lw_tbl := zt2 (List.mem_of_getElem? (i := 8) rfl)
theorem cl_SixWalls_55 : Cond.classLink "SixWalls" 55 "SixWalls$History" ∈ lw_tbl := zt2 (List.mem_of_getElem? (i := 18) rfl)
theorem zins_SixWalls_History : Cond.instantiable "SixWalls$History" 7 ∈ lw_tbl := zt2 (List.mem_of_getElem? (i := 19) rfl)
theorem ml_SixWalls_57 : Cond.methodLink "SixWalls" 57 ⟨"SixWalls$History", "<init>", "(LSixWalls$Comb;)V"⟩ ∈ lw_tbl := zt2 (List.mem_of_getElem? (i := 20) rfl)
theorem ml_SixWalls_History_3 : Cond.methodLink "SixWalls$History" 3 ⟨"java/lang/Object", "<init>", "()V"⟩ ∈ lw_tbl := zt2 (List.mem_of_getElem? (i := 23) rfl)
theorem fl_SixWalls_History_31 : Cond.fieldLink "SixWalls$History" 31 "SixWalls$History" "comb" "LSixWalls$Comb;" ∈ lw_tbl := zt2 (List.mem_of_getElem? (i := 24) rfl)
theorem fl_SixWalls_History_11 : Cond.fieldLink "SixWalls$History" 11 "SixWalls$History" "number" "[I" ∈ lw_tbl := zt2 (List.mem_of_getElem? (i := 25) rfl)
theorem fl_SixWalls_History_15 : Cond.fieldLink "SixWalls$History" 15 "SixWalls$History" "what" "[I" ∈ lw_tbl := zt2 (List.mem_of_getElem? (i := 26) rfl)
theorem fl_SixWalls_History_18 : Cond.fieldLink "SixWalls$History" 18 "SixWalls$History" "before" "[I" ∈ lw_tbl := zt2 (List.mem_of_getElem? (i := 27) rfl)
theorem fl_SixWalls_History_21 : Cond.fieldLink "SixWalls$History" 21 "SixWalls$History" "after" "[I" ∈ lw_tbl := zt2 (List.mem_of_getElem? (i := 28) rfl)
theorem fl_SixWalls_History_24 : Cond.fieldLink "SixWalls$History" 24 "SixWalls$History" "standing" "I" ∈ lw_tbl := zt2 (List.mem_of_getElem? (i := 29) rfl)
theorem fl_SixWalls_History_28 : Cond.fieldLink "SixWalls$History" 28 "SixWalls$History" "kept" "I" ∈ lw_tbl := zt2 (List.mem_of_getElem? (i := 30) rfl)
theorem cl_SixWalls_62 : Cond.classLink "SixWalls" 62 "SixWalls$Cells" ∈ lw_tbl := zt2 (List.mem_of_getElem? (i := 46) rfl)
theorem zins_SixWalls_Cells : Cond.instantiable "SixWalls$Cells" 5 ∈ lw_tbl := zt2 (List.mem_of_getElem? (i := 47) rfl)
theorem mn_SixWalls_64 : Cond.methodLinkNest "SixWalls" 64 ⟨"SixWalls$Cells", "<init>", "()V"⟩ "SixWalls" ∈ lw_tbl := zt2 (List.mem_of_getElem? (i := 48) rfl)
theorem ml_SixWalls_Cells_3 : Cond.methodLink "SixWalls$Cells" 3 ⟨"java/lang/Object", "<init>", "()V"⟩ ∈ lw_tbl := zt2 (List.mem_of_getElem? (i := 51) rfl)
theorem fl_SixWalls_Cells_11 : Cond.fieldLink "SixWalls$Cells" 11 "SixWalls$Cells" "kinds" "[I" ∈ lw_tbl := zt2 (List.mem_of_getElem? (i := 52) rfl)
theorem fl_SixWalls_Cells_15 : Cond.fieldLink "SixWalls$Cells" 15 "SixWalls$Cells" "many" "I" ∈ lw_tbl := zt2 (List.mem_of_getElem? (i := 53) rfl)
theorem fl_SixWalls_Cells_19 : Cond.fieldLink "SixWalls$Cells" 19 "SixWalls$Cells" "traced" "[I" ∈ lw_tbl := zt2 (List.mem_of_getElem? (i := 54) rfl)
theorem fl_SixWalls_Cells_22 : Cond.fieldLink "SixWalls$Cells" 22 "SixWalls$Cells" "ran" "I" ∈ lw_tbl := zt2 (List.mem_of_getElem? (i := 55) rfl)
theorem fl_SixWalls_Cells_25 : Cond.fieldLink "SixWalls$Cells" 25 "SixWalls$Cells" "self" "I" ∈ lw_tbl := zt2 (List.mem_of_getElem? (i := 56) rfl)
theorem cl_SixWalls_69 : Cond.classLink "SixWalls" 69 "SixWalls$Shelves" ∈ lw_tbl := zt2 (List.mem_of_getElem? (i := 68) rfl)
theorem zins_SixWalls_Shelves : Cond.instantiable "SixWalls$Shelves" 4 ∈ lw_tbl := zt2 (List.mem_of_getElem? (i := 69) rfl)
theorem ml_SixWalls_71 : Cond.methodLink "SixWalls" 71 ⟨"SixWalls$Shelves", "<init>", "()V"⟩ ∈ lw_tbl := zt2 (List.mem_of_getElem? (i := 70) rfl)
theorem ml_SixWalls_Shelves_3 : Cond.methodLink "SixWalls$Shelves" 3 ⟨"java/lang/Object", "<init>", "()V"⟩ ∈ lw_tbl := zt2 (List.mem_of_getElem? (i := 73) rfl)
theorem cl_SixWalls_Shelves_21 : Cond.classLink "SixWalls$Shelves" 21 "[[J" ∈ lw_tbl := zt2 (List.mem_of_getElem? (i := 74) rfl)
theorem fl_SixWalls_Shelves_11 : Cond.fieldLink "SixWalls$Shelves" 11 "SixWalls$Shelves" "held" "[I" ∈ lw_tbl := zt2 (List.mem_of_getElem? (i := 76) rfl)
theorem fl_SixWalls_Shelves_15 : Cond.fieldLink "SixWalls$Shelves" 15 "SixWalls$Shelves" "cell" "[I" ∈ lw_tbl := zt2 (List.mem_of_getElem? (i := 77) rfl)
theorem fl_SixWalls_Shelves_18 : Cond.fieldLink "SixWalls$Shelves" 18 "SixWalls$Shelves" "size" "[I" ∈ lw_tbl := zt2 (List.mem_of_getElem? (i := 78) rfl)
theorem fl_SixWalls_Shelves_23 : Cond.fieldLink "SixWalls$Shelves" 23 "SixWalls$Shelves" "rows" "[[J" ∈ lw_tbl := zt2 (List.mem_of_getElem? (i := 79) rfl)
theorem fl_SixWalls_10 : Cond.fieldLink "SixWalls" 10 "SixWalls" "comb" "LSixWalls$Comb;" ∈ lw_tbl := zt2 (List.mem_of_getElem? (i := 90) rfl)
theorem fl_SixWalls_19 : Cond.fieldLink "SixWalls" 19 "SixWalls" "text" "LSixWalls$LawText;" ∈ lw_tbl := zt2 (List.mem_of_getElem? (i := 91) rfl)
theorem fl_SixWalls_28 : Cond.fieldLink "SixWalls" 28 "SixWalls" "winter" "LSixWalls$Winter;" ∈ lw_tbl := zt2 (List.mem_of_getElem? (i := 92) rfl)
theorem fl_SixWalls_37 : Cond.fieldLink "SixWalls" 37 "SixWalls" "masonry" "LSixWalls$Masonry;" ∈ lw_tbl := zt2 (List.mem_of_getElem? (i := 93) rfl)
theorem fl_SixWalls_44 : Cond.fieldLink "SixWalls" 44 "SixWalls" "ways" "LSixWalls$Ways;" ∈ lw_tbl := zt2 (List.mem_of_getElem? (i := 94) rfl)
theorem fl_SixWalls_51 : Cond.fieldLink "SixWalls" 51 "SixWalls" "families" "LSixWalls$Families;" ∈ lw_tbl := zt2 (List.mem_of_getElem? (i := 95) rfl)
theorem fl_SixWalls_58 : Cond.fieldLink "SixWalls" 58 "SixWalls" "history" "LSixWalls$History;" ∈ lw_tbl := zt2 (List.mem_of_getElem? (i := 96) rfl)
theorem fl_SixWalls_65 : Cond.fieldLink "SixWalls" 65 "SixWalls" "cells" "LSixWalls$Cells;" ∈ lw_tbl := zt2 (List.mem_of_getElem? (i := 97) rfl)
theorem fl_SixWalls_72 : Cond.fieldLink "SixWalls" 72 "SixWalls" "shelves" "LSixWalls$Shelves;" ∈ lw_tbl := zt2 (List.mem_of_getElem? (i := 98) rfl)
theorem ml_SixWallsLaw_13 : Cond.methodLink "SixWallsLaw" 13 ⟨"SixWalls", "wall", "(I)I"⟩ ∈ lw_tbl := zt2 (List.mem_of_getElem? (i := 118) rfl)
theorem ml_SixWalls_84 : Cond.methodLink "SixWalls" 84 ⟨"SixWalls", "isPair", "(I)Z"⟩ ∈ lw_tbl := zt2 (List.mem_of_getElem? (i := 122) rfl)
theorem ml_SixWalls_80 : Cond.methodLink "SixWalls" 80 ⟨"SixWalls", "isHouse", "(I)Z"⟩ ∈ lw_tbl := zt2 (List.mem_of_getElem? (i := 125) rfl)
theorem ml_SixWalls_76 : Cond.methodLink "SixWalls" 76 ⟨"SixWalls", "within", "(III)Z"⟩ ∈ lw_tbl := zt2 (List.mem_of_getElem? (i := 128) rfl)
theorem ml_SixWalls_87 : Cond.methodLink "SixWalls" 87 ⟨"SixWalls$Comb", "wallBetween", "(II)I"⟩ ∈ lw_tbl := zt2 (List.mem_of_getElem? (i := 131) rfl)
theorem ml_SixWallsLaw_18 : Cond.methodLink "SixWallsLaw" 18 ⟨"SixWalls", "mend", "(III)I"⟩ ∈ lw_tbl := zt2 (List.mem_of_getElem? (i := 135) rfl)
theorem ml_SixWalls_91 : Cond.methodLink "SixWalls" 91 ⟨"SixWalls$Comb", "fits", "(III)Z"⟩ ∈ lw_tbl := zt2 (List.mem_of_getElem? (i := 139) rfl)
theorem mn_SixWalls_Comb_72 : Cond.methodLinkNest "SixWalls$Comb" 72 ⟨"SixWalls", "isHouse", "(I)Z"⟩ "SixWalls" ∈ lw_tbl := zt2 (List.mem_of_getElem? (i := 143) rfl)
theorem mn_SixWalls_Comb_76 : Cond.methodLinkNest "SixWalls$Comb" 76 ⟨"SixWalls", "within", "(III)Z"⟩ "SixWalls" ∈ lw_tbl := zt2 (List.mem_of_getElem? (i := 144) rfl)
theorem mn_SixWalls_Comb_80 : Cond.methodLinkNest "SixWalls$Comb" 80 ⟨"SixWalls", "isWall", "(I)Z"⟩ "SixWalls" ∈ lw_tbl := zt2 (List.mem_of_getElem? (i := 145) rfl)
theorem ml_SixWalls_94 : Cond.methodLink "SixWalls" 94 ⟨"SixWalls$Comb", "told", "(II)I"⟩ ∈ lw_tbl := zt2 (List.mem_of_getElem? (i := 148) rfl)
theorem ml_SixWalls_97 : Cond.methodLink "SixWalls" 97 ⟨"SixWalls$Comb", "tell", "(III)V"⟩ ∈ lw_tbl := zt2 (List.mem_of_getElem? (i := 152) rfl)
theorem ml_SixWalls_101 : Cond.methodLink "SixWalls" 101 ⟨"SixWalls$History", "record", "(IIII)V"⟩ ∈ lw_tbl := zt2 (List.mem_of_getElem? (i := 156) rfl)
theorem ml_SixWalls_History_35 : Cond.methodLink "SixWalls$History" 35 ⟨"SixWalls$History", "dropOldest", "([I)V"⟩ ∈ lw_tbl := zt2 (List.mem_of_getElem? (i := 160) rfl)
theorem ml_SixWalls_History_39 : Cond.methodLink "SixWalls$History" 39 ⟨"java/lang/System", "arraycopy", "(Ljava/lang/Object;ILjava/lang/Object;II)V"⟩ ∈ lw_tbl := zt2 (List.mem_of_getElem? (i := 163) rfl)
theorem ml_SixWallsLaw_23 : Cond.methodLink "SixWallsLaw" 23 ⟨"SixWalls", "of", "(II)I"⟩ ∈ lw_tbl := zt2 (List.mem_of_getElem? (i := 166) rfl)
theorem ml_SixWalls_105 : Cond.methodLink "SixWalls" 105 ⟨"SixWalls", "ofHouse", "(II)I"⟩ ∈ lw_tbl := zt2 (List.mem_of_getElem? (i := 170) rfl)
theorem ml_SixWalls_141 : Cond.methodLink "SixWalls" 141 ⟨"SixWalls$Comb", "load", "(I[I)I"⟩ ∈ lw_tbl := zt2 (List.mem_of_getElem? (i := 174) rfl)
theorem kc_SixWalls_108 : Cond.constant "SixWalls" 108 (-2000000000) ∈ lw_tbl := zt2 (List.mem_of_getElem? (i := 178) rfl)
theorem ml_SixWalls_109 : Cond.methodLink "SixWalls" 109 ⟨"SixWalls", "isWall", "(I)Z"⟩ ∈ lw_tbl := zt2 (List.mem_of_getElem? (i := 179) rfl)
theorem ml_SixWalls_112 : Cond.methodLink "SixWalls" 112 ⟨"SixWalls", "ofWall", "(II)I"⟩ ∈ lw_tbl := zt2 (List.mem_of_getElem? (i := 180) rfl)
theorem ml_SixWalls_157 : Cond.methodLink "SixWalls" 157 ⟨"SixWalls$Masonry", "agreed", "(II)I"⟩ ∈ lw_tbl := zt2 (List.mem_of_getElem? (i := 184) rfl)
theorem ml_SixWalls_160 : Cond.methodLink "SixWalls" 160 ⟨"SixWalls$Winter", "flow", "(I[I)I"⟩ ∈ lw_tbl := zt2 (List.mem_of_getElem? (i := 188) rfl)
theorem ml_SixWalls_Winter_47 : Cond.methodLink "SixWalls$Winter" 47 ⟨"java/lang/Math", "abs", "(I)I"⟩ ∈ lw_tbl := zt2 (List.mem_of_getElem? (i := 192) rfl)
theorem ml_SixWalls_Winter_59 : Cond.methodLink "SixWalls$Winter" 59 ⟨"SixWalls$LawText", "isTold", "()Z"⟩ ∈ lw_tbl := zt2 (List.mem_of_getElem? (i := 193) rfl)
theorem ml_SixWalls_Winter_65 : Cond.methodLink "SixWalls$Winter" 65 ⟨"java/lang/Math", "max", "(II)I"⟩ ∈ lw_tbl := zt2 (List.mem_of_getElem? (i := 197) rfl)
theorem ml_SixWalls_Winter_69 : Cond.methodLink "SixWalls$Winter" 69 ⟨"java/lang/Math", "min", "(II)I"⟩ ∈ lw_tbl := zt2 (List.mem_of_getElem? (i := 200) rfl)
theorem ml_SixWalls_Winter_72 : Cond.methodLink "SixWalls$Winter" 72 ⟨"SixWalls$LawText", "worth", "(IIIII)I"⟩ ∈ lw_tbl := zt2 (List.mem_of_getElem? (i := 203) rfl)
theorem ml_SixWalls_LawText_83 : Cond.methodLink "SixWalls$LawText" 83 ⟨"java/lang/Math", "max", "(II)I"⟩ ∈ lw_tbl := zt2 (List.mem_of_getElem? (i := 207) rfl)
theorem ml_SixWalls_LawText_69 : Cond.methodLink "SixWalls$LawText" 69 ⟨"SixWalls$LawText", "levelOf", "(I)I"⟩ ∈ lw_tbl := zt2 (List.mem_of_getElem? (i := 208) rfl)
theorem ml_SixWalls_LawText_86 : Cond.methodLink "SixWalls$LawText" 86 ⟨"SixWalls$LawText", "joined", "(III)I"⟩ ∈ lw_tbl := zt2 (List.mem_of_getElem? (i := 211) rfl)
theorem ml_SixWalls_LawText_90 : Cond.methodLink "SixWalls$LawText" 90 ⟨"SixWalls$LawText", "named", "(IIIIII)I"⟩ ∈ lw_tbl := zt2 (List.mem_of_getElem? (i := 214) rfl)
theorem ml_SixWallsLaw_28 : Cond.methodLink "SixWallsLaw" 28 ⟨"SixWalls", "fires", "(III)I"⟩ ∈ lw_tbl := zt2 (List.mem_of_getElem? (i := 217) rfl)
theorem ml_SixWalls_163 : Cond.methodLink "SixWalls" 163 ⟨"SixWalls$Shelves", "isShelf", "(I)Z"⟩ ∈ lw_tbl := zt2 (List.mem_of_getElem? (i := 221) rfl)
theorem ml_SixWalls_166 : Cond.methodLink "SixWalls" 166 ⟨"SixWalls$Shelves", "mayBeBytes", "(I)Z"⟩ ∈ lw_tbl := zt2 (List.mem_of_getElem? (i := 225) rfl)
theorem ml_SixWalls_169 : Cond.methodLink "SixWalls" 169 ⟨"java/lang/Math", "min", "(II)I"⟩ ∈ lw_tbl := zt2 (List.mem_of_getElem? (i := 229) rfl)
theorem ml_SixWalls_174 : Cond.methodLink "SixWalls" 174 ⟨"SixWalls$Shelves", "hasPlace", "(II)Z"⟩ ∈ lw_tbl := zt2 (List.mem_of_getElem? (i := 230) rfl)
theorem ml_SixWalls_178 : Cond.methodLink "SixWalls" 178 ⟨"SixWalls$Shelves", "at", "(II)J"⟩ ∈ lw_tbl := zt2 (List.mem_of_getElem? (i := 234) rfl)
theorem kl_SixWalls_182 : Cond.constantLong "SixWalls" 182 (9) ∈ lw_tbl := zt2 (List.mem_of_getElem? (i := 238) rfl)
theorem ml_SixWallsLaw_32 : Cond.methodLink "SixWallsLaw" 32 ⟨"SixWalls", "feed", "(I)I"⟩ ∈ lw_tbl := zt2 (List.mem_of_getElem? (i := 239) rfl)
theorem ml_SixWalls_184 : Cond.methodLink "SixWalls" 184 ⟨"SixWalls$LawText", "take", "(I)Z"⟩ ∈ lw_tbl := zt3 (List.mem_of_getElem? (i := 3) rfl)
theorem ml_SixWalls_187 : Cond.methodLink "SixWalls" 187 ⟨"SixWalls$LawText", "fed", "()I"⟩ ∈ lw_tbl := zt3 (List.mem_of_getElem? (i := 7) rfl)
theorem ml_SixWallsLaw_36 : Cond.methodLink "SixWallsLaw" 36 ⟨"SixWalls", "law", "()I"⟩ ∈ lw_tbl := zt3 (List.mem_of_getElem? (i := 11) rfl)
theorem ml_SixWalls_191 : Cond.methodLink "SixWalls" 191 ⟨"SixWalls$LawText", "read", "()I"⟩ ∈ lw_tbl := zt3 (List.mem_of_getElem? (i := 15) rfl)
theorem ml_SixWalls_LawText_45 : Cond.methodLink "SixWalls$LawText" 45 ⟨"SixWalls$LawText", "readLine", "()V"⟩ ∈ lw_tbl := zt3 (List.mem_of_getElem? (i := 19) rfl)
theorem ml_SixWalls_LawText_54 : Cond.methodLink "SixWalls$LawText" 54 ⟨"SixWalls$LawText", "readLevel", "(II)V"⟩ ∈ lw_tbl := zt3 (List.mem_of_getElem? (i := 23) rfl)
theorem ml_SixWalls_LawText_65 : Cond.methodLink "SixWalls$LawText" 65 ⟨"SixWalls$LawText", "readOperand", "(I)V"⟩ ∈ lw_tbl := zt3 (List.mem_of_getElem? (i := 27) rfl)
theorem ml_SixWalls_LawText_58 : Cond.methodLink "SixWalls$LawText" 58 ⟨"SixWalls$LawText", "peek", "()I"⟩ ∈ lw_tbl := zt3 (List.mem_of_getElem? (i := 31) rfl)
theorem ml_SixWalls_LawText_73 : Cond.methodLink "SixWalls$LawText" 73 ⟨"SixWalls$LawText", "isDigit", "(I)Z"⟩ ∈ lw_tbl := zt3 (List.mem_of_getElem? (i := 35) rfl)
theorem ml_SixWalls_LawText_77 : Cond.methodLink "SixWalls$LawText" 77 ⟨"SixWalls$LawText", "readNumber", "()V"⟩ ∈ lw_tbl := zt3 (List.mem_of_getElem? (i := 38) rfl)
theorem ml_SixWalls_LawText_62 : Cond.methodLink "SixWalls$LawText" 62 ⟨"SixWalls$LawText", "emit", "(II)I"⟩ ∈ lw_tbl := zt3 (List.mem_of_getElem? (i := 42) rfl)
theorem ml_SixWalls_LawText_48 : Cond.methodLink "SixWalls$LawText" 48 ⟨"java/lang/Math", "min", "(II)I"⟩ ∈ lw_tbl := zt3 (List.mem_of_getElem? (i := 46) rfl)
theorem ml_SixWalls_LawText_80 : Cond.methodLink "SixWalls$LawText" 80 ⟨"SixWalls$LawText", "isName", "(I)Z"⟩ ∈ lw_tbl := zt3 (List.mem_of_getElem? (i := 47) rfl)
theorem ml_SixWallsLaw_41 : Cond.methodLink "SixWallsLaw" 41 ⟨"SixWalls", "warmth", "(II)I"⟩ ∈ lw_tbl := zt3 (List.mem_of_getElem? (i := 50) rfl)
theorem ml_SixWalls_194 : Cond.methodLink "SixWalls" 194 ⟨"SixWalls", "isThought", "(I)Z"⟩ ∈ lw_tbl := zt3 (List.mem_of_getElem? (i := 54) rfl)
theorem ml_SixWalls_197 : Cond.methodLink "SixWalls" 197 ⟨"SixWalls$Winter", "think", "(I)V"⟩ ∈ lw_tbl := zt3 (List.mem_of_getElem? (i := 57) rfl)
theorem ml_SixWalls_Winter_101 : Cond.methodLink "SixWalls$Winter" 101 ⟨"SixWalls$Winter", "begin", "()V"⟩ ∈ lw_tbl := zt3 (List.mem_of_getElem? (i := 61) rfl)
theorem ml_SixWalls_Winter_79 : Cond.methodLink "SixWalls$Winter" 79 ⟨"java/lang/System", "arraycopy", "(Ljava/lang/Object;ILjava/lang/Object;II)V"⟩ ∈ lw_tbl := zt3 (List.mem_of_getElem? (i := 65) rfl)
theorem ml_SixWalls_Winter_104 : Cond.methodLink "SixWalls$Winter" 104 ⟨"SixWalls$Winter", "passAll", "(I)V"⟩ ∈ lw_tbl := zt3 (List.mem_of_getElem? (i := 66) rfl)
theorem ml_SixWalls_Winter_98 : Cond.methodLink "SixWalls$Winter" 98 ⟨"SixWalls$Winter", "pass", "()Z"⟩ ∈ lw_tbl := zt3 (List.mem_of_getElem? (i := 70) rfl)
theorem ml_SixWalls_Winter_94 : Cond.methodLink "SixWalls$Winter" 94 ⟨"SixWalls$Winter", "flow", "(I[I)I"⟩ ∈ lw_tbl := zt3 (List.mem_of_getElem? (i := 74) rfl)
theorem ml_SixWalls_204 : Cond.methodLink "SixWalls" 204 ⟨"SixWalls", "sum", "([I)I"⟩ ∈ lw_tbl := zt3 (List.mem_of_getElem? (i := 75) rfl)
theorem ml_SixWallsLaw_45 : Cond.methodLink "SixWallsLaw" 45 ⟨"SixWalls", "cold", "(II)I"⟩ ∈ lw_tbl := zt3 (List.mem_of_getElem? (i := 78) rfl)
theorem ml_SixWallsLaw_49 : Cond.methodLink "SixWallsLaw" 49 ⟨"SixWalls", "still", "()I"⟩ ∈ lw_tbl := zt3 (List.mem_of_getElem? (i := 82) rfl)
theorem ml_SixWalls_208 : Cond.methodLink "SixWalls" 208 ⟨"SixWalls$Winter", "daysTillStill", "()I"⟩ ∈ lw_tbl := zt3 (List.mem_of_getElem? (i := 86) rfl)
theorem ml_SixWallsLaw_53 : Cond.methodLink "SixWallsLaw" 53 ⟨"SixWalls", "gave", "(II)I"⟩ ∈ lw_tbl := zt3 (List.mem_of_getElem? (i := 90) rfl)
theorem ml_SixWalls_211 : Cond.methodLink "SixWalls" 211 ⟨"SixWalls$Winter", "goneThrough", "(II)I"⟩ ∈ lw_tbl := zt3 (List.mem_of_getElem? (i := 94) rfl)
theorem ml_SixWallsLaw_57 : Cond.methodLink "SixWallsLaw" 57 ⟨"SixWalls", "leastFire", "(II)I"⟩ ∈ lw_tbl := zt3 (List.mem_of_getElem? (i := 98) rfl)
theorem ml_SixWalls_214 : Cond.methodLink "SixWalls" 214 ⟨"SixWalls$Winter", "fireFor", "(III)I"⟩ ∈ lw_tbl := zt3 (List.mem_of_getElem? (i := 102) rfl)
theorem ml_SixWallsLaw_61 : Cond.methodLink "SixWallsLaw" 61 ⟨"SixWalls", "days", "(I)I"⟩ ∈ lw_tbl := zt3 (List.mem_of_getElem? (i := 106) rfl)
theorem ml_SixWalls_218 : Cond.methodLink "SixWalls" 218 ⟨"SixWalls$Winter", "live", "(I)V"⟩ ∈ lw_tbl := zt3 (List.mem_of_getElem? (i := 110) rfl)
theorem ml_SixWallsLaw_65 : Cond.methodLink "SixWallsLaw" 65 ⟨"SixWalls", "led", "(I)I"⟩ ∈ lw_tbl := zt3 (List.mem_of_getElem? (i := 114) rfl)
theorem ml_SixWallsLaw_69 : Cond.methodLink "SixWallsLaw" 69 ⟨"SixWalls", "rounds", "(I)I"⟩ ∈ lw_tbl := zt3 (List.mem_of_getElem? (i := 118) rfl)
theorem ml_SixWalls_227 : Cond.methodLink "SixWalls" 227 ⟨"SixWalls$Masonry", "settle", "()I"⟩ ∈ lw_tbl := zt3 (List.mem_of_getElem? (i := 122) rfl)
theorem ml_SixWalls_Masonry_40 : Cond.methodLink "SixWalls$Masonry" 40 ⟨"java/lang/System", "arraycopy", "(Ljava/lang/Object;ILjava/lang/Object;II)V"⟩ ∈ lw_tbl := zt3 (List.mem_of_getElem? (i := 126) rfl)
theorem ml_SixWalls_Masonry_46 : Cond.methodLink "SixWalls$Masonry" 46 ⟨"SixWalls$Comb", "load", "(I[I)I"⟩ ∈ lw_tbl := zt3 (List.mem_of_getElem? (i := 127) rfl)
theorem ml_SixWalls_Masonry_49 : Cond.methodLink "SixWalls$Masonry" 49 ⟨"SixWalls$Masonry", "goRound", "()Z"⟩ ∈ lw_tbl := zt3 (List.mem_of_getElem? (i := 128) rfl)
theorem ml_SixWalls_Masonry_53 : Cond.methodLink "SixWalls$Masonry" 53 ⟨"SixWalls$Masonry", "agreed", "(II)I"⟩ ∈ lw_tbl := zt3 (List.mem_of_getElem? (i := 132) rfl)
theorem ml_SixWalls_Masonry_57 : Cond.methodLink "SixWalls$Masonry" 57 ⟨"java/lang/Integer", "compare", "(II)I"⟩ ∈ lw_tbl := zt3 (List.mem_of_getElem? (i := 133) rfl)
theorem ml_SixWalls_230 : Cond.methodLink "SixWalls" 230 ⟨"SixWalls$Masonry", "thickThen", "(I)I"⟩ ∈ lw_tbl := zt3 (List.mem_of_getElem? (i := 136) rfl)
theorem ml_SixWallsLaw_73 : Cond.methodLink "SixWallsLaw" 73 ⟨"SixWalls", "way", "(I)I"⟩ ∈ lw_tbl := zt3 (List.mem_of_getElem? (i := 140) rfl)
theorem ml_SixWalls_234 : Cond.methodLink "SixWalls" 234 ⟨"SixWalls$Ways", "steps", "(II)I"⟩ ∈ lw_tbl := zt3 (List.mem_of_getElem? (i := 144) rfl)
theorem ml_SixWalls_Ways_22 : Cond.methodLink "SixWalls$Ways" 22 ⟨"SixWalls$Ways", "besides", "(I)I"⟩ ∈ lw_tbl := zt3 (List.mem_of_getElem? (i := 148) rfl)
theorem ml_SixWallsLaw_77 : Cond.methodLink "SixWallsLaw" 77 ⟨"SixWalls", "doors", "(I)I"⟩ ∈ lw_tbl := zt3 (List.mem_of_getElem? (i := 152) rfl)
theorem ml_SixWalls_237 : Cond.methodLink "SixWalls" 237 ⟨"SixWalls$Ways", "shutIn", "()I"⟩ ∈ lw_tbl := zt3 (List.mem_of_getElem? (i := 156) rfl)
theorem ml_SixWalls_Ways_51 : Cond.methodLink "SixWalls$Ways" 51 ⟨"SixWalls$Ways", "gather", "()V"⟩ ∈ lw_tbl := zt3 (List.mem_of_getElem? (i := 160) rfl)
theorem ml_SixWalls_Ways_37 : Cond.methodLink "SixWalls$Ways" 37 ⟨"SixWalls$Comb", "atEdge", "(I)Z"⟩ ∈ lw_tbl := zt3 (List.mem_of_getElem? (i := 164) rfl)
theorem ml_SixWalls_Ways_41 : Cond.methodLink "SixWalls$Ways" 41 ⟨"SixWalls$Ways", "join", "(II)V"⟩ ∈ lw_tbl := zt3 (List.mem_of_getElem? (i := 168) rfl)
theorem ml_SixWalls_Ways_45 : Cond.methodLink "SixWalls$Ways" 45 ⟨"java/lang/Math", "max", "(II)I"⟩ ∈ lw_tbl := zt3 (List.mem_of_getElem? (i := 172) rfl)
theorem ml_SixWalls_240 : Cond.methodLink "SixWalls" 240 ⟨"SixWalls$Ways", "friends", "()I"⟩ ∈ lw_tbl := zt3 (List.mem_of_getElem? (i := 173) rfl)
theorem ml_SixWallsLaw_81 : Cond.methodLink "SixWallsLaw" 81 ⟨"SixWalls", "opened", "(I)J"⟩ ∈ lw_tbl := zt3 (List.mem_of_getElem? (i := 177) rfl)
theorem kl_SixWalls_245 : Cond.constantLong "SixWalls" 245 (-9223372036854775808) ∈ lw_tbl := zt3 (List.mem_of_getElem? (i := 181) rfl)
theorem ml_SixWalls_247 : Cond.methodLink "SixWalls" 247 ⟨"SixWalls$Ways", "fewestMore", "()J"⟩ ∈ lw_tbl := zt3 (List.mem_of_getElem? (i := 182) rfl)
theorem kc_SixWalls_Ways_57 : Cond.constant "SixWalls$Ways" 57 (65536) ∈ lw_tbl := zt3 (List.mem_of_getElem? (i := 186) rfl)
theorem ml_SixWalls_251 : Cond.methodLink "SixWalls" 251 ⟨"java/lang/Long", "bitCount", "(J)I"⟩ ∈ lw_tbl := zt3 (List.mem_of_getElem? (i := 187) rfl)
theorem kl_JLong_314 : Cond.constantLong "java/lang/Long" 314 (6148914691236517205) ∈ lw_tbl := zt3 (List.mem_of_getElem? (i := 190) rfl)
theorem kl_JLong_316 : Cond.constantLong "java/lang/Long" 316 (3689348814741910323) ∈ lw_tbl := zt3 (List.mem_of_getElem? (i := 191) rfl)
theorem kl_JLong_318 : Cond.constantLong "java/lang/Long" 318 (1085102592571150095) ∈ lw_tbl := zt3 (List.mem_of_getElem? (i := 192) rfl)
theorem ml_SixWallsLaw_86 : Cond.methodLink "SixWallsLaw" 86 ⟨"SixWalls", "heard", "(II)I"⟩ ∈ lw_tbl := zt3 (List.mem_of_getElem? (i := 193) rfl)
theorem ml_SixWalls_255 : Cond.methodLink "SixWalls" 255 ⟨"SixWalls$Ways", "loudness", "(III)I"⟩ ∈ lw_tbl := zt3 (List.mem_of_getElem? (i := 197) rfl)
theorem ml_SixWalls_Ways_66 : Cond.methodLink "SixWalls$Ways" 66 ⟨"SixWalls$Ways", "listen", "(I)V"⟩ ∈ lw_tbl := zt3 (List.mem_of_getElem? (i := 201) rfl)
theorem kc_SixWalls_Ways_58 : Cond.constant "SixWalls$Ways" 58 (1000000) ∈ lw_tbl := zt3 (List.mem_of_getElem? (i := 205) rfl)
theorem ml_SixWalls_Ways_62 : Cond.methodLink "SixWalls$Ways" 62 ⟨"SixWalls$Ways", "pass", "(III)Z"⟩ ∈ lw_tbl := zt3 (List.mem_of_getElem? (i := 206) rfl)
theorem ml_SixWallsLaw_90 : Cond.methodLink "SixWallsLaw" 90 ⟨"SixWalls", "whose", "(II)I"⟩ ∈ lw_tbl := zt3 (List.mem_of_getElem? (i := 210) rfl)
theorem kc_SixWalls_258 : Cond.constant "SixWalls" 258 (65535) ∈ lw_tbl := zt3 (List.mem_of_getElem? (i := 214) rfl)
theorem ml_SixWalls_259 : Cond.methodLink "SixWalls" 259 ⟨"SixWalls$Ways", "sources", "(II)I"⟩ ∈ lw_tbl := zt3 (List.mem_of_getElem? (i := 215) rfl)
theorem ml_SixWalls_Ways_70 : Cond.methodLink "SixWalls$Ways" 70 ⟨"SixWalls$Ways", "hearers", "(II)I"⟩ ∈ lw_tbl := zt3 (List.mem_of_getElem? (i := 219) rfl)
theorem ml_SixWallsLaw_94 : Cond.methodLink "SixWallsLaw" 94 ⟨"SixWalls", "colours", "(I)I"⟩ ∈ lw_tbl := zt3 (List.mem_of_getElem? (i := 223) rfl)
theorem ml_SixWalls_262 : Cond.methodLink "SixWalls" 262 ⟨"SixWalls$Masonry", "clashes", "()I"⟩ ∈ lw_tbl := zt3 (List.mem_of_getElem? (i := 227) rfl)
theorem ml_SixWalls_Masonry_69 : Cond.methodLink "SixWalls$Masonry" 69 ⟨"SixWalls$Masonry", "clashesOf", "([I)I"⟩ ∈ lw_tbl := zt3 (List.mem_of_getElem? (i := 231) rfl)
theorem ml_SixWalls_Masonry_73 : Cond.methodLink "SixWalls$Masonry" 73 ⟨"SixWalls$Masonry", "alike", "(II[I)I"⟩ ∈ lw_tbl := zt3 (List.mem_of_getElem? (i := 235) rfl)
theorem ml_SixWalls_Masonry_77 : Cond.methodLink "SixWalls$Masonry" 77 ⟨"SixWalls$Masonry", "alikeIn", "(III[I)I"⟩ ∈ lw_tbl := zt3 (List.mem_of_getElem? (i := 239) rfl)
theorem ml_SixWalls_265 : Cond.methodLink "SixWalls" 265 ⟨"SixWalls$Masonry", "calmed", "()I"⟩ ∈ lw_tbl := zt4 (List.mem_of_getElem? (i := 3) rfl)
theorem ml_SixWalls_Masonry_87 : Cond.methodLink "SixWalls$Masonry" 87 ⟨"SixWalls$Masonry", "calmest", "(I[I)I"⟩ ∈ lw_tbl := zt4 (List.mem_of_getElem? (i := 7) rfl)
theorem ml_SixWalls_268 : Cond.methodLink "SixWalls" 268 ⟨"SixWalls$Masonry", "pots", "()I"⟩ ∈ lw_tbl := zt4 (List.mem_of_getElem? (i := 11) rfl)
theorem ml_SixWalls_Masonry_90 : Cond.methodLink "SixWalls$Masonry" 90 ⟨"java/lang/Integer", "bitCount", "(I)I"⟩ ∈ lw_tbl := zt4 (List.mem_of_getElem? (i := 15) rfl)
theorem kc_JInteger_265 : Cond.constant "java/lang/Integer" 265 (1431655765) ∈ lw_tbl := zt4 (List.mem_of_getElem? (i := 18) rfl)
theorem kc_JInteger_266 : Cond.constant "java/lang/Integer" 266 (858993459) ∈ lw_tbl := zt4 (List.mem_of_getElem? (i := 19) rfl)
theorem kc_JInteger_267 : Cond.constant "java/lang/Integer" 267 (252645135) ∈ lw_tbl := zt4 (List.mem_of_getElem? (i := 20) rfl)
theorem ml_SixWallsLaw_98 : Cond.methodLink "SixWallsLaw" 98 ⟨"SixWalls", "paint", "(I)I"⟩ ∈ lw_tbl := zt4 (List.mem_of_getElem? (i := 21) rfl)
theorem ml_SixWalls_271 : Cond.methodLink "SixWalls" 271 ⟨"SixWalls$Masonry", "calmest", "(I[I)I"⟩ ∈ lw_tbl := zt4 (List.mem_of_getElem? (i := 25) rfl)
theorem ml_SixWallsLaw_102 : Cond.methodLink "SixWallsLaw" 102 ⟨"SixWalls", "empty", "(I)I"⟩ ∈ lw_tbl := zt4 (List.mem_of_getElem? (i := 26) rfl)
theorem ml_SixWallsLaw_106 : Cond.methodLink "SixWallsLaw" 106 ⟨"SixWalls", "takes", "(II)I"⟩ ∈ lw_tbl := zt4 (List.mem_of_getElem? (i := 30) rfl)
theorem ml_SixWalls_274 : Cond.methodLink "SixWalls" 274 ⟨"SixWalls$Families", "taker", "(I)I"⟩ ∈ lw_tbl := zt4 (List.mem_of_getElem? (i := 34) rfl)
theorem ml_SixWalls_277 : Cond.methodLink "SixWalls" 277 ⟨"SixWalls$Families", "takeIn", "(II)V"⟩ ∈ lw_tbl := zt4 (List.mem_of_getElem? (i := 38) rfl)
theorem ml_SixWalls_Families_40 : Cond.methodLink "SixWalls$Families" 40 ⟨"SixWalls$Comb", "wallBetween", "(II)I"⟩ ∈ lw_tbl := zt4 (List.mem_of_getElem? (i := 42) rfl)
theorem ml_SixWallsLaw_110 : Cond.methodLink "SixWallsLaw" 110 ⟨"SixWalls", "where", "(I)I"⟩ ∈ lw_tbl := zt4 (List.mem_of_getElem? (i := 43) rfl)
theorem ml_SixWallsLaw_114 : Cond.methodLink "SixWallsLaw" 114 ⟨"SixWalls", "years", "(II)I"⟩ ∈ lw_tbl := zt4 (List.mem_of_getElem? (i := 47) rfl)
theorem ml_SixWalls_281 : Cond.methodLink "SixWalls" 281 ⟨"SixWalls$Families", "grow", "(II)V"⟩ ∈ lw_tbl := zt4 (List.mem_of_getElem? (i := 51) rfl)
theorem kc_SixWalls_Families_47 : Cond.constant "SixWalls$Families" 47 (1103515245) ∈ lw_tbl := zt4 (List.mem_of_getElem? (i := 55) rfl)
theorem ml_SixWalls_Families_48 : Cond.methodLink "SixWalls$Families" 48 ⟨"SixWalls$Families", "befall", "(II)V"⟩ ∈ lw_tbl := zt4 (List.mem_of_getElem? (i := 56) rfl)
theorem ml_SixWalls_Families_52 : Cond.methodLink "SixWalls$Families" 52 ⟨"SixWalls$Families", "bear", "(I)V"⟩ ∈ lw_tbl := zt4 (List.mem_of_getElem? (i := 60) rfl)
theorem ml_SixWalls_Families_56 : Cond.methodLink "SixWalls$Families" 56 ⟨"SixWalls$Families", "feud", "(I)V"⟩ ∈ lw_tbl := zt4 (List.mem_of_getElem? (i := 64) rfl)
theorem ml_SixWalls_Families_62 : Cond.methodLink "SixWalls$Families" 62 ⟨"java/lang/Math", "min", "(II)I"⟩ ∈ lw_tbl := zt4 (List.mem_of_getElem? (i := 68) rfl)
theorem ml_SixWalls_Families_67 : Cond.methodLink "SixWalls$Families" 67 ⟨"java/lang/Math", "max", "(II)I"⟩ ∈ lw_tbl := zt4 (List.mem_of_getElem? (i := 69) rfl)
theorem ml_SixWallsLaw_118 : Cond.methodLink "SixWallsLaw" 118 ⟨"SixWalls", "image", "()I"⟩ ∈ lw_tbl := zt4 (List.mem_of_getElem? (i := 70) rfl)
theorem ml_SixWalls_284 : Cond.methodLink "SixWalls" 284 ⟨"SixWalls$Families", "keepImage", "()V"⟩ ∈ lw_tbl := zt4 (List.mem_of_getElem? (i := 74) rfl)
theorem ml_SixWalls_Families_76 : Cond.methodLink "SixWalls$Families" 76 ⟨"java/lang/System", "arraycopy", "(Ljava/lang/Object;ILjava/lang/Object;II)V"⟩ ∈ lw_tbl := zt4 (List.mem_of_getElem? (i := 78) rfl)
theorem ml_SixWallsLaw_122 : Cond.methodLink "SixWallsLaw" 122 ⟨"SixWalls", "back", "()I"⟩ ∈ lw_tbl := zt4 (List.mem_of_getElem? (i := 79) rfl)
theorem ml_SixWalls_287 : Cond.methodLink "SixWalls" 287 ⟨"SixWalls$Families", "layBack", "()Z"⟩ ∈ lw_tbl := zt4 (List.mem_of_getElem? (i := 83) rfl)
theorem ml_SixWallsLaw_126 : Cond.methodLink "SixWallsLaw" 126 ⟨"SixWalls", "undo", "()I"⟩ ∈ lw_tbl := zt4 (List.mem_of_getElem? (i := 87) rfl)
theorem ml_SixWalls_291 : Cond.methodLink "SixWalls" 291 ⟨"SixWalls$History", "takeBack", "()I"⟩ ∈ lw_tbl := zt4 (List.mem_of_getElem? (i := 91) rfl)
theorem ml_SixWalls_History_45 : Cond.methodLink "SixWalls$History" 45 ⟨"SixWalls$Comb", "tell", "(III)V"⟩ ∈ lw_tbl := zt4 (List.mem_of_getElem? (i := 95) rfl)
theorem ml_SixWallsLaw_130 : Cond.methodLink "SixWallsLaw" 130 ⟨"SixWalls", "redo", "()I"⟩ ∈ lw_tbl := zt4 (List.mem_of_getElem? (i := 96) rfl)
theorem ml_SixWalls_294 : Cond.methodLink "SixWalls" 294 ⟨"SixWalls$History", "doAgain", "()I"⟩ ∈ lw_tbl := zt4 (List.mem_of_getElem? (i := 100) rfl)
theorem ml_SixWallsLaw_134 : Cond.methodLink "SixWallsLaw" 134 ⟨"SixWalls", "body", "(I)I"⟩ ∈ lw_tbl := zt4 (List.mem_of_getElem? (i := 104) rfl)
theorem ml_SixWalls_297 : Cond.methodLink "SixWalls" 297 ⟨"SixWalls$Cells", "isKind", "(I)Z"⟩ ∈ lw_tbl := zt4 (List.mem_of_getElem? (i := 108) rfl)
theorem fl_SixWalls_Cells_28 : Cond.fieldLink "SixWalls$Cells" 28 "SixWalls$Cells" "ABOVE" "[I" ∈ lw_tbl := zt4 (List.mem_of_getElem? (i := 112) rfl)
theorem ml_SixWalls_300 : Cond.methodLink "SixWalls" 300 ⟨"SixWalls$Cells", "add", "(I)I"⟩ ∈ lw_tbl := zt4 (List.mem_of_getElem? (i := 114) rfl)
theorem ml_SixWallsLaw_138 : Cond.methodLink "SixWallsLaw" 138 ⟨"SixWalls", "act", "(III)I"⟩ ∈ lw_tbl := zt4 (List.mem_of_getElem? (i := 118) rfl)
theorem ml_SixWalls_303 : Cond.methodLink "SixWalls" 303 ⟨"SixWalls$Cells", "run", "(III)I"⟩ ∈ lw_tbl := zt4 (List.mem_of_getElem? (i := 122) rfl)
theorem ml_SixWalls_Cells_31 : Cond.methodLink "SixWalls$Cells" 31 ⟨"SixWalls$Cells", "isBody", "(I)Z"⟩ ∈ lw_tbl := zt4 (List.mem_of_getElem? (i := 126) rfl)
theorem ml_SixWalls_Cells_45 : Cond.methodLink "SixWalls$Cells" 45 ⟨"SixWalls$Cells", "from", "(IIII)I"⟩ ∈ lw_tbl := zt4 (List.mem_of_getElem? (i := 130) rfl)
theorem fl_SixWalls_Cells_49 : Cond.fieldLink "SixWalls$Cells" 49 "SixWalls$Cells" "BODIES" "[I" ∈ lw_tbl := zt4 (List.mem_of_getElem? (i := 134) rfl)
theorem ml_SixWalls_Cells_52 : Cond.methodLink "SixWalls$Cells" 52 ⟨"SixWalls$Cells", "perform", "(IIII)I"⟩ ∈ lw_tbl := zt4 (List.mem_of_getElem? (i := 136) rfl)
theorem ml_SixWalls_Cells_55 : Cond.methodLink "SixWalls$Cells" 55 ⟨"SixWalls$Cells", "own", "(III)I"⟩ ∈ lw_tbl := zt4 (List.mem_of_getElem? (i := 140) rfl)
theorem ml_SixWallsLaw_142 : Cond.methodLink "SixWallsLaw" 142 ⟨"SixWalls", "trace", "(I)I"⟩ ∈ lw_tbl := zt4 (List.mem_of_getElem? (i := 144) rfl)
theorem ml_SixWalls_306 : Cond.methodLink "SixWalls" 306 ⟨"SixWalls$Cells", "ranAt", "(I)I"⟩ ∈ lw_tbl := zt4 (List.mem_of_getElem? (i := 148) rfl)
theorem ml_SixWalls_Cells_39 : Cond.methodLink "SixWalls$Cells" 39 ⟨"java/lang/Math", "min", "(II)I"⟩ ∈ lw_tbl := zt4 (List.mem_of_getElem? (i := 152) rfl)
theorem ml_SixWallsLaw_146 : Cond.methodLink "SixWallsLaw" 146 ⟨"SixWalls", "keep", "(II)I"⟩ ∈ lw_tbl := zt4 (List.mem_of_getElem? (i := 153) rfl)
theorem ml_SixWalls_309 : Cond.methodLink "SixWalls" 309 ⟨"SixWalls$Cells", "isBody", "(I)Z"⟩ ∈ lw_tbl := zt4 (List.mem_of_getElem? (i := 157) rfl)
theorem ml_SixWalls_312 : Cond.methodLink "SixWalls" 312 ⟨"SixWalls$Shelves", "hold", "(II)V"⟩ ∈ lw_tbl := zt4 (List.mem_of_getElem? (i := 158) rfl)
theorem ml_SixWallsLaw_150 : Cond.methodLink "SixWallsLaw" 150 ⟨"SixWalls", "row", "(III)I"⟩ ∈ lw_tbl := zt4 (List.mem_of_getElem? (i := 162) rfl)
theorem ml_SixWalls_315 : Cond.methodLink "SixWalls" 315 ⟨"SixWalls$Shelves", "isSort", "(I)Z"⟩ ∈ lw_tbl := zt4 (List.mem_of_getElem? (i := 166) rfl)
theorem ml_SixWalls_318 : Cond.methodLink "SixWalls" 318 ⟨"SixWalls$Shelves", "lay", "(III)V"⟩ ∈ lw_tbl := zt4 (List.mem_of_getElem? (i := 170) rfl)
theorem ml_SixWallsLaw_156 : Cond.methodLink "SixWallsLaw" 156 ⟨"SixWalls", "put", "(IIJ)I"⟩ ∈ lw_tbl := zt4 (List.mem_of_getElem? (i := 174) rfl)
theorem ml_SixWalls_321 : Cond.methodLink "SixWalls" 321 ⟨"SixWalls$Shelves", "refusal", "(II)I"⟩ ∈ lw_tbl := zt4 (List.mem_of_getElem? (i := 178) rfl)
theorem ml_SixWalls_Shelves_30 : Cond.methodLink "SixWalls$Shelves" 30 ⟨"SixWalls$Shelves", "refusalOfRow", "(I)I"⟩ ∈ lw_tbl := zt4 (List.mem_of_getElem? (i := 182) rfl)
theorem ml_SixWalls_Shelves_26 : Cond.methodLink "SixWalls$Shelves" 26 ⟨"SixWalls$Shelves", "isShelf", "(I)Z"⟩ ∈ lw_tbl := zt4 (List.mem_of_getElem? (i := 186) rfl)
theorem ml_SixWalls_Shelves_34 : Cond.methodLink "SixWalls$Shelves" 34 ⟨"SixWalls$Shelves", "hasPlace", "(II)Z"⟩ ∈ lw_tbl := zt4 (List.mem_of_getElem? (i := 187) rfl)
theorem ml_SixWalls_324 : Cond.methodLink "SixWalls" 324 ⟨"SixWalls$Shelves", "set", "(IIJ)V"⟩ ∈ lw_tbl := zt4 (List.mem_of_getElem? (i := 188) rfl)
theorem ml_SixWalls_Shelves_38 : Cond.methodLink "SixWalls$Shelves" 38 ⟨"SixWalls$Shelves", "narrowed", "(IJ)J"⟩ ∈ lw_tbl := zt4 (List.mem_of_getElem? (i := 192) rfl)
theorem ml_SixWallsLaw_161 : Cond.methodLink "SixWallsLaw" 161 ⟨"SixWalls", "element", "(II)J"⟩ ∈ lw_tbl := zt4 (List.mem_of_getElem? (i := 195) rfl)
theorem ml_SixWallsLaw_166 : Cond.methodLink "SixWallsLaw" 166 ⟨"SixWalls", "shift", "(IIIII)I"⟩ ∈ lw_tbl := zt4 (List.mem_of_getElem? (i := 199) rfl)
theorem ml_SixWalls_328 : Cond.methodLink "SixWalls" 328 ⟨"SixWalls$Shelves", "refusalOfTwo", "(II)I"⟩ ∈ lw_tbl := zt4 (List.mem_of_getElem? (i := 203) rfl)
theorem ml_SixWalls_331 : Cond.methodLink "SixWalls" 331 ⟨"SixWalls$Shelves", "hasStretch", "(III)Z"⟩ ∈ lw_tbl := zt4 (List.mem_of_getElem? (i := 207) rfl)
theorem ml_SixWalls_334 : Cond.methodLink "SixWalls" 334 ⟨"SixWalls$Shelves", "move", "(IIIII)V"⟩ ∈ lw_tbl := zt4 (List.mem_of_getElem? (i := 211) rfl)
theorem ml_SixWalls_Shelves_42 : Cond.methodLink "SixWalls$Shelves" 42 ⟨"java/lang/System", "arraycopy", "(Ljava/lang/Object;ILjava/lang/Object;II)V"⟩ ∈ lw_tbl := zt4 (List.mem_of_getElem? (i := 215) rfl)
theorem ml_SixWallsLaw_171 : Cond.methodLink "SixWallsLaw" 171 ⟨"SixWalls", "taken", "(II)I"⟩ ∈ lw_tbl := zt4 (List.mem_of_getElem? (i := 216) rfl)
theorem ml_SixWalls_338 : Cond.methodLink "SixWalls" 338 ⟨"SixWalls$Shelves", "isBare", "(I)Z"⟩ ∈ lw_tbl := zt4 (List.mem_of_getElem? (i := 220) rfl)
theorem ml_SixWalls_341 : Cond.methodLink "SixWalls" 341 ⟨"SixWalls$Shelves", "cellOn", "(I)I"⟩ ∈ lw_tbl := zt4 (List.mem_of_getElem? (i := 224) rfl)
theorem ml_SixWalls_344 : Cond.methodLink "SixWalls" 344 ⟨"SixWalls$Cells", "isUnder", "(II)Z"⟩ ∈ lw_tbl := zt4 (List.mem_of_getElem? (i := 228) rfl)
theorem ml_SixWalls_Cells_35 : Cond.methodLink "SixWalls$Cells" 35 ⟨"SixWalls$Cells", "kindOf", "(I)I"⟩ ∈ lw_tbl := zt4 (List.mem_of_getElem? (i := 232) rfl)
theorem ml_SixWalls_347 : Cond.methodLink "SixWalls" 347 ⟨"SixWalls$Cells", "kindOf", "(I)I"⟩ ∈ lw_tbl := zt4 (List.mem_of_getElem? (i := 236) rfl)
theorem ml_SixWallsLaw_175 : Cond.methodLink "SixWallsLaw" 175 ⟨"SixWalls", "count", "(I)I"⟩ ∈ lw_tbl := zt4 (List.mem_of_getElem? (i := 237) rfl)
theorem ml_SixWalls_350 : Cond.methodLink "SixWalls" 350 ⟨"SixWalls$History", "undoable", "()I"⟩ ∈ lw_tbl := zt5 (List.mem_of_getElem? (i := 1) rfl)
theorem ml_SixWalls_353 : Cond.methodLink "SixWalls" 353 ⟨"SixWalls$Cells", "many", "()I"⟩ ∈ lw_tbl := zt5 (List.mem_of_getElem? (i := 5) rfl)
theorem ml_SixWalls_356 : Cond.methodLink "SixWalls" 356 ⟨"SixWalls$Cells", "ran", "()I"⟩ ∈ lw_tbl := zt5 (List.mem_of_getElem? (i := 9) rfl)
theorem cl_SixWallsLaw_10 : Cond.classLink "SixWallsLaw" 10 "SixWallsModel" ∈ lw_tbl := zt5 (List.mem_of_getElem? (i := 13) rfl)
theorem zins_SixWallsModel : Cond.instantiable "SixWallsModel" 44 ∈ lw_tbl := zt5 (List.mem_of_getElem? (i := 14) rfl)
theorem ml_SixWallsLaw_12 : Cond.methodLink "SixWallsLaw" 12 ⟨"SixWallsModel", "<init>", "()V"⟩ ∈ lw_tbl := zt5 (List.mem_of_getElem? (i := 15) rfl)
theorem ml_SixWallsModel_3 : Cond.methodLink "SixWallsModel" 3 ⟨"java/lang/Object", "<init>", "()V"⟩ ∈ lw_tbl := zt5 (List.mem_of_getElem? (i := 18) rfl)
theorem ml_SixWallsModel_97 : Cond.methodLink "SixWallsModel" 97 ⟨"SixWallsModel", "areNeighbours", "(II)Z"⟩ ∈ lw_tbl := zt5 (List.mem_of_getElem? (i := 19) rfl)
theorem fl_SixWallsModel_9 : Cond.fieldLink "SixWallsModel" 9 "SixWallsModel" "may" "[I" ∈ lw_tbl := zt5 (List.mem_of_getElem? (i := 22) rfl)
theorem fl_SixWallsModel_13 : Cond.fieldLink "SixWallsModel" 13 "SixWallsModel" "changeAt" "[I" ∈ lw_tbl := zt5 (List.mem_of_getElem? (i := 23) rfl)
theorem fl_SixWallsModel_16 : Cond.fieldLink "SixWallsModel" 16 "SixWallsModel" "changeWas" "[I" ∈ lw_tbl := zt5 (List.mem_of_getElem? (i := 24) rfl)
theorem fl_SixWallsModel_19 : Cond.fieldLink "SixWallsModel" 19 "SixWallsModel" "changeIs" "[I" ∈ lw_tbl := zt5 (List.mem_of_getElem? (i := 25) rfl)
theorem fl_SixWallsModel_107 : Cond.fieldLink "SixWallsModel" 107 "SixWallsModel" "keptMany" "I" ∈ lw_tbl := zt5 (List.mem_of_getElem? (i := 26) rfl)
theorem fl_SixWallsModel_104 : Cond.fieldLink "SixWallsModel" 104 "SixWallsModel" "done" "I" ∈ lw_tbl := zt5 (List.mem_of_getElem? (i := 27) rfl)
theorem fl_SixWallsModel_101 : Cond.fieldLink "SixWallsModel" 101 "SixWallsModel" "walls" "I" ∈ lw_tbl := zt5 (List.mem_of_getElem? (i := 28) rfl)
theorem fl_SixWallsModel_22 : Cond.fieldLink "SixWallsModel" 22 "SixWallsModel" "one" "[I" ∈ lw_tbl := zt5 (List.mem_of_getElem? (i := 29) rfl)
theorem fl_SixWallsModel_25 : Cond.fieldLink "SixWallsModel" 25 "SixWallsModel" "other" "[I" ∈ lw_tbl := zt5 (List.mem_of_getElem? (i := 30) rfl)
theorem fl_SixWallsModel_28 : Cond.fieldLink "SixWallsModel" 28 "SixWallsModel" "warmth" "[I" ∈ lw_tbl := zt5 (List.mem_of_getElem? (i := 31) rfl)
theorem fl_SixWallsModel_31 : Cond.fieldLink "SixWallsModel" 31 "SixWallsModel" "lives" "[Z" ∈ lw_tbl := zt5 (List.mem_of_getElem? (i := 32) rfl)
theorem fl_SixWallsModel_35 : Cond.fieldLink "SixWallsModel" 35 "SixWallsModel" "tape" "[I" ∈ lw_tbl := zt5 (List.mem_of_getElem? (i := 33) rfl)
theorem fl_SixWallsModel_182 : Cond.fieldLink "SixWallsModel" 182 "SixWallsModel" "tapeMany" "I" ∈ lw_tbl := zt5 (List.mem_of_getElem? (i := 34) rfl)
theorem fl_SixWallsModel_38 : Cond.fieldLink "SixWallsModel" 38 "SixWallsModel" "text" "[I" ∈ lw_tbl := zt5 (List.mem_of_getElem? (i := 35) rfl)
theorem fl_SixWallsModel_93 : Cond.fieldLink "SixWallsModel" 93 "SixWallsModel" "textMany" "I" ∈ lw_tbl := zt5 (List.mem_of_getElem? (i := 36) rfl)
theorem fl_SixWallsModel_191 : Cond.fieldLink "SixWallsModel" 191 "SixWallsModel" "base" "I" ∈ lw_tbl := zt5 (List.mem_of_getElem? (i := 37) rfl)
theorem fl_SixWallsModel_185 : Cond.fieldLink "SixWallsModel" 185 "SixWallsModel" "at" "I" ∈ lw_tbl := zt5 (List.mem_of_getElem? (i := 38) rfl)
theorem fl_SixWallsModel_188 : Cond.fieldLink "SixWallsModel" 188 "SixWallsModel" "ends" "I" ∈ lw_tbl := zt5 (List.mem_of_getElem? (i := 39) rfl)
theorem fl_SixWallsModel_194 : Cond.fieldLink "SixWallsModel" 194 "SixWallsModel" "fault" "I" ∈ lw_tbl := zt5 (List.mem_of_getElem? (i := 40) rfl)
theorem fl_SixWallsModel_219 : Cond.fieldLink "SixWallsModel" 219 "SixWallsModel" "opened1" "I" ∈ lw_tbl := zt5 (List.mem_of_getElem? (i := 41) rfl)
theorem fl_SixWallsModel_41 : Cond.fieldLink "SixWallsModel" 41 "SixWallsModel" "names" "[I" ∈ lw_tbl := zt5 (List.mem_of_getElem? (i := 42) rfl)
theorem fl_SixWallsModel_44 : Cond.fieldLink "SixWallsModel" 44 "SixWallsModel" "then" "[I" ∈ lw_tbl := zt5 (List.mem_of_getElem? (i := 43) rfl)
theorem fl_SixWallsModel_47 : Cond.fieldLink "SixWallsModel" 47 "SixWallsModel" "next" "[I" ∈ lw_tbl := zt5 (List.mem_of_getElem? (i := 44) rfl)
theorem fl_SixWallsModel_50 : Cond.fieldLink "SixWallsModel" 50 "SixWallsModel" "flows" "[I" ∈ lw_tbl := zt5 (List.mem_of_getElem? (i := 45) rfl)
theorem fl_SixWallsModel_53 : Cond.fieldLink "SixWallsModel" 53 "SixWallsModel" "gone" "[I" ∈ lw_tbl := zt5 (List.mem_of_getElem? (i := 46) rfl)
theorem fl_SixWallsModel_253 : Cond.fieldLink "SixWallsModel" 253 "SixWallsModel" "daysDone" "I" ∈ lw_tbl := zt5 (List.mem_of_getElem? (i := 47) rfl)
theorem fl_SixWallsModel_56 : Cond.fieldLink "SixWallsModel" 56 "SixWallsModel" "ledFlow" "[I" ∈ lw_tbl := zt5 (List.mem_of_getElem? (i := 48) rfl)
theorem fl_SixWallsModel_59 : Cond.fieldLink "SixWallsModel" 59 "SixWallsModel" "thick" "[I" ∈ lw_tbl := zt5 (List.mem_of_getElem? (i := 49) rfl)
theorem fl_SixWallsModel_62 : Cond.fieldLink "SixWallsModel" 62 "SixWallsModel" "far" "[I" ∈ lw_tbl := zt5 (List.mem_of_getElem? (i := 50) rfl)
theorem fl_SixWallsModel_280 : Cond.fieldLink "SixWallsModel" 280 "SixWallsModel" "openBest" "J" ∈ lw_tbl := zt5 (List.mem_of_getElem? (i := 51) rfl)
theorem fl_SixWallsModel_65 : Cond.fieldLink "SixWallsModel" 65 "SixWallsModel" "colour" "[I" ∈ lw_tbl := zt5 (List.mem_of_getElem? (i := 52) rfl)
theorem fl_SixWallsModel_315 : Cond.fieldLink "SixWallsModel" 315 "SixWallsModel" "isKept" "Z" ∈ lw_tbl := zt5 (List.mem_of_getElem? (i := 53) rfl)
theorem fl_SixWallsModel_68 : Cond.fieldLink "SixWallsModel" 68 "SixWallsModel" "imageWarmth" "[I" ∈ lw_tbl := zt5 (List.mem_of_getElem? (i := 54) rfl)
theorem fl_SixWallsModel_71 : Cond.fieldLink "SixWallsModel" 71 "SixWallsModel" "imageLives" "[Z" ∈ lw_tbl := zt5 (List.mem_of_getElem? (i := 55) rfl)
theorem fl_SixWallsModel_322 : Cond.fieldLink "SixWallsModel" 322 "SixWallsModel" "bodies" "I" ∈ lw_tbl := zt5 (List.mem_of_getElem? (i := 56) rfl)
theorem fl_SixWallsModel_74 : Cond.fieldLink "SixWallsModel" 74 "SixWallsModel" "bodyKind" "[I" ∈ lw_tbl := zt5 (List.mem_of_getElem? (i := 57) rfl)
theorem fl_SixWallsModel_77 : Cond.fieldLink "SixWallsModel" 77 "SixWallsModel" "trace" "[I" ∈ lw_tbl := zt5 (List.mem_of_getElem? (i := 58) rfl)
theorem fl_SixWallsModel_327 : Cond.fieldLink "SixWallsModel" 327 "SixWallsModel" "ran" "I" ∈ lw_tbl := zt5 (List.mem_of_getElem? (i := 59) rfl)
theorem fl_SixWallsModel_342 : Cond.fieldLink "SixWallsModel" 342 "SixWallsModel" "ownKind" "I" ∈ lw_tbl := zt5 (List.mem_of_getElem? (i := 60) rfl)
theorem fl_SixWallsModel_336 : Cond.fieldLink "SixWallsModel" 336 "SixWallsModel" "ownNumber" "I" ∈ lw_tbl := zt5 (List.mem_of_getElem? (i := 61) rfl)
theorem fl_SixWallsModel_80 : Cond.fieldLink "SixWallsModel" 80 "SixWallsModel" "shelf" "[I" ∈ lw_tbl := zt5 (List.mem_of_getElem? (i := 62) rfl)
theorem fl_SixWallsModel_83 : Cond.fieldLink "SixWallsModel" 83 "SixWallsModel" "many" "[I" ∈ lw_tbl := zt5 (List.mem_of_getElem? (i := 63) rfl)
theorem fl_SixWallsModel_86 : Cond.fieldLink "SixWallsModel" 86 "SixWallsModel" "items" "[J" ∈ lw_tbl := zt5 (List.mem_of_getElem? (i := 64) rfl)
theorem fl_SixWallsModel_90 : Cond.fieldLink "SixWallsModel" 90 "SixWallsModel" "carried" "[J" ∈ lw_tbl := zt5 (List.mem_of_getElem? (i := 65) rfl)
theorem ml_SixWallsLaw_129 : Cond.methodLink "SixWallsLaw" 129 ⟨"SixWallsModel", "undo", "()I"⟩ ∈ lw_tbl := zt5 (List.mem_of_getElem? (i := 156) rfl)
theorem ml_SixWallsLaw_133 : Cond.methodLink "SixWallsLaw" 133 ⟨"SixWallsModel", "redo", "()I"⟩ ∈ lw_tbl := zt5 (List.mem_of_getElem? (i := 160) rfl)
theorem ml_SixWallsLaw_17 : Cond.methodLink "SixWallsLaw" 17 ⟨"SixWallsModel", "wall", "(I)I"⟩ ∈ lw_tbl := zt5 (List.mem_of_getElem? (i := 164) rfl)
theorem ml_SixWallsModel_122 : Cond.methodLink "SixWallsModel" 122 ⟨"SixWallsModel", "isAb", "(I)Z"⟩ ∈ lw_tbl := zt5 (List.mem_of_getElem? (i := 168) rfl)
theorem ml_SixWallsModel_118 : Cond.methodLink "SixWallsModel" 118 ⟨"SixWallsModel", "isHouse", "(I)Z"⟩ ∈ lw_tbl := zt5 (List.mem_of_getElem? (i := 171) rfl)
theorem kl_SixWallsModel_110 : Cond.constantLong "SixWallsModel" 110 (15) ∈ lw_tbl := zt5 (List.mem_of_getElem? (i := 174) rfl)
theorem ml_SixWallsModel_112 : Cond.methodLink "SixWallsModel" 112 ⟨"SixWallsModel", "within", "(JJJ)Z"⟩ ∈ lw_tbl := zt5 (List.mem_of_getElem? (i := 175) rfl)
theorem ml_SixWallsModel_125 : Cond.methodLink "SixWallsModel" 125 ⟨"SixWallsModel", "wallOf", "(II)I"⟩ ∈ lw_tbl := zt5 (List.mem_of_getElem? (i := 178) rfl)
theorem ml_SixWallsLaw_22 : Cond.methodLink "SixWallsLaw" 22 ⟨"SixWallsModel", "mend", "(III)I"⟩ ∈ lw_tbl := zt5 (List.mem_of_getElem? (i := 182) rfl)
theorem kl_SixWallsModel_129 : Cond.constantLong "SixWallsModel" 129 (9) ∈ lw_tbl := zt5 (List.mem_of_getElem? (i := 186) rfl)
theorem ml_SixWallsModel_131 : Cond.methodLink "SixWallsModel" 131 ⟨"SixWallsModel", "becomes", "(II)I"⟩ ∈ lw_tbl := zt5 (List.mem_of_getElem? (i := 187) rfl)
theorem ml_SixWallsModel_134 : Cond.methodLink "SixWallsModel" 134 ⟨"SixWallsModel", "isWall", "(I)Z"⟩ ∈ lw_tbl := zt5 (List.mem_of_getElem? (i := 191) rfl)
theorem kl_SixWallsModel_116 : Cond.constantLong "SixWallsModel" 116 (32) ∈ lw_tbl := zt5 (List.mem_of_getElem? (i := 194) rfl)
theorem kl_SixWallsModel_137 : Cond.constantLong "SixWallsModel" 137 (5) ∈ lw_tbl := zt5 (List.mem_of_getElem? (i := 195) rfl)
theorem kl_SixWallsModel_139 : Cond.constantLong "SixWallsModel" 139 (6) ∈ lw_tbl := zt5 (List.mem_of_getElem? (i := 196) rfl)
theorem kl_SixWallsModel_141 : Cond.constantLong "SixWallsModel" 141 (54) ∈ lw_tbl := zt5 (List.mem_of_getElem? (i := 197) rfl)
theorem ml_SixWallsLaw_27 : Cond.methodLink "SixWallsLaw" 27 ⟨"SixWallsModel", "of", "(II)I"⟩ ∈ lw_tbl := zt5 (List.mem_of_getElem? (i := 198) rfl)
theorem ml_SixWallsModel_162 : Cond.methodLink "SixWallsModel" 162 ⟨"SixWallsModel", "ofHouse", "(II)I"⟩ ∈ lw_tbl := zt5 (List.mem_of_getElem? (i := 202) rfl)
theorem ml_SixWallsModel_143 : Cond.methodLink "SixWallsModel" 143 ⟨"SixWallsModel", "neighboursOf", "(I)I"⟩ ∈ lw_tbl := zt5 (List.mem_of_getElem? (i := 206) rfl)
theorem ml_SixWallsModel_147 : Cond.methodLink "SixWallsModel" 147 ⟨"SixWallsModel", "asksThick", "()V"⟩ ∈ lw_tbl := zt5 (List.mem_of_getElem? (i := 210) rfl)
theorem ml_SixWallsModel_150 : Cond.methodLink "SixWallsModel" 150 ⟨"SixWallsModel", "borne", "(I)I"⟩ ∈ lw_tbl := zt5 (List.mem_of_getElem? (i := 214) rfl)
theorem kc_SixWallsModel_165 : Cond.constant "SixWallsModel" 165 (-2000000000) ∈ lw_tbl := zt5 (List.mem_of_getElem? (i := 218) rfl)
theorem kl_SixWallsModel_166 : Cond.constantLong "SixWallsModel" 166 (10) ∈ lw_tbl := zt5 (List.mem_of_getElem? (i := 219) rfl)
theorem ml_SixWallsModel_168 : Cond.methodLink "SixWallsModel" 168 ⟨"SixWallsModel", "ofWall", "(II)I"⟩ ∈ lw_tbl := zt5 (List.mem_of_getElem? (i := 220) rfl)
theorem ml_SixWallsModel_153 : Cond.methodLink "SixWallsModel" 153 ⟨"SixWallsModel", "agreedOf", "(I)I"⟩ ∈ lw_tbl := zt5 (List.mem_of_getElem? (i := 224) rfl)
theorem ml_SixWallsModel_156 : Cond.methodLink "SixWallsModel" 156 ⟨"SixWallsModel", "begins1", "()V"⟩ ∈ lw_tbl := zt5 (List.mem_of_getElem? (i := 228) rfl)
theorem ml_SixWallsModel_159 : Cond.methodLink "SixWallsModel" 159 ⟨"SixWallsModel", "flowOf", "(I)I"⟩ ∈ lw_tbl := zt5 (List.mem_of_getElem? (i := 232) rfl)
theorem ml_SixWallsModel_234 : Cond.methodLink "SixWallsModel" 234 ⟨"SixWallsModel", "throughOf", "(III)I"⟩ ∈ lw_tbl := zt5 (List.mem_of_getElem? (i := 236) rfl)
theorem ml_SixWallsModel_231 : Cond.methodLink "SixWallsModel" 231 ⟨"SixWallsModel", "workOut", "(II)I"⟩ ∈ lw_tbl := zt6 (List.mem_of_getElem? (i := 0) rfl)
theorem ml_SixWallsModel_225 : Cond.methodLink "SixWallsModel" 225 ⟨"SixWallsModel", "either", "()I"⟩ ∈ lw_tbl := zt6 (List.mem_of_getElem? (i := 4) rfl)
theorem ml_SixWallsModel_201 : Cond.methodLink "SixWallsModel" 201 ⟨"SixWallsModel", "both", "()I"⟩ ∈ lw_tbl := zt6 (List.mem_of_getElem? (i := 8) rfl)
theorem ml_SixWallsModel_207 : Cond.methodLink "SixWallsModel" 207 ⟨"SixWallsModel", "compared", "()I"⟩ ∈ lw_tbl := zt6 (List.mem_of_getElem? (i := 12) rfl)
theorem ml_SixWallsModel_210 : Cond.methodLink "SixWallsModel" 210 ⟨"SixWallsModel", "sums", "()I"⟩ ∈ lw_tbl := zt6 (List.mem_of_getElem? (i := 16) rfl)
theorem ml_SixWallsModel_213 : Cond.methodLink "SixWallsModel" 213 ⟨"SixWallsModel", "product", "()I"⟩ ∈ lw_tbl := zt6 (List.mem_of_getElem? (i := 20) rfl)
theorem ml_SixWallsModel_216 : Cond.methodLink "SixWallsModel" 216 ⟨"SixWallsModel", "oneOf", "()I"⟩ ∈ lw_tbl := zt6 (List.mem_of_getElem? (i := 24) rfl)
theorem ml_SixWallsModel_197 : Cond.methodLink "SixWallsModel" 197 ⟨"SixWallsModel", "byteAt", "()I"⟩ ∈ lw_tbl := zt6 (List.mem_of_getElem? (i := 28) rfl)
theorem ml_SixWallsModel_222 : Cond.methodLink "SixWallsModel" 222 ⟨"SixWallsModel", "wrong", "()I"⟩ ∈ lw_tbl := zt6 (List.mem_of_getElem? (i := 32) rfl)
theorem ml_SixWallsModel_204 : Cond.methodLink "SixWallsModel" 204 ⟨"SixWallsModel", "takesByte", "(I)Z"⟩ ∈ lw_tbl := zt6 (List.mem_of_getElem? (i := 36) rfl)
theorem ml_SixWallsModel_228 : Cond.methodLink "SixWallsModel" 228 ⟨"SixWallsModel", "nameOf", "(I)I"⟩ ∈ lw_tbl := zt6 (List.mem_of_getElem? (i := 40) rfl)
theorem kl_SixWallsModel_171 : Cond.constantLong "SixWallsModel" 171 (20) ∈ lw_tbl := zt6 (List.mem_of_getElem? (i := 43) rfl)
theorem kl_SixWallsModel_173 : Cond.constantLong "SixWallsModel" 173 (21) ∈ lw_tbl := zt6 (List.mem_of_getElem? (i := 44) rfl)
theorem ml_SixWallsLaw_31 : Cond.methodLink "SixWallsLaw" 31 ⟨"SixWallsModel", "fires", "(III)I"⟩ ∈ lw_tbl := zt6 (List.mem_of_getElem? (i := 45) rfl)
theorem ml_SixWallsModel_175 : Cond.methodLink "SixWallsModel" 175 ⟨"SixWallsModel", "isShelf", "(I)Z"⟩ ∈ lw_tbl := zt6 (List.mem_of_getElem? (i := 49) rfl)
theorem kl_SixWallsModel_178 : Cond.constantLong "SixWallsModel" 178 (16) ∈ lw_tbl := zt6 (List.mem_of_getElem? (i := 52) rfl)
theorem ml_SixWallsLaw_35 : Cond.methodLink "SixWallsLaw" 35 ⟨"SixWallsModel", "feed", "(I)I"⟩ ∈ lw_tbl := zt6 (List.mem_of_getElem? (i := 53) rfl)
theorem kl_SixWallsModel_180 : Cond.constantLong "SixWallsModel" 180 (255) ∈ lw_tbl := zt6 (List.mem_of_getElem? (i := 57) rfl)
theorem ml_SixWallsLaw_40 : Cond.methodLink "SixWallsLaw" 40 ⟨"SixWallsModel", "law", "()I"⟩ ∈ lw_tbl := zt6 (List.mem_of_getElem? (i := 58) rfl)
theorem ml_SixWallsLaw_44 : Cond.methodLink "SixWallsLaw" 44 ⟨"SixWallsModel", "warmth", "(II)I"⟩ ∈ lw_tbl := zt6 (List.mem_of_getElem? (i := 62) rfl)
theorem kl_SixWallsModel_242 : Cond.constantLong "SixWallsModel" 242 (30) ∈ lw_tbl := zt6 (List.mem_of_getElem? (i := 66) rfl)
theorem ml_SixWallsModel_244 : Cond.methodLink "SixWallsModel" 244 ⟨"SixWallsModel", "winter", "(I)V"⟩ ∈ lw_tbl := zt6 (List.mem_of_getElem? (i := 67) rfl)
theorem ml_SixWallsModel_238 : Cond.methodLink "SixWallsModel" 238 ⟨"SixWallsModel", "dayGoes", "()Z"⟩ ∈ lw_tbl := zt6 (List.mem_of_getElem? (i := 71) rfl)
theorem ml_SixWallsModel_248 : Cond.methodLink "SixWallsModel" 248 ⟨"SixWallsModel", "allThen", "()I"⟩ ∈ lw_tbl := zt6 (List.mem_of_getElem? (i := 75) rfl)
theorem ml_SixWallsLaw_48 : Cond.methodLink "SixWallsLaw" 48 ⟨"SixWallsModel", "cold", "(II)I"⟩ ∈ lw_tbl := zt6 (List.mem_of_getElem? (i := 79) rfl)
theorem kl_SixWallsModel_251 : Cond.constantLong "SixWallsModel" 251 (99) ∈ lw_tbl := zt6 (List.mem_of_getElem? (i := 83) rfl)
theorem ml_SixWallsLaw_52 : Cond.methodLink "SixWallsLaw" 52 ⟨"SixWallsModel", "still", "()I"⟩ ∈ lw_tbl := zt6 (List.mem_of_getElem? (i := 84) rfl)
theorem ml_SixWallsLaw_56 : Cond.methodLink "SixWallsLaw" 56 ⟨"SixWallsModel", "gave", "(II)I"⟩ ∈ lw_tbl := zt6 (List.mem_of_getElem? (i := 88) rfl)
theorem ml_SixWallsLaw_60 : Cond.methodLink "SixWallsLaw" 60 ⟨"SixWallsModel", "leastFire", "(II)I"⟩ ∈ lw_tbl := zt6 (List.mem_of_getElem? (i := 92) rfl)
theorem ml_SixWallsLaw_64 : Cond.methodLink "SixWallsLaw" 64 ⟨"SixWallsModel", "days", "(I)I"⟩ ∈ lw_tbl := zt6 (List.mem_of_getElem? (i := 96) rfl)
theorem ml_SixWallsLaw_68 : Cond.methodLink "SixWallsLaw" 68 ⟨"SixWallsModel", "led", "(I)I"⟩ ∈ lw_tbl := zt6 (List.mem_of_getElem? (i := 100) rfl)
theorem ml_SixWallsLaw_72 : Cond.methodLink "SixWallsLaw" 72 ⟨"SixWallsModel", "rounds", "(I)I"⟩ ∈ lw_tbl := zt6 (List.mem_of_getElem? (i := 104) rfl)
theorem ml_SixWallsModel_256 : Cond.methodLink "SixWallsModel" 256 ⟨"SixWallsModel", "roundGoes", "()Z"⟩ ∈ lw_tbl := zt6 (List.mem_of_getElem? (i := 108) rfl)
theorem ml_SixWallsLaw_76 : Cond.methodLink "SixWallsLaw" 76 ⟨"SixWallsModel", "way", "(I)I"⟩ ∈ lw_tbl := zt6 (List.mem_of_getElem? (i := 112) rfl)
theorem ml_SixWallsModel_262 : Cond.methodLink "SixWallsModel" 262 ⟨"SixWallsModel", "measures", "(IZ)V"⟩ ∈ lw_tbl := zt6 (List.mem_of_getElem? (i := 116) rfl)
theorem ml_SixWallsModel_259 : Cond.methodLink "SixWallsModel" 259 ⟨"SixWallsModel", "comesTo", "(II)Z"⟩ ∈ lw_tbl := zt6 (List.mem_of_getElem? (i := 120) rfl)
theorem ml_SixWallsLaw_80 : Cond.methodLink "SixWallsLaw" 80 ⟨"SixWallsModel", "doors", "(I)I"⟩ ∈ lw_tbl := zt6 (List.mem_of_getElem? (i := 124) rfl)
theorem ml_SixWallsModel_270 : Cond.methodLink "SixWallsModel" 270 ⟨"SixWallsModel", "livedIn", "()I"⟩ ∈ lw_tbl := zt6 (List.mem_of_getElem? (i := 128) rfl)
theorem ml_SixWallsModel_273 : Cond.methodLink "SixWallsModel" 273 ⟨"SixWallsModel", "outWith", "(J)I"⟩ ∈ lw_tbl := zt6 (List.mem_of_getElem? (i := 132) rfl)
theorem ml_SixWallsModel_266 : Cond.methodLink "SixWallsModel" 266 ⟨"SixWallsModel", "isIn", "(JI)Z"⟩ ∈ lw_tbl := zt6 (List.mem_of_getElem? (i := 136) rfl)
theorem ml_SixWallsModel_277 : Cond.methodLink "SixWallsModel" 277 ⟨"SixWallsModel", "bitsOf", "(J)I"⟩ ∈ lw_tbl := zt6 (List.mem_of_getElem? (i := 139) rfl)
theorem ml_SixWallsLaw_85 : Cond.methodLink "SixWallsLaw" 85 ⟨"SixWallsModel", "opened", "(I)J"⟩ ∈ lw_tbl := zt6 (List.mem_of_getElem? (i := 142) rfl)
theorem kl_SixWallsModel_290 : Cond.constantLong "SixWallsModel" 290 (-9223372036854775808) ∈ lw_tbl := zt6 (List.mem_of_getElem? (i := 146) rfl)
theorem kl_SixWallsModel_292 : Cond.constantLong "SixWallsModel" 292 (-1) ∈ lw_tbl := zt6 (List.mem_of_getElem? (i := 147) rfl)
theorem ml_SixWallsModel_284 : Cond.methodLink "SixWallsModel" 284 ⟨"SixWallsModel", "opens", "(IIJ)V"⟩ ∈ lw_tbl := zt6 (List.mem_of_getElem? (i := 148) rfl)
theorem ml_SixWallsLaw_89 : Cond.methodLink "SixWallsLaw" 89 ⟨"SixWallsModel", "heard", "(II)I"⟩ ∈ lw_tbl := zt6 (List.mem_of_getElem? (i := 152) rfl)
theorem ml_SixWallsLaw_93 : Cond.methodLink "SixWallsLaw" 93 ⟨"SixWallsModel", "whose", "(II)I"⟩ ∈ lw_tbl := zt6 (List.mem_of_getElem? (i := 156) rfl)
theorem kl_SixWallsModel_294 : Cond.constantLong "SixWallsModel" 294 (65535) ∈ lw_tbl := zt6 (List.mem_of_getElem? (i := 160) rfl)
theorem ml_SixWallsLaw_101 : Cond.methodLink "SixWallsLaw" 101 ⟨"SixWallsModel", "paint", "(I)I"⟩ ∈ lw_tbl := zt6 (List.mem_of_getElem? (i := 161) rfl)
theorem ml_SixWallsModel_299 : Cond.methodLink "SixWallsModel" 299 ⟨"SixWallsModel", "asksColours", "()V"⟩ ∈ lw_tbl := zt6 (List.mem_of_getElem? (i := 165) rfl)
theorem ml_SixWallsModel_302 : Cond.methodLink "SixWallsModel" 302 ⟨"SixWallsModel", "bestColour", "(I)I"⟩ ∈ lw_tbl := zt6 (List.mem_of_getElem? (i := 169) rfl)
theorem ml_SixWallsModel_296 : Cond.methodLink "SixWallsModel" 296 ⟨"SixWallsModel", "clashes", "()I"⟩ ∈ lw_tbl := zt6 (List.mem_of_getElem? (i := 173) rfl)
theorem ml_SixWallsLaw_97 : Cond.methodLink "SixWallsLaw" 97 ⟨"SixWallsModel", "colours", "(I)I"⟩ ∈ lw_tbl := zt6 (List.mem_of_getElem? (i := 177) rfl)
theorem ml_SixWallsLaw_105 : Cond.methodLink "SixWallsLaw" 105 ⟨"SixWallsModel", "empty", "(I)I"⟩ ∈ lw_tbl := zt6 (List.mem_of_getElem? (i := 181) rfl)
theorem ml_SixWallsLaw_109 : Cond.methodLink "SixWallsLaw" 109 ⟨"SixWallsModel", "takes", "(II)I"⟩ ∈ lw_tbl := zt6 (List.mem_of_getElem? (i := 185) rfl)
theorem ml_SixWallsModel_305 : Cond.methodLink "SixWallsModel" 305 ⟨"SixWallsModel", "whoTakes", "(I)I"⟩ ∈ lw_tbl := zt6 (List.mem_of_getElem? (i := 189) rfl)
theorem ml_SixWallsLaw_113 : Cond.methodLink "SixWallsLaw" 113 ⟨"SixWallsModel", "where", "(I)I"⟩ ∈ lw_tbl := zt6 (List.mem_of_getElem? (i := 193) rfl)
theorem ml_SixWallsLaw_117 : Cond.methodLink "SixWallsLaw" 117 ⟨"SixWallsModel", "years", "(II)I"⟩ ∈ lw_tbl := zt6 (List.mem_of_getElem? (i := 197) rfl)
theorem kc_SixWallsModel_308 : Cond.constant "SixWallsModel" 308 (1103515245) ∈ lw_tbl := zt6 (List.mem_of_getElem? (i := 201) rfl)
theorem ml_SixWallsModel_309 : Cond.methodLink "SixWallsModel" 309 ⟨"SixWallsModel", "isBorn", "(I)V"⟩ ∈ lw_tbl := zt6 (List.mem_of_getElem? (i := 202) rfl)
theorem ml_SixWallsModel_312 : Cond.methodLink "SixWallsModel" 312 ⟨"SixWallsModel", "feuds", "(I)V"⟩ ∈ lw_tbl := zt6 (List.mem_of_getElem? (i := 206) rfl)
theorem ml_SixWallsLaw_121 : Cond.methodLink "SixWallsLaw" 121 ⟨"SixWallsModel", "image", "()I"⟩ ∈ lw_tbl := zt6 (List.mem_of_getElem? (i := 210) rfl)
theorem ml_SixWallsModel_319 : Cond.methodLink "SixWallsModel" 319 ⟨"SixWallsModel", "allWarmth", "()I"⟩ ∈ lw_tbl := zt6 (List.mem_of_getElem? (i := 214) rfl)
theorem ml_SixWallsLaw_125 : Cond.methodLink "SixWallsLaw" 125 ⟨"SixWallsModel", "back", "()I"⟩ ∈ lw_tbl := zt6 (List.mem_of_getElem? (i := 218) rfl)
theorem ml_SixWallsLaw_137 : Cond.methodLink "SixWallsLaw" 137 ⟨"SixWallsModel", "body", "(I)I"⟩ ∈ lw_tbl := zt6 (List.mem_of_getElem? (i := 222) rfl)
theorem kl_SixWallsModel_325 : Cond.constantLong "SixWallsModel" 325 (7) ∈ lw_tbl := zt6 (List.mem_of_getElem? (i := 226) rfl)
theorem ml_SixWallsLaw_141 : Cond.methodLink "SixWallsLaw" 141 ⟨"SixWallsModel", "act", "(III)I"⟩ ∈ lw_tbl := zt6 (List.mem_of_getElem? (i := 227) rfl)
theorem ml_SixWallsModel_351 : Cond.methodLink "SixWallsModel" 351 ⟨"SixWallsModel", "isBody", "(I)Z"⟩ ∈ lw_tbl := zt6 (List.mem_of_getElem? (i := 231) rfl)
theorem ml_SixWallsModel_333 : Cond.methodLink "SixWallsModel" 333 ⟨"SixWallsModel", "warmsAs", "(II)I"⟩ ∈ lw_tbl := zt6 (List.mem_of_getElem? (i := 235) rfl)
theorem ml_SixWallsModel_330 : Cond.methodLink "SixWallsModel" 330 ⟨"SixWallsModel", "begins", "(I)V"⟩ ∈ lw_tbl := zt6 (List.mem_of_getElem? (i := 239) rfl)
theorem ml_SixWallsModel_339 : Cond.methodLink "SixWallsModel" 339 ⟨"SixWallsModel", "wallsAs", "(II)I"⟩ ∈ lw_tbl := zt7 (List.mem_of_getElem? (i := 3) rfl)
theorem ml_SixWallsModel_345 : Cond.methodLink "SixWallsModel" 345 ⟨"SixWallsModel", "pipesAs", "(II)I"⟩ ∈ lw_tbl := zt7 (List.mem_of_getElem? (i := 7) rfl)
theorem ml_SixWallsModel_348 : Cond.methodLink "SixWallsModel" 348 ⟨"SixWallsModel", "tellsAs", "(II)I"⟩ ∈ lw_tbl := zt7 (List.mem_of_getElem? (i := 11) rfl)
theorem ml_SixWallsLaw_145 : Cond.methodLink "SixWallsLaw" 145 ⟨"SixWallsModel", "trace", "(I)I"⟩ ∈ lw_tbl := zt7 (List.mem_of_getElem? (i := 15) rfl)
theorem ml_SixWallsLaw_149 : Cond.methodLink "SixWallsLaw" 149 ⟨"SixWallsModel", "keep", "(II)I"⟩ ∈ lw_tbl := zt7 (List.mem_of_getElem? (i := 19) rfl)
theorem ml_SixWallsLaw_153 : Cond.methodLink "SixWallsLaw" 153 ⟨"SixWallsModel", "row", "(III)I"⟩ ∈ lw_tbl := zt7 (List.mem_of_getElem? (i := 23) rfl)
theorem kl_SixWallsModel_354 : Cond.constantLong "SixWallsModel" 354 (4) ∈ lw_tbl := zt7 (List.mem_of_getElem? (i := 27) rfl)
theorem ml_SixWallsLaw_160 : Cond.methodLink "SixWallsLaw" 160 ⟨"SixWallsModel", "put", "(IIJ)I"⟩ ∈ lw_tbl := zt7 (List.mem_of_getElem? (i := 28) rfl)
theorem ml_SixWallsModel_356 : Cond.methodLink "SixWallsModel" 356 ⟨"SixWallsModel", "refusal", "(II)I"⟩ ∈ lw_tbl := zt7 (List.mem_of_getElem? (i := 32) rfl)
theorem ml_SixWallsModel_359 : Cond.methodLink "SixWallsModel" 359 ⟨"SixWallsModel", "asSort", "(IJ)J"⟩ ∈ lw_tbl := zt7 (List.mem_of_getElem? (i := 36) rfl)
theorem ml_SixWallsLaw_165 : Cond.methodLink "SixWallsLaw" 165 ⟨"SixWallsModel", "element", "(II)J"⟩ ∈ lw_tbl := zt7 (List.mem_of_getElem? (i := 39) rfl)
theorem ml_SixWallsLaw_170 : Cond.methodLink "SixWallsLaw" 170 ⟨"SixWallsModel", "shift", "(IIIII)I"⟩ ∈ lw_tbl := zt7 (List.mem_of_getElem? (i := 43) rfl)
theorem ml_SixWallsLaw_174 : Cond.methodLink "SixWallsLaw" 174 ⟨"SixWallsModel", "taken", "(II)I"⟩ ∈ lw_tbl := zt7 (List.mem_of_getElem? (i := 47) rfl)
theorem ml_SixWallsModel_363 : Cond.methodLink "SixWallsModel" 363 ⟨"SixWallsModel", "kindOf", "(I)I"⟩ ∈ lw_tbl := zt7 (List.mem_of_getElem? (i := 51) rfl)
theorem ml_SixWallsModel_366 : Cond.methodLink "SixWallsModel" 366 ⟨"SixWallsModel", "above", "(I)I"⟩ ∈ lw_tbl := zt7 (List.mem_of_getElem? (i := 55) rfl)
theorem ml_SixWallsLaw_178 : Cond.methodLink "SixWallsLaw" 178 ⟨"SixWallsModel", "count", "(I)I"⟩ ∈ lw_tbl := zt7 (List.mem_of_getElem? (i := 58) rfl)
theorem ml_SixWallsModel_369 : Cond.methodLink "SixWallsModel" 369 ⟨"SixWallsModel", "doorMany", "()I"⟩ ∈ lw_tbl := zt7 (List.mem_of_getElem? (i := 62) rfl)
theorem kl_SixWallsLaw_154 : Cond.constantLong "SixWallsLaw" 154 (4294967295) ∈ lw_tbl := zt7 (List.mem_of_getElem? (i := 66) rfl)
