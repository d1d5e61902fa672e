/-! tables: PART A of the given skeleton, then the classes of the worlds -/
/-- a private method of a class that the tables say can be made, by its rows of tables_1 -/
def lw_okq (q : MethodName × Nat) : Prop := (q.1.cls ≠ "java/lang/invoke/MethodHandle" ∧ q.1.cls ≠ "java/lang/invoke/VarHandle") ∧ Cond.instantiable q.1.cls q.2 ∈ tables_1 ∧ Cond.privateMethod q.1 ∈ tables_1 ∧ Cond.instanceMethod q.1 ∈ tables_1
theorem lw_p0 : lw_okq (⟨"SixWalls$Comb", "layWalls", "()V"⟩, 14) := ⟨⟨by decide +kernel, by decide +kernel⟩, List.mem_of_getElem? (i := 25) (by decide +kernel), List.mem_of_getElem? (i := 31) (by decide +kernel), List.mem_of_getElem? (i := 32) (by decide +kernel)⟩
theorem lw_p1 : lw_okq (⟨"SixWalls$Comb", "addSide", "(III)V"⟩, 14) := ⟨⟨by decide +kernel, by decide +kernel⟩, List.mem_of_getElem? (i := 25) (by decide +kernel), List.mem_of_getElem? (i := 41) (by decide +kernel), List.mem_of_getElem? (i := 42) (by decide +kernel)⟩
theorem lw_p2 : lw_okq (⟨"SixWalls", "ofHouse", "(II)I"⟩, 9) := ⟨⟨by decide +kernel, by decide +kernel⟩, List.mem_of_getElem? (i := 17) (by decide +kernel), List.mem_of_getElem? (i := 411) (by decide +kernel), List.mem_of_getElem? (i := 412) (by decide +kernel)⟩
theorem lw_p3 : lw_okq (⟨"SixWalls", "ofWall", "(II)I"⟩, 9) := ⟨⟨by decide +kernel, by decide +kernel⟩, List.mem_of_getElem? (i := 17) (by decide +kernel), List.mem_of_getElem? (i := 421) (by decide +kernel), List.mem_of_getElem? (i := 422) (by decide +kernel)⟩
theorem lw_p4 : lw_okq (⟨"SixWalls$LawText", "readLine", "()V"⟩, 11) := ⟨⟨by decide +kernel, by decide +kernel⟩, List.mem_of_getElem? (i := 131) (by decide +kernel), List.mem_of_getElem? (i := 500) (by decide +kernel), List.mem_of_getElem? (i := 501) (by decide +kernel)⟩
theorem lw_p5 : lw_okq (⟨"SixWalls$LawText", "readLevel", "(II)V"⟩, 11) := ⟨⟨by decide +kernel, by decide +kernel⟩, List.mem_of_getElem? (i := 131) (by decide +kernel), List.mem_of_getElem? (i := 504) (by decide +kernel), List.mem_of_getElem? (i := 505) (by decide +kernel)⟩
theorem lw_p6 : lw_okq (⟨"SixWalls$LawText", "readOperand", "(I)V"⟩, 11) := ⟨⟨by decide +kernel, by decide +kernel⟩, List.mem_of_getElem? (i := 131) (by decide +kernel), List.mem_of_getElem? (i := 508) (by decide +kernel), List.mem_of_getElem? (i := 509) (by decide +kernel)⟩
theorem lw_p7 : lw_okq (⟨"SixWalls$LawText", "peek", "()I"⟩, 11) := ⟨⟨by decide +kernel, by decide +kernel⟩, List.mem_of_getElem? (i := 131) (by decide +kernel), List.mem_of_getElem? (i := 512) (by decide +kernel), List.mem_of_getElem? (i := 513) (by decide +kernel)⟩
theorem lw_p8 : lw_okq (⟨"SixWalls$LawText", "readNumber", "()V"⟩, 11) := ⟨⟨by decide +kernel, by decide +kernel⟩, List.mem_of_getElem? (i := 131) (by decide +kernel), List.mem_of_getElem? (i := 519) (by decide +kernel), List.mem_of_getElem? (i := 520) (by decide +kernel)⟩
theorem lw_p9 : lw_okq (⟨"SixWalls$LawText", "emit", "(II)I"⟩, 11) := ⟨⟨by decide +kernel, by decide +kernel⟩, List.mem_of_getElem? (i := 131) (by decide +kernel), List.mem_of_getElem? (i := 523) (by decide +kernel), List.mem_of_getElem? (i := 524) (by decide +kernel)⟩
theorem lw_p10 : lw_okq (⟨"SixWalls$Winter", "begin", "()V"⟩, 8) := ⟨⟨by decide +kernel, by decide +kernel⟩, List.mem_of_getElem? (i := 171) (by decide +kernel), List.mem_of_getElem? (i := 542) (by decide +kernel), List.mem_of_getElem? (i := 543) (by decide +kernel)⟩
theorem lw_p11 : lw_okq (⟨"SixWalls$Winter", "passAll", "(I)V"⟩, 8) := ⟨⟨by decide +kernel, by decide +kernel⟩, List.mem_of_getElem? (i := 171) (by decide +kernel), List.mem_of_getElem? (i := 547) (by decide +kernel), List.mem_of_getElem? (i := 548) (by decide +kernel)⟩
theorem lw_p12 : lw_okq (⟨"SixWalls$Winter", "pass", "()Z"⟩, 8) := ⟨⟨by decide +kernel, by decide +kernel⟩, List.mem_of_getElem? (i := 171) (by decide +kernel), List.mem_of_getElem? (i := 551) (by decide +kernel), List.mem_of_getElem? (i := 552) (by decide +kernel)⟩
theorem lw_p13 : lw_okq (⟨"SixWalls$Masonry", "goRound", "()Z"⟩, 4) := ⟨⟨by decide +kernel, by decide +kernel⟩, List.mem_of_getElem? (i := 205) (by decide +kernel), List.mem_of_getElem? (i := 609) (by decide +kernel), List.mem_of_getElem? (i := 610) (by decide +kernel)⟩
theorem lw_p14 : lw_okq (⟨"SixWalls$Ways", "besides", "(I)I"⟩, 3) := ⟨⟨by decide +kernel, by decide +kernel⟩, List.mem_of_getElem? (i := 224) (by decide +kernel), List.mem_of_getElem? (i := 629) (by decide +kernel), List.mem_of_getElem? (i := 630) (by decide +kernel)⟩
theorem lw_p15 : lw_okq (⟨"SixWalls$Ways", "gather", "()V"⟩, 3) := ⟨⟨by decide +kernel, by decide +kernel⟩, List.mem_of_getElem? (i := 224) (by decide +kernel), List.mem_of_getElem? (i := 641) (by decide +kernel), List.mem_of_getElem? (i := 642) (by decide +kernel)⟩
def lw_privs_1 : List (MethodName × Nat) := [(⟨"SixWalls$Comb", "layWalls", "()V"⟩, 14), (⟨"SixWalls$Comb", "addSide", "(III)V"⟩, 14), (⟨"SixWalls", "ofHouse", "(II)I"⟩, 9), (⟨"SixWalls", "ofWall", "(II)I"⟩, 9), (⟨"SixWalls$LawText", "readLine", "()V"⟩, 11), (⟨"SixWalls$LawText", "readLevel", "(II)V"⟩, 11), (⟨"SixWalls$LawText", "readOperand", "(I)V"⟩, 11), (⟨"SixWalls$LawText", "peek", "()I"⟩, 11), (⟨"SixWalls$LawText", "readNumber", "()V"⟩, 11), (⟨"SixWalls$LawText", "emit", "(II)I"⟩, 11), (⟨"SixWalls$Winter", "begin", "()V"⟩, 8), (⟨"SixWalls$Winter", "passAll", "(I)V"⟩, 8), (⟨"SixWalls$Winter", "pass", "()Z"⟩, 8), (⟨"SixWalls$Masonry", "goRound", "()Z"⟩, 4), (⟨"SixWalls$Ways", "besides", "(I)I"⟩, 3), (⟨"SixWalls$Ways", "gather", "()V"⟩, 3)]
theorem lw_r1 : ∀ q ∈ lw_privs_1, lw_okq q := List.forall_mem_cons.mpr ⟨lw_p0, List.forall_mem_cons.mpr ⟨lw_p1, List.forall_mem_cons.mpr ⟨lw_p2, List.forall_mem_cons.mpr ⟨lw_p3, List.forall_mem_cons.mpr ⟨lw_p4, List.forall_mem_cons.mpr ⟨lw_p5, List.forall_mem_cons.mpr ⟨lw_p6, List.forall_mem_cons.mpr ⟨lw_p7, List.forall_mem_cons.mpr ⟨lw_p8, List.forall_mem_cons.mpr ⟨lw_p9, List.forall_mem_cons.mpr ⟨lw_p10, List.forall_mem_cons.mpr ⟨lw_p11, List.forall_mem_cons.mpr ⟨lw_p12, List.forall_mem_cons.mpr ⟨lw_p13, List.forall_mem_cons.mpr ⟨lw_p14, List.forall_mem_cons.mpr ⟨lw_p15, fun _ h => absurd h List.not_mem_nil⟩⟩⟩⟩⟩⟩⟩⟩⟩⟩⟩⟩⟩⟩⟩⟩
theorem lw_p16 : lw_okq (⟨"SixWalls$Ways", "join", "(II)V"⟩, 3) := ⟨⟨by decide +kernel, by decide +kernel⟩, List.mem_of_getElem? (i := 224) (by decide +kernel), List.mem_of_getElem? (i := 649) (by decide +kernel), List.mem_of_getElem? (i := 650) (by decide +kernel)⟩
theorem lw_p17 : lw_okq (⟨"SixWalls$Ways", "listen", "(I)V"⟩, 3) := ⟨⟨by decide +kernel, by decide +kernel⟩, List.mem_of_getElem? (i := 224) (by decide +kernel), List.mem_of_getElem? (i := 682) (by decide +kernel), List.mem_of_getElem? (i := 683) (by decide +kernel)⟩
theorem lw_p18 : lw_okq (⟨"SixWalls$Ways", "pass", "(III)Z"⟩, 3) := ⟨⟨by decide +kernel, by decide +kernel⟩, List.mem_of_getElem? (i := 224) (by decide +kernel), List.mem_of_getElem? (i := 687) (by decide +kernel), List.mem_of_getElem? (i := 688) (by decide +kernel)⟩
theorem lw_p19 : lw_okq (⟨"SixWalls$Ways", "hearers", "(II)I"⟩, 3) := ⟨⟨by decide +kernel, by decide +kernel⟩, List.mem_of_getElem? (i := 224) (by decide +kernel), List.mem_of_getElem? (i := 700) (by decide +kernel), List.mem_of_getElem? (i := 701) (by decide +kernel)⟩
theorem lw_p20 : lw_okq (⟨"SixWalls$Masonry", "clashesOf", "([I)I"⟩, 4) := ⟨⟨by decide +kernel, by decide +kernel⟩, List.mem_of_getElem? (i := 205) (by decide +kernel), List.mem_of_getElem? (i := 712) (by decide +kernel), List.mem_of_getElem? (i := 713) (by decide +kernel)⟩
theorem lw_p21 : lw_okq (⟨"SixWalls$Masonry", "alike", "(II[I)I"⟩, 4) := ⟨⟨by decide +kernel, by decide +kernel⟩, List.mem_of_getElem? (i := 205) (by decide +kernel), List.mem_of_getElem? (i := 716) (by decide +kernel), List.mem_of_getElem? (i := 717) (by decide +kernel)⟩
theorem lw_p22 : lw_okq (⟨"SixWalls$Masonry", "alikeIn", "(III[I)I"⟩, 4) := ⟨⟨by decide +kernel, by decide +kernel⟩, List.mem_of_getElem? (i := 205) (by decide +kernel), List.mem_of_getElem? (i := 720) (by decide +kernel), List.mem_of_getElem? (i := 721) (by decide +kernel)⟩
theorem lw_p23 : lw_okq (⟨"SixWalls$Families", "befall", "(II)V"⟩, 4) := ⟨⟨by decide +kernel, by decide +kernel⟩, List.mem_of_getElem? (i := 240) (by decide +kernel), List.mem_of_getElem? (i := 777) (by decide +kernel), List.mem_of_getElem? (i := 778) (by decide +kernel)⟩
theorem lw_p24 : lw_okq (⟨"SixWalls$Families", "bear", "(I)V"⟩, 4) := ⟨⟨by decide +kernel, by decide +kernel⟩, List.mem_of_getElem? (i := 240) (by decide +kernel), List.mem_of_getElem? (i := 781) (by decide +kernel), List.mem_of_getElem? (i := 782) (by decide +kernel)⟩
theorem lw_p25 : lw_okq (⟨"SixWalls$Families", "feud", "(I)V"⟩, 4) := ⟨⟨by decide +kernel, by decide +kernel⟩, List.mem_of_getElem? (i := 240) (by decide +kernel), List.mem_of_getElem? (i := 785) (by decide +kernel), List.mem_of_getElem? (i := 786) (by decide +kernel)⟩
theorem lw_p26 : lw_okq (⟨"SixWalls$Cells", "from", "(IIII)I"⟩, 5) := ⟨⟨by decide +kernel, by decide +kernel⟩, List.mem_of_getElem? (i := 287) (by decide +kernel), List.mem_of_getElem? (i := 851) (by decide +kernel), List.mem_of_getElem? (i := 852) (by decide +kernel)⟩
theorem lw_p27 : lw_okq (⟨"SixWalls$Cells", "perform", "(IIII)I"⟩, 5) := ⟨⟨by decide +kernel, by decide +kernel⟩, List.mem_of_getElem? (i := 287) (by decide +kernel), List.mem_of_getElem? (i := 857) (by decide +kernel), List.mem_of_getElem? (i := 858) (by decide +kernel)⟩
theorem lw_p28 : lw_okq (⟨"SixWalls$Cells", "own", "(III)I"⟩, 5) := ⟨⟨by decide +kernel, by decide +kernel⟩, List.mem_of_getElem? (i := 287) (by decide +kernel), List.mem_of_getElem? (i := 861) (by decide +kernel), List.mem_of_getElem? (i := 862) (by decide +kernel)⟩
theorem lw_p29 : lw_okq (⟨"SixWalls$Shelves", "refusalOfRow", "(I)I"⟩, 4) := ⟨⟨by decide +kernel, by decide +kernel⟩, List.mem_of_getElem? (i := 309) (by decide +kernel), List.mem_of_getElem? (i := 903) (by decide +kernel), List.mem_of_getElem? (i := 904) (by decide +kernel)⟩
theorem lw_p30 : lw_okq (⟨"SixWallsModel", "wallOf", "(II)I"⟩, 44) := ⟨⟨by decide +kernel, by decide +kernel⟩, List.mem_of_getElem? (i := 974) (by decide +kernel), List.mem_of_getElem? (i := 1139) (by decide +kernel), List.mem_of_getElem? (i := 1140) (by decide +kernel)⟩
theorem lw_p31 : lw_okq (⟨"SixWallsModel", "becomes", "(II)I"⟩, 44) := ⟨⟨by decide +kernel, by decide +kernel⟩, List.mem_of_getElem? (i := 974) (by decide +kernel), List.mem_of_getElem? (i := 1148) (by decide +kernel), List.mem_of_getElem? (i := 1149) (by decide +kernel)⟩
def lw_privs_2 : List (MethodName × Nat) := [(⟨"SixWalls$Ways", "join", "(II)V"⟩, 3), (⟨"SixWalls$Ways", "listen", "(I)V"⟩, 3), (⟨"SixWalls$Ways", "pass", "(III)Z"⟩, 3), (⟨"SixWalls$Ways", "hearers", "(II)I"⟩, 3), (⟨"SixWalls$Masonry", "clashesOf", "([I)I"⟩, 4), (⟨"SixWalls$Masonry", "alike", "(II[I)I"⟩, 4), (⟨"SixWalls$Masonry", "alikeIn", "(III[I)I"⟩, 4), (⟨"SixWalls$Families", "befall", "(II)V"⟩, 4), (⟨"SixWalls$Families", "bear", "(I)V"⟩, 4), (⟨"SixWalls$Families", "feud", "(I)V"⟩, 4), (⟨"SixWalls$Cells", "from", "(IIII)I"⟩, 5), (⟨"SixWalls$Cells", "perform", "(IIII)I"⟩, 5), (⟨"SixWalls$Cells", "own", "(III)I"⟩, 5), (⟨"SixWalls$Shelves", "refusalOfRow", "(I)I"⟩, 4), (⟨"SixWallsModel", "wallOf", "(II)I"⟩, 44), (⟨"SixWallsModel", "becomes", "(II)I"⟩, 44)]
theorem lw_r2 : ∀ q ∈ lw_privs_2, lw_okq q := List.forall_mem_cons.mpr ⟨lw_p16, List.forall_mem_cons.mpr ⟨lw_p17, List.forall_mem_cons.mpr ⟨lw_p18, List.forall_mem_cons.mpr ⟨lw_p19, List.forall_mem_cons.mpr ⟨lw_p20, List.forall_mem_cons.mpr ⟨lw_p21, List.forall_mem_cons.mpr ⟨lw_p22, List.forall_mem_cons.mpr ⟨lw_p23, List.forall_mem_cons.mpr ⟨lw_p24, List.forall_mem_cons.mpr ⟨lw_p25, List.forall_mem_cons.mpr ⟨lw_p26, List.forall_mem_cons.mpr ⟨lw_p27, List.forall_mem_cons.mpr ⟨lw_p28, List.forall_mem_cons.mpr ⟨lw_p29, List.forall_mem_cons.mpr ⟨lw_p30, List.forall_mem_cons.mpr ⟨lw_p31, fun _ h => absurd h List.not_mem_nil⟩⟩⟩⟩⟩⟩⟩⟩⟩⟩⟩⟩⟩⟩⟩⟩
theorem lw_p32 : lw_okq (⟨"SixWallsModel", "ofHouse", "(II)I"⟩, 44) := ⟨⟨by decide +kernel, by decide +kernel⟩, List.mem_of_getElem? (i := 974) (by decide +kernel), List.mem_of_getElem? (i := 1163) (by decide +kernel), List.mem_of_getElem? (i := 1164) (by decide +kernel)⟩
theorem lw_p33 : lw_okq (⟨"SixWallsModel", "neighboursOf", "(I)I"⟩, 44) := ⟨⟨by decide +kernel, by decide +kernel⟩, List.mem_of_getElem? (i := 974) (by decide +kernel), List.mem_of_getElem? (i := 1167) (by decide +kernel), List.mem_of_getElem? (i := 1168) (by decide +kernel)⟩
theorem lw_p34 : lw_okq (⟨"SixWallsModel", "asksThick", "()V"⟩, 44) := ⟨⟨by decide +kernel, by decide +kernel⟩, List.mem_of_getElem? (i := 974) (by decide +kernel), List.mem_of_getElem? (i := 1171) (by decide +kernel), List.mem_of_getElem? (i := 1172) (by decide +kernel)⟩
theorem lw_p35 : lw_okq (⟨"SixWallsModel", "borne", "(I)I"⟩, 44) := ⟨⟨by decide +kernel, by decide +kernel⟩, List.mem_of_getElem? (i := 974) (by decide +kernel), List.mem_of_getElem? (i := 1175) (by decide +kernel), List.mem_of_getElem? (i := 1176) (by decide +kernel)⟩
theorem lw_p36 : lw_okq (⟨"SixWallsModel", "ofWall", "(II)I"⟩, 44) := ⟨⟨by decide +kernel, by decide +kernel⟩, List.mem_of_getElem? (i := 974) (by decide +kernel), List.mem_of_getElem? (i := 1181) (by decide +kernel), List.mem_of_getElem? (i := 1182) (by decide +kernel)⟩
theorem lw_p37 : lw_okq (⟨"SixWallsModel", "agreedOf", "(I)I"⟩, 44) := ⟨⟨by decide +kernel, by decide +kernel⟩, List.mem_of_getElem? (i := 974) (by decide +kernel), List.mem_of_getElem? (i := 1185) (by decide +kernel), List.mem_of_getElem? (i := 1186) (by decide +kernel)⟩
theorem lw_p38 : lw_okq (⟨"SixWallsModel", "begins1", "()V"⟩, 44) := ⟨⟨by decide +kernel, by decide +kernel⟩, List.mem_of_getElem? (i := 974) (by decide +kernel), List.mem_of_getElem? (i := 1189) (by decide +kernel), List.mem_of_getElem? (i := 1190) (by decide +kernel)⟩
theorem lw_p39 : lw_okq (⟨"SixWallsModel", "flowOf", "(I)I"⟩, 44) := ⟨⟨by decide +kernel, by decide +kernel⟩, List.mem_of_getElem? (i := 974) (by decide +kernel), List.mem_of_getElem? (i := 1193) (by decide +kernel), List.mem_of_getElem? (i := 1194) (by decide +kernel)⟩
theorem lw_p40 : lw_okq (⟨"SixWallsModel", "throughOf", "(III)I"⟩, 44) := ⟨⟨by decide +kernel, by decide +kernel⟩, List.mem_of_getElem? (i := 974) (by decide +kernel), List.mem_of_getElem? (i := 1197) (by decide +kernel), List.mem_of_getElem? (i := 1198) (by decide +kernel)⟩
theorem lw_p41 : lw_okq (⟨"SixWallsModel", "workOut", "(II)I"⟩, 44) := ⟨⟨by decide +kernel, by decide +kernel⟩, List.mem_of_getElem? (i := 974) (by decide +kernel), List.mem_of_getElem? (i := 1201) (by decide +kernel), List.mem_of_getElem? (i := 1202) (by decide +kernel)⟩
theorem lw_p42 : lw_okq (⟨"SixWallsModel", "either", "()I"⟩, 44) := ⟨⟨by decide +kernel, by decide +kernel⟩, List.mem_of_getElem? (i := 974) (by decide +kernel), List.mem_of_getElem? (i := 1205) (by decide +kernel), List.mem_of_getElem? (i := 1206) (by decide +kernel)⟩
theorem lw_p43 : lw_okq (⟨"SixWallsModel", "both", "()I"⟩, 44) := ⟨⟨by decide +kernel, by decide +kernel⟩, List.mem_of_getElem? (i := 974) (by decide +kernel), List.mem_of_getElem? (i := 1209) (by decide +kernel), List.mem_of_getElem? (i := 1210) (by decide +kernel)⟩
theorem lw_p44 : lw_okq (⟨"SixWallsModel", "compared", "()I"⟩, 44) := ⟨⟨by decide +kernel, by decide +kernel⟩, List.mem_of_getElem? (i := 974) (by decide +kernel), List.mem_of_getElem? (i := 1213) (by decide +kernel), List.mem_of_getElem? (i := 1214) (by decide +kernel)⟩
theorem lw_p45 : lw_okq (⟨"SixWallsModel", "sums", "()I"⟩, 44) := ⟨⟨by decide +kernel, by decide +kernel⟩, List.mem_of_getElem? (i := 974) (by decide +kernel), List.mem_of_getElem? (i := 1217) (by decide +kernel), List.mem_of_getElem? (i := 1218) (by decide +kernel)⟩
theorem lw_p46 : lw_okq (⟨"SixWallsModel", "product", "()I"⟩, 44) := ⟨⟨by decide +kernel, by decide +kernel⟩, List.mem_of_getElem? (i := 974) (by decide +kernel), List.mem_of_getElem? (i := 1221) (by decide +kernel), List.mem_of_getElem? (i := 1222) (by decide +kernel)⟩
theorem lw_p47 : lw_okq (⟨"SixWallsModel", "oneOf", "()I"⟩, 44) := ⟨⟨by decide +kernel, by decide +kernel⟩, List.mem_of_getElem? (i := 974) (by decide +kernel), List.mem_of_getElem? (i := 1225) (by decide +kernel), List.mem_of_getElem? (i := 1226) (by decide +kernel)⟩
def lw_privs_3 : List (MethodName × Nat) := [(⟨"SixWallsModel", "ofHouse", "(II)I"⟩, 44), (⟨"SixWallsModel", "neighboursOf", "(I)I"⟩, 44), (⟨"SixWallsModel", "asksThick", "()V"⟩, 44), (⟨"SixWallsModel", "borne", "(I)I"⟩, 44), (⟨"SixWallsModel", "ofWall", "(II)I"⟩, 44), (⟨"SixWallsModel", "agreedOf", "(I)I"⟩, 44), (⟨"SixWallsModel", "begins1", "()V"⟩, 44), (⟨"SixWallsModel", "flowOf", "(I)I"⟩, 44), (⟨"SixWallsModel", "throughOf", "(III)I"⟩, 44), (⟨"SixWallsModel", "workOut", "(II)I"⟩, 44), (⟨"SixWallsModel", "either", "()I"⟩, 44), (⟨"SixWallsModel", "both", "()I"⟩, 44), (⟨"SixWallsModel", "compared", "()I"⟩, 44), (⟨"SixWallsModel", "sums", "()I"⟩, 44), (⟨"SixWallsModel", "product", "()I"⟩, 44), (⟨"SixWallsModel", "oneOf", "()I"⟩, 44)]
theorem lw_r3 : ∀ q ∈ lw_privs_3, lw_okq q := List.forall_mem_cons.mpr ⟨lw_p32, List.forall_mem_cons.mpr ⟨lw_p33, List.forall_mem_cons.mpr ⟨lw_p34, List.forall_mem_cons.mpr ⟨lw_p35, List.forall_mem_cons.mpr ⟨lw_p36, List.forall_mem_cons.mpr ⟨lw_p37, List.forall_mem_cons.mpr ⟨lw_p38, List.forall_mem_cons.mpr ⟨lw_p39, List.forall_mem_cons.mpr ⟨lw_p40, List.forall_mem_cons.mpr ⟨lw_p41, List.forall_mem_cons.mpr ⟨lw_p42, List.forall_mem_cons.mpr ⟨lw_p43, List.forall_mem_cons.mpr ⟨lw_p44, List.forall_mem_cons.mpr ⟨lw_p45, List.forall_mem_cons.mpr ⟨lw_p46, List.forall_mem_cons.mpr ⟨lw_p47, fun _ h => absurd h List.not_mem_nil⟩⟩⟩⟩⟩⟩⟩⟩⟩⟩⟩⟩⟩⟩⟩⟩
theorem lw_p48 : lw_okq (⟨"SixWallsModel", "byteAt", "()I"⟩, 44) := ⟨⟨by decide +kernel, by decide +kernel⟩, List.mem_of_getElem? (i := 974) (by decide +kernel), List.mem_of_getElem? (i := 1229) (by decide +kernel), List.mem_of_getElem? (i := 1230) (by decide +kernel)⟩
theorem lw_p49 : lw_okq (⟨"SixWallsModel", "wrong", "()I"⟩, 44) := ⟨⟨by decide +kernel, by decide +kernel⟩, List.mem_of_getElem? (i := 974) (by decide +kernel), List.mem_of_getElem? (i := 1233) (by decide +kernel), List.mem_of_getElem? (i := 1234) (by decide +kernel)⟩
theorem lw_p50 : lw_okq (⟨"SixWallsModel", "takesByte", "(I)Z"⟩, 44) := ⟨⟨by decide +kernel, by decide +kernel⟩, List.mem_of_getElem? (i := 974) (by decide +kernel), List.mem_of_getElem? (i := 1237) (by decide +kernel), List.mem_of_getElem? (i := 1238) (by decide +kernel)⟩
theorem lw_p51 : lw_okq (⟨"SixWallsModel", "winter", "(I)V"⟩, 44) := ⟨⟨by decide +kernel, by decide +kernel⟩, List.mem_of_getElem? (i := 974) (by decide +kernel), List.mem_of_getElem? (i := 1268) (by decide +kernel), List.mem_of_getElem? (i := 1269) (by decide +kernel)⟩
theorem lw_p52 : lw_okq (⟨"SixWallsModel", "dayGoes", "()Z"⟩, 44) := ⟨⟨by decide +kernel, by decide +kernel⟩, List.mem_of_getElem? (i := 974) (by decide +kernel), List.mem_of_getElem? (i := 1272) (by decide +kernel), List.mem_of_getElem? (i := 1273) (by decide +kernel)⟩
theorem lw_p53 : lw_okq (⟨"SixWallsModel", "allThen", "()I"⟩, 44) := ⟨⟨by decide +kernel, by decide +kernel⟩, List.mem_of_getElem? (i := 974) (by decide +kernel), List.mem_of_getElem? (i := 1276) (by decide +kernel), List.mem_of_getElem? (i := 1277) (by decide +kernel)⟩
theorem lw_p54 : lw_okq (⟨"SixWallsModel", "roundGoes", "()Z"⟩, 44) := ⟨⟨by decide +kernel, by decide +kernel⟩, List.mem_of_getElem? (i := 974) (by decide +kernel), List.mem_of_getElem? (i := 1309) (by decide +kernel), List.mem_of_getElem? (i := 1310) (by decide +kernel)⟩
theorem lw_p55 : lw_okq (⟨"SixWallsModel", "measures", "(IZ)V"⟩, 44) := ⟨⟨by decide +kernel, by decide +kernel⟩, List.mem_of_getElem? (i := 974) (by decide +kernel), List.mem_of_getElem? (i := 1317) (by decide +kernel), List.mem_of_getElem? (i := 1318) (by decide +kernel)⟩
theorem lw_p56 : lw_okq (⟨"SixWallsModel", "comesTo", "(II)Z"⟩, 44) := ⟨⟨by decide +kernel, by decide +kernel⟩, List.mem_of_getElem? (i := 974) (by decide +kernel), List.mem_of_getElem? (i := 1321) (by decide +kernel), List.mem_of_getElem? (i := 1322) (by decide +kernel)⟩
theorem lw_p57 : lw_okq (⟨"SixWallsModel", "livedIn", "()I"⟩, 44) := ⟨⟨by decide +kernel, by decide +kernel⟩, List.mem_of_getElem? (i := 974) (by decide +kernel), List.mem_of_getElem? (i := 1329) (by decide +kernel), List.mem_of_getElem? (i := 1330) (by decide +kernel)⟩
theorem lw_p58 : lw_okq (⟨"SixWallsModel", "outWith", "(J)I"⟩, 44) := ⟨⟨by decide +kernel, by decide +kernel⟩, List.mem_of_getElem? (i := 974) (by decide +kernel), List.mem_of_getElem? (i := 1333) (by decide +kernel), List.mem_of_getElem? (i := 1334) (by decide +kernel)⟩
theorem lw_p59 : lw_okq (⟨"SixWallsModel", "opens", "(IIJ)V"⟩, 44) := ⟨⟨by decide +kernel, by decide +kernel⟩, List.mem_of_getElem? (i := 974) (by decide +kernel), List.mem_of_getElem? (i := 1349) (by decide +kernel), List.mem_of_getElem? (i := 1350) (by decide +kernel)⟩
theorem lw_p60 : lw_okq (⟨"SixWallsModel", "asksColours", "()V"⟩, 44) := ⟨⟨by decide +kernel, by decide +kernel⟩, List.mem_of_getElem? (i := 974) (by decide +kernel), List.mem_of_getElem? (i := 1366) (by decide +kernel), List.mem_of_getElem? (i := 1367) (by decide +kernel)⟩
theorem lw_p61 : lw_okq (⟨"SixWallsModel", "bestColour", "(I)I"⟩, 44) := ⟨⟨by decide +kernel, by decide +kernel⟩, List.mem_of_getElem? (i := 974) (by decide +kernel), List.mem_of_getElem? (i := 1370) (by decide +kernel), List.mem_of_getElem? (i := 1371) (by decide +kernel)⟩
theorem lw_p62 : lw_okq (⟨"SixWallsModel", "clashes", "()I"⟩, 44) := ⟨⟨by decide +kernel, by decide +kernel⟩, List.mem_of_getElem? (i := 974) (by decide +kernel), List.mem_of_getElem? (i := 1374) (by decide +kernel), List.mem_of_getElem? (i := 1375) (by decide +kernel)⟩
theorem lw_p63 : lw_okq (⟨"SixWallsModel", "whoTakes", "(I)I"⟩, 44) := ⟨⟨by decide +kernel, by decide +kernel⟩, List.mem_of_getElem? (i := 974) (by decide +kernel), List.mem_of_getElem? (i := 1390) (by decide +kernel), List.mem_of_getElem? (i := 1391) (by decide +kernel)⟩
def lw_privs_4 : List (MethodName × Nat) := [(⟨"SixWallsModel", "byteAt", "()I"⟩, 44), (⟨"SixWallsModel", "wrong", "()I"⟩, 44), (⟨"SixWallsModel", "takesByte", "(I)Z"⟩, 44), (⟨"SixWallsModel", "winter", "(I)V"⟩, 44), (⟨"SixWallsModel", "dayGoes", "()Z"⟩, 44), (⟨"SixWallsModel", "allThen", "()I"⟩, 44), (⟨"SixWallsModel", "roundGoes", "()Z"⟩, 44), (⟨"SixWallsModel", "measures", "(IZ)V"⟩, 44), (⟨"SixWallsModel", "comesTo", "(II)Z"⟩, 44), (⟨"SixWallsModel", "livedIn", "()I"⟩, 44), (⟨"SixWallsModel", "outWith", "(J)I"⟩, 44), (⟨"SixWallsModel", "opens", "(IIJ)V"⟩, 44), (⟨"SixWallsModel", "asksColours", "()V"⟩, 44), (⟨"SixWallsModel", "bestColour", "(I)I"⟩, 44), (⟨"SixWallsModel", "clashes", "()I"⟩, 44), (⟨"SixWallsModel", "whoTakes", "(I)I"⟩, 44)]
theorem lw_r4 : ∀ q ∈ lw_privs_4, lw_okq q := List.forall_mem_cons.mpr ⟨lw_p48, List.forall_mem_cons.mpr ⟨lw_p49, List.forall_mem_cons.mpr ⟨lw_p50, List.forall_mem_cons.mpr ⟨lw_p51, List.forall_mem_cons.mpr ⟨lw_p52, List.forall_mem_cons.mpr ⟨lw_p53, List.forall_mem_cons.mpr ⟨lw_p54, List.forall_mem_cons.mpr ⟨lw_p55, List.forall_mem_cons.mpr ⟨lw_p56, List.forall_mem_cons.mpr ⟨lw_p57, List.forall_mem_cons.mpr ⟨lw_p58, List.forall_mem_cons.mpr ⟨lw_p59, List.forall_mem_cons.mpr ⟨lw_p60, List.forall_mem_cons.mpr ⟨lw_p61, List.forall_mem_cons.mpr ⟨lw_p62, List.forall_mem_cons.mpr ⟨lw_p63, fun _ h => absurd h List.not_mem_nil⟩⟩⟩⟩⟩⟩⟩⟩⟩⟩⟩⟩⟩⟩⟩⟩
theorem lw_p64 : lw_okq (⟨"SixWallsModel", "isBorn", "(I)V"⟩, 44) := ⟨⟨by decide +kernel, by decide +kernel⟩, List.mem_of_getElem? (i := 974) (by decide +kernel), List.mem_of_getElem? (i := 1403) (by decide +kernel), List.mem_of_getElem? (i := 1404) (by decide +kernel)⟩
theorem lw_p65 : lw_okq (⟨"SixWallsModel", "feuds", "(I)V"⟩, 44) := ⟨⟨by decide +kernel, by decide +kernel⟩, List.mem_of_getElem? (i := 974) (by decide +kernel), List.mem_of_getElem? (i := 1407) (by decide +kernel), List.mem_of_getElem? (i := 1408) (by decide +kernel)⟩
theorem lw_p66 : lw_okq (⟨"SixWallsModel", "allWarmth", "()I"⟩, 44) := ⟨⟨by decide +kernel, by decide +kernel⟩, List.mem_of_getElem? (i := 974) (by decide +kernel), List.mem_of_getElem? (i := 1415) (by decide +kernel), List.mem_of_getElem? (i := 1416) (by decide +kernel)⟩
theorem lw_p67 : lw_okq (⟨"SixWallsModel", "isBody", "(I)Z"⟩, 44) := ⟨⟨by decide +kernel, by decide +kernel⟩, List.mem_of_getElem? (i := 974) (by decide +kernel), List.mem_of_getElem? (i := 1432) (by decide +kernel), List.mem_of_getElem? (i := 1433) (by decide +kernel)⟩
theorem lw_p68 : lw_okq (⟨"SixWallsModel", "warmsAs", "(II)I"⟩, 44) := ⟨⟨by decide +kernel, by decide +kernel⟩, List.mem_of_getElem? (i := 974) (by decide +kernel), List.mem_of_getElem? (i := 1436) (by decide +kernel), List.mem_of_getElem? (i := 1437) (by decide +kernel)⟩
theorem lw_p69 : lw_okq (⟨"SixWallsModel", "begins", "(I)V"⟩, 44) := ⟨⟨by decide +kernel, by decide +kernel⟩, List.mem_of_getElem? (i := 974) (by decide +kernel), List.mem_of_getElem? (i := 1440) (by decide +kernel), List.mem_of_getElem? (i := 1441) (by decide +kernel)⟩
theorem lw_p70 : lw_okq (⟨"SixWallsModel", "wallsAs", "(II)I"⟩, 44) := ⟨⟨by decide +kernel, by decide +kernel⟩, List.mem_of_getElem? (i := 974) (by decide +kernel), List.mem_of_getElem? (i := 1444) (by decide +kernel), List.mem_of_getElem? (i := 1445) (by decide +kernel)⟩
theorem lw_p71 : lw_okq (⟨"SixWallsModel", "pipesAs", "(II)I"⟩, 44) := ⟨⟨by decide +kernel, by decide +kernel⟩, List.mem_of_getElem? (i := 974) (by decide +kernel), List.mem_of_getElem? (i := 1448) (by decide +kernel), List.mem_of_getElem? (i := 1449) (by decide +kernel)⟩
theorem lw_p72 : lw_okq (⟨"SixWallsModel", "tellsAs", "(II)I"⟩, 44) := ⟨⟨by decide +kernel, by decide +kernel⟩, List.mem_of_getElem? (i := 974) (by decide +kernel), List.mem_of_getElem? (i := 1452) (by decide +kernel), List.mem_of_getElem? (i := 1453) (by decide +kernel)⟩
theorem lw_p73 : lw_okq (⟨"SixWallsModel", "refusal", "(II)I"⟩, 44) := ⟨⟨by decide +kernel, by decide +kernel⟩, List.mem_of_getElem? (i := 974) (by decide +kernel), List.mem_of_getElem? (i := 1473) (by decide +kernel), List.mem_of_getElem? (i := 1474) (by decide +kernel)⟩
theorem lw_p74 : lw_okq (⟨"SixWallsModel", "kindOf", "(I)I"⟩, 44) := ⟨⟨by decide +kernel, by decide +kernel⟩, List.mem_of_getElem? (i := 974) (by decide +kernel), List.mem_of_getElem? (i := 1492) (by decide +kernel), List.mem_of_getElem? (i := 1493) (by decide +kernel)⟩
theorem lw_p75 : lw_okq (⟨"SixWallsModel", "doorMany", "()I"⟩, 44) := ⟨⟨by decide +kernel, by decide +kernel⟩, List.mem_of_getElem? (i := 974) (by decide +kernel), List.mem_of_getElem? (i := 1503) (by decide +kernel), List.mem_of_getElem? (i := 1504) (by decide +kernel)⟩
def lw_privs_5 : List (MethodName × Nat) := [(⟨"SixWallsModel", "isBorn", "(I)V"⟩, 44), (⟨"SixWallsModel", "feuds", "(I)V"⟩, 44), (⟨"SixWallsModel", "allWarmth", "()I"⟩, 44), (⟨"SixWallsModel", "isBody", "(I)Z"⟩, 44), (⟨"SixWallsModel", "warmsAs", "(II)I"⟩, 44), (⟨"SixWallsModel", "begins", "(I)V"⟩, 44), (⟨"SixWallsModel", "wallsAs", "(II)I"⟩, 44), (⟨"SixWallsModel", "pipesAs", "(II)I"⟩, 44), (⟨"SixWallsModel", "tellsAs", "(II)I"⟩, 44), (⟨"SixWallsModel", "refusal", "(II)I"⟩, 44), (⟨"SixWallsModel", "kindOf", "(I)I"⟩, 44), (⟨"SixWallsModel", "doorMany", "()I"⟩, 44)]
theorem lw_r5 : ∀ q ∈ lw_privs_5, lw_okq q := List.forall_mem_cons.mpr ⟨lw_p64, List.forall_mem_cons.mpr ⟨lw_p65, List.forall_mem_cons.mpr ⟨lw_p66, List.forall_mem_cons.mpr ⟨lw_p67, List.forall_mem_cons.mpr ⟨lw_p68, List.forall_mem_cons.mpr ⟨lw_p69, List.forall_mem_cons.mpr ⟨lw_p70, List.forall_mem_cons.mpr ⟨lw_p71, List.forall_mem_cons.mpr ⟨lw_p72, List.forall_mem_cons.mpr ⟨lw_p73, List.forall_mem_cons.mpr ⟨lw_p74, List.forall_mem_cons.mpr ⟨lw_p75, fun _ h => absurd h List.not_mem_nil⟩⟩⟩⟩⟩⟩⟩⟩⟩⟩⟩⟩
def lw_privs : List (MethodName × Nat) := lw_privs_1 ++ (lw_privs_2 ++ (lw_privs_3 ++ (lw_privs_4 ++ (lw_privs_5))))
def lw_tbl : List Cond := k2_sels lw_privs ++ tables_1
theorem lw_privs_ok : ∀ q ∈ lw_privs, lw_okq q := by
  show ∀ q ∈ lw_privs_1 ++ (lw_privs_2 ++ (lw_privs_3 ++ (lw_privs_4 ++ (lw_privs_5)))), lw_okq q
  exact List.forall_mem_append.mpr ⟨lw_r1, List.forall_mem_append.mpr ⟨lw_r2, List.forall_mem_append.mpr ⟨lw_r3, List.forall_mem_append.mpr ⟨lw_r4, lw_r5⟩⟩⟩⟩
def zR0 : String := "SixWalls$Cells"
def zT0 : u_T := fun k => match k with
  | 0 => ("SixWalls$Cells", "kinds", "[I", true)
  | 1 => ("SixWalls$Cells", "many", "I", false)
  | 2 => ("SixWalls$Cells", "traced", "[I", true)
  | 3 => ("SixWalls$Cells", "ran", "I", false)
  | _ => ("SixWalls$Cells", "self", "I", false)
def zty0 : Nat → FieldType := fun k => match k with
  | 0 => .array .int
  | 1 => .int
  | 2 => .array .int
  | 3 => .int
  | _ => .int
theorem znm0 : ∀ a, a < 5 → ∀ b, b < 5 → a ≠ b → (zT0 a).2.1 ≠ (zT0 b).2.1 := by decide +kernel
theorem zty0_ok : ∀ k, k < 5 → parseFieldDescriptor (zT0 k).2.2.1 = some (zty0 k) := by decide +kernel
theorem zin0 : ∀ w ∈ u_ws zR0 zT0 5, w ∈ lw_tbl := by decide +kernel
def zR1 : String := "SixWalls$Comb"
def zT1 : u_T := fun k => match k with
  | 0 => ("SixWalls$Comb", "low", "[I", true)
  | 1 => ("SixWalls$Comb", "high", "[I", true)
  | 2 => ("SixWalls$Comb", "sides", "[I", true)
  | 3 => ("SixWalls$Comb", "wallAt", "[I", true)
  | 4 => ("SixWalls$Comb", "nextAt", "[I", true)
  | 5 => ("SixWalls$Comb", "lived", "[I", true)
  | 6 => ("SixWalls$Comb", "fire", "[I", true)
  | 7 => ("SixWalls$Comb", "warm", "[I", true)
  | 8 => ("SixWalls$Comb", "want", "[I", true)
  | 9 => ("SixWalls$Comb", "thick", "[I", true)
  | 10 => ("SixWalls$Comb", "door", "[I", true)
  | 11 => ("SixWalls$Comb", "colour", "[I", true)
  | 12 => ("SixWalls$Comb", "frost", "I", false)
  | _ => ("SixWalls$Comb", "bear", "I", false)
def zty1 : Nat → FieldType := fun k => match k with
  | 0 => .array .int
  | 1 => .array .int
  | 2 => .array .int
  | 3 => .array .int
  | 4 => .array .int
  | 5 => .array .int
  | 6 => .array .int
  | 7 => .array .int
  | 8 => .array .int
  | 9 => .array .int
  | 10 => .array .int
  | 11 => .array .int
  | 12 => .int
  | _ => .int
theorem znm1 : ∀ a, a < 14 → ∀ b, b < 14 → a ≠ b → (zT1 a).2.1 ≠ (zT1 b).2.1 := by decide +kernel
theorem zty1_ok : ∀ k, k < 14 → parseFieldDescriptor (zT1 k).2.2.1 = some (zty1 k) := by decide +kernel
theorem zin1 : ∀ w ∈ u_ws zR1 zT1 14, w ∈ lw_tbl := by decide +kernel
def zR2 : String := "SixWalls$Families"
def zT2 : u_T := fun k => match k with
  | 0 => ("SixWalls$Families", "comb", "LSixWalls$Comb;", true)
  | 1 => ("SixWalls$Families", "imageWarm", "[I", true)
  | 2 => ("SixWalls$Families", "imageLived", "[I", true)
  | _ => ("SixWalls$Families", "imaged", "Z", false)
def zty2 : Nat → FieldType := fun k => match k with
  | 0 => .object "SixWalls$Comb"
  | 1 => .array .int
  | 2 => .array .int
  | _ => .boolean
theorem znm2 : ∀ a, a < 4 → ∀ b, b < 4 → a ≠ b → (zT2 a).2.1 ≠ (zT2 b).2.1 := by decide +kernel
theorem zty2_ok : ∀ k, k < 4 → parseFieldDescriptor (zT2 k).2.2.1 = some (zty2 k) := by decide +kernel
theorem zin2 : ∀ w ∈ u_ws zR2 zT2 4, w ∈ lw_tbl := by decide +kernel
def zR3 : String := "SixWalls$History"
def zT3 : u_T := fun k => match k with
  | 0 => ("SixWalls$History", "comb", "LSixWalls$Comb;", true)
  | 1 => ("SixWalls$History", "number", "[I", true)
  | 2 => ("SixWalls$History", "what", "[I", true)
  | 3 => ("SixWalls$History", "before", "[I", true)
  | 4 => ("SixWalls$History", "after", "[I", true)
  | 5 => ("SixWalls$History", "standing", "I", false)
  | _ => ("SixWalls$History", "kept", "I", false)
def zty3 : Nat → FieldType := fun k => match k with
  | 0 => .object "SixWalls$Comb"
  | 1 => .array .int
  | 2 => .array .int
  | 3 => .array .int
  | 4 => .array .int
  | 5 => .int
  | _ => .int
theorem znm3 : ∀ a, a < 7 → ∀ b, b < 7 → a ≠ b → (zT3 a).2.1 ≠ (zT3 b).2.1 := by decide +kernel
theorem zty3_ok : ∀ k, k < 7 → parseFieldDescriptor (zT3 k).2.2.1 = some (zty3 k) := by decide +kernel
theorem zin3 : ∀ w ∈ u_ws zR3 zT3 7, w ∈ lw_tbl := by decide +kernel
def zR4 : String := "SixWalls$LawText"
def zT4 : u_T := fun k => match k with
  | 0 => ("SixWalls$LawText", "tape", "[I", true)
  | 1 => ("SixWalls$LawText", "fed", "I", false)
  | 2 => ("SixWalls$LawText", "at", "I", false)
  | 3 => ("SixWalls$LawText", "wrong", "Z", false)
  | 4 => ("SixWalls$LawText", "signs", "[I", false)
  | 5 => ("SixWalls$LawText", "numbers", "[I", false)
  | 6 => ("SixWalls$LawText", "size", "I", false)
  | 7 => ("SixWalls$LawText", "newSigns", "[I", false)
  | 8 => ("SixWalls$LawText", "newNumbers", "[I", false)
  | 9 => ("SixWalls$LawText", "newSize", "I", false)
  | _ => ("SixWalls$LawText", "stack", "[I", true)
def zty4 : Nat → FieldType := fun k => match k with
  | 0 => .array .int
  | 1 => .int
  | 2 => .int
  | 3 => .boolean
  | 4 => .array .int
  | 5 => .array .int
  | 6 => .int
  | 7 => .array .int
  | 8 => .array .int
  | 9 => .int
  | _ => .array .int
theorem znm4 : ∀ a, a < 11 → ∀ b, b < 11 → a ≠ b → (zT4 a).2.1 ≠ (zT4 b).2.1 := by decide +kernel
theorem zty4_ok : ∀ k, k < 11 → parseFieldDescriptor (zT4 k).2.2.1 = some (zty4 k) := by decide +kernel
theorem zin4 : ∀ w ∈ u_ws zR4 zT4 11, w ∈ lw_tbl := by decide +kernel
def zR5 : String := "SixWalls$Masonry"
def zT5 : u_T := fun k => match k with
  | 0 => ("SixWalls$Masonry", "comb", "LSixWalls$Comb;", true)
  | 1 => ("SixWalls$Masonry", "thick", "[I", true)
  | 2 => ("SixWalls$Masonry", "load", "[I", true)
  | _ => ("SixWalls$Masonry", "paints", "[I", true)
def zty5 : Nat → FieldType := fun k => match k with
  | 0 => .object "SixWalls$Comb"
  | 1 => .array .int
  | 2 => .array .int
  | _ => .array .int
theorem znm5 : ∀ a, a < 4 → ∀ b, b < 4 → a ≠ b → (zT5 a).2.1 ≠ (zT5 b).2.1 := by decide +kernel
theorem zty5_ok : ∀ k, k < 4 → parseFieldDescriptor (zT5 k).2.2.1 = some (zty5 k) := by decide +kernel
theorem zin5 : ∀ w ∈ u_ws zR5 zT5 4, w ∈ lw_tbl := by decide +kernel
def zR6 : String := "SixWalls$Shelves"
def zT6 : u_T := fun k => match k with
  | 0 => ("SixWalls$Shelves", "held", "[I", true)
  | 1 => ("SixWalls$Shelves", "cell", "[I", true)
  | 2 => ("SixWalls$Shelves", "size", "[I", true)
  | _ => ("SixWalls$Shelves", "rows", "[[J", true)
def zty6 : Nat → FieldType := fun k => match k with
  | 0 => .array .int
  | 1 => .array .int
  | 2 => .array .int
  | _ => .array (.array .long)
theorem znm6 : ∀ a, a < 4 → ∀ b, b < 4 → a ≠ b → (zT6 a).2.1 ≠ (zT6 b).2.1 := by decide +kernel
theorem zty6_ok : ∀ k, k < 4 → parseFieldDescriptor (zT6 k).2.2.1 = some (zty6 k) := by decide +kernel
theorem zin6 : ∀ w ∈ u_ws zR6 zT6 4, w ∈ lw_tbl := by decide +kernel
def zR7 : String := "SixWalls$Ways"
def zT7 : u_T := fun k => match k with
  | 0 => ("SixWalls$Ways", "comb", "LSixWalls$Comb;", true)
  | 1 => ("SixWalls$Ways", "company", "[I", true)
  | _ => ("SixWalls$Ways", "loss", "[I", true)
def zty7 : Nat → FieldType := fun k => match k with
  | 0 => .object "SixWalls$Comb"
  | 1 => .array .int
  | _ => .array .int
theorem znm7 : ∀ a, a < 3 → ∀ b, b < 3 → a ≠ b → (zT7 a).2.1 ≠ (zT7 b).2.1 := by decide +kernel
theorem zty7_ok : ∀ k, k < 3 → parseFieldDescriptor (zT7 k).2.2.1 = some (zty7 k) := by decide +kernel
theorem zin7 : ∀ w ∈ u_ws zR7 zT7 3, w ∈ lw_tbl := by decide +kernel
def zR8 : String := "SixWalls$Winter"
def zT8 : u_T := fun k => match k with
  | 0 => ("SixWalls$Winter", "comb", "LSixWalls$Comb;", true)
  | 1 => ("SixWalls$Winter", "text", "LSixWalls$LawText;", true)
  | 2 => ("SixWalls$Winter", "thought", "[I", true)
  | 3 => ("SixWalls$Winter", "hearth", "[I", true)
  | 4 => ("SixWalls$Winter", "went", "[I", true)
  | 5 => ("SixWalls$Winter", "gain", "[I", true)
  | 6 => ("SixWalls$Winter", "latest", "[I", true)
  | _ => ("SixWalls$Winter", "passed", "I", false)
def zty8 : Nat → FieldType := fun k => match k with
  | 0 => .object "SixWalls$Comb"
  | 1 => .object "SixWalls$LawText"
  | 2 => .array .int
  | 3 => .array .int
  | 4 => .array .int
  | 5 => .array .int
  | 6 => .array .int
  | _ => .int
theorem znm8 : ∀ a, a < 8 → ∀ b, b < 8 → a ≠ b → (zT8 a).2.1 ≠ (zT8 b).2.1 := by decide +kernel
theorem zty8_ok : ∀ k, k < 8 → parseFieldDescriptor (zT8 k).2.2.1 = some (zty8 k) := by decide +kernel
theorem zin8 : ∀ w ∈ u_ws zR8 zT8 8, w ∈ lw_tbl := by decide +kernel
def zR9 : String := "SixWalls"
def zT9 : u_T := fun k => match k with
  | 0 => ("SixWalls", "comb", "LSixWalls$Comb;", true)
  | 1 => ("SixWalls", "text", "LSixWalls$LawText;", true)
  | 2 => ("SixWalls", "winter", "LSixWalls$Winter;", true)
  | 3 => ("SixWalls", "masonry", "LSixWalls$Masonry;", true)
  | 4 => ("SixWalls", "ways", "LSixWalls$Ways;", true)
  | 5 => ("SixWalls", "families", "LSixWalls$Families;", true)
  | 6 => ("SixWalls", "history", "LSixWalls$History;", true)
  | 7 => ("SixWalls", "cells", "LSixWalls$Cells;", true)
  | _ => ("SixWalls", "shelves", "LSixWalls$Shelves;", true)
def zty9 : Nat → FieldType := fun k => match k with
  | 0 => .object "SixWalls$Comb"
  | 1 => .object "SixWalls$LawText"
  | 2 => .object "SixWalls$Winter"
  | 3 => .object "SixWalls$Masonry"
  | 4 => .object "SixWalls$Ways"
  | 5 => .object "SixWalls$Families"
  | 6 => .object "SixWalls$History"
  | 7 => .object "SixWalls$Cells"
  | _ => .object "SixWalls$Shelves"
theorem znm9 : ∀ a, a < 9 → ∀ b, b < 9 → a ≠ b → (zT9 a).2.1 ≠ (zT9 b).2.1 := by decide +kernel
theorem zty9_ok : ∀ k, k < 9 → parseFieldDescriptor (zT9 k).2.2.1 = some (zty9 k) := by decide +kernel
theorem zin9 : ∀ w ∈ u_ws zR9 zT9 9, w ∈ lw_tbl := by decide +kernel
def zR10 : String := "SixWallsModel"
def zT10 : u_T := fun k => match k with
  | 0 => ("SixWallsModel", "may", "[I", true)
  | 1 => ("SixWallsModel", "changeAt", "[I", true)
  | 2 => ("SixWallsModel", "changeWas", "[I", true)
  | 3 => ("SixWallsModel", "changeIs", "[I", true)
  | 4 => ("SixWallsModel", "keptMany", "I", false)
  | 5 => ("SixWallsModel", "done", "I", false)
  | 6 => ("SixWallsModel", "walls", "I", false)
  | 7 => ("SixWallsModel", "one", "[I", true)
  | 8 => ("SixWallsModel", "other", "[I", true)
  | 9 => ("SixWallsModel", "warmth", "[I", true)
  | 10 => ("SixWallsModel", "lives", "[Z", true)
  | 11 => ("SixWallsModel", "tape", "[I", true)
  | 12 => ("SixWallsModel", "tapeMany", "I", false)
  | 13 => ("SixWallsModel", "text", "[I", true)
  | 14 => ("SixWallsModel", "textMany", "I", false)
  | 15 => ("SixWallsModel", "base", "I", false)
  | 16 => ("SixWallsModel", "at", "I", false)
  | 17 => ("SixWallsModel", "ends", "I", false)
  | 18 => ("SixWallsModel", "fault", "I", false)
  | 19 => ("SixWallsModel", "opened1", "I", false)
  | 20 => ("SixWallsModel", "names", "[I", true)
  | 21 => ("SixWallsModel", "then", "[I", true)
  | 22 => ("SixWallsModel", "next", "[I", true)
  | 23 => ("SixWallsModel", "flows", "[I", true)
  | 24 => ("SixWallsModel", "gone", "[I", true)
  | 25 => ("SixWallsModel", "daysDone", "I", false)
  | 26 => ("SixWallsModel", "ledFlow", "[I", true)
  | 27 => ("SixWallsModel", "thick", "[I", true)
  | 28 => ("SixWallsModel", "far", "[I", true)
  | 29 => ("SixWallsModel", "openBest", "J", false)
  | 30 => ("SixWallsModel", "colour", "[I", true)
  | 31 => ("SixWallsModel", "isKept", "Z", false)
  | 32 => ("SixWallsModel", "imageWarmth", "[I", true)
  | 33 => ("SixWallsModel", "imageLives", "[Z", true)
  | 34 => ("SixWallsModel", "bodies", "I", false)
  | 35 => ("SixWallsModel", "bodyKind", "[I", true)
  | 36 => ("SixWallsModel", "trace", "[I", true)
  | 37 => ("SixWallsModel", "ran", "I", false)
  | 38 => ("SixWallsModel", "ownKind", "I", false)
  | 39 => ("SixWallsModel", "ownNumber", "I", false)
  | 40 => ("SixWallsModel", "shelf", "[I", true)
  | 41 => ("SixWallsModel", "many", "[I", true)
  | 42 => ("SixWallsModel", "items", "[J", true)
  | _ => ("SixWallsModel", "carried", "[J", true)
def zty10 : Nat → FieldType := fun k => match k with
  | 0 => .array .int
  | 1 => .array .int
  | 2 => .array .int
  | 3 => .array .int
  | 4 => .int
  | 5 => .int
  | 6 => .int
  | 7 => .array .int
  | 8 => .array .int
  | 9 => .array .int
  | 10 => .array .boolean
  | 11 => .array .int
  | 12 => .int
  | 13 => .array .int
  | 14 => .int
  | 15 => .int
  | 16 => .int
  | 17 => .int
  | 18 => .int
  | 19 => .int
  | 20 => .array .int
  | 21 => .array .int
  | 22 => .array .int
  | 23 => .array .int
  | 24 => .array .int
  | 25 => .int
  | 26 => .array .int
  | 27 => .array .int
  | 28 => .array .int
  | 29 => .long
  | 30 => .array .int
  | 31 => .boolean
  | 32 => .array .int
  | 33 => .array .boolean
  | 34 => .int
  | 35 => .array .int
  | 36 => .array .int
  | 37 => .int
  | 38 => .int
  | 39 => .int
  | 40 => .array .int
  | 41 => .array .int
  | 42 => .array .long
  | _ => .array .long
theorem znm10 : ∀ a, a < 44 → ∀ b, b < 44 → a ≠ b → (zT10 a).2.1 ≠ (zT10 b).2.1 := by decide +kernel
theorem zty10_ok : ∀ k, k < 44 → parseFieldDescriptor (zT10 k).2.2.1 = some (zty10 k) := by decide +kernel
theorem zin10 : ∀ w ∈ u_ws zR10 zT10 44, w ∈ lw_tbl := by decide +kernel
def zcl : List vw_C := [(zR0, zT0, 5), (zR1, zT1, 14), (zR2, zT2, 4), (zR3, zT3, 7), (zR4, zT4, 11), (zR5, zT5, 4), (zR6, zT6, 4), (zR7, zT7, 3), (zR8, zT8, 8), (zR9, zT9, 9), (zR10, zT10, 44)]
def zty : Nat → Nat → FieldType := fun c => match c with
  | 0 => zty0
  | 1 => zty1
  | 2 => zty2
  | 3 => zty3
  | 4 => zty4
  | 5 => zty5
  | 6 => zty6
  | 7 => zty7
  | 8 => zty8
  | 9 => zty9
  | _ => zty10
theorem zcl_ok : ∀ (ci : Nat) (q : vw_C), zcl[ci]? = some q → (∀ w ∈ u_ws q.1 q.2.1 q.2.2, w ∈ lw_tbl) ∧ (∀ k, k < q.2.2 → parseFieldDescriptor (q.2.1 k).2.2.1 = some (zty ci k)) ∧ (∀ a, a < q.2.2 → ∀ b, b < q.2.2 → a ≠ b → (q.2.1 a).2.1 ≠ (q.2.1 b).2.1) := by
  intro ci q h
  match ci, h with
  | 0, h => cases h; exact ⟨zin0, zty0_ok, znm0⟩
  | 1, h => cases h; exact ⟨zin1, zty1_ok, znm1⟩
  | 2, h => cases h; exact ⟨zin2, zty2_ok, znm2⟩
  | 3, h => cases h; exact ⟨zin3, zty3_ok, znm3⟩
  | 4, h => cases h; exact ⟨zin4, zty4_ok, znm4⟩
  | 5, h => cases h; exact ⟨zin5, zty5_ok, znm5⟩
  | 6, h => cases h; exact ⟨zin6, zty6_ok, znm6⟩
  | 7, h => cases h; exact ⟨zin7, zty7_ok, znm7⟩
  | 8, h => cases h; exact ⟨zin8, zty8_ok, znm8⟩
  | 9, h => cases h; exact ⟨zin9, zty9_ok, znm9⟩
  | 10, h => cases h; exact ⟨zin10, zty10_ok, znm10⟩
  | k + 11, h => simp [zcl] at h
theorem zgood : GoodIn lw_tbl (lw_tbl.filter goodWord) := by
  intro w hw
  obtain ⟨h1, h2⟩ := List.mem_filter.mp hw
  exact ⟨h1, good_of_word h2⟩
